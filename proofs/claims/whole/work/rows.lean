section
-- ===== PART A: goes FIRST, ahead of the names: the tables' words, and 'selects' of the private methods out of them =====
/-- a private method of a class that the tables say can be made, by its rows of tables_1 -/
def lw_okq (q : MethodName × Nat) : Prop := (q.1.cls ≠ "java/lang/invoke/MethodHandle" ∧ q.1.cls ≠ "java/lang/invoke/VarHandle") ∧ Cond.instantiable q.1.cls q.2 ∈ tables_1 ∧ Cond.privateMethod q.1 ∈ tables_1 ∧ Cond.instanceMethod q.1 ∈ tables_1
theorem lw_p0 : lw_okq (⟨"FillForecast", "binOf", "(I)LFillForecast$Bin;"⟩, 8) := ⟨⟨by decide +kernel, by decide +kernel⟩, List.mem_of_getElem? (i := 8) (by decide +kernel), List.mem_of_getElem? (i := 123) (by decide +kernel), List.mem_of_getElem? (i := 124) (by decide +kernel)⟩
theorem lw_p1 : lw_okq (⟨"FillForecast$Bin", "indexFor", "(I)I"⟩, 8) := ⟨⟨by decide +kernel, by decide +kernel⟩, List.mem_of_getElem? (i := 88) (by decide +kernel), List.mem_of_getElem? (i := 137) (by decide +kernel), List.mem_of_getElem? (i := 138) (by decide +kernel)⟩
theorem lw_p2 : lw_okq (⟨"FillForecast$Bin", "isTaken", "(II)Z"⟩, 8) := ⟨⟨by decide +kernel, by decide +kernel⟩, List.mem_of_getElem? (i := 88) (by decide +kernel), List.mem_of_getElem? (i := 141) (by decide +kernel), List.mem_of_getElem? (i := 142) (by decide +kernel)⟩
theorem lw_p3 : lw_okq (⟨"FillForecast$Bin", "open", "(II)V"⟩, 8) := ⟨⟨by decide +kernel, by decide +kernel⟩, List.mem_of_getElem? (i := 88) (by decide +kernel), List.mem_of_getElem? (i := 145) (by decide +kernel), List.mem_of_getElem? (i := 146) (by decide +kernel)⟩
theorem lw_p4 : lw_okq (⟨"FillForecast$Bin", "judge", "()V"⟩, 8) := ⟨⟨by decide +kernel, by decide +kernel⟩, List.mem_of_getElem? (i := 88) (by decide +kernel), List.mem_of_getElem? (i := 149) (by decide +kernel), List.mem_of_getElem? (i := 150) (by decide +kernel)⟩
theorem lw_p5 : lw_okq (⟨"FillForecast$Bin", "isRow", "(I)Z"⟩, 8) := ⟨⟨by decide +kernel, by decide +kernel⟩, List.mem_of_getElem? (i := 88) (by decide +kernel), List.mem_of_getElem? (i := 153) (by decide +kernel), List.mem_of_getElem? (i := 154) (by decide +kernel)⟩
theorem lw_p6 : lw_okq (⟨"FillForecast$Bin", "gainFrom", "(II)I"⟩, 8) := ⟨⟨by decide +kernel, by decide +kernel⟩, List.mem_of_getElem? (i := 88) (by decide +kernel), List.mem_of_getElem? (i := 161) (by decide +kernel), List.mem_of_getElem? (i := 162) (by decide +kernel)⟩
theorem lw_p7 : lw_okq (⟨"FillForecast", "rateOn", "(LFillForecast$Bin;I)I"⟩, 8) := ⟨⟨by decide +kernel, by decide +kernel⟩, List.mem_of_getElem? (i := 8) (by decide +kernel), List.mem_of_getElem? (i := 218) (by decide +kernel), List.mem_of_getElem? (i := 219) (by decide +kernel)⟩
theorem lw_p8 : lw_okq (⟨"FillForecast", "streetRateOn", "(II)I"⟩, 8) := ⟨⟨by decide +kernel, by decide +kernel⟩, List.mem_of_getElem? (i := 8) (by decide +kernel), List.mem_of_getElem? (i := 226) (by decide +kernel), List.mem_of_getElem? (i := 227) (by decide +kernel)⟩
theorem lw_p9 : lw_okq (⟨"FillForecast", "lookAhead", "(LFillForecast$Bin;)V"⟩, 8) := ⟨⟨by decide +kernel, by decide +kernel⟩, List.mem_of_getElem? (i := 8) (by decide +kernel), List.mem_of_getElem? (i := 240) (by decide +kernel), List.mem_of_getElem? (i := 241) (by decide +kernel)⟩
theorem lw_p10 : lw_okq (⟨"FillForecast$Outlook", "shareBy", "(LFillForecast$Bin;II)J"⟩, 2) := ⟨⟨by decide +kernel, by decide +kernel⟩, List.mem_of_getElem? (i := 42) (by decide +kernel), List.mem_of_getElem? (i := 262) (by decide +kernel), List.mem_of_getElem? (i := 263) (by decide +kernel)⟩
theorem lw_p11 : lw_okq (⟨"FillForecast$Outlook", "gainUpTo", "(I)J"⟩, 2) := ⟨⟨by decide +kernel, by decide +kernel⟩, List.mem_of_getElem? (i := 42) (by decide +kernel), List.mem_of_getElem? (i := 269) (by decide +kernel), List.mem_of_getElem? (i := 270) (by decide +kernel)⟩
theorem lw_p12 : lw_okq (⟨"FillForecast", "centsOn", "(LFillForecast$Bin;I)J"⟩, 8) := ⟨⟨by decide +kernel, by decide +kernel⟩, List.mem_of_getElem? (i := 8) (by decide +kernel), List.mem_of_getElem? (i := 307) (by decide +kernel), List.mem_of_getElem? (i := 308) (by decide +kernel)⟩
theorem lw_p13 : lw_okq (⟨"FillForecastModel", "isBin", "(I)Z"⟩, 23) := ⟨⟨by decide +kernel, by decide +kernel⟩, List.mem_of_getElem? (i := 340) (by decide +kernel), List.mem_of_getElem? (i := 428) (by decide +kernel), List.mem_of_getElem? (i := 429) (by decide +kernel)⟩
theorem lw_p14 : lw_okq (⟨"FillForecastModel", "weightOf", "(I)I"⟩, 23) := ⟨⟨by decide +kernel, by decide +kernel⟩, List.mem_of_getElem? (i := 340) (by decide +kernel), List.mem_of_getElem? (i := 463) (by decide +kernel), List.mem_of_getElem? (i := 464) (by decide +kernel)⟩
theorem lw_p15 : lw_okq (⟨"FillForecastModel", "meanOf", "(II)I"⟩, 23) := ⟨⟨by decide +kernel, by decide +kernel⟩, List.mem_of_getElem? (i := 340) (by decide +kernel), List.mem_of_getElem? (i := 471) (by decide +kernel), List.mem_of_getElem? (i := 472) (by decide +kernel)⟩
def lw_privs_1 : List (MethodName × Nat) := [(⟨"FillForecast", "binOf", "(I)LFillForecast$Bin;"⟩, 8), (⟨"FillForecast$Bin", "indexFor", "(I)I"⟩, 8), (⟨"FillForecast$Bin", "isTaken", "(II)Z"⟩, 8), (⟨"FillForecast$Bin", "open", "(II)V"⟩, 8), (⟨"FillForecast$Bin", "judge", "()V"⟩, 8), (⟨"FillForecast$Bin", "isRow", "(I)Z"⟩, 8), (⟨"FillForecast$Bin", "gainFrom", "(II)I"⟩, 8), (⟨"FillForecast", "rateOn", "(LFillForecast$Bin;I)I"⟩, 8), (⟨"FillForecast", "streetRateOn", "(II)I"⟩, 8), (⟨"FillForecast", "lookAhead", "(LFillForecast$Bin;)V"⟩, 8), (⟨"FillForecast$Outlook", "shareBy", "(LFillForecast$Bin;II)J"⟩, 2), (⟨"FillForecast$Outlook", "gainUpTo", "(I)J"⟩, 2), (⟨"FillForecast", "centsOn", "(LFillForecast$Bin;I)J"⟩, 8), (⟨"FillForecastModel", "isBin", "(I)Z"⟩, 23), (⟨"FillForecastModel", "weightOf", "(I)I"⟩, 23), (⟨"FillForecastModel", "meanOf", "(II)I"⟩, 23)]
theorem lw_r1 : ∀ q ∈ lw_privs_1, lw_okq q := List.forall_mem_cons.mpr ⟨lw_p0, List.forall_mem_cons.mpr ⟨lw_p1, List.forall_mem_cons.mpr ⟨lw_p2, List.forall_mem_cons.mpr ⟨lw_p3, List.forall_mem_cons.mpr ⟨lw_p4, List.forall_mem_cons.mpr ⟨lw_p5, List.forall_mem_cons.mpr ⟨lw_p6, List.forall_mem_cons.mpr ⟨lw_p7, List.forall_mem_cons.mpr ⟨lw_p8, List.forall_mem_cons.mpr ⟨lw_p9, List.forall_mem_cons.mpr ⟨lw_p10, List.forall_mem_cons.mpr ⟨lw_p11, List.forall_mem_cons.mpr ⟨lw_p12, List.forall_mem_cons.mpr ⟨lw_p13, List.forall_mem_cons.mpr ⟨lw_p14, List.forall_mem_cons.mpr ⟨lw_p15, fun _ h => absurd h List.not_mem_nil⟩⟩⟩⟩⟩⟩⟩⟩⟩⟩⟩⟩⟩⟩⟩⟩
theorem lw_p16 : lw_okq (⟨"FillForecastModel", "layOut", "(I)V"⟩, 23) := ⟨⟨by decide +kernel, by decide +kernel⟩, List.mem_of_getElem? (i := 340) (by decide +kernel), List.mem_of_getElem? (i := 475) (by decide +kernel), List.mem_of_getElem? (i := 476) (by decide +kernel)⟩
theorem lw_p17 : lw_okq (⟨"FillForecastModel", "place", "(IIZ)V"⟩, 23) := ⟨⟨by decide +kernel, by decide +kernel⟩, List.mem_of_getElem? (i := 340) (by decide +kernel), List.mem_of_getElem? (i := 479) (by decide +kernel), List.mem_of_getElem? (i := 480) (by decide +kernel)⟩
theorem lw_p18 : lw_okq (⟨"FillForecastModel", "weekdayOf", "(I)I"⟩, 23) := ⟨⟨by decide +kernel, by decide +kernel⟩, List.mem_of_getElem? (i := 340) (by decide +kernel), List.mem_of_getElem? (i := 483) (by decide +kernel), List.mem_of_getElem? (i := 484) (by decide +kernel)⟩
theorem lw_p19 : lw_okq (⟨"FillForecastModel", "rateOf", "(II)I"⟩, 23) := ⟨⟨by decide +kernel, by decide +kernel⟩, List.mem_of_getElem? (i := 340) (by decide +kernel), List.mem_of_getElem? (i := 491) (by decide +kernel), List.mem_of_getElem? (i := 492) (by decide +kernel)⟩
theorem lw_p20 : lw_okq (⟨"FillForecastModel", "prepare", "(I)V"⟩, 23) := ⟨⟨by decide +kernel, by decide +kernel⟩, List.mem_of_getElem? (i := 340) (by decide +kernel), List.mem_of_getElem? (i := 500) (by decide +kernel), List.mem_of_getElem? (i := 501) (by decide +kernel)⟩
theorem lw_p21 : lw_okq (⟨"FillForecastModel", "expectedBy", "(II)J"⟩, 23) := ⟨⟨by decide +kernel, by decide +kernel⟩, List.mem_of_getElem? (i := 340) (by decide +kernel), List.mem_of_getElem? (i := 504) (by decide +kernel), List.mem_of_getElem? (i := 505) (by decide +kernel)⟩
theorem lw_p22 : lw_okq (⟨"FillForecastModel", "isSilent", "(II)Z"⟩, 23) := ⟨⟨by decide +kernel, by decide +kernel⟩, List.mem_of_getElem? (i := 340) (by decide +kernel), List.mem_of_getElem? (i := 517) (by decide +kernel), List.mem_of_getElem? (i := 518) (by decide +kernel)⟩
theorem lw_p23 : lw_okq (⟨"FillForecastModel", "costOn", "(I)J"⟩, 23) := ⟨⟨by decide +kernel, by decide +kernel⟩, List.mem_of_getElem? (i := 340) (by decide +kernel), List.mem_of_getElem? (i := 531) (by decide +kernel), List.mem_of_getElem? (i := 532) (by decide +kernel)⟩
def lw_privs_2 : List (MethodName × Nat) := [(⟨"FillForecastModel", "layOut", "(I)V"⟩, 23), (⟨"FillForecastModel", "place", "(IIZ)V"⟩, 23), (⟨"FillForecastModel", "weekdayOf", "(I)I"⟩, 23), (⟨"FillForecastModel", "rateOf", "(II)I"⟩, 23), (⟨"FillForecastModel", "prepare", "(I)V"⟩, 23), (⟨"FillForecastModel", "expectedBy", "(II)J"⟩, 23), (⟨"FillForecastModel", "isSilent", "(II)Z"⟩, 23), (⟨"FillForecastModel", "costOn", "(I)J"⟩, 23)]
theorem lw_r2 : ∀ q ∈ lw_privs_2, lw_okq q := List.forall_mem_cons.mpr ⟨lw_p16, List.forall_mem_cons.mpr ⟨lw_p17, List.forall_mem_cons.mpr ⟨lw_p18, List.forall_mem_cons.mpr ⟨lw_p19, List.forall_mem_cons.mpr ⟨lw_p20, List.forall_mem_cons.mpr ⟨lw_p21, List.forall_mem_cons.mpr ⟨lw_p22, List.forall_mem_cons.mpr ⟨lw_p23, fun _ h => absurd h List.not_mem_nil⟩⟩⟩⟩⟩⟩⟩⟩
def lw_privs : List (MethodName × Nat) := lw_privs_1 ++ (lw_privs_2)
def lw_tbl : List Cond := k2_sels lw_privs ++ tables_1
theorem lw_privs_ok : ∀ q ∈ lw_privs, lw_okq q := by
  show ∀ q ∈ lw_privs_1 ++ (lw_privs_2), lw_okq q
  exact List.forall_mem_append.mpr ⟨lw_r1, lw_r2⟩
end
section
/-! names, field tables, words: laid by a program out of the listing and the tables -/
abbrev RX0 : String := "FillForecast$Bin"
def TX0 : u_T := fun k => match k with
  | 0 => ("FillForecast$Bin", "street", "I", true)
  | 1 => ("FillForecast$Bin", "room", "I", true)
  | 2 => ("FillForecast$Bin", "places", "[I", true)
  | 3 => ("FillForecast$Bin", "amounts", "[I", true)
  | 4 => ("FillForecast$Bin", "wrongs", "[Z", true)
  | 5 => ("FillForecast$Bin", "gains", "[I", true)
  | 6 => ("FillForecast$Bin", "pointCount", "I", false)
  | _ => ("FillForecast$Bin", "rowCount", "I", false)
def tyX0 : Nat → FieldType := fun k => match k with
  | 0 => .int
  | 1 => .int
  | 2 => .array .int
  | 3 => .array .int
  | 4 => .array .boolean
  | 5 => .array .int
  | 6 => .int
  | _ => .int
abbrev wsX00 : List Cond := u_ws RX0 TX0 8
theorem nmX0 : ∀ a, a < 8 → ∀ b, b < 8 → a ≠ b → (TX0 a).2.1 ≠ (TX0 b).2.1 := by decide +kernel
theorem tyX0_ok : ∀ k, k < 8 → parseFieldDescriptor (TX0 k).2.2.1 = some (tyX0 k) := by decide +kernel
abbrev RX1 : String := "FillForecast$Calendar"
def TX1 : u_T := fun k => match k with
  | _ => ("FillForecast$Calendar", "holidays", "[Z", true)
def tyX1 : Nat → FieldType := fun k => match k with
  | _ => .array .boolean
abbrev wsX10 : List Cond := u_ws RX1 TX1 1
theorem nmX1 : ∀ a, a < 1 → ∀ b, b < 1 → a ≠ b → (TX1 a).2.1 ≠ (TX1 b).2.1 := by decide +kernel
theorem tyX1_ok : ∀ k, k < 1 → parseFieldDescriptor (TX1 k).2.2.1 = some (tyX1 k) := by decide +kernel
abbrev RX2 : String := "FillForecast$Fading"
def TX2 : u_T := fun k => match k with
  | _ => ("FillForecast$Fading", "weights", "[I", true)
def tyX2 : Nat → FieldType := fun k => match k with
  | _ => .array .int
abbrev wsX20 : List Cond := u_ws RX2 TX2 1
theorem nmX2 : ∀ a, a < 1 → ∀ b, b < 1 → a ≠ b → (TX2 a).2.1 ≠ (TX2 b).2.1 := by decide +kernel
theorem tyX2_ok : ∀ k, k < 1 → parseFieldDescriptor (TX2 k).2.2.1 = some (tyX2 k) := by decide +kernel
abbrev RX3 : String := "FillForecast$Outlook"
def TX3 : u_T := fun k => match k with
  | 0 => ("FillForecast$Outlook", "rates", "[I", true)
  | _ => ("FillForecast$Outlook", "sums", "[I", true)
def tyX3 : Nat → FieldType := fun k => match k with
  | 0 => .array .int
  | _ => .array .int
abbrev wsX30 : List Cond := u_ws RX3 TX3 2
theorem nmX3 : ∀ a, a < 2 → ∀ b, b < 2 → a ≠ b → (TX3 a).2.1 ≠ (TX3 b).2.1 := by decide +kernel
theorem tyX3_ok : ∀ k, k < 2 → parseFieldDescriptor (TX3 k).2.2.1 = some (tyX3 k) := by decide +kernel
abbrev RX4 : String := "FillForecast"
def TX4 : u_T := fun k => match k with
  | 0 => ("FillForecast", "calendar", "LFillForecast$Calendar;", true)
  | 1 => ("FillForecast", "fading", "LFillForecast$Fading;", true)
  | 2 => ("FillForecast", "outlook", "LFillForecast$Outlook;", true)
  | 3 => ("FillForecast", "bins", "[LFillForecast$Bin;", true)
  | 4 => ("FillForecast", "binCount", "I", false)
  | 5 => ("FillForecast", "silence", "I", false)
  | 6 => ("FillForecast", "earlyCents", "I", false)
  | _ => ("FillForecast", "lateCents", "I", false)
def tyX4 : Nat → FieldType := fun k => match k with
  | 0 => .object "FillForecast$Calendar"
  | 1 => .object "FillForecast$Fading"
  | 2 => .object "FillForecast$Outlook"
  | 3 => .array (.object "FillForecast$Bin")
  | 4 => .int
  | 5 => .int
  | 6 => .int
  | _ => .int
abbrev wsX40 : List Cond := u_ws RX4 TX4 8
theorem nmX4 : ∀ a, a < 8 → ∀ b, b < 8 → a ≠ b → (TX4 a).2.1 ≠ (TX4 b).2.1 := by decide +kernel
theorem tyX4_ok : ∀ k, k < 8 → parseFieldDescriptor (TX4 k).2.2.1 = some (tyX4 k) := by decide +kernel
abbrev RX5 : String := "FillForecastModel"
def TX5 : u_T := fun k => match k with
  | 0 => ("FillForecastModel", "bins", "I", false)
  | 1 => ("FillForecastModel", "streets", "[I", true)
  | 2 => ("FillForecastModel", "rooms", "[I", true)
  | 3 => ("FillForecastModel", "rowCounts", "[I", true)
  | 4 => ("FillForecastModel", "rowHours", "[I", true)
  | 5 => ("FillForecastModel", "rowShares", "[I", true)
  | 6 => ("FillForecastModel", "emptyCounts", "[I", true)
  | 7 => ("FillForecastModel", "emptyHours", "[I", true)
  | 8 => ("FillForecastModel", "kilograms", "[I", true)
  | 9 => ("FillForecastModel", "over", "I", false)
  | 10 => ("FillForecastModel", "under", "I", false)
  | 11 => ("FillForecastModel", "isHoliday", "[Z", true)
  | 12 => ("FillForecastModel", "quiet", "I", false)
  | 13 => ("FillForecastModel", "early", "I", false)
  | 14 => ("FillForecastModel", "late", "I", false)
  | 15 => ("FillForecastModel", "points", "I", false)
  | 16 => ("FillForecastModel", "hours", "[I", true)
  | 17 => ("FillForecastModel", "shares", "[I", true)
  | 18 => ("FillForecastModel", "isEmptying", "[Z", true)
  | 19 => ("FillForecastModel", "isWrong", "[Z", true)
  | 20 => ("FillForecastModel", "gains", "[I", true)
  | 21 => ("FillForecastModel", "rates", "[I", true)
  | _ => ("FillForecastModel", "sums", "[J", true)
def tyX5 : Nat → FieldType := fun k => match k with
  | 0 => .int
  | 1 => .array .int
  | 2 => .array .int
  | 3 => .array .int
  | 4 => .array .int
  | 5 => .array .int
  | 6 => .array .int
  | 7 => .array .int
  | 8 => .array .int
  | 9 => .int
  | 10 => .int
  | 11 => .array .boolean
  | 12 => .int
  | 13 => .int
  | 14 => .int
  | 15 => .int
  | 16 => .array .int
  | 17 => .array .int
  | 18 => .array .boolean
  | 19 => .array .boolean
  | 20 => .array .int
  | 21 => .array .int
  | _ => .array .long
abbrev wsX50 : List Cond := u_ws RX5 TX5 23
theorem nmX5 : ∀ a, a < 23 → ∀ b, b < 23 → a ≠ b → (TX5 a).2.1 ≠ (TX5 b).2.1 := by decide +kernel
theorem tyX5_ok : ∀ k, k < 23 → parseFieldDescriptor (TX5 k).2.2.1 = some (tyX5 k) := by decide +kernel
abbrev RL : String := "FillForecastLaw"
abbrev cX4_init : ByteArray := prog_1_method_1_code
abbrev yX4_init : MethodName := ⟨RX4, "<init>", "()V"⟩
abbrev cX1_init : ByteArray := prog_3_method_1_code
abbrev yX1_init : MethodName := ⟨RX1, "<init>", "()V"⟩
abbrev cX2_init : ByteArray := prog_4_method_1_code
abbrev yX2_init : MethodName := ⟨RX2, "<init>", "()V"⟩
abbrev cX2_setTo : ByteArray := prog_4_method_2_code
abbrev yX2_setTo : MethodName := ⟨RX2, "setTo", "(II)V"⟩
abbrev cX3_init : ByteArray := prog_5_method_1_code
abbrev yX3_init : MethodName := ⟨RX3, "<init>", "()V"⟩
abbrev cX4_bin : ByteArray := prog_1_method_2_code
abbrev yX4_bin : MethodName := ⟨RX4, "bin", "(II)I"⟩
abbrev cX4_isWithin : ByteArray := prog_1_method_19_code
abbrev yX4_isWithin : MethodName := ⟨RX4, "isWithin", "(III)Z"⟩
abbrev cX0_init : ByteArray := prog_2_method_1_code
abbrev yX0_init : MethodName := ⟨RX0, "<init>", "(II)V"⟩
abbrev cX4_row : ByteArray := prog_1_method_3_code
abbrev yX4_row : MethodName := ⟨RX4, "row", "(III)I"⟩
abbrev cX4_binOf : ByteArray := prog_1_method_22_code
abbrev yX4_binOf : MethodName := ⟨RX4, "binOf", "(I)LFillForecast$Bin;"⟩
abbrev cX4_isHour : ByteArray := prog_1_method_20_code
abbrev yX4_isHour : MethodName := ⟨RX4, "isHour", "(I)Z"⟩
abbrev cX0_putRow : ByteArray := prog_2_method_10_code
abbrev yX0_putRow : MethodName := ⟨RX0, "putRow", "(II)I"⟩
abbrev cX0_placeOfRow : ByteArray := prog_2_method_2_code
abbrev yX0_placeOfRow : MethodName := ⟨RX0, "placeOfRow", "(I)I"⟩
abbrev cX0_indexFor : ByteArray := prog_2_method_18_code
abbrev yX0_indexFor : MethodName := ⟨RX0, "indexFor", "(I)I"⟩
abbrev cX0_isTaken : ByteArray := prog_2_method_19_code
abbrev yX0_isTaken : MethodName := ⟨RX0, "isTaken", "(II)Z"⟩
abbrev cX0_open : ByteArray := prog_2_method_20_code
abbrev yX0_open : MethodName := ⟨RX0, "open", "(II)V"⟩
abbrev cX0_judge : ByteArray := prog_2_method_21_code
abbrev yX0_judge : MethodName := ⟨RX0, "judge", "()V"⟩
abbrev cX0_isRow : ByteArray := prog_2_method_17_code
abbrev yX0_isRow : MethodName := ⟨RX0, "isRow", "(I)Z"⟩
abbrev cX0_shareAt : ByteArray := prog_2_method_9_code
abbrev yX0_shareAt : MethodName := ⟨RX0, "shareAt", "(I)I"⟩
abbrev cX0_gainFrom : ByteArray := prog_2_method_22_code
abbrev yX0_gainFrom : MethodName := ⟨RX0, "gainFrom", "(II)I"⟩
abbrev cX0_hourAt : ByteArray := prog_2_method_7_code
abbrev yX0_hourAt : MethodName := ⟨RX0, "hourAt", "(I)I"⟩
abbrev cX4_emptied : ByteArray := prog_1_method_4_code
abbrev yX4_emptied : MethodName := ⟨RX4, "emptied", "(III)I"⟩
abbrev cX0_putEmptying : ByteArray := prog_2_method_11_code
abbrev yX0_putEmptying : MethodName := ⟨RX0, "putEmptying", "(II)I"⟩
abbrev cX0_placeOfEmptying : ByteArray := prog_2_method_3_code
abbrev yX0_placeOfEmptying : MethodName := ⟨RX0, "placeOfEmptying", "(I)I"⟩
abbrev cX4_fade : ByteArray := prog_1_method_5_code
abbrev yX4_fade : MethodName := ⟨RX4, "fade", "(II)Z"⟩
abbrev cX4_holiday : ByteArray := prog_1_method_6_code
abbrev yX4_holiday : MethodName := ⟨RX4, "holiday", "(IZ)Z"⟩
abbrev cX4_isDay : ByteArray := prog_1_method_21_code
abbrev yX4_isDay : MethodName := ⟨RX4, "isDay", "(I)Z"⟩
abbrev cX1_mark : ByteArray := prog_3_method_2_code
abbrev yX1_mark : MethodName := ⟨RX1, "mark", "(IZ)V"⟩
abbrev cX4_mean : ByteArray := prog_1_method_7_code
abbrev yX4_mean : MethodName := ⟨RX4, "mean", "(II)I"⟩
abbrev cX0_meanOn : ByteArray := prog_2_method_16_code
abbrev yX0_meanOn : MethodName := ⟨RX0, "meanOn", "(ILFillForecast$Calendar;LFillForecast$Fading;)I"⟩
abbrev cX1_weekdayOf : ByteArray := prog_3_method_3_code
abbrev yX1_weekdayOf : MethodName := ⟨RX1, "weekdayOf", "(I)I"⟩
abbrev cX2_weightOf : ByteArray := prog_4_method_3_code
abbrev yX2_weightOf : MethodName := ⟨RX2, "weightOf", "(I)I"⟩
abbrev cX4_rate : ByteArray := prog_1_method_8_code
abbrev yX4_rate : MethodName := ⟨RX4, "rate", "(II)I"⟩
abbrev cX4_rateOn : ByteArray := prog_1_method_23_code
abbrev yX4_rateOn : MethodName := ⟨RX4, "rateOn", "(LFillForecast$Bin;I)I"⟩
abbrev cX0_streetNumber : ByteArray := prog_2_method_4_code
abbrev yX0_streetNumber : MethodName := ⟨RX0, "streetNumber", "()I"⟩
abbrev cX4_streetRateOn : ByteArray := prog_1_method_24_code
abbrev yX4_streetRateOn : MethodName := ⟨RX4, "streetRateOn", "(II)I"⟩
abbrev cX4_weight : ByteArray := prog_1_method_9_code
abbrev yX4_weight : MethodName := ⟨RX4, "weight", "(I)I"⟩
abbrev cX4_expected : ByteArray := prog_1_method_10_code
abbrev yX4_expected : MethodName := ⟨RX4, "expected", "(II)J"⟩
abbrev cX4_lookAhead : ByteArray := prog_1_method_25_code
abbrev yX4_lookAhead : MethodName := ⟨RX4, "lookAhead", "(LFillForecast$Bin;)V"⟩
abbrev cX3_setRate : ByteArray := prog_5_method_2_code
abbrev yX3_setRate : MethodName := ⟨RX3, "setRate", "(II)V"⟩
abbrev cX3_sumUp : ByteArray := prog_5_method_3_code
abbrev yX3_sumUp : MethodName := ⟨RX3, "sumUp", "(LFillForecast$Calendar;)V"⟩
abbrev cX3_shareAt : ByteArray := prog_5_method_4_code
abbrev yX3_shareAt : MethodName := ⟨RX3, "shareAt", "(LFillForecast$Bin;I)J"⟩
abbrev cX0_latestUpTo : ByteArray := prog_2_method_15_code
abbrev yX0_latestUpTo : MethodName := ⟨RX0, "latestUpTo", "(I)I"⟩
abbrev cX3_shareBy : ByteArray := prog_5_method_6_code
abbrev yX3_shareBy : MethodName := ⟨RX3, "shareBy", "(LFillForecast$Bin;II)J"⟩
abbrev cX3_gainUpTo : ByteArray := prog_5_method_7_code
abbrev yX3_gainUpTo : MethodName := ⟨RX3, "gainUpTo", "(I)J"⟩
abbrev cX4_wrong : ByteArray := prog_1_method_11_code
abbrev yX4_wrong : MethodName := ⟨RX4, "wrong", "(II)I"⟩
abbrev cX0_hourOfWrong : ByteArray := prog_2_method_12_code
abbrev yX0_hourOfWrong : MethodName := ⟨RX0, "hourOfWrong", "(I)I"⟩
abbrev cX4_quiet : ByteArray := prog_1_method_12_code
abbrev yX4_quiet : MethodName := ⟨RX4, "quiet", "(I)Z"⟩
abbrev cX4_silent : ByteArray := prog_1_method_13_code
abbrev yX4_silent : MethodName := ⟨RX4, "silent", "(II)I"⟩
abbrev cX0_hasRowWithin : ByteArray := prog_2_method_14_code
abbrev yX0_hasRowWithin : MethodName := ⟨RX0, "hasRowWithin", "(II)Z"⟩
abbrev cX4_over : ByteArray := prog_1_method_14_code
abbrev yX4_over : MethodName := ⟨RX4, "over", "(II)I"⟩
abbrev cX4_cost : ByteArray := prog_1_method_15_code
abbrev yX4_cost : MethodName := ⟨RX4, "cost", "(II)Z"⟩
abbrev cX4_costOf : ByteArray := prog_1_method_16_code
abbrev yX4_costOf : MethodName := ⟨RX4, "costOf", "(II)J"⟩
abbrev cX4_centsOn : ByteArray := prog_1_method_26_code
abbrev yX4_centsOn : MethodName := ⟨RX4, "centsOn", "(LFillForecast$Bin;I)J"⟩
abbrev cX4_day : ByteArray := prog_1_method_17_code
abbrev yX4_day : MethodName := ⟨RX4, "day", "(III)I"⟩
abbrev cX4_check : ByteArray := prog_1_method_18_code
abbrev yX4_check : MethodName := ⟨RX4, "check", "(II)J"⟩
abbrev cX0_indexOfEmptying : ByteArray := prog_2_method_13_code
abbrev yX0_indexOfEmptying : MethodName := ⟨RX0, "indexOfEmptying", "(I)I"⟩
abbrev cX3_shareBefore : ByteArray := prog_5_method_5_code
abbrev yX3_shareBefore : MethodName := ⟨RX3, "shareBefore", "(LFillForecast$Bin;I)J"⟩
abbrev cX0_placeAt : ByteArray := prog_2_method_6_code
abbrev yX0_placeAt : MethodName := ⟨RX0, "placeAt", "(I)I"⟩
abbrev cX0_amountAt : ByteArray := prog_2_method_8_code
abbrev yX0_amountAt : MethodName := ⟨RX0, "amountAt", "(I)I"⟩
abbrev cX0_roomInKilograms : ByteArray := prog_2_method_5_code
abbrev yX0_roomInKilograms : MethodName := ⟨RX0, "roomInKilograms", "()I"⟩
abbrev cX5_init : ByteArray := prog_7_method_1_code
abbrev yX5_init : MethodName := ⟨RX5, "<init>", "()V"⟩
abbrev cX5_bin : ByteArray := prog_7_method_7_code
abbrev yX5_bin : MethodName := ⟨RX5, "bin", "(II)I"⟩
abbrev cX5_isIn : ByteArray := prog_7_method_3_code
abbrev yX5_isIn : MethodName := ⟨RX5, "isIn", "(III)Z"⟩
abbrev cX5_row : ByteArray := prog_7_method_8_code
abbrev yX5_row : MethodName := ⟨RX5, "row", "(III)I"⟩
abbrev cX5_isBin : ByteArray := prog_7_method_4_code
abbrev yX5_isBin : MethodName := ⟨RX5, "isBin", "(I)Z"⟩
abbrev cX5_isHour : ByteArray := prog_7_method_5_code
abbrev yX5_isHour : MethodName := ⟨RX5, "isHour", "(I)Z"⟩
abbrev cX5_emptied : ByteArray := prog_7_method_9_code
abbrev yX5_emptied : MethodName := ⟨RX5, "emptied", "(III)I"⟩
abbrev cX5_fade : ByteArray := prog_7_method_10_code
abbrev yX5_fade : MethodName := ⟨RX5, "fade", "(II)Z"⟩
abbrev cX5_holiday : ByteArray := prog_7_method_11_code
abbrev yX5_holiday : MethodName := ⟨RX5, "holiday", "(IZ)Z"⟩
abbrev cX5_isDay : ByteArray := prog_7_method_6_code
abbrev yX5_isDay : MethodName := ⟨RX5, "isDay", "(I)Z"⟩
abbrev cX5_quiet : ByteArray := prog_7_method_12_code
abbrev yX5_quiet : MethodName := ⟨RX5, "quiet", "(I)Z"⟩
abbrev cX5_cost : ByteArray := prog_7_method_13_code
abbrev yX5_cost : MethodName := ⟨RX5, "cost", "(II)Z"⟩
abbrev cX5_weight : ByteArray := prog_7_method_18_code
abbrev yX5_weight : MethodName := ⟨RX5, "weight", "(I)I"⟩
abbrev cX5_weightOf : ByteArray := prog_7_method_17_code
abbrev yX5_weightOf : MethodName := ⟨RX5, "weightOf", "(I)I"⟩
abbrev cX5_mean : ByteArray := prog_7_method_20_code
abbrev yX5_mean : MethodName := ⟨RX5, "mean", "(II)I"⟩
abbrev cX5_meanOf : ByteArray := prog_7_method_19_code
abbrev yX5_meanOf : MethodName := ⟨RX5, "meanOf", "(II)I"⟩
abbrev cX5_layOut : ByteArray := prog_7_method_16_code
abbrev yX5_layOut : MethodName := ⟨RX5, "layOut", "(I)V"⟩
abbrev cX5_place : ByteArray := prog_7_method_15_code
abbrev yX5_place : MethodName := ⟨RX5, "place", "(IIZ)V"⟩
abbrev cX5_weekdayOf : ByteArray := prog_7_method_14_code
abbrev yX5_weekdayOf : MethodName := ⟨RX5, "weekdayOf", "(I)I"⟩
abbrev cX5_rate : ByteArray := prog_7_method_22_code
abbrev yX5_rate : MethodName := ⟨RX5, "rate", "(II)I"⟩
abbrev cX5_rateOf : ByteArray := prog_7_method_21_code
abbrev yX5_rateOf : MethodName := ⟨RX5, "rateOf", "(II)I"⟩
abbrev cX5_expected : ByteArray := prog_7_method_25_code
abbrev yX5_expected : MethodName := ⟨RX5, "expected", "(II)J"⟩
abbrev cX5_prepare : ByteArray := prog_7_method_23_code
abbrev yX5_prepare : MethodName := ⟨RX5, "prepare", "(I)V"⟩
abbrev cX5_expectedBy : ByteArray := prog_7_method_24_code
abbrev yX5_expectedBy : MethodName := ⟨RX5, "expectedBy", "(II)J"⟩
abbrev cX5_wrong : ByteArray := prog_7_method_26_code
abbrev yX5_wrong : MethodName := ⟨RX5, "wrong", "(II)I"⟩
abbrev cX5_silent : ByteArray := prog_7_method_28_code
abbrev yX5_silent : MethodName := ⟨RX5, "silent", "(II)I"⟩
abbrev cX5_isSilent : ByteArray := prog_7_method_27_code
abbrev yX5_isSilent : MethodName := ⟨RX5, "isSilent", "(II)Z"⟩
abbrev cX5_over : ByteArray := prog_7_method_29_code
abbrev yX5_over : MethodName := ⟨RX5, "over", "(II)I"⟩
abbrev cX5_costOf : ByteArray := prog_7_method_31_code
abbrev yX5_costOf : MethodName := ⟨RX5, "costOf", "(II)J"⟩
abbrev cX5_costOn : ByteArray := prog_7_method_30_code
abbrev yX5_costOn : MethodName := ⟨RX5, "costOn", "(I)J"⟩
abbrev cX5_day : ByteArray := prog_7_method_32_code
abbrev yX5_day : MethodName := ⟨RX5, "day", "(III)I"⟩
abbrev cX5_check : ByteArray := prog_7_method_33_code
abbrev yX5_check : MethodName := ⟨RX5, "check", "(II)J"⟩
abbrev cL_law : ByteArray := code
abbrev yL_law : MethodName := ⟨RL, "law", "([I)Z"⟩
abbrev vwCl : List vw_C := [(RX0, TX0, 8), (RX1, TX1, 1), (RX2, TX2, 1), (RX3, TX3, 2), (RX4, TX4, 8), (RX5, TX5, 23)]
/-- the words that calls keep -/
def BIG : List Cond := lw_tbl.filter goodWord
theorem mB {w : Cond} (i : Nat) (h : lw_tbl[i]? = some w) (hg : goodWord w = true) : w ∈ BIG := List.mem_filter.mpr ⟨List.mem_of_getElem? h, hg⟩
theorem BIG_in : ∀ w ∈ BIG, w ∈ lw_tbl := fun _ h => (List.mem_filter.mp h).1
theorem BIG_good : ∀ w ∈ BIG, goodWord w = true := fun _ h => (List.mem_filter.mp h).2
theorem gB {ws : List Cond} (h : ∀ w ∈ ws, w ∈ BIG) : GoodIn BIG ws := fun w hw => ⟨h w hw, good_of_word (BIG_good w (h w hw))⟩
theorem gBc {c : Cond} (h : c ∈ BIG) : ∀ w ∈ c :: BIG, w ∈ BIG := fun w hw => (List.mem_cons.mp hw).elim (fun e => e ▸ h) id
theorem gV {own C : String} {idx : Nat} {y : MethodName} {c : Cond} (h1 : Cond.methodLink own idx y ∈ BIG) (h2 : Cond.instanceMethod y ∈ BIG) (h3 : Cond.selects C y y ∈ BIG) (h4 : Cond.initialized C ∈ BIG) (h5 : c ∈ BIG) : GoodIn BIG (wsV own idx C y (c :: BIG)) := gB (fun w hw => by
  rcases List.mem_append.mp hw with h | h
  · simp only [List.mem_cons, List.not_mem_nil, or_false] at h
    rcases h with rfl | rfl | rfl | rfl <;> assumption
  · exact gBc h5 w h)
theorem gS {own : String} {idx : Nat} {y : MethodName} {c : Cond} (h1 : Cond.methodLink own idx y ∈ BIG) (h2 : Cond.static y ∈ BIG) (h3 : Cond.initialized y.cls ∈ BIG) (h5 : c ∈ BIG) : GoodIn BIG (va_wsS own idx y (c :: BIG)) := gB (fun w hw => by
  rcases List.mem_append.mp hw with h | h
  · simp only [List.mem_cons, List.not_mem_nil, or_false] at h
    rcases h with rfl | rfl | rfl <;> assumption
  · exact gBc h5 w h)
theorem gI0 {c : Cond} (h5 : c ∈ BIG) : GoodIn BIG (c :: BIG) := gB (gBc h5)
theorem w_sel_X4_binOf : Cond.selects "FillForecast" yX4_binOf yX4_binOf ∈ BIG := mB 0 (by decide +kernel) (by decide +kernel)
theorem w_sel_X0_indexFor : Cond.selects "FillForecast$Bin" yX0_indexFor yX0_indexFor ∈ BIG := mB 1 (by decide +kernel) (by decide +kernel)
theorem w_sel_X0_isTaken : Cond.selects "FillForecast$Bin" yX0_isTaken yX0_isTaken ∈ BIG := mB 2 (by decide +kernel) (by decide +kernel)
theorem w_sel_X0_open : Cond.selects "FillForecast$Bin" yX0_open yX0_open ∈ BIG := mB 3 (by decide +kernel) (by decide +kernel)
theorem w_sel_X0_judge : Cond.selects "FillForecast$Bin" yX0_judge yX0_judge ∈ BIG := mB 4 (by decide +kernel) (by decide +kernel)
theorem w_sel_X0_isRow : Cond.selects "FillForecast$Bin" yX0_isRow yX0_isRow ∈ BIG := mB 5 (by decide +kernel) (by decide +kernel)
theorem w_sel_X0_gainFrom : Cond.selects "FillForecast$Bin" yX0_gainFrom yX0_gainFrom ∈ BIG := mB 6 (by decide +kernel) (by decide +kernel)
theorem w_sel_X4_rateOn : Cond.selects "FillForecast" yX4_rateOn yX4_rateOn ∈ BIG := mB 7 (by decide +kernel) (by decide +kernel)
theorem w_sel_X4_streetRateOn : Cond.selects "FillForecast" yX4_streetRateOn yX4_streetRateOn ∈ BIG := mB 8 (by decide +kernel) (by decide +kernel)
theorem w_sel_X4_lookAhead : Cond.selects "FillForecast" yX4_lookAhead yX4_lookAhead ∈ BIG := mB 9 (by decide +kernel) (by decide +kernel)
theorem w_sel_X3_shareBy : Cond.selects "FillForecast$Outlook" yX3_shareBy yX3_shareBy ∈ BIG := mB 10 (by decide +kernel) (by decide +kernel)
theorem w_sel_X3_gainUpTo : Cond.selects "FillForecast$Outlook" yX3_gainUpTo yX3_gainUpTo ∈ BIG := mB 11 (by decide +kernel) (by decide +kernel)
theorem w_sel_X4_centsOn : Cond.selects "FillForecast" yX4_centsOn yX4_centsOn ∈ BIG := mB 12 (by decide +kernel) (by decide +kernel)
theorem w_sel_X5_isBin : Cond.selects "FillForecastModel" yX5_isBin yX5_isBin ∈ BIG := mB 13 (by decide +kernel) (by decide +kernel)
theorem w_sel_X5_weightOf : Cond.selects "FillForecastModel" yX5_weightOf yX5_weightOf ∈ BIG := mB 14 (by decide +kernel) (by decide +kernel)
theorem w_sel_X5_meanOf : Cond.selects "FillForecastModel" yX5_meanOf yX5_meanOf ∈ BIG := mB 15 (by decide +kernel) (by decide +kernel)
theorem w_sel_X5_layOut : Cond.selects "FillForecastModel" yX5_layOut yX5_layOut ∈ BIG := mB 16 (by decide +kernel) (by decide +kernel)
theorem w_sel_X5_place : Cond.selects "FillForecastModel" yX5_place yX5_place ∈ BIG := mB 17 (by decide +kernel) (by decide +kernel)
theorem w_sel_X5_weekdayOf : Cond.selects "FillForecastModel" yX5_weekdayOf yX5_weekdayOf ∈ BIG := mB 18 (by decide +kernel) (by decide +kernel)
theorem w_sel_X5_rateOf : Cond.selects "FillForecastModel" yX5_rateOf yX5_rateOf ∈ BIG := mB 19 (by decide +kernel) (by decide +kernel)
theorem w_sel_X5_prepare : Cond.selects "FillForecastModel" yX5_prepare yX5_prepare ∈ BIG := mB 20 (by decide +kernel) (by decide +kernel)
theorem w_sel_X5_expectedBy : Cond.selects "FillForecastModel" yX5_expectedBy yX5_expectedBy ∈ BIG := mB 21 (by decide +kernel) (by decide +kernel)
theorem w_sel_X5_isSilent : Cond.selects "FillForecastModel" yX5_isSilent yX5_isSilent ∈ BIG := mB 22 (by decide +kernel) (by decide +kernel)
theorem w_sel_X5_costOn : Cond.selects "FillForecastModel" yX5_costOn yX5_costOn ∈ BIG := mB 23 (by decide +kernel) (by decide +kernel)
theorem w_ini_L : Cond.initialized "FillForecastLaw" ∈ BIG := mB 24 (by decide +kernel) (by decide +kernel)
theorem w_ini_X4 : Cond.initialized "FillForecast" ∈ BIG := mB 25 (by decide +kernel) (by decide +kernel)
theorem w_ini_X1 : Cond.initialized "FillForecast$Calendar" ∈ BIG := mB 26 (by decide +kernel) (by decide +kernel)
theorem w_ini_X2 : Cond.initialized "FillForecast$Fading" ∈ BIG := mB 27 (by decide +kernel) (by decide +kernel)
theorem w_ini_X3 : Cond.initialized "FillForecast$Outlook" ∈ BIG := mB 28 (by decide +kernel) (by decide +kernel)
theorem w_ini_X5 : Cond.initialized "FillForecastModel" ∈ BIG := mB 29 (by decide +kernel) (by decide +kernel)
theorem w_ini_X0 : Cond.initialized "FillForecast$Bin" ∈ BIG := mB 30 (by decide +kernel) (by decide +kernel)
theorem w_cl_L_7 : Cond.classLink "FillForecastLaw" 7 "FillForecast" ∈ BIG := mB 31 (by decide +kernel) (by decide +kernel)
theorem w_ins_X4 : Cond.instantiable "FillForecast" 8 ∈ BIG := mB 32 (by decide +kernel) (by decide +kernel)
theorem w_ml_L_9 : Cond.methodLink "FillForecastLaw" 9 yX4_init ∈ BIG := mB 33 (by decide +kernel) (by decide +kernel)
theorem w_im_X4_init : Cond.instanceMethod yX4_init ∈ BIG := mB 34 (by decide +kernel) (by decide +kernel)
set_option maxRecDepth 20000 in
theorem w_co_X4_init : Cond.code yX4_init cX4_init 1 none ∈ BIG := mB 35 (by rfl) (by rfl)
theorem w_ml_X4_1 : Cond.methodLink "FillForecast" 1 objectInit ∈ BIG := mB 36 (by decide +kernel) (by decide +kernel)
theorem w_im_objectInit : Cond.instanceMethod objectInit ∈ BIG := mB 37 (by decide +kernel) (by decide +kernel)
set_option maxRecDepth 20000 in
theorem w_co_objectInit : Cond.code objectInit ⟨#[0xb1]⟩ 1 none ∈ BIG := mB 38 (by rfl) (by rfl)
theorem w_cl_X4_7 : Cond.classLink "FillForecast" 7 "FillForecast$Calendar" ∈ BIG := mB 39 (by decide +kernel) (by decide +kernel)
theorem w_ins_X1 : Cond.instantiable "FillForecast$Calendar" 1 ∈ BIG := mB 40 (by decide +kernel) (by decide +kernel)
theorem w_ml_X4_9 : Cond.methodLink "FillForecast" 9 yX1_init ∈ BIG := mB 41 (by decide +kernel) (by decide +kernel)
theorem w_im_X1_init : Cond.instanceMethod yX1_init ∈ BIG := mB 42 (by decide +kernel) (by decide +kernel)
set_option maxRecDepth 20000 in
theorem w_co_X1_init : Cond.code yX1_init cX1_init 1 none ∈ BIG := mB 43 (by rfl) (by rfl)
theorem w_ml_X1_3 : Cond.methodLink "FillForecast$Calendar" 3 objectInit ∈ BIG := mB 44 (by decide +kernel) (by decide +kernel)
theorem w_fl_X1_9 : Cond.fieldLink "FillForecast$Calendar" 9 "FillForecast$Calendar" "holidays" "[Z" ∈ BIG := mB 45 (by decide +kernel) (by decide +kernel)
theorem w_ac_boolean : Cond.arrayClass .boolean ∈ BIG := mB 49 (by decide +kernel) (by decide +kernel)
theorem w_cl_X4_16 : Cond.classLink "FillForecast" 16 "FillForecast$Fading" ∈ BIG := mB 50 (by decide +kernel) (by decide +kernel)
theorem w_ins_X2 : Cond.instantiable "FillForecast$Fading" 1 ∈ BIG := mB 51 (by decide +kernel) (by decide +kernel)
theorem w_ml_X4_18 : Cond.methodLink "FillForecast" 18 yX2_init ∈ BIG := mB 52 (by decide +kernel) (by decide +kernel)
theorem w_im_X2_init : Cond.instanceMethod yX2_init ∈ BIG := mB 53 (by decide +kernel) (by decide +kernel)
set_option maxRecDepth 20000 in
theorem w_co_X2_init : Cond.code yX2_init cX2_init 1 none ∈ BIG := mB 54 (by rfl) (by rfl)
theorem w_ml_X2_3 : Cond.methodLink "FillForecast$Fading" 3 objectInit ∈ BIG := mB 55 (by decide +kernel) (by decide +kernel)
theorem w_ml_X2_15 : Cond.methodLink "FillForecast$Fading" 15 yX2_setTo ∈ BIG := mB 56 (by decide +kernel) (by decide +kernel)
theorem w_im_X2_setTo : Cond.instanceMethod yX2_setTo ∈ BIG := mB 57 (by decide +kernel) (by decide +kernel)
theorem w_sel_X2_setTo : Cond.selects "FillForecast$Fading" yX2_setTo yX2_setTo ∈ BIG := mB 58 (by decide +kernel) (by decide +kernel)
set_option maxRecDepth 20000 in
theorem w_co_X2_setTo : Cond.code yX2_setTo cX2_setTo 6 none ∈ BIG := mB 59 (by rfl) (by rfl)
theorem w_fl_X2_9 : Cond.fieldLink "FillForecast$Fading" 9 "FillForecast$Fading" "weights" "[I" ∈ BIG := mB 60 (by decide +kernel) (by decide +kernel)
theorem w_ac_int : Cond.arrayClass .int ∈ BIG := mB 64 (by decide +kernel) (by decide +kernel)
theorem w_cl_X4_23 : Cond.classLink "FillForecast" 23 "FillForecast$Outlook" ∈ BIG := mB 65 (by decide +kernel) (by decide +kernel)
theorem w_ins_X3 : Cond.instantiable "FillForecast$Outlook" 2 ∈ BIG := mB 66 (by decide +kernel) (by decide +kernel)
theorem w_ml_X4_25 : Cond.methodLink "FillForecast" 25 yX3_init ∈ BIG := mB 67 (by decide +kernel) (by decide +kernel)
theorem w_im_X3_init : Cond.instanceMethod yX3_init ∈ BIG := mB 68 (by decide +kernel) (by decide +kernel)
set_option maxRecDepth 20000 in
theorem w_co_X3_init : Cond.code yX3_init cX3_init 1 none ∈ BIG := mB 69 (by rfl) (by rfl)
theorem w_ml_X3_3 : Cond.methodLink "FillForecast$Outlook" 3 objectInit ∈ BIG := mB 70 (by decide +kernel) (by decide +kernel)
theorem w_fl_X3_9 : Cond.fieldLink "FillForecast$Outlook" 9 "FillForecast$Outlook" "rates" "[I" ∈ BIG := mB 71 (by decide +kernel) (by decide +kernel)
theorem w_fl_X3_15 : Cond.fieldLink "FillForecast$Outlook" 15 "FillForecast$Outlook" "sums" "[I" ∈ BIG := mB 72 (by decide +kernel) (by decide +kernel)
theorem w_cl_X4_30 : Cond.classLink "FillForecast" 30 "FillForecast$Bin" ∈ BIG := mB 78 (by decide +kernel) (by decide +kernel)
theorem w_fl_X4_10 : Cond.fieldLink "FillForecast" 10 "FillForecast" "calendar" "LFillForecast$Calendar;" ∈ BIG := mB 80 (by decide +kernel) (by decide +kernel)
theorem w_fl_X4_19 : Cond.fieldLink "FillForecast" 19 "FillForecast" "fading" "LFillForecast$Fading;" ∈ BIG := mB 81 (by decide +kernel) (by decide +kernel)
theorem w_fl_X4_26 : Cond.fieldLink "FillForecast" 26 "FillForecast" "outlook" "LFillForecast$Outlook;" ∈ BIG := mB 82 (by decide +kernel) (by decide +kernel)
theorem w_fl_X4_32 : Cond.fieldLink "FillForecast" 32 "FillForecast" "bins" "[LFillForecast$Bin;" ∈ BIG := mB 83 (by decide +kernel) (by decide +kernel)
theorem w_fl_X4_36 : Cond.fieldLink "FillForecast" 36 "FillForecast" "binCount" "I" ∈ BIG := mB 84 (by decide +kernel) (by decide +kernel)
theorem w_fl_X4_40 : Cond.fieldLink "FillForecast" 40 "FillForecast" "silence" "I" ∈ BIG := mB 85 (by decide +kernel) (by decide +kernel)
theorem w_fl_X4_43 : Cond.fieldLink "FillForecast" 43 "FillForecast" "earlyCents" "I" ∈ BIG := mB 86 (by decide +kernel) (by decide +kernel)
theorem w_fl_X4_46 : Cond.fieldLink "FillForecast" 46 "FillForecast" "lateCents" "I" ∈ BIG := mB 87 (by decide +kernel) (by decide +kernel)
theorem w_ml_L_13 : Cond.methodLink "FillForecastLaw" 13 yX4_bin ∈ BIG := mB 105 (by decide +kernel) (by decide +kernel)
theorem w_im_X4_bin : Cond.instanceMethod yX4_bin ∈ BIG := mB 106 (by decide +kernel) (by decide +kernel)
theorem w_sel_X4_bin : Cond.selects "FillForecast" yX4_bin yX4_bin ∈ BIG := mB 107 (by decide +kernel) (by decide +kernel)
set_option maxRecDepth 20000 in
theorem w_co_X4_bin : Cond.code yX4_bin cX4_bin 3 (some .int) ∈ BIG := mB 108 (by rfl) (by rfl)
theorem w_ml_X4_49 : Cond.methodLink "FillForecast" 49 yX4_isWithin ∈ BIG := mB 109 (by decide +kernel) (by decide +kernel)
theorem w_sm_X4_isWithin : Cond.static yX4_isWithin ∈ BIG := mB 110 (by decide +kernel) (by decide +kernel)
set_option maxRecDepth 20000 in
theorem w_co_X4_isWithin : Cond.code yX4_isWithin cX4_isWithin 3 (some .boolean) ∈ BIG := mB 111 (by rfl) (by rfl)
theorem w_ins_X0 : Cond.instantiable "FillForecast$Bin" 8 ∈ BIG := mB 112 (by decide +kernel) (by decide +kernel)
theorem w_ml_X4_53 : Cond.methodLink "FillForecast" 53 yX0_init ∈ BIG := mB 113 (by decide +kernel) (by decide +kernel)
theorem w_im_X0_init : Cond.instanceMethod yX0_init ∈ BIG := mB 114 (by decide +kernel) (by decide +kernel)
set_option maxRecDepth 20000 in
theorem w_co_X0_init : Cond.code yX0_init cX0_init 3 none ∈ BIG := mB 115 (by rfl) (by rfl)
theorem w_ml_X0_5 : Cond.methodLink "FillForecast$Bin" 5 objectInit ∈ BIG := mB 116 (by decide +kernel) (by decide +kernel)
theorem w_fl_X0_11 : Cond.fieldLink "FillForecast$Bin" 11 "FillForecast$Bin" "street" "I" ∈ BIG := mB 117 (by decide +kernel) (by decide +kernel)
theorem w_fl_X0_15 : Cond.fieldLink "FillForecast$Bin" 15 "FillForecast$Bin" "room" "I" ∈ BIG := mB 118 (by decide +kernel) (by decide +kernel)
theorem w_fl_X0_18 : Cond.fieldLink "FillForecast$Bin" 18 "FillForecast$Bin" "places" "[I" ∈ BIG := mB 119 (by decide +kernel) (by decide +kernel)
theorem w_fl_X0_22 : Cond.fieldLink "FillForecast$Bin" 22 "FillForecast$Bin" "amounts" "[I" ∈ BIG := mB 120 (by decide +kernel) (by decide +kernel)
theorem w_fl_X0_25 : Cond.fieldLink "FillForecast$Bin" 25 "FillForecast$Bin" "wrongs" "[Z" ∈ BIG := mB 121 (by decide +kernel) (by decide +kernel)
theorem w_fl_X0_29 : Cond.fieldLink "FillForecast$Bin" 29 "FillForecast$Bin" "gains" "[I" ∈ BIG := mB 122 (by decide +kernel) (by decide +kernel)
theorem w_fl_X0_32 : Cond.fieldLink "FillForecast$Bin" 32 "FillForecast$Bin" "pointCount" "I" ∈ BIG := mB 123 (by decide +kernel) (by decide +kernel)
theorem w_fl_X0_35 : Cond.fieldLink "FillForecast$Bin" 35 "FillForecast$Bin" "rowCount" "I" ∈ BIG := mB 124 (by decide +kernel) (by decide +kernel)
theorem w_ml_L_18 : Cond.methodLink "FillForecastLaw" 18 yX4_row ∈ BIG := mB 142 (by decide +kernel) (by decide +kernel)
theorem w_im_X4_row : Cond.instanceMethod yX4_row ∈ BIG := mB 143 (by decide +kernel) (by decide +kernel)
theorem w_sel_X4_row : Cond.selects "FillForecast" yX4_row yX4_row ∈ BIG := mB 144 (by decide +kernel) (by decide +kernel)
set_option maxRecDepth 20000 in
theorem w_co_X4_row : Cond.code yX4_row cX4_row 5 (some .int) ∈ BIG := mB 145 (by rfl) (by rfl)
theorem w_ml_X4_56 : Cond.methodLink "FillForecast" 56 yX4_binOf ∈ BIG := mB 146 (by decide +kernel) (by decide +kernel)
theorem w_im_X4_binOf : Cond.instanceMethod yX4_binOf ∈ BIG := mB 148 (by decide +kernel) (by decide +kernel)
set_option maxRecDepth 20000 in
theorem w_co_X4_binOf : Cond.code yX4_binOf cX4_binOf 2 (some (.object "FillForecast$Bin")) ∈ BIG := mB 149 (by rfl) (by rfl)
theorem w_ml_X4_60 : Cond.methodLink "FillForecast" 60 yX4_isHour ∈ BIG := mB 150 (by decide +kernel) (by decide +kernel)
theorem w_sm_X4_isHour : Cond.static yX4_isHour ∈ BIG := mB 151 (by decide +kernel) (by decide +kernel)
set_option maxRecDepth 20000 in
theorem w_co_X4_isHour : Cond.code yX4_isHour cX4_isHour 1 (some .boolean) ∈ BIG := mB 152 (by rfl) (by rfl)
theorem w_ml_X4_64 : Cond.methodLink "FillForecast" 64 yX0_putRow ∈ BIG := mB 153 (by decide +kernel) (by decide +kernel)
theorem w_im_X0_putRow : Cond.instanceMethod yX0_putRow ∈ BIG := mB 154 (by decide +kernel) (by decide +kernel)
theorem w_sel_X0_putRow : Cond.selects "FillForecast$Bin" yX0_putRow yX0_putRow ∈ BIG := mB 155 (by decide +kernel) (by decide +kernel)
set_option maxRecDepth 20000 in
theorem w_co_X0_putRow : Cond.code yX0_putRow cX0_putRow 5 (some .int) ∈ BIG := mB 156 (by rfl) (by rfl)
theorem w_ml_X0_42 : Cond.methodLink "FillForecast$Bin" 42 yX0_placeOfRow ∈ BIG := mB 157 (by decide +kernel) (by decide +kernel)
theorem w_sm_X0_placeOfRow : Cond.static yX0_placeOfRow ∈ BIG := mB 158 (by decide +kernel) (by decide +kernel)
set_option maxRecDepth 20000 in
theorem w_co_X0_placeOfRow : Cond.code yX0_placeOfRow cX0_placeOfRow 1 (some .int) ∈ BIG := mB 159 (by rfl) (by rfl)
theorem w_ml_X0_46 : Cond.methodLink "FillForecast$Bin" 46 yX0_indexFor ∈ BIG := mB 160 (by decide +kernel) (by decide +kernel)
theorem w_im_X0_indexFor : Cond.instanceMethod yX0_indexFor ∈ BIG := mB 162 (by decide +kernel) (by decide +kernel)
set_option maxRecDepth 20000 in
theorem w_co_X0_indexFor : Cond.code yX0_indexFor cX0_indexFor 3 (some .int) ∈ BIG := mB 163 (by rfl) (by rfl)
theorem w_ml_X0_49 : Cond.methodLink "FillForecast$Bin" 49 yX0_isTaken ∈ BIG := mB 164 (by decide +kernel) (by decide +kernel)
theorem w_im_X0_isTaken : Cond.instanceMethod yX0_isTaken ∈ BIG := mB 166 (by decide +kernel) (by decide +kernel)
set_option maxRecDepth 20000 in
theorem w_co_X0_isTaken : Cond.code yX0_isTaken cX0_isTaken 3 (some .boolean) ∈ BIG := mB 167 (by rfl) (by rfl)
theorem w_ml_X0_53 : Cond.methodLink "FillForecast$Bin" 53 yX0_open ∈ BIG := mB 168 (by decide +kernel) (by decide +kernel)
theorem w_im_X0_open : Cond.instanceMethod yX0_open ∈ BIG := mB 170 (by decide +kernel) (by decide +kernel)
set_option maxRecDepth 20000 in
theorem w_co_X0_open : Cond.code yX0_open cX0_open 4 none ∈ BIG := mB 171 (by rfl) (by rfl)
theorem w_ml_X0_57 : Cond.methodLink "FillForecast$Bin" 57 yX0_judge ∈ BIG := mB 172 (by decide +kernel) (by decide +kernel)
theorem w_im_X0_judge : Cond.instanceMethod yX0_judge ∈ BIG := mB 174 (by decide +kernel) (by decide +kernel)
set_option maxRecDepth 20000 in
theorem w_co_X0_judge : Cond.code yX0_judge cX0_judge 4 none ∈ BIG := mB 175 (by rfl) (by rfl)
theorem w_ml_X0_38 : Cond.methodLink "FillForecast$Bin" 38 yX0_isRow ∈ BIG := mB 176 (by decide +kernel) (by decide +kernel)
theorem w_im_X0_isRow : Cond.instanceMethod yX0_isRow ∈ BIG := mB 178 (by decide +kernel) (by decide +kernel)
set_option maxRecDepth 20000 in
theorem w_co_X0_isRow : Cond.code yX0_isRow cX0_isRow 2 (some .boolean) ∈ BIG := mB 179 (by rfl) (by rfl)
theorem w_ml_X0_80 : Cond.methodLink "FillForecast$Bin" 80 yX0_shareAt ∈ BIG := mB 180 (by decide +kernel) (by decide +kernel)
theorem w_im_X0_shareAt : Cond.instanceMethod yX0_shareAt ∈ BIG := mB 181 (by decide +kernel) (by decide +kernel)
theorem w_sel_X0_shareAt : Cond.selects "FillForecast$Bin" yX0_shareAt yX0_shareAt ∈ BIG := mB 182 (by decide +kernel) (by decide +kernel)
set_option maxRecDepth 20000 in
theorem w_co_X0_shareAt : Cond.code yX0_shareAt cX0_shareAt 2 (some .int) ∈ BIG := mB 183 (by rfl) (by rfl)
theorem w_ml_X0_83 : Cond.methodLink "FillForecast$Bin" 83 yX0_gainFrom ∈ BIG := mB 184 (by decide +kernel) (by decide +kernel)
theorem w_im_X0_gainFrom : Cond.instanceMethod yX0_gainFrom ∈ BIG := mB 186 (by decide +kernel) (by decide +kernel)
set_option maxRecDepth 20000 in
theorem w_co_X0_gainFrom : Cond.code yX0_gainFrom cX0_gainFrom 4 (some .int) ∈ BIG := mB 187 (by rfl) (by rfl)
theorem w_ml_X0_63 : Cond.methodLink "FillForecast$Bin" 63 yX0_hourAt ∈ BIG := mB 188 (by decide +kernel) (by decide +kernel)
theorem w_im_X0_hourAt : Cond.instanceMethod yX0_hourAt ∈ BIG := mB 189 (by decide +kernel) (by decide +kernel)
theorem w_sel_X0_hourAt : Cond.selects "FillForecast$Bin" yX0_hourAt yX0_hourAt ∈ BIG := mB 190 (by decide +kernel) (by decide +kernel)
set_option maxRecDepth 20000 in
theorem w_co_X0_hourAt : Cond.code yX0_hourAt cX0_hourAt 2 (some .int) ∈ BIG := mB 191 (by rfl) (by rfl)
theorem w_ml_L_23 : Cond.methodLink "FillForecastLaw" 23 yX4_emptied ∈ BIG := mB 192 (by decide +kernel) (by decide +kernel)
theorem w_im_X4_emptied : Cond.instanceMethod yX4_emptied ∈ BIG := mB 193 (by decide +kernel) (by decide +kernel)
theorem w_sel_X4_emptied : Cond.selects "FillForecast" yX4_emptied yX4_emptied ∈ BIG := mB 194 (by decide +kernel) (by decide +kernel)
set_option maxRecDepth 20000 in
theorem w_co_X4_emptied : Cond.code yX4_emptied cX4_emptied 5 (some .int) ∈ BIG := mB 195 (by rfl) (by rfl)
theorem w_ct_X4_68 : Cond.constant "FillForecast" 68 100000 ∈ BIG := mB 196 (by decide +kernel) (by decide +kernel)
theorem w_ml_X4_69 : Cond.methodLink "FillForecast" 69 yX0_putEmptying ∈ BIG := mB 197 (by decide +kernel) (by decide +kernel)
theorem w_im_X0_putEmptying : Cond.instanceMethod yX0_putEmptying ∈ BIG := mB 198 (by decide +kernel) (by decide +kernel)
theorem w_sel_X0_putEmptying : Cond.selects "FillForecast$Bin" yX0_putEmptying yX0_putEmptying ∈ BIG := mB 199 (by decide +kernel) (by decide +kernel)
set_option maxRecDepth 20000 in
theorem w_co_X0_putEmptying : Cond.code yX0_putEmptying cX0_putEmptying 5 (some .int) ∈ BIG := mB 200 (by rfl) (by rfl)
theorem w_ml_X0_60 : Cond.methodLink "FillForecast$Bin" 60 yX0_placeOfEmptying ∈ BIG := mB 201 (by decide +kernel) (by decide +kernel)
theorem w_sm_X0_placeOfEmptying : Cond.static yX0_placeOfEmptying ∈ BIG := mB 202 (by decide +kernel) (by decide +kernel)
set_option maxRecDepth 20000 in
theorem w_co_X0_placeOfEmptying : Cond.code yX0_placeOfEmptying cX0_placeOfEmptying 1 (some .int) ∈ BIG := mB 203 (by rfl) (by rfl)
theorem w_ml_L_27 : Cond.methodLink "FillForecastLaw" 27 yX4_fade ∈ BIG := mB 204 (by decide +kernel) (by decide +kernel)
theorem w_im_X4_fade : Cond.instanceMethod yX4_fade ∈ BIG := mB 205 (by decide +kernel) (by decide +kernel)
theorem w_sel_X4_fade : Cond.selects "FillForecast" yX4_fade yX4_fade ∈ BIG := mB 206 (by decide +kernel) (by decide +kernel)
set_option maxRecDepth 20000 in
theorem w_co_X4_fade : Cond.code yX4_fade cX4_fade 3 (some .boolean) ∈ BIG := mB 207 (by rfl) (by rfl)
theorem w_ml_X4_72 : Cond.methodLink "FillForecast" 72 yX2_setTo ∈ BIG := mB 208 (by decide +kernel) (by decide +kernel)
theorem w_ml_L_32 : Cond.methodLink "FillForecastLaw" 32 yX4_holiday ∈ BIG := mB 209 (by decide +kernel) (by decide +kernel)
theorem w_im_X4_holiday : Cond.instanceMethod yX4_holiday ∈ BIG := mB 210 (by decide +kernel) (by decide +kernel)
theorem w_sel_X4_holiday : Cond.selects "FillForecast" yX4_holiday yX4_holiday ∈ BIG := mB 211 (by decide +kernel) (by decide +kernel)
set_option maxRecDepth 20000 in
theorem w_co_X4_holiday : Cond.code yX4_holiday cX4_holiday 3 (some .boolean) ∈ BIG := mB 212 (by rfl) (by rfl)
theorem w_ml_X4_75 : Cond.methodLink "FillForecast" 75 yX4_isDay ∈ BIG := mB 213 (by decide +kernel) (by decide +kernel)
theorem w_sm_X4_isDay : Cond.static yX4_isDay ∈ BIG := mB 214 (by decide +kernel) (by decide +kernel)
set_option maxRecDepth 20000 in
theorem w_co_X4_isDay : Cond.code yX4_isDay cX4_isDay 1 (some .boolean) ∈ BIG := mB 215 (by rfl) (by rfl)
theorem w_ml_X4_78 : Cond.methodLink "FillForecast" 78 yX1_mark ∈ BIG := mB 216 (by decide +kernel) (by decide +kernel)
theorem w_im_X1_mark : Cond.instanceMethod yX1_mark ∈ BIG := mB 217 (by decide +kernel) (by decide +kernel)
theorem w_sel_X1_mark : Cond.selects "FillForecast$Calendar" yX1_mark yX1_mark ∈ BIG := mB 218 (by decide +kernel) (by decide +kernel)
set_option maxRecDepth 20000 in
theorem w_co_X1_mark : Cond.code yX1_mark cX1_mark 3 none ∈ BIG := mB 219 (by rfl) (by rfl)
theorem w_ml_L_37 : Cond.methodLink "FillForecastLaw" 37 yX4_mean ∈ BIG := mB 220 (by decide +kernel) (by decide +kernel)
theorem w_im_X4_mean : Cond.instanceMethod yX4_mean ∈ BIG := mB 221 (by decide +kernel) (by decide +kernel)
theorem w_sel_X4_mean : Cond.selects "FillForecast" yX4_mean yX4_mean ∈ BIG := mB 222 (by decide +kernel) (by decide +kernel)
set_option maxRecDepth 20000 in
theorem w_co_X4_mean : Cond.code yX4_mean cX4_mean 4 (some .int) ∈ BIG := mB 223 (by rfl) (by rfl)
theorem w_ml_X4_82 : Cond.methodLink "FillForecast" 82 yX0_meanOn ∈ BIG := mB 224 (by decide +kernel) (by decide +kernel)
theorem w_im_X0_meanOn : Cond.instanceMethod yX0_meanOn ∈ BIG := mB 225 (by decide +kernel) (by decide +kernel)
theorem w_sel_X0_meanOn : Cond.selects "FillForecast$Bin" yX0_meanOn yX0_meanOn ∈ BIG := mB 226 (by decide +kernel) (by decide +kernel)
set_option maxRecDepth 20000 in
theorem w_co_X0_meanOn : Cond.code yX0_meanOn cX0_meanOn 12 (some .int) ∈ BIG := mB 227 (by rfl) (by rfl)
theorem w_ml_X0_70 : Cond.methodLink "FillForecast$Bin" 70 yX1_weekdayOf ∈ BIG := mB 228 (by decide +kernel) (by decide +kernel)
theorem w_im_X1_weekdayOf : Cond.instanceMethod yX1_weekdayOf ∈ BIG := mB 229 (by decide +kernel) (by decide +kernel)
theorem w_sel_X1_weekdayOf : Cond.selects "FillForecast$Calendar" yX1_weekdayOf yX1_weekdayOf ∈ BIG := mB 230 (by decide +kernel) (by decide +kernel)
set_option maxRecDepth 20000 in
theorem w_co_X1_weekdayOf : Cond.code yX1_weekdayOf cX1_weekdayOf 2 (some .int) ∈ BIG := mB 231 (by rfl) (by rfl)
theorem w_ml_X0_75 : Cond.methodLink "FillForecast$Bin" 75 yX2_weightOf ∈ BIG := mB 232 (by decide +kernel) (by decide +kernel)
theorem w_im_X2_weightOf : Cond.instanceMethod yX2_weightOf ∈ BIG := mB 233 (by decide +kernel) (by decide +kernel)
theorem w_sel_X2_weightOf : Cond.selects "FillForecast$Fading" yX2_weightOf yX2_weightOf ∈ BIG := mB 234 (by decide +kernel) (by decide +kernel)
set_option maxRecDepth 20000 in
theorem w_co_X2_weightOf : Cond.code yX2_weightOf cX2_weightOf 2 (some .int) ∈ BIG := mB 235 (by rfl) (by rfl)
theorem w_ml_L_41 : Cond.methodLink "FillForecastLaw" 41 yX4_rate ∈ BIG := mB 236 (by decide +kernel) (by decide +kernel)
theorem w_im_X4_rate : Cond.instanceMethod yX4_rate ∈ BIG := mB 237 (by decide +kernel) (by decide +kernel)
theorem w_sel_X4_rate : Cond.selects "FillForecast" yX4_rate yX4_rate ∈ BIG := mB 238 (by decide +kernel) (by decide +kernel)
set_option maxRecDepth 20000 in
theorem w_co_X4_rate : Cond.code yX4_rate cX4_rate 4 (some .int) ∈ BIG := mB 239 (by rfl) (by rfl)
theorem w_ml_X4_86 : Cond.methodLink "FillForecast" 86 yX1_weekdayOf ∈ BIG := mB 240 (by decide +kernel) (by decide +kernel)
theorem w_ml_X4_90 : Cond.methodLink "FillForecast" 90 yX4_rateOn ∈ BIG := mB 241 (by decide +kernel) (by decide +kernel)
theorem w_im_X4_rateOn : Cond.instanceMethod yX4_rateOn ∈ BIG := mB 243 (by decide +kernel) (by decide +kernel)
set_option maxRecDepth 20000 in
theorem w_co_X4_rateOn : Cond.code yX4_rateOn cX4_rateOn 4 (some .int) ∈ BIG := mB 244 (by rfl) (by rfl)
theorem w_ml_X4_136 : Cond.methodLink "FillForecast" 136 yX0_streetNumber ∈ BIG := mB 245 (by decide +kernel) (by decide +kernel)
theorem w_im_X0_streetNumber : Cond.instanceMethod yX0_streetNumber ∈ BIG := mB 246 (by decide +kernel) (by decide +kernel)
theorem w_sel_X0_streetNumber : Cond.selects "FillForecast$Bin" yX0_streetNumber yX0_streetNumber ∈ BIG := mB 247 (by decide +kernel) (by decide +kernel)
set_option maxRecDepth 20000 in
theorem w_co_X0_streetNumber : Cond.code yX0_streetNumber cX0_streetNumber 1 (some .int) ∈ BIG := mB 248 (by rfl) (by rfl)
theorem w_ml_X4_139 : Cond.methodLink "FillForecast" 139 yX4_streetRateOn ∈ BIG := mB 249 (by decide +kernel) (by decide +kernel)
theorem w_im_X4_streetRateOn : Cond.instanceMethod yX4_streetRateOn ∈ BIG := mB 251 (by decide +kernel) (by decide +kernel)
set_option maxRecDepth 20000 in
theorem w_co_X4_streetRateOn : Cond.code yX4_streetRateOn cX4_streetRateOn 8 (some .int) ∈ BIG := mB 252 (by rfl) (by rfl)
theorem w_ml_L_45 : Cond.methodLink "FillForecastLaw" 45 yX4_weight ∈ BIG := mB 253 (by decide +kernel) (by decide +kernel)
theorem w_im_X4_weight : Cond.instanceMethod yX4_weight ∈ BIG := mB 254 (by decide +kernel) (by decide +kernel)
theorem w_sel_X4_weight : Cond.selects "FillForecast" yX4_weight yX4_weight ∈ BIG := mB 255 (by decide +kernel) (by decide +kernel)
set_option maxRecDepth 20000 in
theorem w_co_X4_weight : Cond.code yX4_weight cX4_weight 2 (some .int) ∈ BIG := mB 256 (by rfl) (by rfl)
theorem w_ml_X4_94 : Cond.methodLink "FillForecast" 94 yX2_weightOf ∈ BIG := mB 257 (by decide +kernel) (by decide +kernel)
theorem w_ml_L_50 : Cond.methodLink "FillForecastLaw" 50 yX4_expected ∈ BIG := mB 258 (by decide +kernel) (by decide +kernel)
theorem w_im_X4_expected : Cond.instanceMethod yX4_expected ∈ BIG := mB 259 (by decide +kernel) (by decide +kernel)
theorem w_sel_X4_expected : Cond.selects "FillForecast" yX4_expected yX4_expected ∈ BIG := mB 260 (by decide +kernel) (by decide +kernel)
set_option maxRecDepth 20000 in
theorem w_co_X4_expected : Cond.code yX4_expected cX4_expected 4 (some .long) ∈ BIG := mB 261 (by rfl) (by rfl)
theorem w_ct_X4_97 : Cond.constantLong "FillForecast" 97 (-1) ∈ BIG := mB 262 (by decide +kernel) (by decide +kernel)
theorem w_ml_X4_99 : Cond.methodLink "FillForecast" 99 yX4_lookAhead ∈ BIG := mB 263 (by decide +kernel) (by decide +kernel)
theorem w_im_X4_lookAhead : Cond.instanceMethod yX4_lookAhead ∈ BIG := mB 265 (by decide +kernel) (by decide +kernel)
set_option maxRecDepth 20000 in
theorem w_co_X4_lookAhead : Cond.code yX4_lookAhead cX4_lookAhead 3 none ∈ BIG := mB 266 (by rfl) (by rfl)
theorem w_ml_X4_142 : Cond.methodLink "FillForecast" 142 yX3_setRate ∈ BIG := mB 267 (by decide +kernel) (by decide +kernel)
theorem w_im_X3_setRate : Cond.instanceMethod yX3_setRate ∈ BIG := mB 268 (by decide +kernel) (by decide +kernel)
theorem w_sel_X3_setRate : Cond.selects "FillForecast$Outlook" yX3_setRate yX3_setRate ∈ BIG := mB 269 (by decide +kernel) (by decide +kernel)
set_option maxRecDepth 20000 in
theorem w_co_X3_setRate : Cond.code yX3_setRate cX3_setRate 3 none ∈ BIG := mB 270 (by rfl) (by rfl)
theorem w_ml_X4_145 : Cond.methodLink "FillForecast" 145 yX3_sumUp ∈ BIG := mB 271 (by decide +kernel) (by decide +kernel)
theorem w_im_X3_sumUp : Cond.instanceMethod yX3_sumUp ∈ BIG := mB 272 (by decide +kernel) (by decide +kernel)
theorem w_sel_X3_sumUp : Cond.selects "FillForecast$Outlook" yX3_sumUp yX3_sumUp ∈ BIG := mB 273 (by decide +kernel) (by decide +kernel)
set_option maxRecDepth 20000 in
theorem w_co_X3_sumUp : Cond.code yX3_sumUp cX3_sumUp 3 none ∈ BIG := mB 274 (by rfl) (by rfl)
theorem w_ml_X3_18 : Cond.methodLink "FillForecast$Outlook" 18 yX1_weekdayOf ∈ BIG := mB 275 (by decide +kernel) (by decide +kernel)
theorem w_ml_X4_103 : Cond.methodLink "FillForecast" 103 yX3_shareAt ∈ BIG := mB 276 (by decide +kernel) (by decide +kernel)
theorem w_im_X3_shareAt : Cond.instanceMethod yX3_shareAt ∈ BIG := mB 277 (by decide +kernel) (by decide +kernel)
theorem w_sel_X3_shareAt : Cond.selects "FillForecast$Outlook" yX3_shareAt yX3_shareAt ∈ BIG := mB 278 (by decide +kernel) (by decide +kernel)
set_option maxRecDepth 20000 in
theorem w_co_X3_shareAt : Cond.code yX3_shareAt cX3_shareAt 3 (some .long) ∈ BIG := mB 279 (by rfl) (by rfl)
theorem w_ml_X3_24 : Cond.methodLink "FillForecast$Outlook" 24 yX0_placeOfEmptying ∈ BIG := mB 280 (by decide +kernel) (by decide +kernel)
theorem w_ml_X3_29 : Cond.methodLink "FillForecast$Outlook" 29 yX0_latestUpTo ∈ BIG := mB 281 (by decide +kernel) (by decide +kernel)
theorem w_im_X0_latestUpTo : Cond.instanceMethod yX0_latestUpTo ∈ BIG := mB 282 (by decide +kernel) (by decide +kernel)
theorem w_sel_X0_latestUpTo : Cond.selects "FillForecast$Bin" yX0_latestUpTo yX0_latestUpTo ∈ BIG := mB 283 (by decide +kernel) (by decide +kernel)
set_option maxRecDepth 20000 in
theorem w_co_X0_latestUpTo : Cond.code yX0_latestUpTo cX0_latestUpTo 3 (some .int) ∈ BIG := mB 284 (by rfl) (by rfl)
theorem w_ml_X3_32 : Cond.methodLink "FillForecast$Outlook" 32 yX3_shareBy ∈ BIG := mB 285 (by decide +kernel) (by decide +kernel)
theorem w_im_X3_shareBy : Cond.instanceMethod yX3_shareBy ∈ BIG := mB 287 (by decide +kernel) (by decide +kernel)
set_option maxRecDepth 20000 in
theorem w_co_X3_shareBy : Cond.code yX3_shareBy cX3_shareBy 7 (some .long) ∈ BIG := mB 288 (by rfl) (by rfl)
theorem w_ml_X3_39 : Cond.methodLink "FillForecast$Outlook" 39 yX0_hourAt ∈ BIG := mB 289 (by decide +kernel) (by decide +kernel)
theorem w_ml_X3_42 : Cond.methodLink "FillForecast$Outlook" 42 yX0_shareAt ∈ BIG := mB 290 (by decide +kernel) (by decide +kernel)
theorem w_ct_X3_45 : Cond.constantLong "FillForecast$Outlook" 45 24 ∈ BIG := mB 291 (by decide +kernel) (by decide +kernel)
theorem w_ml_X3_47 : Cond.methodLink "FillForecast$Outlook" 47 yX3_gainUpTo ∈ BIG := mB 292 (by decide +kernel) (by decide +kernel)
theorem w_im_X3_gainUpTo : Cond.instanceMethod yX3_gainUpTo ∈ BIG := mB 294 (by decide +kernel) (by decide +kernel)
set_option maxRecDepth 20000 in
theorem w_co_X3_gainUpTo : Cond.code yX3_gainUpTo cX3_gainUpTo 5 (some .long) ∈ BIG := mB 295 (by rfl) (by rfl)
theorem w_ml_L_55 : Cond.methodLink "FillForecastLaw" 55 yX4_wrong ∈ BIG := mB 296 (by decide +kernel) (by decide +kernel)
theorem w_im_X4_wrong : Cond.instanceMethod yX4_wrong ∈ BIG := mB 297 (by decide +kernel) (by decide +kernel)
theorem w_sel_X4_wrong : Cond.selects "FillForecast" yX4_wrong yX4_wrong ∈ BIG := mB 298 (by decide +kernel) (by decide +kernel)
set_option maxRecDepth 20000 in
theorem w_co_X4_wrong : Cond.code yX4_wrong cX4_wrong 4 (some .int) ∈ BIG := mB 299 (by rfl) (by rfl)
theorem w_ml_X4_107 : Cond.methodLink "FillForecast" 107 yX0_hourOfWrong ∈ BIG := mB 300 (by decide +kernel) (by decide +kernel)
theorem w_im_X0_hourOfWrong : Cond.instanceMethod yX0_hourOfWrong ∈ BIG := mB 301 (by decide +kernel) (by decide +kernel)
theorem w_sel_X0_hourOfWrong : Cond.selects "FillForecast$Bin" yX0_hourOfWrong yX0_hourOfWrong ∈ BIG := mB 302 (by decide +kernel) (by decide +kernel)
set_option maxRecDepth 20000 in
theorem w_co_X0_hourOfWrong : Cond.code yX0_hourOfWrong cX0_hourOfWrong 4 (some .int) ∈ BIG := mB 303 (by rfl) (by rfl)
theorem w_ml_L_59 : Cond.methodLink "FillForecastLaw" 59 yX4_quiet ∈ BIG := mB 304 (by decide +kernel) (by decide +kernel)
theorem w_im_X4_quiet : Cond.instanceMethod yX4_quiet ∈ BIG := mB 305 (by decide +kernel) (by decide +kernel)
theorem w_sel_X4_quiet : Cond.selects "FillForecast" yX4_quiet yX4_quiet ∈ BIG := mB 306 (by decide +kernel) (by decide +kernel)
set_option maxRecDepth 20000 in
theorem w_co_X4_quiet : Cond.code yX4_quiet cX4_quiet 2 (some .boolean) ∈ BIG := mB 307 (by rfl) (by rfl)
theorem w_ml_L_64 : Cond.methodLink "FillForecastLaw" 64 yX4_silent ∈ BIG := mB 308 (by decide +kernel) (by decide +kernel)
theorem w_im_X4_silent : Cond.instanceMethod yX4_silent ∈ BIG := mB 309 (by decide +kernel) (by decide +kernel)
theorem w_sel_X4_silent : Cond.selects "FillForecast" yX4_silent yX4_silent ∈ BIG := mB 310 (by decide +kernel) (by decide +kernel)
set_option maxRecDepth 20000 in
theorem w_co_X4_silent : Cond.code yX4_silent cX4_silent 5 (some .int) ∈ BIG := mB 311 (by rfl) (by rfl)
theorem w_ml_X4_110 : Cond.methodLink "FillForecast" 110 yX0_hasRowWithin ∈ BIG := mB 312 (by decide +kernel) (by decide +kernel)
theorem w_im_X0_hasRowWithin : Cond.instanceMethod yX0_hasRowWithin ∈ BIG := mB 313 (by decide +kernel) (by decide +kernel)
theorem w_sel_X0_hasRowWithin : Cond.selects "FillForecast$Bin" yX0_hasRowWithin yX0_hasRowWithin ∈ BIG := mB 314 (by decide +kernel) (by decide +kernel)
set_option maxRecDepth 20000 in
theorem w_co_X0_hasRowWithin : Cond.code yX0_hasRowWithin cX0_hasRowWithin 4 (some .boolean) ∈ BIG := mB 315 (by rfl) (by rfl)
theorem w_ml_L_68 : Cond.methodLink "FillForecastLaw" 68 yX4_over ∈ BIG := mB 317 (by decide +kernel) (by decide +kernel)
theorem w_im_X4_over : Cond.instanceMethod yX4_over ∈ BIG := mB 318 (by decide +kernel) (by decide +kernel)
theorem w_sel_X4_over : Cond.selects "FillForecast" yX4_over yX4_over ∈ BIG := mB 319 (by decide +kernel) (by decide +kernel)
set_option maxRecDepth 20000 in
theorem w_co_X4_over : Cond.code yX4_over cX4_over 5 (some .int) ∈ BIG := mB 320 (by rfl) (by rfl)
theorem w_ct_X4_114 : Cond.constantLong "FillForecast" 114 1000 ∈ BIG := mB 321 (by decide +kernel) (by decide +kernel)
theorem w_ml_L_72 : Cond.methodLink "FillForecastLaw" 72 yX4_cost ∈ BIG := mB 322 (by decide +kernel) (by decide +kernel)
theorem w_im_X4_cost : Cond.instanceMethod yX4_cost ∈ BIG := mB 323 (by decide +kernel) (by decide +kernel)
theorem w_sel_X4_cost : Cond.selects "FillForecast" yX4_cost yX4_cost ∈ BIG := mB 324 (by decide +kernel) (by decide +kernel)
set_option maxRecDepth 20000 in
theorem w_co_X4_cost : Cond.code yX4_cost cX4_cost 3 (some .boolean) ∈ BIG := mB 325 (by rfl) (by rfl)
theorem w_ml_L_76 : Cond.methodLink "FillForecastLaw" 76 yX4_costOf ∈ BIG := mB 326 (by decide +kernel) (by decide +kernel)
theorem w_im_X4_costOf : Cond.instanceMethod yX4_costOf ∈ BIG := mB 327 (by decide +kernel) (by decide +kernel)
theorem w_sel_X4_costOf : Cond.selects "FillForecast" yX4_costOf yX4_costOf ∈ BIG := mB 328 (by decide +kernel) (by decide +kernel)
set_option maxRecDepth 20000 in
theorem w_co_X4_costOf : Cond.code yX4_costOf cX4_costOf 4 (some .long) ∈ BIG := mB 329 (by rfl) (by rfl)
theorem w_ml_X4_116 : Cond.methodLink "FillForecast" 116 yX4_centsOn ∈ BIG := mB 330 (by decide +kernel) (by decide +kernel)
theorem w_im_X4_centsOn : Cond.instanceMethod yX4_centsOn ∈ BIG := mB 332 (by decide +kernel) (by decide +kernel)
set_option maxRecDepth 20000 in
theorem w_co_X4_centsOn : Cond.code yX4_centsOn cX4_centsOn 5 (some .long) ∈ BIG := mB 333 (by rfl) (by rfl)
theorem w_ml_L_80 : Cond.methodLink "FillForecastLaw" 80 yX4_day ∈ BIG := mB 334 (by decide +kernel) (by decide +kernel)
theorem w_im_X4_day : Cond.instanceMethod yX4_day ∈ BIG := mB 335 (by decide +kernel) (by decide +kernel)
theorem w_sel_X4_day : Cond.selects "FillForecast" yX4_day yX4_day ∈ BIG := mB 336 (by decide +kernel) (by decide +kernel)
set_option maxRecDepth 20000 in
theorem w_co_X4_day : Cond.code yX4_day cX4_day 11 (some .int) ∈ BIG := mB 337 (by rfl) (by rfl)
theorem w_ml_L_84 : Cond.methodLink "FillForecastLaw" 84 yX4_check ∈ BIG := mB 338 (by decide +kernel) (by decide +kernel)
theorem w_im_X4_check : Cond.instanceMethod yX4_check ∈ BIG := mB 339 (by decide +kernel) (by decide +kernel)
theorem w_sel_X4_check : Cond.selects "FillForecast" yX4_check yX4_check ∈ BIG := mB 340 (by decide +kernel) (by decide +kernel)
set_option maxRecDepth 20000 in
theorem w_co_X4_check : Cond.code yX4_check cX4_check 7 (some .long) ∈ BIG := mB 341 (by rfl) (by rfl)
theorem w_ml_X4_119 : Cond.methodLink "FillForecast" 119 yX0_indexOfEmptying ∈ BIG := mB 342 (by decide +kernel) (by decide +kernel)
theorem w_im_X0_indexOfEmptying : Cond.instanceMethod yX0_indexOfEmptying ∈ BIG := mB 343 (by decide +kernel) (by decide +kernel)
theorem w_sel_X0_indexOfEmptying : Cond.selects "FillForecast$Bin" yX0_indexOfEmptying yX0_indexOfEmptying ∈ BIG := mB 344 (by decide +kernel) (by decide +kernel)
set_option maxRecDepth 20000 in
theorem w_co_X0_indexOfEmptying : Cond.code yX0_indexOfEmptying cX0_indexOfEmptying 4 (some .int) ∈ BIG := mB 345 (by rfl) (by rfl)
theorem w_ct_X4_124 : Cond.constantLong "FillForecast" 124 (-9223372036854775808) ∈ BIG := mB 346 (by decide +kernel) (by decide +kernel)
theorem w_ml_X4_126 : Cond.methodLink "FillForecast" 126 yX3_shareBefore ∈ BIG := mB 347 (by decide +kernel) (by decide +kernel)
theorem w_im_X3_shareBefore : Cond.instanceMethod yX3_shareBefore ∈ BIG := mB 348 (by decide +kernel) (by decide +kernel)
theorem w_sel_X3_shareBefore : Cond.selects "FillForecast$Outlook" yX3_shareBefore yX3_shareBefore ∈ BIG := mB 349 (by decide +kernel) (by decide +kernel)
set_option maxRecDepth 20000 in
theorem w_co_X3_shareBefore : Cond.code yX3_shareBefore cX3_shareBefore 3 (some .long) ∈ BIG := mB 350 (by rfl) (by rfl)
theorem w_ml_X3_36 : Cond.methodLink "FillForecast$Outlook" 36 yX0_placeAt ∈ BIG := mB 351 (by decide +kernel) (by decide +kernel)
theorem w_im_X0_placeAt : Cond.instanceMethod yX0_placeAt ∈ BIG := mB 352 (by decide +kernel) (by decide +kernel)
theorem w_sel_X0_placeAt : Cond.selects "FillForecast$Bin" yX0_placeAt yX0_placeAt ∈ BIG := mB 353 (by decide +kernel) (by decide +kernel)
set_option maxRecDepth 20000 in
theorem w_co_X0_placeAt : Cond.code yX0_placeAt cX0_placeAt 2 (some .int) ∈ BIG := mB 354 (by rfl) (by rfl)
theorem w_ml_X4_129 : Cond.methodLink "FillForecast" 129 yX0_amountAt ∈ BIG := mB 355 (by decide +kernel) (by decide +kernel)
theorem w_im_X0_amountAt : Cond.instanceMethod yX0_amountAt ∈ BIG := mB 356 (by decide +kernel) (by decide +kernel)
theorem w_sel_X0_amountAt : Cond.selects "FillForecast$Bin" yX0_amountAt yX0_amountAt ∈ BIG := mB 357 (by decide +kernel) (by decide +kernel)
set_option maxRecDepth 20000 in
theorem w_co_X0_amountAt : Cond.code yX0_amountAt cX0_amountAt 2 (some .int) ∈ BIG := mB 358 (by rfl) (by rfl)
theorem w_ml_X4_132 : Cond.methodLink "FillForecast" 132 yX0_roomInKilograms ∈ BIG := mB 359 (by decide +kernel) (by decide +kernel)
theorem w_im_X0_roomInKilograms : Cond.instanceMethod yX0_roomInKilograms ∈ BIG := mB 360 (by decide +kernel) (by decide +kernel)
theorem w_sel_X0_roomInKilograms : Cond.selects "FillForecast$Bin" yX0_roomInKilograms yX0_roomInKilograms ∈ BIG := mB 361 (by decide +kernel) (by decide +kernel)
set_option maxRecDepth 20000 in
theorem w_co_X0_roomInKilograms : Cond.code yX0_roomInKilograms cX0_roomInKilograms 1 (some .int) ∈ BIG := mB 362 (by rfl) (by rfl)
theorem w_cl_L_10 : Cond.classLink "FillForecastLaw" 10 "FillForecastModel" ∈ BIG := mB 363 (by decide +kernel) (by decide +kernel)
theorem w_ins_X5 : Cond.instantiable "FillForecastModel" 23 ∈ BIG := mB 364 (by decide +kernel) (by decide +kernel)
theorem w_ml_L_12 : Cond.methodLink "FillForecastLaw" 12 yX5_init ∈ BIG := mB 365 (by decide +kernel) (by decide +kernel)
theorem w_im_X5_init : Cond.instanceMethod yX5_init ∈ BIG := mB 366 (by decide +kernel) (by decide +kernel)
set_option maxRecDepth 20000 in
theorem w_co_X5_init : Cond.code yX5_init cX5_init 1 none ∈ BIG := mB 367 (by rfl) (by rfl)
theorem w_ml_X5_1 : Cond.methodLink "FillForecastModel" 1 objectInit ∈ BIG := mB 368 (by decide +kernel) (by decide +kernel)
theorem w_fl_X5_76 : Cond.fieldLink "FillForecastModel" 76 "FillForecastModel" "bins" "I" ∈ BIG := mB 369 (by decide +kernel) (by decide +kernel)
theorem w_fl_X5_7 : Cond.fieldLink "FillForecastModel" 7 "FillForecastModel" "streets" "[I" ∈ BIG := mB 370 (by decide +kernel) (by decide +kernel)
theorem w_fl_X5_13 : Cond.fieldLink "FillForecastModel" 13 "FillForecastModel" "rooms" "[I" ∈ BIG := mB 371 (by decide +kernel) (by decide +kernel)
theorem w_fl_X5_16 : Cond.fieldLink "FillForecastModel" 16 "FillForecastModel" "rowCounts" "[I" ∈ BIG := mB 372 (by decide +kernel) (by decide +kernel)
theorem w_fl_X5_19 : Cond.fieldLink "FillForecastModel" 19 "FillForecastModel" "rowHours" "[I" ∈ BIG := mB 373 (by decide +kernel) (by decide +kernel)
theorem w_fl_X5_22 : Cond.fieldLink "FillForecastModel" 22 "FillForecastModel" "rowShares" "[I" ∈ BIG := mB 374 (by decide +kernel) (by decide +kernel)
theorem w_fl_X5_25 : Cond.fieldLink "FillForecastModel" 25 "FillForecastModel" "emptyCounts" "[I" ∈ BIG := mB 375 (by decide +kernel) (by decide +kernel)
theorem w_fl_X5_28 : Cond.fieldLink "FillForecastModel" 28 "FillForecastModel" "emptyHours" "[I" ∈ BIG := mB 376 (by decide +kernel) (by decide +kernel)
theorem w_fl_X5_31 : Cond.fieldLink "FillForecastModel" 31 "FillForecastModel" "kilograms" "[I" ∈ BIG := mB 377 (by decide +kernel) (by decide +kernel)
theorem w_fl_X5_34 : Cond.fieldLink "FillForecastModel" 34 "FillForecastModel" "over" "I" ∈ BIG := mB 378 (by decide +kernel) (by decide +kernel)
theorem w_fl_X5_38 : Cond.fieldLink "FillForecastModel" 38 "FillForecastModel" "under" "I" ∈ BIG := mB 379 (by decide +kernel) (by decide +kernel)
theorem w_fl_X5_41 : Cond.fieldLink "FillForecastModel" 41 "FillForecastModel" "isHoliday" "[Z" ∈ BIG := mB 380 (by decide +kernel) (by decide +kernel)
theorem w_fl_X5_45 : Cond.fieldLink "FillForecastModel" 45 "FillForecastModel" "quiet" "I" ∈ BIG := mB 381 (by decide +kernel) (by decide +kernel)
theorem w_fl_X5_48 : Cond.fieldLink "FillForecastModel" 48 "FillForecastModel" "early" "I" ∈ BIG := mB 382 (by decide +kernel) (by decide +kernel)
theorem w_fl_X5_51 : Cond.fieldLink "FillForecastModel" 51 "FillForecastModel" "late" "I" ∈ BIG := mB 383 (by decide +kernel) (by decide +kernel)
theorem w_fl_X5_94 : Cond.fieldLink "FillForecastModel" 94 "FillForecastModel" "points" "I" ∈ BIG := mB 384 (by decide +kernel) (by decide +kernel)
theorem w_fl_X5_54 : Cond.fieldLink "FillForecastModel" 54 "FillForecastModel" "hours" "[I" ∈ BIG := mB 385 (by decide +kernel) (by decide +kernel)
theorem w_fl_X5_57 : Cond.fieldLink "FillForecastModel" 57 "FillForecastModel" "shares" "[I" ∈ BIG := mB 386 (by decide +kernel) (by decide +kernel)
theorem w_fl_X5_60 : Cond.fieldLink "FillForecastModel" 60 "FillForecastModel" "isEmptying" "[Z" ∈ BIG := mB 387 (by decide +kernel) (by decide +kernel)
theorem w_fl_X5_63 : Cond.fieldLink "FillForecastModel" 63 "FillForecastModel" "isWrong" "[Z" ∈ BIG := mB 388 (by decide +kernel) (by decide +kernel)
theorem w_fl_X5_66 : Cond.fieldLink "FillForecastModel" 66 "FillForecastModel" "gains" "[I" ∈ BIG := mB 389 (by decide +kernel) (by decide +kernel)
theorem w_fl_X5_69 : Cond.fieldLink "FillForecastModel" 69 "FillForecastModel" "rates" "[I" ∈ BIG := mB 390 (by decide +kernel) (by decide +kernel)
theorem w_fl_X5_72 : Cond.fieldLink "FillForecastModel" 72 "FillForecastModel" "sums" "[J" ∈ BIG := mB 391 (by decide +kernel) (by decide +kernel)
theorem w_ac_long : Cond.arrayClass .long ∈ BIG := mB 439 (by decide +kernel) (by decide +kernel)
theorem w_ml_L_17 : Cond.methodLink "FillForecastLaw" 17 yX5_bin ∈ BIG := mB 440 (by decide +kernel) (by decide +kernel)
theorem w_im_X5_bin : Cond.instanceMethod yX5_bin ∈ BIG := mB 441 (by decide +kernel) (by decide +kernel)
theorem w_sel_X5_bin : Cond.selects "FillForecastModel" yX5_bin yX5_bin ∈ BIG := mB 442 (by decide +kernel) (by decide +kernel)
set_option maxRecDepth 20000 in
theorem w_co_X5_bin : Cond.code yX5_bin cX5_bin 3 (some .int) ∈ BIG := mB 443 (by rfl) (by rfl)
theorem w_ml_X5_79 : Cond.methodLink "FillForecastModel" 79 yX5_isIn ∈ BIG := mB 444 (by decide +kernel) (by decide +kernel)
theorem w_sm_X5_isIn : Cond.static yX5_isIn ∈ BIG := mB 445 (by decide +kernel) (by decide +kernel)
set_option maxRecDepth 20000 in
theorem w_co_X5_isIn : Cond.code yX5_isIn cX5_isIn 3 (some .boolean) ∈ BIG := mB 446 (by rfl) (by rfl)
theorem w_ml_L_22 : Cond.methodLink "FillForecastLaw" 22 yX5_row ∈ BIG := mB 447 (by decide +kernel) (by decide +kernel)
theorem w_im_X5_row : Cond.instanceMethod yX5_row ∈ BIG := mB 448 (by decide +kernel) (by decide +kernel)
theorem w_sel_X5_row : Cond.selects "FillForecastModel" yX5_row yX5_row ∈ BIG := mB 449 (by decide +kernel) (by decide +kernel)
set_option maxRecDepth 20000 in
theorem w_co_X5_row : Cond.code yX5_row cX5_row 5 (some .int) ∈ BIG := mB 450 (by rfl) (by rfl)
theorem w_ml_X5_83 : Cond.methodLink "FillForecastModel" 83 yX5_isBin ∈ BIG := mB 451 (by decide +kernel) (by decide +kernel)
theorem w_im_X5_isBin : Cond.instanceMethod yX5_isBin ∈ BIG := mB 453 (by decide +kernel) (by decide +kernel)
set_option maxRecDepth 20000 in
theorem w_co_X5_isBin : Cond.code yX5_isBin cX5_isBin 2 (some .boolean) ∈ BIG := mB 454 (by rfl) (by rfl)
theorem w_ml_X5_87 : Cond.methodLink "FillForecastModel" 87 yX5_isHour ∈ BIG := mB 455 (by decide +kernel) (by decide +kernel)
theorem w_sm_X5_isHour : Cond.static yX5_isHour ∈ BIG := mB 456 (by decide +kernel) (by decide +kernel)
set_option maxRecDepth 20000 in
theorem w_co_X5_isHour : Cond.code yX5_isHour cX5_isHour 1 (some .boolean) ∈ BIG := mB 457 (by rfl) (by rfl)
theorem w_ml_L_26 : Cond.methodLink "FillForecastLaw" 26 yX5_emptied ∈ BIG := mB 458 (by decide +kernel) (by decide +kernel)
theorem w_im_X5_emptied : Cond.instanceMethod yX5_emptied ∈ BIG := mB 459 (by decide +kernel) (by decide +kernel)
theorem w_sel_X5_emptied : Cond.selects "FillForecastModel" yX5_emptied yX5_emptied ∈ BIG := mB 460 (by decide +kernel) (by decide +kernel)
set_option maxRecDepth 20000 in
theorem w_co_X5_emptied : Cond.code yX5_emptied cX5_emptied 5 (some .int) ∈ BIG := mB 461 (by rfl) (by rfl)
theorem w_ct_X5_90 : Cond.constant "FillForecastModel" 90 100000 ∈ BIG := mB 462 (by decide +kernel) (by decide +kernel)
theorem w_ml_L_31 : Cond.methodLink "FillForecastLaw" 31 yX5_fade ∈ BIG := mB 463 (by decide +kernel) (by decide +kernel)
theorem w_im_X5_fade : Cond.instanceMethod yX5_fade ∈ BIG := mB 464 (by decide +kernel) (by decide +kernel)
theorem w_sel_X5_fade : Cond.selects "FillForecastModel" yX5_fade yX5_fade ∈ BIG := mB 465 (by decide +kernel) (by decide +kernel)
set_option maxRecDepth 20000 in
theorem w_co_X5_fade : Cond.code yX5_fade cX5_fade 3 (some .boolean) ∈ BIG := mB 466 (by rfl) (by rfl)
theorem w_ml_L_36 : Cond.methodLink "FillForecastLaw" 36 yX5_holiday ∈ BIG := mB 467 (by decide +kernel) (by decide +kernel)
theorem w_im_X5_holiday : Cond.instanceMethod yX5_holiday ∈ BIG := mB 468 (by decide +kernel) (by decide +kernel)
theorem w_sel_X5_holiday : Cond.selects "FillForecastModel" yX5_holiday yX5_holiday ∈ BIG := mB 469 (by decide +kernel) (by decide +kernel)
set_option maxRecDepth 20000 in
theorem w_co_X5_holiday : Cond.code yX5_holiday cX5_holiday 3 (some .boolean) ∈ BIG := mB 470 (by rfl) (by rfl)
theorem w_ml_X5_91 : Cond.methodLink "FillForecastModel" 91 yX5_isDay ∈ BIG := mB 471 (by decide +kernel) (by decide +kernel)
theorem w_sm_X5_isDay : Cond.static yX5_isDay ∈ BIG := mB 472 (by decide +kernel) (by decide +kernel)
set_option maxRecDepth 20000 in
theorem w_co_X5_isDay : Cond.code yX5_isDay cX5_isDay 1 (some .boolean) ∈ BIG := mB 473 (by rfl) (by rfl)
theorem w_ml_L_63 : Cond.methodLink "FillForecastLaw" 63 yX5_quiet ∈ BIG := mB 474 (by decide +kernel) (by decide +kernel)
theorem w_im_X5_quiet : Cond.instanceMethod yX5_quiet ∈ BIG := mB 475 (by decide +kernel) (by decide +kernel)
theorem w_sel_X5_quiet : Cond.selects "FillForecastModel" yX5_quiet yX5_quiet ∈ BIG := mB 476 (by decide +kernel) (by decide +kernel)
set_option maxRecDepth 20000 in
theorem w_co_X5_quiet : Cond.code yX5_quiet cX5_quiet 2 (some .boolean) ∈ BIG := mB 477 (by rfl) (by rfl)
theorem w_ml_L_75 : Cond.methodLink "FillForecastLaw" 75 yX5_cost ∈ BIG := mB 478 (by decide +kernel) (by decide +kernel)
theorem w_im_X5_cost : Cond.instanceMethod yX5_cost ∈ BIG := mB 479 (by decide +kernel) (by decide +kernel)
theorem w_sel_X5_cost : Cond.selects "FillForecastModel" yX5_cost yX5_cost ∈ BIG := mB 480 (by decide +kernel) (by decide +kernel)
set_option maxRecDepth 20000 in
theorem w_co_X5_cost : Cond.code yX5_cost cX5_cost 3 (some .boolean) ∈ BIG := mB 481 (by rfl) (by rfl)
theorem w_ml_L_49 : Cond.methodLink "FillForecastLaw" 49 yX5_weight ∈ BIG := mB 482 (by decide +kernel) (by decide +kernel)
theorem w_im_X5_weight : Cond.instanceMethod yX5_weight ∈ BIG := mB 483 (by decide +kernel) (by decide +kernel)
theorem w_sel_X5_weight : Cond.selects "FillForecastModel" yX5_weight yX5_weight ∈ BIG := mB 484 (by decide +kernel) (by decide +kernel)
set_option maxRecDepth 20000 in
theorem w_co_X5_weight : Cond.code yX5_weight cX5_weight 2 (some .int) ∈ BIG := mB 485 (by rfl) (by rfl)
theorem w_ml_X5_101 : Cond.methodLink "FillForecastModel" 101 yX5_weightOf ∈ BIG := mB 486 (by decide +kernel) (by decide +kernel)
theorem w_im_X5_weightOf : Cond.instanceMethod yX5_weightOf ∈ BIG := mB 488 (by decide +kernel) (by decide +kernel)
set_option maxRecDepth 20000 in
theorem w_co_X5_weightOf : Cond.code yX5_weightOf cX5_weightOf 4 (some .int) ∈ BIG := mB 489 (by rfl) (by rfl)
theorem w_ml_L_40 : Cond.methodLink "FillForecastLaw" 40 yX5_mean ∈ BIG := mB 490 (by decide +kernel) (by decide +kernel)
theorem w_im_X5_mean : Cond.instanceMethod yX5_mean ∈ BIG := mB 491 (by decide +kernel) (by decide +kernel)
theorem w_sel_X5_mean : Cond.selects "FillForecastModel" yX5_mean yX5_mean ∈ BIG := mB 492 (by decide +kernel) (by decide +kernel)
set_option maxRecDepth 20000 in
theorem w_co_X5_mean : Cond.code yX5_mean cX5_mean 3 (some .int) ∈ BIG := mB 493 (by rfl) (by rfl)
theorem w_ml_X5_112 : Cond.methodLink "FillForecastModel" 112 yX5_meanOf ∈ BIG := mB 494 (by decide +kernel) (by decide +kernel)
theorem w_im_X5_meanOf : Cond.instanceMethod yX5_meanOf ∈ BIG := mB 496 (by decide +kernel) (by decide +kernel)
set_option maxRecDepth 20000 in
theorem w_co_X5_meanOf : Cond.code yX5_meanOf cX5_meanOf 9 (some .int) ∈ BIG := mB 497 (by rfl) (by rfl)
theorem w_ml_X5_105 : Cond.methodLink "FillForecastModel" 105 yX5_layOut ∈ BIG := mB 498 (by decide +kernel) (by decide +kernel)
theorem w_im_X5_layOut : Cond.instanceMethod yX5_layOut ∈ BIG := mB 500 (by decide +kernel) (by decide +kernel)
set_option maxRecDepth 20000 in
theorem w_co_X5_layOut : Cond.code yX5_layOut cX5_layOut 5 none ∈ BIG := mB 501 (by rfl) (by rfl)
theorem w_ml_X5_97 : Cond.methodLink "FillForecastModel" 97 yX5_place ∈ BIG := mB 502 (by decide +kernel) (by decide +kernel)
theorem w_im_X5_place : Cond.instanceMethod yX5_place ∈ BIG := mB 504 (by decide +kernel) (by decide +kernel)
set_option maxRecDepth 20000 in
theorem w_co_X5_place : Cond.code yX5_place cX5_place 5 none ∈ BIG := mB 505 (by rfl) (by rfl)
theorem w_ml_X5_109 : Cond.methodLink "FillForecastModel" 109 yX5_weekdayOf ∈ BIG := mB 506 (by decide +kernel) (by decide +kernel)
theorem w_im_X5_weekdayOf : Cond.instanceMethod yX5_weekdayOf ∈ BIG := mB 508 (by decide +kernel) (by decide +kernel)
set_option maxRecDepth 20000 in
theorem w_co_X5_weekdayOf : Cond.code yX5_weekdayOf cX5_weekdayOf 2 (some .int) ∈ BIG := mB 509 (by rfl) (by rfl)
theorem w_ml_L_44 : Cond.methodLink "FillForecastLaw" 44 yX5_rate ∈ BIG := mB 510 (by decide +kernel) (by decide +kernel)
theorem w_im_X5_rate : Cond.instanceMethod yX5_rate ∈ BIG := mB 511 (by decide +kernel) (by decide +kernel)
theorem w_sel_X5_rate : Cond.selects "FillForecastModel" yX5_rate yX5_rate ∈ BIG := mB 512 (by decide +kernel) (by decide +kernel)
set_option maxRecDepth 20000 in
theorem w_co_X5_rate : Cond.code yX5_rate cX5_rate 3 (some .int) ∈ BIG := mB 513 (by rfl) (by rfl)
theorem w_ml_X5_116 : Cond.methodLink "FillForecastModel" 116 yX5_rateOf ∈ BIG := mB 514 (by decide +kernel) (by decide +kernel)
theorem w_im_X5_rateOf : Cond.instanceMethod yX5_rateOf ∈ BIG := mB 516 (by decide +kernel) (by decide +kernel)
set_option maxRecDepth 20000 in
theorem w_co_X5_rateOf : Cond.code yX5_rateOf cX5_rateOf 8 (some .int) ∈ BIG := mB 517 (by rfl) (by rfl)
theorem w_ml_L_54 : Cond.methodLink "FillForecastLaw" 54 yX5_expected ∈ BIG := mB 518 (by decide +kernel) (by decide +kernel)
theorem w_im_X5_expected : Cond.instanceMethod yX5_expected ∈ BIG := mB 519 (by decide +kernel) (by decide +kernel)
theorem w_sel_X5_expected : Cond.selects "FillForecastModel" yX5_expected yX5_expected ∈ BIG := mB 520 (by decide +kernel) (by decide +kernel)
set_option maxRecDepth 20000 in
theorem w_co_X5_expected : Cond.code yX5_expected cX5_expected 3 (some .long) ∈ BIG := mB 521 (by rfl) (by rfl)
theorem w_ct_X5_121 : Cond.constantLong "FillForecastModel" 121 (-1) ∈ BIG := mB 522 (by decide +kernel) (by decide +kernel)
theorem w_ml_X5_123 : Cond.methodLink "FillForecastModel" 123 yX5_prepare ∈ BIG := mB 523 (by decide +kernel) (by decide +kernel)
theorem w_im_X5_prepare : Cond.instanceMethod yX5_prepare ∈ BIG := mB 525 (by decide +kernel) (by decide +kernel)
set_option maxRecDepth 20000 in
theorem w_co_X5_prepare : Cond.code yX5_prepare cX5_prepare 3 none ∈ BIG := mB 526 (by rfl) (by rfl)
theorem w_ml_X5_126 : Cond.methodLink "FillForecastModel" 126 yX5_expectedBy ∈ BIG := mB 527 (by decide +kernel) (by decide +kernel)
theorem w_im_X5_expectedBy : Cond.instanceMethod yX5_expectedBy ∈ BIG := mB 529 (by decide +kernel) (by decide +kernel)
set_option maxRecDepth 20000 in
theorem w_co_X5_expectedBy : Cond.code yX5_expectedBy cX5_expectedBy 8 (some .long) ∈ BIG := mB 530 (by rfl) (by rfl)
theorem w_ct_X5_119 : Cond.constantLong "FillForecastModel" 119 24 ∈ BIG := mB 531 (by decide +kernel) (by decide +kernel)
theorem w_ml_L_58 : Cond.methodLink "FillForecastLaw" 58 yX5_wrong ∈ BIG := mB 532 (by decide +kernel) (by decide +kernel)
theorem w_im_X5_wrong : Cond.instanceMethod yX5_wrong ∈ BIG := mB 533 (by decide +kernel) (by decide +kernel)
theorem w_sel_X5_wrong : Cond.selects "FillForecastModel" yX5_wrong yX5_wrong ∈ BIG := mB 534 (by decide +kernel) (by decide +kernel)
set_option maxRecDepth 20000 in
theorem w_co_X5_wrong : Cond.code yX5_wrong cX5_wrong 5 (some .int) ∈ BIG := mB 535 (by rfl) (by rfl)
theorem w_ml_L_67 : Cond.methodLink "FillForecastLaw" 67 yX5_silent ∈ BIG := mB 536 (by decide +kernel) (by decide +kernel)
theorem w_im_X5_silent : Cond.instanceMethod yX5_silent ∈ BIG := mB 537 (by decide +kernel) (by decide +kernel)
theorem w_sel_X5_silent : Cond.selects "FillForecastModel" yX5_silent yX5_silent ∈ BIG := mB 538 (by decide +kernel) (by decide +kernel)
set_option maxRecDepth 20000 in
theorem w_co_X5_silent : Cond.code yX5_silent cX5_silent 5 (some .int) ∈ BIG := mB 539 (by rfl) (by rfl)
theorem w_ml_X5_130 : Cond.methodLink "FillForecastModel" 130 yX5_isSilent ∈ BIG := mB 540 (by decide +kernel) (by decide +kernel)
theorem w_im_X5_isSilent : Cond.instanceMethod yX5_isSilent ∈ BIG := mB 542 (by decide +kernel) (by decide +kernel)
set_option maxRecDepth 20000 in
theorem w_co_X5_isSilent : Cond.code yX5_isSilent cX5_isSilent 6 (some .boolean) ∈ BIG := mB 543 (by rfl) (by rfl)
theorem w_ml_L_71 : Cond.methodLink "FillForecastLaw" 71 yX5_over ∈ BIG := mB 544 (by decide +kernel) (by decide +kernel)
theorem w_im_X5_over : Cond.instanceMethod yX5_over ∈ BIG := mB 545 (by decide +kernel) (by decide +kernel)
theorem w_sel_X5_over : Cond.selects "FillForecastModel" yX5_over yX5_over ∈ BIG := mB 546 (by decide +kernel) (by decide +kernel)
set_option maxRecDepth 20000 in
theorem w_co_X5_over : Cond.code yX5_over cX5_over 5 (some .int) ∈ BIG := mB 547 (by rfl) (by rfl)
theorem w_ml_X5_134 : Cond.methodLink "FillForecastModel" 134 yX5_expected ∈ BIG := mB 548 (by decide +kernel) (by decide +kernel)
theorem w_ct_X5_137 : Cond.constantLong "FillForecastModel" 137 1000 ∈ BIG := mB 549 (by decide +kernel) (by decide +kernel)
theorem w_ml_L_79 : Cond.methodLink "FillForecastLaw" 79 yX5_costOf ∈ BIG := mB 550 (by decide +kernel) (by decide +kernel)
theorem w_im_X5_costOf : Cond.instanceMethod yX5_costOf ∈ BIG := mB 551 (by decide +kernel) (by decide +kernel)
theorem w_sel_X5_costOf : Cond.selects "FillForecastModel" yX5_costOf yX5_costOf ∈ BIG := mB 552 (by decide +kernel) (by decide +kernel)
set_option maxRecDepth 20000 in
theorem w_co_X5_costOf : Cond.code yX5_costOf cX5_costOf 3 (some .long) ∈ BIG := mB 553 (by rfl) (by rfl)
theorem w_ml_X5_139 : Cond.methodLink "FillForecastModel" 139 yX5_costOn ∈ BIG := mB 554 (by decide +kernel) (by decide +kernel)
theorem w_im_X5_costOn : Cond.instanceMethod yX5_costOn ∈ BIG := mB 556 (by decide +kernel) (by decide +kernel)
set_option maxRecDepth 20000 in
theorem w_co_X5_costOn : Cond.code yX5_costOn cX5_costOn 4 (some .long) ∈ BIG := mB 557 (by rfl) (by rfl)
theorem w_ml_L_83 : Cond.methodLink "FillForecastLaw" 83 yX5_day ∈ BIG := mB 558 (by decide +kernel) (by decide +kernel)
theorem w_im_X5_day : Cond.instanceMethod yX5_day ∈ BIG := mB 559 (by decide +kernel) (by decide +kernel)
theorem w_sel_X5_day : Cond.selects "FillForecastModel" yX5_day yX5_day ∈ BIG := mB 560 (by decide +kernel) (by decide +kernel)
set_option maxRecDepth 20000 in
theorem w_co_X5_day : Cond.code yX5_day cX5_day 6 (some .int) ∈ BIG := mB 561 (by rfl) (by rfl)
theorem w_ml_L_87 : Cond.methodLink "FillForecastLaw" 87 yX5_check ∈ BIG := mB 562 (by decide +kernel) (by decide +kernel)
theorem w_im_X5_check : Cond.instanceMethod yX5_check ∈ BIG := mB 563 (by decide +kernel) (by decide +kernel)
theorem w_sel_X5_check : Cond.selects "FillForecastModel" yX5_check yX5_check ∈ BIG := mB 564 (by decide +kernel) (by decide +kernel)
set_option maxRecDepth 20000 in
theorem w_co_X5_check : Cond.code yX5_check cX5_check 7 (some .long) ∈ BIG := mB 565 (by rfl) (by rfl)
theorem w_ct_X5_143 : Cond.constantLong "FillForecastModel" 143 (-9223372036854775808) ∈ BIG := mB 566 (by decide +kernel) (by decide +kernel)
theorem hiX0 : ∀ w ∈ wsX00, w ∈ BIG := by
  have h : ∀ w ∈ wsX00, w ∈ lw_tbl ∧ goodWord w = true := by decide +kernel
  exact fun w hw => List.mem_filter.mpr ⟨(h w hw).1, (h w hw).2⟩
theorem hiX1 : ∀ w ∈ wsX10, w ∈ BIG := by
  have h : ∀ w ∈ wsX10, w ∈ lw_tbl ∧ goodWord w = true := by decide +kernel
  exact fun w hw => List.mem_filter.mpr ⟨(h w hw).1, (h w hw).2⟩
theorem hiX2 : ∀ w ∈ wsX20, w ∈ BIG := by
  have h : ∀ w ∈ wsX20, w ∈ lw_tbl ∧ goodWord w = true := by decide +kernel
  exact fun w hw => List.mem_filter.mpr ⟨(h w hw).1, (h w hw).2⟩
theorem hiX3 : ∀ w ∈ wsX30, w ∈ BIG := by
  have h : ∀ w ∈ wsX30, w ∈ lw_tbl ∧ goodWord w = true := by decide +kernel
  exact fun w hw => List.mem_filter.mpr ⟨(h w hw).1, (h w hw).2⟩
theorem hiX4 : ∀ w ∈ wsX40, w ∈ BIG := by
  have h : ∀ w ∈ wsX40, w ∈ lw_tbl ∧ goodWord w = true := by decide +kernel
  exact fun w hw => List.mem_filter.mpr ⟨(h w hw).1, (h w hw).2⟩
theorem hiX5 : ∀ w ∈ wsX50, w ∈ BIG := by
  have h : ∀ w ∈ wsX50, w ∈ lw_tbl ∧ goodWord w = true := by decide +kernel
  exact fun w hw => List.mem_filter.mpr ⟨(h w hw).1, (h w hw).2⟩
abbrev wsX4_init : List Cond := .code yX4_init cX4_init 1 none :: BIG
abbrev wsX1_init : List Cond := .code yX1_init cX1_init 1 none :: BIG
abbrev wsX2_init : List Cond := .code yX2_init cX2_init 1 none :: BIG
abbrev wsX2_setTo : List Cond := .code yX2_setTo cX2_setTo 6 none :: BIG
abbrev wsX3_init : List Cond := .code yX3_init cX3_init 1 none :: BIG
abbrev wsX4_bin : List Cond := .code yX4_bin cX4_bin 3 (some .int) :: BIG
abbrev wsX4_isWithin : List Cond := .code yX4_isWithin cX4_isWithin 3 (some .boolean) :: BIG
abbrev wsX0_init : List Cond := .code yX0_init cX0_init 3 none :: BIG
abbrev wsX4_row : List Cond := .code yX4_row cX4_row 5 (some .int) :: BIG
abbrev wsX4_binOf : List Cond := .code yX4_binOf cX4_binOf 2 (some (.object "FillForecast$Bin")) :: BIG
abbrev wsX4_isHour : List Cond := .code yX4_isHour cX4_isHour 1 (some .boolean) :: BIG
abbrev wsX0_putRow : List Cond := .code yX0_putRow cX0_putRow 5 (some .int) :: BIG
abbrev wsX0_placeOfRow : List Cond := .code yX0_placeOfRow cX0_placeOfRow 1 (some .int) :: BIG
abbrev wsX0_indexFor : List Cond := .code yX0_indexFor cX0_indexFor 3 (some .int) :: BIG
abbrev wsX0_isTaken : List Cond := .code yX0_isTaken cX0_isTaken 3 (some .boolean) :: BIG
abbrev wsX0_open : List Cond := .code yX0_open cX0_open 4 none :: BIG
abbrev wsX0_judge : List Cond := .code yX0_judge cX0_judge 4 none :: BIG
abbrev wsX0_isRow : List Cond := .code yX0_isRow cX0_isRow 2 (some .boolean) :: BIG
abbrev wsX0_shareAt : List Cond := .code yX0_shareAt cX0_shareAt 2 (some .int) :: BIG
abbrev wsX0_gainFrom : List Cond := .code yX0_gainFrom cX0_gainFrom 4 (some .int) :: BIG
abbrev wsX0_hourAt : List Cond := .code yX0_hourAt cX0_hourAt 2 (some .int) :: BIG
abbrev wsX4_emptied : List Cond := .code yX4_emptied cX4_emptied 5 (some .int) :: BIG
abbrev wsX0_putEmptying : List Cond := .code yX0_putEmptying cX0_putEmptying 5 (some .int) :: BIG
abbrev wsX0_placeOfEmptying : List Cond := .code yX0_placeOfEmptying cX0_placeOfEmptying 1 (some .int) :: BIG
abbrev wsX4_fade : List Cond := .code yX4_fade cX4_fade 3 (some .boolean) :: BIG
abbrev wsX4_holiday : List Cond := .code yX4_holiday cX4_holiday 3 (some .boolean) :: BIG
abbrev wsX4_isDay : List Cond := .code yX4_isDay cX4_isDay 1 (some .boolean) :: BIG
abbrev wsX1_mark : List Cond := .code yX1_mark cX1_mark 3 none :: BIG
abbrev wsX4_mean : List Cond := .code yX4_mean cX4_mean 4 (some .int) :: BIG
abbrev wsX0_meanOn : List Cond := .code yX0_meanOn cX0_meanOn 12 (some .int) :: BIG
abbrev wsX1_weekdayOf : List Cond := .code yX1_weekdayOf cX1_weekdayOf 2 (some .int) :: BIG
abbrev wsX2_weightOf : List Cond := .code yX2_weightOf cX2_weightOf 2 (some .int) :: BIG
abbrev wsX4_rate : List Cond := .code yX4_rate cX4_rate 4 (some .int) :: BIG
abbrev wsX4_rateOn : List Cond := .code yX4_rateOn cX4_rateOn 4 (some .int) :: BIG
abbrev wsX0_streetNumber : List Cond := .code yX0_streetNumber cX0_streetNumber 1 (some .int) :: BIG
abbrev wsX4_streetRateOn : List Cond := .code yX4_streetRateOn cX4_streetRateOn 8 (some .int) :: BIG
abbrev wsX4_weight : List Cond := .code yX4_weight cX4_weight 2 (some .int) :: BIG
abbrev wsX4_expected : List Cond := .code yX4_expected cX4_expected 4 (some .long) :: BIG
abbrev wsX4_lookAhead : List Cond := .code yX4_lookAhead cX4_lookAhead 3 none :: BIG
abbrev wsX3_setRate : List Cond := .code yX3_setRate cX3_setRate 3 none :: BIG
abbrev wsX3_sumUp : List Cond := .code yX3_sumUp cX3_sumUp 3 none :: BIG
abbrev wsX3_shareAt : List Cond := .code yX3_shareAt cX3_shareAt 3 (some .long) :: BIG
abbrev wsX0_latestUpTo : List Cond := .code yX0_latestUpTo cX0_latestUpTo 3 (some .int) :: BIG
abbrev wsX3_shareBy : List Cond := .code yX3_shareBy cX3_shareBy 7 (some .long) :: BIG
abbrev wsX3_gainUpTo : List Cond := .code yX3_gainUpTo cX3_gainUpTo 5 (some .long) :: BIG
abbrev wsX4_wrong : List Cond := .code yX4_wrong cX4_wrong 4 (some .int) :: BIG
abbrev wsX0_hourOfWrong : List Cond := .code yX0_hourOfWrong cX0_hourOfWrong 4 (some .int) :: BIG
abbrev wsX4_quiet : List Cond := .code yX4_quiet cX4_quiet 2 (some .boolean) :: BIG
abbrev wsX4_silent : List Cond := .code yX4_silent cX4_silent 5 (some .int) :: BIG
abbrev wsX0_hasRowWithin : List Cond := .code yX0_hasRowWithin cX0_hasRowWithin 4 (some .boolean) :: BIG
abbrev wsX4_over : List Cond := .code yX4_over cX4_over 5 (some .int) :: BIG
abbrev wsX4_cost : List Cond := .code yX4_cost cX4_cost 3 (some .boolean) :: BIG
abbrev wsX4_costOf : List Cond := .code yX4_costOf cX4_costOf 4 (some .long) :: BIG
abbrev wsX4_centsOn : List Cond := .code yX4_centsOn cX4_centsOn 5 (some .long) :: BIG
abbrev wsX4_day : List Cond := .code yX4_day cX4_day 11 (some .int) :: BIG
abbrev wsX4_check : List Cond := .code yX4_check cX4_check 7 (some .long) :: BIG
abbrev wsX0_indexOfEmptying : List Cond := .code yX0_indexOfEmptying cX0_indexOfEmptying 4 (some .int) :: BIG
abbrev wsX3_shareBefore : List Cond := .code yX3_shareBefore cX3_shareBefore 3 (some .long) :: BIG
abbrev wsX0_placeAt : List Cond := .code yX0_placeAt cX0_placeAt 2 (some .int) :: BIG
abbrev wsX0_amountAt : List Cond := .code yX0_amountAt cX0_amountAt 2 (some .int) :: BIG
abbrev wsX0_roomInKilograms : List Cond := .code yX0_roomInKilograms cX0_roomInKilograms 1 (some .int) :: BIG
abbrev wsX5_init : List Cond := .code yX5_init cX5_init 1 none :: BIG
abbrev wsX5_bin : List Cond := .code yX5_bin cX5_bin 3 (some .int) :: BIG
abbrev wsX5_isIn : List Cond := .code yX5_isIn cX5_isIn 3 (some .boolean) :: BIG
abbrev wsX5_row : List Cond := .code yX5_row cX5_row 5 (some .int) :: BIG
abbrev wsX5_isBin : List Cond := .code yX5_isBin cX5_isBin 2 (some .boolean) :: BIG
abbrev wsX5_isHour : List Cond := .code yX5_isHour cX5_isHour 1 (some .boolean) :: BIG
abbrev wsX5_emptied : List Cond := .code yX5_emptied cX5_emptied 5 (some .int) :: BIG
abbrev wsX5_fade : List Cond := .code yX5_fade cX5_fade 3 (some .boolean) :: BIG
abbrev wsX5_holiday : List Cond := .code yX5_holiday cX5_holiday 3 (some .boolean) :: BIG
abbrev wsX5_isDay : List Cond := .code yX5_isDay cX5_isDay 1 (some .boolean) :: BIG
abbrev wsX5_quiet : List Cond := .code yX5_quiet cX5_quiet 2 (some .boolean) :: BIG
abbrev wsX5_cost : List Cond := .code yX5_cost cX5_cost 3 (some .boolean) :: BIG
abbrev wsX5_weight : List Cond := .code yX5_weight cX5_weight 2 (some .int) :: BIG
abbrev wsX5_weightOf : List Cond := .code yX5_weightOf cX5_weightOf 4 (some .int) :: BIG
abbrev wsX5_mean : List Cond := .code yX5_mean cX5_mean 3 (some .int) :: BIG
abbrev wsX5_meanOf : List Cond := .code yX5_meanOf cX5_meanOf 9 (some .int) :: BIG
abbrev wsX5_layOut : List Cond := .code yX5_layOut cX5_layOut 5 none :: BIG
abbrev wsX5_place : List Cond := .code yX5_place cX5_place 5 none :: BIG
abbrev wsX5_weekdayOf : List Cond := .code yX5_weekdayOf cX5_weekdayOf 2 (some .int) :: BIG
abbrev wsX5_rate : List Cond := .code yX5_rate cX5_rate 3 (some .int) :: BIG
abbrev wsX5_rateOf : List Cond := .code yX5_rateOf cX5_rateOf 8 (some .int) :: BIG
abbrev wsX5_expected : List Cond := .code yX5_expected cX5_expected 3 (some .long) :: BIG
abbrev wsX5_prepare : List Cond := .code yX5_prepare cX5_prepare 3 none :: BIG
abbrev wsX5_expectedBy : List Cond := .code yX5_expectedBy cX5_expectedBy 8 (some .long) :: BIG
abbrev wsX5_wrong : List Cond := .code yX5_wrong cX5_wrong 5 (some .int) :: BIG
abbrev wsX5_silent : List Cond := .code yX5_silent cX5_silent 5 (some .int) :: BIG
abbrev wsX5_isSilent : List Cond := .code yX5_isSilent cX5_isSilent 6 (some .boolean) :: BIG
abbrev wsX5_over : List Cond := .code yX5_over cX5_over 5 (some .int) :: BIG
abbrev wsX5_costOf : List Cond := .code yX5_costOf cX5_costOf 3 (some .long) :: BIG
abbrev wsX5_costOn : List Cond := .code yX5_costOn cX5_costOn 4 (some .long) :: BIG
abbrev wsX5_day : List Cond := .code yX5_day cX5_day 6 (some .int) :: BIG
abbrev wsX5_check : List Cond := .code yX5_check cX5_check 7 (some .long) :: BIG
end
section
theorem dX0_init_0 : decode cX0_init 0 = .ok (.aload_n 0, 1) := by decide +kernel
theorem dX0_init_1 : decode cX0_init 1 = .ok (.invokespecial 5, 3) := by decide +kernel
theorem dX0_init_4 : decode cX0_init 4 = .ok (.aload_n 0, 1) := by decide +kernel
theorem dX0_init_5 : decode cX0_init 5 = .ok (.iload_n 1, 1) := by decide +kernel
theorem dX0_init_6 : decode cX0_init 6 = .ok (.putfield 11, 3) := by decide +kernel
theorem dX0_init_9 : decode cX0_init 9 = .ok (.aload_n 0, 1) := by decide +kernel
theorem dX0_init_10 : decode cX0_init 10 = .ok (.iload_n 2, 1) := by decide +kernel
theorem dX0_init_11 : decode cX0_init 11 = .ok (.putfield 15, 3) := by decide +kernel
theorem dX0_init_14 : decode cX0_init 14 = .ok (.aload_n 0, 1) := by decide +kernel
theorem dX0_init_15 : decode cX0_init 15 = .ok (.bipush 32, 2) := by decide +kernel
theorem dX0_init_17 : decode cX0_init 17 = .ok (.newarray .int, 2) := by decide +kernel
theorem dX0_init_19 : decode cX0_init 19 = .ok (.putfield 18, 3) := by decide +kernel
theorem dX0_init_22 : decode cX0_init 22 = .ok (.aload_n 0, 1) := by decide +kernel
theorem dX0_init_23 : decode cX0_init 23 = .ok (.bipush 32, 2) := by decide +kernel
theorem dX0_init_25 : decode cX0_init 25 = .ok (.newarray .int, 2) := by decide +kernel
theorem dX0_init_27 : decode cX0_init 27 = .ok (.putfield 22, 3) := by decide +kernel
theorem dX0_init_30 : decode cX0_init 30 = .ok (.aload_n 0, 1) := by decide +kernel
theorem dX0_init_31 : decode cX0_init 31 = .ok (.bipush 32, 2) := by decide +kernel
theorem dX0_init_33 : decode cX0_init 33 = .ok (.newarray .boolean, 2) := by decide +kernel
theorem dX0_init_35 : decode cX0_init 35 = .ok (.putfield 25, 3) := by decide +kernel
theorem dX0_init_38 : decode cX0_init 38 = .ok (.aload_n 0, 1) := by decide +kernel
theorem dX0_init_39 : decode cX0_init 39 = .ok (.bipush 32, 2) := by decide +kernel
theorem dX0_init_41 : decode cX0_init 41 = .ok (.newarray .int, 2) := by decide +kernel
theorem dX0_init_43 : decode cX0_init 43 = .ok (.putfield 29, 3) := by decide +kernel
theorem dX0_init_46 : decode cX0_init 46 = .ok (.aload_n 0, 1) := by decide +kernel
theorem dX0_init_47 : decode cX0_init 47 = .ok (.iconst 0, 1) := by decide +kernel
theorem dX0_init_48 : decode cX0_init 48 = .ok (.putfield 32, 3) := by decide +kernel
theorem dX0_init_51 : decode cX0_init 51 = .ok (.aload_n 0, 1) := by decide +kernel
theorem dX0_init_52 : decode cX0_init 52 = .ok (.iconst 0, 1) := by decide +kernel
theorem dX0_init_53 : decode cX0_init 53 = .ok (.putfield 35, 3) := by decide +kernel
theorem dX0_init_56 : decode cX0_init 56 = .ok (.return_, 1) := by decide +kernel
theorem dX0_placeOfRow_0 : decode cX0_placeOfRow 0 = .ok (.iconst 2, 1) := by decide +kernel
theorem dX0_placeOfRow_1 : decode cX0_placeOfRow 1 = .ok (.iload_n 0, 1) := by decide +kernel
theorem dX0_placeOfRow_2 : decode cX0_placeOfRow 2 = .ok (.imul, 1) := by decide +kernel
theorem dX0_placeOfRow_3 : decode cX0_placeOfRow 3 = .ok (.ireturn, 1) := by decide +kernel
theorem dX0_placeOfEmptying_0 : decode cX0_placeOfEmptying 0 = .ok (.iconst 2, 1) := by decide +kernel
theorem dX0_placeOfEmptying_1 : decode cX0_placeOfEmptying 1 = .ok (.iload_n 0, 1) := by decide +kernel
theorem dX0_placeOfEmptying_2 : decode cX0_placeOfEmptying 2 = .ok (.imul, 1) := by decide +kernel
theorem dX0_placeOfEmptying_3 : decode cX0_placeOfEmptying 3 = .ok (.iconst 1, 1) := by decide +kernel
theorem dX0_placeOfEmptying_4 : decode cX0_placeOfEmptying 4 = .ok (.iadd, 1) := by decide +kernel
theorem dX0_placeOfEmptying_5 : decode cX0_placeOfEmptying 5 = .ok (.ireturn, 1) := by decide +kernel
theorem dX0_streetNumber_0 : decode cX0_streetNumber 0 = .ok (.aload_n 0, 1) := by decide +kernel
theorem dX0_streetNumber_1 : decode cX0_streetNumber 1 = .ok (.getfield 11, 3) := by decide +kernel
theorem dX0_streetNumber_4 : decode cX0_streetNumber 4 = .ok (.ireturn, 1) := by decide +kernel
theorem dX0_roomInKilograms_0 : decode cX0_roomInKilograms 0 = .ok (.aload_n 0, 1) := by decide +kernel
theorem dX0_roomInKilograms_1 : decode cX0_roomInKilograms 1 = .ok (.getfield 15, 3) := by decide +kernel
theorem dX0_roomInKilograms_4 : decode cX0_roomInKilograms 4 = .ok (.ireturn, 1) := by decide +kernel
theorem dX0_placeAt_0 : decode cX0_placeAt 0 = .ok (.aload_n 0, 1) := by decide +kernel
theorem dX0_placeAt_1 : decode cX0_placeAt 1 = .ok (.getfield 18, 3) := by decide +kernel
theorem dX0_placeAt_4 : decode cX0_placeAt 4 = .ok (.iload_n 1, 1) := by decide +kernel
theorem dX0_placeAt_5 : decode cX0_placeAt 5 = .ok (.iaload, 1) := by decide +kernel
theorem dX0_placeAt_6 : decode cX0_placeAt 6 = .ok (.ireturn, 1) := by decide +kernel
theorem dX0_hourAt_0 : decode cX0_hourAt 0 = .ok (.aload_n 0, 1) := by decide +kernel
theorem dX0_hourAt_1 : decode cX0_hourAt 1 = .ok (.getfield 18, 3) := by decide +kernel
theorem dX0_hourAt_4 : decode cX0_hourAt 4 = .ok (.iload_n 1, 1) := by decide +kernel
theorem dX0_hourAt_5 : decode cX0_hourAt 5 = .ok (.iaload, 1) := by decide +kernel
theorem dX0_hourAt_6 : decode cX0_hourAt 6 = .ok (.iconst 2, 1) := by decide +kernel
theorem dX0_hourAt_7 : decode cX0_hourAt 7 = .ok (.idiv, 1) := by decide +kernel
theorem dX0_hourAt_8 : decode cX0_hourAt 8 = .ok (.ireturn, 1) := by decide +kernel
theorem dX0_amountAt_0 : decode cX0_amountAt 0 = .ok (.aload_n 0, 1) := by decide +kernel
theorem dX0_amountAt_1 : decode cX0_amountAt 1 = .ok (.getfield 22, 3) := by decide +kernel
theorem dX0_amountAt_4 : decode cX0_amountAt 4 = .ok (.iload_n 1, 1) := by decide +kernel
theorem dX0_amountAt_5 : decode cX0_amountAt 5 = .ok (.iaload, 1) := by decide +kernel
theorem dX0_amountAt_6 : decode cX0_amountAt 6 = .ok (.ireturn, 1) := by decide +kernel
theorem dX0_shareAt_0 : decode cX0_shareAt 0 = .ok (.aload_n 0, 1) := by decide +kernel
theorem dX0_shareAt_1 : decode cX0_shareAt 1 = .ok (.iload_n 1, 1) := by decide +kernel
theorem dX0_shareAt_2 : decode cX0_shareAt 2 = .ok (.invokevirtual 38, 3) := by decide +kernel
theorem dX0_shareAt_5 : decode cX0_shareAt 5 = .ok (.ifCond .eq 12, 3) := by decide +kernel
theorem dX0_shareAt_8 : decode cX0_shareAt 8 = .ok (.aload_n 0, 1) := by decide +kernel
theorem dX0_shareAt_9 : decode cX0_shareAt 9 = .ok (.getfield 22, 3) := by decide +kernel
theorem dX0_shareAt_12 : decode cX0_shareAt 12 = .ok (.iload_n 1, 1) := by decide +kernel
theorem dX0_shareAt_13 : decode cX0_shareAt 13 = .ok (.iaload, 1) := by decide +kernel
theorem dX0_shareAt_14 : decode cX0_shareAt 14 = .ok (.goto 4, 3) := by decide +kernel
theorem dX0_shareAt_17 : decode cX0_shareAt 17 = .ok (.iconst 0, 1) := by decide +kernel
theorem dX0_shareAt_18 : decode cX0_shareAt 18 = .ok (.ireturn, 1) := by decide +kernel
theorem dX0_putRow_0 : decode cX0_putRow 0 = .ok (.iload_n 1, 1) := by decide +kernel
theorem dX0_putRow_1 : decode cX0_putRow 1 = .ok (.invokestatic 42, 3) := by decide +kernel
theorem dX0_putRow_4 : decode cX0_putRow 4 = .ok (.istore_n 3, 1) := by decide +kernel
theorem dX0_putRow_5 : decode cX0_putRow 5 = .ok (.aload_n 0, 1) := by decide +kernel
theorem dX0_putRow_6 : decode cX0_putRow 6 = .ok (.iload_n 3, 1) := by decide +kernel
theorem dX0_putRow_7 : decode cX0_putRow 7 = .ok (.invokevirtual 46, 3) := by decide +kernel
theorem dX0_putRow_10 : decode cX0_putRow 10 = .ok (.istore 4, 2) := by decide +kernel
theorem dX0_putRow_12 : decode cX0_putRow 12 = .ok (.aload_n 0, 1) := by decide +kernel
theorem dX0_putRow_13 : decode cX0_putRow 13 = .ok (.iload 4, 2) := by decide +kernel
theorem dX0_putRow_15 : decode cX0_putRow 15 = .ok (.iload_n 3, 1) := by decide +kernel
theorem dX0_putRow_16 : decode cX0_putRow 16 = .ok (.invokevirtual 49, 3) := by decide +kernel
theorem dX0_putRow_19 : decode cX0_putRow 19 = .ok (.ifCond .ne 31, 3) := by decide +kernel
theorem dX0_putRow_22 : decode cX0_putRow 22 = .ok (.aload_n 0, 1) := by decide +kernel
theorem dX0_putRow_23 : decode cX0_putRow 23 = .ok (.getfield 35, 3) := by decide +kernel
theorem dX0_putRow_26 : decode cX0_putRow 26 = .ok (.bipush 24, 2) := by decide +kernel
theorem dX0_putRow_28 : decode cX0_putRow 28 = .ok (.if_icmp .lt 5, 3) := by decide +kernel
theorem dX0_putRow_31 : decode cX0_putRow 31 = .ok (.iconst (-1), 1) := by decide +kernel
theorem dX0_putRow_32 : decode cX0_putRow 32 = .ok (.ireturn, 1) := by decide +kernel
theorem dX0_putRow_33 : decode cX0_putRow 33 = .ok (.aload_n 0, 1) := by decide +kernel
theorem dX0_putRow_34 : decode cX0_putRow 34 = .ok (.iload 4, 2) := by decide +kernel
theorem dX0_putRow_36 : decode cX0_putRow 36 = .ok (.iload_n 3, 1) := by decide +kernel
theorem dX0_putRow_37 : decode cX0_putRow 37 = .ok (.invokevirtual 53, 3) := by decide +kernel
theorem dX0_putRow_40 : decode cX0_putRow 40 = .ok (.aload_n 0, 1) := by decide +kernel
theorem dX0_putRow_41 : decode cX0_putRow 41 = .ok (.dup, 1) := by decide +kernel
theorem dX0_putRow_42 : decode cX0_putRow 42 = .ok (.getfield 35, 3) := by decide +kernel
theorem dX0_putRow_45 : decode cX0_putRow 45 = .ok (.iconst 1, 1) := by decide +kernel
theorem dX0_putRow_46 : decode cX0_putRow 46 = .ok (.iadd, 1) := by decide +kernel
theorem dX0_putRow_47 : decode cX0_putRow 47 = .ok (.putfield 35, 3) := by decide +kernel
theorem dX0_putRow_50 : decode cX0_putRow 50 = .ok (.aload_n 0, 1) := by decide +kernel
theorem dX0_putRow_51 : decode cX0_putRow 51 = .ok (.getfield 22, 3) := by decide +kernel
theorem dX0_putRow_54 : decode cX0_putRow 54 = .ok (.iload 4, 2) := by decide +kernel
theorem dX0_putRow_56 : decode cX0_putRow 56 = .ok (.iload_n 2, 1) := by decide +kernel
theorem dX0_putRow_57 : decode cX0_putRow 57 = .ok (.iastore, 1) := by decide +kernel
theorem dX0_putRow_58 : decode cX0_putRow 58 = .ok (.aload_n 0, 1) := by decide +kernel
theorem dX0_putRow_59 : decode cX0_putRow 59 = .ok (.invokevirtual 57, 3) := by decide +kernel
theorem dX0_putRow_62 : decode cX0_putRow 62 = .ok (.aload_n 0, 1) := by decide +kernel
theorem dX0_putRow_63 : decode cX0_putRow 63 = .ok (.getfield 35, 3) := by decide +kernel
theorem dX0_putRow_66 : decode cX0_putRow 66 = .ok (.ireturn, 1) := by decide +kernel
theorem dX0_putEmptying_0 : decode cX0_putEmptying 0 = .ok (.iload_n 1, 1) := by decide +kernel
theorem dX0_putEmptying_1 : decode cX0_putEmptying 1 = .ok (.invokestatic 60, 3) := by decide +kernel
theorem dX0_putEmptying_4 : decode cX0_putEmptying 4 = .ok (.istore_n 3, 1) := by decide +kernel
theorem dX0_putEmptying_5 : decode cX0_putEmptying 5 = .ok (.aload_n 0, 1) := by decide +kernel
theorem dX0_putEmptying_6 : decode cX0_putEmptying 6 = .ok (.iload_n 3, 1) := by decide +kernel
theorem dX0_putEmptying_7 : decode cX0_putEmptying 7 = .ok (.invokevirtual 46, 3) := by decide +kernel
theorem dX0_putEmptying_10 : decode cX0_putEmptying 10 = .ok (.istore 4, 2) := by decide +kernel
theorem dX0_putEmptying_12 : decode cX0_putEmptying 12 = .ok (.aload_n 0, 1) := by decide +kernel
theorem dX0_putEmptying_13 : decode cX0_putEmptying 13 = .ok (.iload 4, 2) := by decide +kernel
theorem dX0_putEmptying_15 : decode cX0_putEmptying 15 = .ok (.iload_n 3, 1) := by decide +kernel
theorem dX0_putEmptying_16 : decode cX0_putEmptying 16 = .ok (.invokevirtual 49, 3) := by decide +kernel
theorem dX0_putEmptying_19 : decode cX0_putEmptying 19 = .ok (.ifCond .ne 26, 3) := by decide +kernel
theorem dX0_putEmptying_22 : decode cX0_putEmptying 22 = .ok (.aload_n 0, 1) := by decide +kernel
theorem dX0_putEmptying_23 : decode cX0_putEmptying 23 = .ok (.getfield 32, 3) := by decide +kernel
theorem dX0_putEmptying_26 : decode cX0_putEmptying 26 = .ok (.aload_n 0, 1) := by decide +kernel
theorem dX0_putEmptying_27 : decode cX0_putEmptying 27 = .ok (.getfield 35, 3) := by decide +kernel
theorem dX0_putEmptying_30 : decode cX0_putEmptying 30 = .ok (.isub, 1) := by decide +kernel
theorem dX0_putEmptying_31 : decode cX0_putEmptying 31 = .ok (.bipush 8, 2) := by decide +kernel
theorem dX0_putEmptying_33 : decode cX0_putEmptying 33 = .ok (.if_icmp .lt 5, 3) := by decide +kernel
theorem dX0_putEmptying_36 : decode cX0_putEmptying 36 = .ok (.iconst (-1), 1) := by decide +kernel
theorem dX0_putEmptying_37 : decode cX0_putEmptying 37 = .ok (.ireturn, 1) := by decide +kernel
theorem dX0_putEmptying_38 : decode cX0_putEmptying 38 = .ok (.aload_n 0, 1) := by decide +kernel
theorem dX0_putEmptying_39 : decode cX0_putEmptying 39 = .ok (.iload 4, 2) := by decide +kernel
theorem dX0_putEmptying_41 : decode cX0_putEmptying 41 = .ok (.iload_n 3, 1) := by decide +kernel
theorem dX0_putEmptying_42 : decode cX0_putEmptying 42 = .ok (.invokevirtual 53, 3) := by decide +kernel
theorem dX0_putEmptying_45 : decode cX0_putEmptying 45 = .ok (.aload_n 0, 1) := by decide +kernel
theorem dX0_putEmptying_46 : decode cX0_putEmptying 46 = .ok (.getfield 22, 3) := by decide +kernel
theorem dX0_putEmptying_49 : decode cX0_putEmptying 49 = .ok (.iload 4, 2) := by decide +kernel
theorem dX0_putEmptying_51 : decode cX0_putEmptying 51 = .ok (.iload_n 2, 1) := by decide +kernel
theorem dX0_putEmptying_52 : decode cX0_putEmptying 52 = .ok (.iastore, 1) := by decide +kernel
theorem dX0_putEmptying_53 : decode cX0_putEmptying 53 = .ok (.aload_n 0, 1) := by decide +kernel
theorem dX0_putEmptying_54 : decode cX0_putEmptying 54 = .ok (.invokevirtual 57, 3) := by decide +kernel
theorem dX0_putEmptying_57 : decode cX0_putEmptying 57 = .ok (.aload_n 0, 1) := by decide +kernel
theorem dX0_putEmptying_58 : decode cX0_putEmptying 58 = .ok (.getfield 32, 3) := by decide +kernel
theorem dX0_putEmptying_61 : decode cX0_putEmptying 61 = .ok (.aload_n 0, 1) := by decide +kernel
theorem dX0_putEmptying_62 : decode cX0_putEmptying 62 = .ok (.getfield 35, 3) := by decide +kernel
theorem dX0_putEmptying_65 : decode cX0_putEmptying 65 = .ok (.isub, 1) := by decide +kernel
theorem dX0_putEmptying_66 : decode cX0_putEmptying 66 = .ok (.ireturn, 1) := by decide +kernel
theorem dX0_hourOfWrong_0 : decode cX0_hourOfWrong 0 = .ok (.iconst 0, 1) := by decide +kernel
theorem dX0_hourOfWrong_1 : decode cX0_hourOfWrong 1 = .ok (.istore_n 2, 1) := by decide +kernel
theorem dX0_hourOfWrong_2 : decode cX0_hourOfWrong 2 = .ok (.iconst 0, 1) := by decide +kernel
theorem dX0_hourOfWrong_3 : decode cX0_hourOfWrong 3 = .ok (.istore_n 3, 1) := by decide +kernel
theorem dX0_hourOfWrong_4 : decode cX0_hourOfWrong 4 = .ok (.iload_n 3, 1) := by decide +kernel
theorem dX0_hourOfWrong_5 : decode cX0_hourOfWrong 5 = .ok (.aload_n 0, 1) := by decide +kernel
theorem dX0_hourOfWrong_6 : decode cX0_hourOfWrong 6 = .ok (.getfield 32, 3) := by decide +kernel
theorem dX0_hourOfWrong_9 : decode cX0_hourOfWrong 9 = .ok (.if_icmp .ge 32, 3) := by decide +kernel
theorem dX0_hourOfWrong_12 : decode cX0_hourOfWrong 12 = .ok (.aload_n 0, 1) := by decide +kernel
theorem dX0_hourOfWrong_13 : decode cX0_hourOfWrong 13 = .ok (.getfield 25, 3) := by decide +kernel
theorem dX0_hourOfWrong_16 : decode cX0_hourOfWrong 16 = .ok (.iload_n 3, 1) := by decide +kernel
theorem dX0_hourOfWrong_17 : decode cX0_hourOfWrong 17 = .ok (.baload, 1) := by decide +kernel
theorem dX0_hourOfWrong_18 : decode cX0_hourOfWrong 18 = .ok (.ifCond .eq 17, 3) := by decide +kernel
theorem dX0_hourOfWrong_21 : decode cX0_hourOfWrong 21 = .ok (.iload_n 2, 1) := by decide +kernel
theorem dX0_hourOfWrong_22 : decode cX0_hourOfWrong 22 = .ok (.iload_n 1, 1) := by decide +kernel
theorem dX0_hourOfWrong_23 : decode cX0_hourOfWrong 23 = .ok (.if_icmp .ne 9, 3) := by decide +kernel
theorem dX0_hourOfWrong_26 : decode cX0_hourOfWrong 26 = .ok (.aload_n 0, 1) := by decide +kernel
theorem dX0_hourOfWrong_27 : decode cX0_hourOfWrong 27 = .ok (.iload_n 3, 1) := by decide +kernel
theorem dX0_hourOfWrong_28 : decode cX0_hourOfWrong 28 = .ok (.invokevirtual 63, 3) := by decide +kernel
theorem dX0_hourOfWrong_31 : decode cX0_hourOfWrong 31 = .ok (.ireturn, 1) := by decide +kernel
theorem dX0_hourOfWrong_32 : decode cX0_hourOfWrong 32 = .ok (.iinc 2 1, 3) := by decide +kernel
theorem dX0_hourOfWrong_35 : decode cX0_hourOfWrong 35 = .ok (.iinc 3 1, 3) := by decide +kernel
theorem dX0_hourOfWrong_38 : decode cX0_hourOfWrong 38 = .ok (.goto (-34), 3) := by decide +kernel
theorem dX0_hourOfWrong_41 : decode cX0_hourOfWrong 41 = .ok (.iconst (-1), 1) := by decide +kernel
theorem dX0_hourOfWrong_42 : decode cX0_hourOfWrong 42 = .ok (.ireturn, 1) := by decide +kernel
theorem dX0_indexOfEmptying_0 : decode cX0_indexOfEmptying 0 = .ok (.iconst 0, 1) := by decide +kernel
theorem dX0_indexOfEmptying_1 : decode cX0_indexOfEmptying 1 = .ok (.istore_n 2, 1) := by decide +kernel
theorem dX0_indexOfEmptying_2 : decode cX0_indexOfEmptying 2 = .ok (.iconst 0, 1) := by decide +kernel
theorem dX0_indexOfEmptying_3 : decode cX0_indexOfEmptying 3 = .ok (.istore_n 3, 1) := by decide +kernel
theorem dX0_indexOfEmptying_4 : decode cX0_indexOfEmptying 4 = .ok (.iload_n 3, 1) := by decide +kernel
theorem dX0_indexOfEmptying_5 : decode cX0_indexOfEmptying 5 = .ok (.aload_n 0, 1) := by decide +kernel
theorem dX0_indexOfEmptying_6 : decode cX0_indexOfEmptying 6 = .ok (.getfield 32, 3) := by decide +kernel
theorem dX0_indexOfEmptying_9 : decode cX0_indexOfEmptying 9 = .ok (.if_icmp .ge 27, 3) := by decide +kernel
theorem dX0_indexOfEmptying_12 : decode cX0_indexOfEmptying 12 = .ok (.aload_n 0, 1) := by decide +kernel
theorem dX0_indexOfEmptying_13 : decode cX0_indexOfEmptying 13 = .ok (.iload_n 3, 1) := by decide +kernel
theorem dX0_indexOfEmptying_14 : decode cX0_indexOfEmptying 14 = .ok (.invokevirtual 38, 3) := by decide +kernel
theorem dX0_indexOfEmptying_17 : decode cX0_indexOfEmptying 17 = .ok (.ifCond .ne 13, 3) := by decide +kernel
theorem dX0_indexOfEmptying_20 : decode cX0_indexOfEmptying 20 = .ok (.iload_n 2, 1) := by decide +kernel
theorem dX0_indexOfEmptying_21 : decode cX0_indexOfEmptying 21 = .ok (.iload_n 1, 1) := by decide +kernel
theorem dX0_indexOfEmptying_22 : decode cX0_indexOfEmptying 22 = .ok (.if_icmp .ne 5, 3) := by decide +kernel
theorem dX0_indexOfEmptying_25 : decode cX0_indexOfEmptying 25 = .ok (.iload_n 3, 1) := by decide +kernel
theorem dX0_indexOfEmptying_26 : decode cX0_indexOfEmptying 26 = .ok (.ireturn, 1) := by decide +kernel
theorem dX0_indexOfEmptying_27 : decode cX0_indexOfEmptying 27 = .ok (.iinc 2 1, 3) := by decide +kernel
theorem dX0_indexOfEmptying_30 : decode cX0_indexOfEmptying 30 = .ok (.iinc 3 1, 3) := by decide +kernel
theorem dX0_indexOfEmptying_33 : decode cX0_indexOfEmptying 33 = .ok (.goto (-29), 3) := by decide +kernel
theorem dX0_indexOfEmptying_36 : decode cX0_indexOfEmptying 36 = .ok (.iconst (-1), 1) := by decide +kernel
theorem dX0_indexOfEmptying_37 : decode cX0_indexOfEmptying 37 = .ok (.ireturn, 1) := by decide +kernel
theorem dX0_hasRowWithin_0 : decode cX0_hasRowWithin 0 = .ok (.iconst 0, 1) := by decide +kernel
theorem dX0_hasRowWithin_1 : decode cX0_hasRowWithin 1 = .ok (.istore_n 3, 1) := by decide +kernel
theorem dX0_hasRowWithin_2 : decode cX0_hasRowWithin 2 = .ok (.iload_n 3, 1) := by decide +kernel
theorem dX0_hasRowWithin_3 : decode cX0_hasRowWithin 3 = .ok (.aload_n 0, 1) := by decide +kernel
theorem dX0_hasRowWithin_4 : decode cX0_hasRowWithin 4 = .ok (.getfield 32, 3) := by decide +kernel
theorem dX0_hasRowWithin_7 : decode cX0_hasRowWithin 7 = .ok (.if_icmp .ge 32, 3) := by decide +kernel
theorem dX0_hasRowWithin_10 : decode cX0_hasRowWithin 10 = .ok (.aload_n 0, 1) := by decide +kernel
theorem dX0_hasRowWithin_11 : decode cX0_hasRowWithin 11 = .ok (.iload_n 3, 1) := by decide +kernel
theorem dX0_hasRowWithin_12 : decode cX0_hasRowWithin 12 = .ok (.invokevirtual 38, 3) := by decide +kernel
theorem dX0_hasRowWithin_15 : decode cX0_hasRowWithin 15 = .ok (.ifCond .eq 18, 3) := by decide +kernel
theorem dX0_hasRowWithin_18 : decode cX0_hasRowWithin 18 = .ok (.aload_n 0, 1) := by decide +kernel
theorem dX0_hasRowWithin_19 : decode cX0_hasRowWithin 19 = .ok (.iload_n 3, 1) := by decide +kernel
theorem dX0_hasRowWithin_20 : decode cX0_hasRowWithin 20 = .ok (.invokevirtual 63, 3) := by decide +kernel
theorem dX0_hasRowWithin_23 : decode cX0_hasRowWithin 23 = .ok (.iload_n 1, 1) := by decide +kernel
theorem dX0_hasRowWithin_24 : decode cX0_hasRowWithin 24 = .ok (.iload_n 2, 1) := by decide +kernel
theorem dX0_hasRowWithin_25 : decode cX0_hasRowWithin 25 = .ok (.invokestatic 66, 3) := by decide +kernel
theorem dX0_hasRowWithin_28 : decode cX0_hasRowWithin 28 = .ok (.ifCond .eq 5, 3) := by decide +kernel
theorem dX0_hasRowWithin_31 : decode cX0_hasRowWithin 31 = .ok (.iconst 1, 1) := by decide +kernel
theorem dX0_hasRowWithin_32 : decode cX0_hasRowWithin 32 = .ok (.ireturn, 1) := by decide +kernel
theorem dX0_hasRowWithin_33 : decode cX0_hasRowWithin 33 = .ok (.iinc 3 1, 3) := by decide +kernel
theorem dX0_hasRowWithin_36 : decode cX0_hasRowWithin 36 = .ok (.goto (-34), 3) := by decide +kernel
theorem dX0_hasRowWithin_39 : decode cX0_hasRowWithin 39 = .ok (.iconst 0, 1) := by decide +kernel
theorem dX0_hasRowWithin_40 : decode cX0_hasRowWithin 40 = .ok (.ireturn, 1) := by decide +kernel
theorem dX0_latestUpTo_0 : decode cX0_latestUpTo 0 = .ok (.aload_n 0, 1) := by decide +kernel
theorem dX0_latestUpTo_1 : decode cX0_latestUpTo 1 = .ok (.getfield 32, 3) := by decide +kernel
theorem dX0_latestUpTo_4 : decode cX0_latestUpTo 4 = .ok (.iconst 1, 1) := by decide +kernel
theorem dX0_latestUpTo_5 : decode cX0_latestUpTo 5 = .ok (.isub, 1) := by decide +kernel
theorem dX0_latestUpTo_6 : decode cX0_latestUpTo 6 = .ok (.istore_n 2, 1) := by decide +kernel
theorem dX0_latestUpTo_7 : decode cX0_latestUpTo 7 = .ok (.iload_n 2, 1) := by decide +kernel
theorem dX0_latestUpTo_8 : decode cX0_latestUpTo 8 = .ok (.ifCond .lt 30, 3) := by decide +kernel
theorem dX0_latestUpTo_11 : decode cX0_latestUpTo 11 = .ok (.aload_n 0, 1) := by decide +kernel
theorem dX0_latestUpTo_12 : decode cX0_latestUpTo 12 = .ok (.getfield 18, 3) := by decide +kernel
theorem dX0_latestUpTo_15 : decode cX0_latestUpTo 15 = .ok (.iload_n 2, 1) := by decide +kernel
theorem dX0_latestUpTo_16 : decode cX0_latestUpTo 16 = .ok (.iaload, 1) := by decide +kernel
theorem dX0_latestUpTo_17 : decode cX0_latestUpTo 17 = .ok (.iload_n 1, 1) := by decide +kernel
theorem dX0_latestUpTo_18 : decode cX0_latestUpTo 18 = .ok (.if_icmp .gt 14, 3) := by decide +kernel
theorem dX0_latestUpTo_21 : decode cX0_latestUpTo 21 = .ok (.aload_n 0, 1) := by decide +kernel
theorem dX0_latestUpTo_22 : decode cX0_latestUpTo 22 = .ok (.getfield 25, 3) := by decide +kernel
theorem dX0_latestUpTo_25 : decode cX0_latestUpTo 25 = .ok (.iload_n 2, 1) := by decide +kernel
theorem dX0_latestUpTo_26 : decode cX0_latestUpTo 26 = .ok (.baload, 1) := by decide +kernel
theorem dX0_latestUpTo_27 : decode cX0_latestUpTo 27 = .ok (.ifCond .ne 5, 3) := by decide +kernel
theorem dX0_latestUpTo_30 : decode cX0_latestUpTo 30 = .ok (.iload_n 2, 1) := by decide +kernel
theorem dX0_latestUpTo_31 : decode cX0_latestUpTo 31 = .ok (.ireturn, 1) := by decide +kernel
theorem dX0_latestUpTo_32 : decode cX0_latestUpTo 32 = .ok (.iinc 2 (-1), 3) := by decide +kernel
theorem dX0_latestUpTo_35 : decode cX0_latestUpTo 35 = .ok (.goto (-28), 3) := by decide +kernel
theorem dX0_latestUpTo_38 : decode cX0_latestUpTo 38 = .ok (.iconst (-1), 1) := by decide +kernel
theorem dX0_latestUpTo_39 : decode cX0_latestUpTo 39 = .ok (.ireturn, 1) := by decide +kernel
theorem dX0_meanOn_0 : decode cX0_meanOn 0 = .ok (.lconst 0, 1) := by decide +kernel
theorem dX0_meanOn_1 : decode cX0_meanOn 1 = .ok (.lstore 4, 2) := by decide +kernel
theorem dX0_meanOn_3 : decode cX0_meanOn 3 = .ok (.lconst 0, 1) := by decide +kernel
theorem dX0_meanOn_4 : decode cX0_meanOn 4 = .ok (.lstore 6, 2) := by decide +kernel
theorem dX0_meanOn_6 : decode cX0_meanOn 6 = .ok (.iconst 0, 1) := by decide +kernel
theorem dX0_meanOn_7 : decode cX0_meanOn 7 = .ok (.istore 8, 2) := by decide +kernel
theorem dX0_meanOn_9 : decode cX0_meanOn 9 = .ok (.aload_n 0, 1) := by decide +kernel
theorem dX0_meanOn_10 : decode cX0_meanOn 10 = .ok (.getfield 32, 3) := by decide +kernel
theorem dX0_meanOn_13 : decode cX0_meanOn 13 = .ok (.iconst 1, 1) := by decide +kernel
theorem dX0_meanOn_14 : decode cX0_meanOn 14 = .ok (.isub, 1) := by decide +kernel
theorem dX0_meanOn_15 : decode cX0_meanOn 15 = .ok (.istore 9, 2) := by decide +kernel
theorem dX0_meanOn_17 : decode cX0_meanOn 17 = .ok (.iload 9, 2) := by decide +kernel
theorem dX0_meanOn_19 : decode cX0_meanOn 19 = .ok (.ifCond .lt 79, 3) := by decide +kernel
theorem dX0_meanOn_22 : decode cX0_meanOn 22 = .ok (.iload 8, 2) := by decide +kernel
theorem dX0_meanOn_24 : decode cX0_meanOn 24 = .ok (.bipush 8, 2) := by decide +kernel
theorem dX0_meanOn_26 : decode cX0_meanOn 26 = .ok (.if_icmp .ge 72, 3) := by decide +kernel
theorem dX0_meanOn_29 : decode cX0_meanOn 29 = .ok (.aload_n 0, 1) := by decide +kernel
theorem dX0_meanOn_30 : decode cX0_meanOn 30 = .ok (.getfield 29, 3) := by decide +kernel
theorem dX0_meanOn_33 : decode cX0_meanOn 33 = .ok (.iload 9, 2) := by decide +kernel
theorem dX0_meanOn_35 : decode cX0_meanOn 35 = .ok (.iaload, 1) := by decide +kernel
theorem dX0_meanOn_36 : decode cX0_meanOn 36 = .ok (.iconst (-1), 1) := by decide +kernel
theorem dX0_meanOn_37 : decode cX0_meanOn 37 = .ok (.if_icmp .eq 55, 3) := by decide +kernel
theorem dX0_meanOn_40 : decode cX0_meanOn 40 = .ok (.aload_n 2, 1) := by decide +kernel
theorem dX0_meanOn_41 : decode cX0_meanOn 41 = .ok (.aload_n 0, 1) := by decide +kernel
theorem dX0_meanOn_42 : decode cX0_meanOn 42 = .ok (.iload 9, 2) := by decide +kernel
theorem dX0_meanOn_44 : decode cX0_meanOn 44 = .ok (.invokevirtual 63, 3) := by decide +kernel
theorem dX0_meanOn_47 : decode cX0_meanOn 47 = .ok (.bipush 24, 2) := by decide +kernel
theorem dX0_meanOn_49 : decode cX0_meanOn 49 = .ok (.idiv, 1) := by decide +kernel
theorem dX0_meanOn_50 : decode cX0_meanOn 50 = .ok (.invokevirtual 70, 3) := by decide +kernel
theorem dX0_meanOn_53 : decode cX0_meanOn 53 = .ok (.iload_n 1, 1) := by decide +kernel
theorem dX0_meanOn_54 : decode cX0_meanOn 54 = .ok (.if_icmp .ne 38, 3) := by decide +kernel
theorem dX0_meanOn_57 : decode cX0_meanOn 57 = .ok (.aload_n 3, 1) := by decide +kernel
theorem dX0_meanOn_58 : decode cX0_meanOn 58 = .ok (.iload 8, 2) := by decide +kernel
theorem dX0_meanOn_60 : decode cX0_meanOn 60 = .ok (.invokevirtual 75, 3) := by decide +kernel
theorem dX0_meanOn_63 : decode cX0_meanOn 63 = .ok (.i2l, 1) := by decide +kernel
theorem dX0_meanOn_64 : decode cX0_meanOn 64 = .ok (.lstore 10, 2) := by decide +kernel
theorem dX0_meanOn_66 : decode cX0_meanOn 66 = .ok (.lload 4, 2) := by decide +kernel
theorem dX0_meanOn_68 : decode cX0_meanOn 68 = .ok (.aload_n 0, 1) := by decide +kernel
theorem dX0_meanOn_69 : decode cX0_meanOn 69 = .ok (.getfield 29, 3) := by decide +kernel
theorem dX0_meanOn_72 : decode cX0_meanOn 72 = .ok (.iload 9, 2) := by decide +kernel
theorem dX0_meanOn_74 : decode cX0_meanOn 74 = .ok (.iaload, 1) := by decide +kernel
theorem dX0_meanOn_75 : decode cX0_meanOn 75 = .ok (.i2l, 1) := by decide +kernel
theorem dX0_meanOn_76 : decode cX0_meanOn 76 = .ok (.lload 10, 2) := by decide +kernel
theorem dX0_meanOn_78 : decode cX0_meanOn 78 = .ok (.lmul, 1) := by decide +kernel
theorem dX0_meanOn_79 : decode cX0_meanOn 79 = .ok (.ladd, 1) := by decide +kernel
theorem dX0_meanOn_80 : decode cX0_meanOn 80 = .ok (.lstore 4, 2) := by decide +kernel
theorem dX0_meanOn_82 : decode cX0_meanOn 82 = .ok (.lload 6, 2) := by decide +kernel
theorem dX0_meanOn_84 : decode cX0_meanOn 84 = .ok (.lload 10, 2) := by decide +kernel
theorem dX0_meanOn_86 : decode cX0_meanOn 86 = .ok (.ladd, 1) := by decide +kernel
theorem dX0_meanOn_87 : decode cX0_meanOn 87 = .ok (.lstore 6, 2) := by decide +kernel
theorem dX0_meanOn_89 : decode cX0_meanOn 89 = .ok (.iinc 8 1, 3) := by decide +kernel
theorem dX0_meanOn_92 : decode cX0_meanOn 92 = .ok (.iinc 9 (-1), 3) := by decide +kernel
theorem dX0_meanOn_95 : decode cX0_meanOn 95 = .ok (.goto (-78), 3) := by decide +kernel
theorem dX0_meanOn_98 : decode cX0_meanOn 98 = .ok (.lload 6, 2) := by decide +kernel
theorem dX0_meanOn_100 : decode cX0_meanOn 100 = .ok (.lconst 0, 1) := by decide +kernel
theorem dX0_meanOn_101 : decode cX0_meanOn 101 = .ok (.lcmp, 1) := by decide +kernel
theorem dX0_meanOn_102 : decode cX0_meanOn 102 = .ok (.ifCond .le 12, 3) := by decide +kernel
theorem dX0_meanOn_105 : decode cX0_meanOn 105 = .ok (.lload 4, 2) := by decide +kernel
theorem dX0_meanOn_107 : decode cX0_meanOn 107 = .ok (.lload 6, 2) := by decide +kernel
theorem dX0_meanOn_109 : decode cX0_meanOn 109 = .ok (.ldiv, 1) := by decide +kernel
theorem dX0_meanOn_110 : decode cX0_meanOn 110 = .ok (.l2i, 1) := by decide +kernel
theorem dX0_meanOn_111 : decode cX0_meanOn 111 = .ok (.goto 4, 3) := by decide +kernel
theorem dX0_meanOn_114 : decode cX0_meanOn 114 = .ok (.iconst (-1), 1) := by decide +kernel
theorem dX0_meanOn_115 : decode cX0_meanOn 115 = .ok (.ireturn, 1) := by decide +kernel
theorem dX0_isRow_0 : decode cX0_isRow 0 = .ok (.aload_n 0, 1) := by decide +kernel
theorem dX0_isRow_1 : decode cX0_isRow 1 = .ok (.getfield 18, 3) := by decide +kernel
theorem dX0_isRow_4 : decode cX0_isRow 4 = .ok (.iload_n 1, 1) := by decide +kernel
theorem dX0_isRow_5 : decode cX0_isRow 5 = .ok (.iaload, 1) := by decide +kernel
theorem dX0_isRow_6 : decode cX0_isRow 6 = .ok (.iconst 2, 1) := by decide +kernel
theorem dX0_isRow_7 : decode cX0_isRow 7 = .ok (.irem, 1) := by decide +kernel
theorem dX0_isRow_8 : decode cX0_isRow 8 = .ok (.ifCond .ne 7, 3) := by decide +kernel
theorem dX0_isRow_11 : decode cX0_isRow 11 = .ok (.iconst 1, 1) := by decide +kernel
theorem dX0_isRow_12 : decode cX0_isRow 12 = .ok (.goto 4, 3) := by decide +kernel
theorem dX0_isRow_15 : decode cX0_isRow 15 = .ok (.iconst 0, 1) := by decide +kernel
theorem dX0_isRow_16 : decode cX0_isRow 16 = .ok (.ireturn, 1) := by decide +kernel
theorem dX0_indexFor_0 : decode cX0_indexFor 0 = .ok (.iconst 0, 1) := by decide +kernel
theorem dX0_indexFor_1 : decode cX0_indexFor 1 = .ok (.istore_n 2, 1) := by decide +kernel
theorem dX0_indexFor_2 : decode cX0_indexFor 2 = .ok (.iload_n 2, 1) := by decide +kernel
theorem dX0_indexFor_3 : decode cX0_indexFor 3 = .ok (.aload_n 0, 1) := by decide +kernel
theorem dX0_indexFor_4 : decode cX0_indexFor 4 = .ok (.getfield 32, 3) := by decide +kernel
theorem dX0_indexFor_7 : decode cX0_indexFor 7 = .ok (.if_icmp .ge 19, 3) := by decide +kernel
theorem dX0_indexFor_10 : decode cX0_indexFor 10 = .ok (.aload_n 0, 1) := by decide +kernel
theorem dX0_indexFor_11 : decode cX0_indexFor 11 = .ok (.getfield 18, 3) := by decide +kernel
theorem dX0_indexFor_14 : decode cX0_indexFor 14 = .ok (.iload_n 2, 1) := by decide +kernel
theorem dX0_indexFor_15 : decode cX0_indexFor 15 = .ok (.iaload, 1) := by decide +kernel
theorem dX0_indexFor_16 : decode cX0_indexFor 16 = .ok (.iload_n 1, 1) := by decide +kernel
theorem dX0_indexFor_17 : decode cX0_indexFor 17 = .ok (.if_icmp .ge 9, 3) := by decide +kernel
theorem dX0_indexFor_20 : decode cX0_indexFor 20 = .ok (.iinc 2 1, 3) := by decide +kernel
theorem dX0_indexFor_23 : decode cX0_indexFor 23 = .ok (.goto (-21), 3) := by decide +kernel
theorem dX0_indexFor_26 : decode cX0_indexFor 26 = .ok (.iload_n 2, 1) := by decide +kernel
theorem dX0_indexFor_27 : decode cX0_indexFor 27 = .ok (.ireturn, 1) := by decide +kernel
theorem dX0_isTaken_0 : decode cX0_isTaken 0 = .ok (.iload_n 1, 1) := by decide +kernel
theorem dX0_isTaken_1 : decode cX0_isTaken 1 = .ok (.aload_n 0, 1) := by decide +kernel
theorem dX0_isTaken_2 : decode cX0_isTaken 2 = .ok (.getfield 32, 3) := by decide +kernel
theorem dX0_isTaken_5 : decode cX0_isTaken 5 = .ok (.if_icmp .ge 17, 3) := by decide +kernel
theorem dX0_isTaken_8 : decode cX0_isTaken 8 = .ok (.aload_n 0, 1) := by decide +kernel
theorem dX0_isTaken_9 : decode cX0_isTaken 9 = .ok (.getfield 18, 3) := by decide +kernel
theorem dX0_isTaken_12 : decode cX0_isTaken 12 = .ok (.iload_n 1, 1) := by decide +kernel
theorem dX0_isTaken_13 : decode cX0_isTaken 13 = .ok (.iaload, 1) := by decide +kernel
theorem dX0_isTaken_14 : decode cX0_isTaken 14 = .ok (.iload_n 2, 1) := by decide +kernel
theorem dX0_isTaken_15 : decode cX0_isTaken 15 = .ok (.if_icmp .ne 7, 3) := by decide +kernel
theorem dX0_isTaken_18 : decode cX0_isTaken 18 = .ok (.iconst 1, 1) := by decide +kernel
theorem dX0_isTaken_19 : decode cX0_isTaken 19 = .ok (.goto 4, 3) := by decide +kernel
theorem dX0_isTaken_22 : decode cX0_isTaken 22 = .ok (.iconst 0, 1) := by decide +kernel
theorem dX0_isTaken_23 : decode cX0_isTaken 23 = .ok (.ireturn, 1) := by decide +kernel
theorem dX0_open_0 : decode cX0_open 0 = .ok (.aload_n 0, 1) := by decide +kernel
theorem dX0_open_1 : decode cX0_open 1 = .ok (.getfield 32, 3) := by decide +kernel
theorem dX0_open_4 : decode cX0_open 4 = .ok (.istore_n 3, 1) := by decide +kernel
theorem dX0_open_5 : decode cX0_open 5 = .ok (.iload_n 3, 1) := by decide +kernel
theorem dX0_open_6 : decode cX0_open 6 = .ok (.iload_n 1, 1) := by decide +kernel
theorem dX0_open_7 : decode cX0_open 7 = .ok (.if_icmp .le 37, 3) := by decide +kernel
theorem dX0_open_10 : decode cX0_open 10 = .ok (.aload_n 0, 1) := by decide +kernel
theorem dX0_open_11 : decode cX0_open 11 = .ok (.getfield 18, 3) := by decide +kernel
theorem dX0_open_14 : decode cX0_open 14 = .ok (.iload_n 3, 1) := by decide +kernel
theorem dX0_open_15 : decode cX0_open 15 = .ok (.aload_n 0, 1) := by decide +kernel
theorem dX0_open_16 : decode cX0_open 16 = .ok (.getfield 18, 3) := by decide +kernel
theorem dX0_open_19 : decode cX0_open 19 = .ok (.iload_n 3, 1) := by decide +kernel
theorem dX0_open_20 : decode cX0_open 20 = .ok (.iconst 1, 1) := by decide +kernel
theorem dX0_open_21 : decode cX0_open 21 = .ok (.isub, 1) := by decide +kernel
theorem dX0_open_22 : decode cX0_open 22 = .ok (.iaload, 1) := by decide +kernel
theorem dX0_open_23 : decode cX0_open 23 = .ok (.iastore, 1) := by decide +kernel
theorem dX0_open_24 : decode cX0_open 24 = .ok (.aload_n 0, 1) := by decide +kernel
theorem dX0_open_25 : decode cX0_open 25 = .ok (.getfield 22, 3) := by decide +kernel
theorem dX0_open_28 : decode cX0_open 28 = .ok (.iload_n 3, 1) := by decide +kernel
theorem dX0_open_29 : decode cX0_open 29 = .ok (.aload_n 0, 1) := by decide +kernel
theorem dX0_open_30 : decode cX0_open 30 = .ok (.getfield 22, 3) := by decide +kernel
theorem dX0_open_33 : decode cX0_open 33 = .ok (.iload_n 3, 1) := by decide +kernel
theorem dX0_open_34 : decode cX0_open 34 = .ok (.iconst 1, 1) := by decide +kernel
theorem dX0_open_35 : decode cX0_open 35 = .ok (.isub, 1) := by decide +kernel
theorem dX0_open_36 : decode cX0_open 36 = .ok (.iaload, 1) := by decide +kernel
theorem dX0_open_37 : decode cX0_open 37 = .ok (.iastore, 1) := by decide +kernel
theorem dX0_open_38 : decode cX0_open 38 = .ok (.iinc 3 (-1), 3) := by decide +kernel
theorem dX0_open_41 : decode cX0_open 41 = .ok (.goto (-36), 3) := by decide +kernel
theorem dX0_open_44 : decode cX0_open 44 = .ok (.aload_n 0, 1) := by decide +kernel
theorem dX0_open_45 : decode cX0_open 45 = .ok (.getfield 18, 3) := by decide +kernel
theorem dX0_open_48 : decode cX0_open 48 = .ok (.iload_n 1, 1) := by decide +kernel
theorem dX0_open_49 : decode cX0_open 49 = .ok (.iload_n 2, 1) := by decide +kernel
theorem dX0_open_50 : decode cX0_open 50 = .ok (.iastore, 1) := by decide +kernel
theorem dX0_open_51 : decode cX0_open 51 = .ok (.aload_n 0, 1) := by decide +kernel
theorem dX0_open_52 : decode cX0_open 52 = .ok (.dup, 1) := by decide +kernel
theorem dX0_open_53 : decode cX0_open 53 = .ok (.getfield 32, 3) := by decide +kernel
theorem dX0_open_56 : decode cX0_open 56 = .ok (.iconst 1, 1) := by decide +kernel
theorem dX0_open_57 : decode cX0_open 57 = .ok (.iadd, 1) := by decide +kernel
theorem dX0_open_58 : decode cX0_open 58 = .ok (.putfield 32, 3) := by decide +kernel
theorem dX0_open_61 : decode cX0_open 61 = .ok (.return_, 1) := by decide +kernel
theorem dX0_judge_0 : decode cX0_judge 0 = .ok (.iconst (-1), 1) := by decide +kernel
theorem dX0_judge_1 : decode cX0_judge 1 = .ok (.istore_n 1, 1) := by decide +kernel
theorem dX0_judge_2 : decode cX0_judge 2 = .ok (.iconst 0, 1) := by decide +kernel
theorem dX0_judge_3 : decode cX0_judge 3 = .ok (.istore_n 2, 1) := by decide +kernel
theorem dX0_judge_4 : decode cX0_judge 4 = .ok (.iload_n 2, 1) := by decide +kernel
theorem dX0_judge_5 : decode cX0_judge 5 = .ok (.aload_n 0, 1) := by decide +kernel
theorem dX0_judge_6 : decode cX0_judge 6 = .ok (.getfield 32, 3) := by decide +kernel
theorem dX0_judge_9 : decode cX0_judge 9 = .ok (.if_icmp .ge 96, 3) := by decide +kernel
theorem dX0_judge_12 : decode cX0_judge 12 = .ok (.aload_n 0, 1) := by decide +kernel
theorem dX0_judge_13 : decode cX0_judge 13 = .ok (.iload_n 2, 1) := by decide +kernel
theorem dX0_judge_14 : decode cX0_judge 14 = .ok (.invokevirtual 38, 3) := by decide +kernel
theorem dX0_judge_17 : decode cX0_judge 17 = .ok (.ifCond .eq 12, 3) := by decide +kernel
theorem dX0_judge_20 : decode cX0_judge 20 = .ok (.iload_n 1, 1) := by decide +kernel
theorem dX0_judge_21 : decode cX0_judge 21 = .ok (.iconst (-1), 1) := by decide +kernel
theorem dX0_judge_22 : decode cX0_judge 22 = .ok (.if_icmp .eq 7, 3) := by decide +kernel
theorem dX0_judge_25 : decode cX0_judge 25 = .ok (.iconst 1, 1) := by decide +kernel
theorem dX0_judge_26 : decode cX0_judge 26 = .ok (.goto 4, 3) := by decide +kernel
theorem dX0_judge_29 : decode cX0_judge 29 = .ok (.iconst 0, 1) := by decide +kernel
theorem dX0_judge_30 : decode cX0_judge 30 = .ok (.istore_n 3, 1) := by decide +kernel
theorem dX0_judge_31 : decode cX0_judge 31 = .ok (.aload_n 0, 1) := by decide +kernel
theorem dX0_judge_32 : decode cX0_judge 32 = .ok (.getfield 25, 3) := by decide +kernel
theorem dX0_judge_35 : decode cX0_judge 35 = .ok (.iload_n 2, 1) := by decide +kernel
theorem dX0_judge_36 : decode cX0_judge 36 = .ok (.iload_n 3, 1) := by decide +kernel
theorem dX0_judge_37 : decode cX0_judge 37 = .ok (.ifCond .eq 20, 3) := by decide +kernel
theorem dX0_judge_40 : decode cX0_judge 40 = .ok (.aload_n 0, 1) := by decide +kernel
theorem dX0_judge_41 : decode cX0_judge 41 = .ok (.iload_n 2, 1) := by decide +kernel
theorem dX0_judge_42 : decode cX0_judge 42 = .ok (.invokevirtual 80, 3) := by decide +kernel
theorem dX0_judge_45 : decode cX0_judge 45 = .ok (.aload_n 0, 1) := by decide +kernel
theorem dX0_judge_46 : decode cX0_judge 46 = .ok (.iload_n 1, 1) := by decide +kernel
theorem dX0_judge_47 : decode cX0_judge 47 = .ok (.invokevirtual 80, 3) := by decide +kernel
theorem dX0_judge_50 : decode cX0_judge 50 = .ok (.if_icmp .ge 7, 3) := by decide +kernel
theorem dX0_judge_53 : decode cX0_judge 53 = .ok (.iconst 1, 1) := by decide +kernel
theorem dX0_judge_54 : decode cX0_judge 54 = .ok (.goto 4, 3) := by decide +kernel
theorem dX0_judge_57 : decode cX0_judge 57 = .ok (.iconst 0, 1) := by decide +kernel
theorem dX0_judge_58 : decode cX0_judge 58 = .ok (.bastore, 1) := by decide +kernel
theorem dX0_judge_59 : decode cX0_judge 59 = .ok (.aload_n 0, 1) := by decide +kernel
theorem dX0_judge_60 : decode cX0_judge 60 = .ok (.getfield 29, 3) := by decide +kernel
theorem dX0_judge_63 : decode cX0_judge 63 = .ok (.iload_n 2, 1) := by decide +kernel
theorem dX0_judge_64 : decode cX0_judge 64 = .ok (.iload_n 3, 1) := by decide +kernel
theorem dX0_judge_65 : decode cX0_judge 65 = .ok (.ifCond .eq 21, 3) := by decide +kernel
theorem dX0_judge_68 : decode cX0_judge 68 = .ok (.aload_n 0, 1) := by decide +kernel
theorem dX0_judge_69 : decode cX0_judge 69 = .ok (.getfield 25, 3) := by decide +kernel
theorem dX0_judge_72 : decode cX0_judge 72 = .ok (.iload_n 2, 1) := by decide +kernel
theorem dX0_judge_73 : decode cX0_judge 73 = .ok (.baload, 1) := by decide +kernel
theorem dX0_judge_74 : decode cX0_judge 74 = .ok (.ifCond .ne 12, 3) := by decide +kernel
theorem dX0_judge_77 : decode cX0_judge 77 = .ok (.aload_n 0, 1) := by decide +kernel
theorem dX0_judge_78 : decode cX0_judge 78 = .ok (.iload_n 1, 1) := by decide +kernel
theorem dX0_judge_79 : decode cX0_judge 79 = .ok (.iload_n 2, 1) := by decide +kernel
theorem dX0_judge_80 : decode cX0_judge 80 = .ok (.invokevirtual 83, 3) := by decide +kernel
theorem dX0_judge_83 : decode cX0_judge 83 = .ok (.goto 4, 3) := by decide +kernel
theorem dX0_judge_86 : decode cX0_judge 86 = .ok (.iconst (-1), 1) := by decide +kernel
theorem dX0_judge_87 : decode cX0_judge 87 = .ok (.iastore, 1) := by decide +kernel
theorem dX0_judge_88 : decode cX0_judge 88 = .ok (.aload_n 0, 1) := by decide +kernel
theorem dX0_judge_89 : decode cX0_judge 89 = .ok (.getfield 25, 3) := by decide +kernel
theorem dX0_judge_92 : decode cX0_judge 92 = .ok (.iload_n 2, 1) := by decide +kernel
theorem dX0_judge_93 : decode cX0_judge 93 = .ok (.baload, 1) := by decide +kernel
theorem dX0_judge_94 : decode cX0_judge 94 = .ok (.ifCond .ne 5, 3) := by decide +kernel
theorem dX0_judge_97 : decode cX0_judge 97 = .ok (.iload_n 2, 1) := by decide +kernel
theorem dX0_judge_98 : decode cX0_judge 98 = .ok (.istore_n 1, 1) := by decide +kernel
theorem dX0_judge_99 : decode cX0_judge 99 = .ok (.iinc 2 1, 3) := by decide +kernel
theorem dX0_judge_102 : decode cX0_judge 102 = .ok (.goto (-98), 3) := by decide +kernel
theorem dX0_judge_105 : decode cX0_judge 105 = .ok (.return_, 1) := by decide +kernel
theorem dX0_gainFrom_0 : decode cX0_gainFrom 0 = .ok (.aload_n 0, 1) := by decide +kernel
theorem dX0_gainFrom_1 : decode cX0_gainFrom 1 = .ok (.iload_n 2, 1) := by decide +kernel
theorem dX0_gainFrom_2 : decode cX0_gainFrom 2 = .ok (.invokevirtual 63, 3) := by decide +kernel
theorem dX0_gainFrom_5 : decode cX0_gainFrom 5 = .ok (.aload_n 0, 1) := by decide +kernel
theorem dX0_gainFrom_6 : decode cX0_gainFrom 6 = .ok (.iload_n 1, 1) := by decide +kernel
theorem dX0_gainFrom_7 : decode cX0_gainFrom 7 = .ok (.invokevirtual 63, 3) := by decide +kernel
theorem dX0_gainFrom_10 : decode cX0_gainFrom 10 = .ok (.isub, 1) := by decide +kernel
theorem dX0_gainFrom_11 : decode cX0_gainFrom 11 = .ok (.istore_n 3, 1) := by decide +kernel
theorem dX0_gainFrom_12 : decode cX0_gainFrom 12 = .ok (.iload_n 3, 1) := by decide +kernel
theorem dX0_gainFrom_13 : decode cX0_gainFrom 13 = .ok (.ifCond .le 22, 3) := by decide +kernel
theorem dX0_gainFrom_16 : decode cX0_gainFrom 16 = .ok (.aload_n 0, 1) := by decide +kernel
theorem dX0_gainFrom_17 : decode cX0_gainFrom 17 = .ok (.iload_n 2, 1) := by decide +kernel
theorem dX0_gainFrom_18 : decode cX0_gainFrom 18 = .ok (.invokevirtual 80, 3) := by decide +kernel
theorem dX0_gainFrom_21 : decode cX0_gainFrom 21 = .ok (.aload_n 0, 1) := by decide +kernel
theorem dX0_gainFrom_22 : decode cX0_gainFrom 22 = .ok (.iload_n 1, 1) := by decide +kernel
theorem dX0_gainFrom_23 : decode cX0_gainFrom 23 = .ok (.invokevirtual 80, 3) := by decide +kernel
theorem dX0_gainFrom_26 : decode cX0_gainFrom 26 = .ok (.isub, 1) := by decide +kernel
theorem dX0_gainFrom_27 : decode cX0_gainFrom 27 = .ok (.bipush 24, 2) := by decide +kernel
theorem dX0_gainFrom_29 : decode cX0_gainFrom 29 = .ok (.imul, 1) := by decide +kernel
theorem dX0_gainFrom_30 : decode cX0_gainFrom 30 = .ok (.iload_n 3, 1) := by decide +kernel
theorem dX0_gainFrom_31 : decode cX0_gainFrom 31 = .ok (.idiv, 1) := by decide +kernel
theorem dX0_gainFrom_32 : decode cX0_gainFrom 32 = .ok (.goto 4, 3) := by decide +kernel
theorem dX0_gainFrom_35 : decode cX0_gainFrom 35 = .ok (.iconst (-1), 1) := by decide +kernel
theorem dX0_gainFrom_36 : decode cX0_gainFrom 36 = .ok (.ireturn, 1) := by decide +kernel
theorem dX1_init_0 : decode cX1_init 0 = .ok (.aload_n 0, 1) := by decide +kernel
theorem dX1_init_1 : decode cX1_init 1 = .ok (.invokespecial 3, 3) := by decide +kernel
theorem dX1_init_4 : decode cX1_init 4 = .ok (.aload_n 0, 1) := by decide +kernel
theorem dX1_init_5 : decode cX1_init 5 = .ok (.sipush 417, 3) := by decide +kernel
theorem dX1_init_8 : decode cX1_init 8 = .ok (.newarray .boolean, 2) := by decide +kernel
theorem dX1_init_10 : decode cX1_init 10 = .ok (.putfield 9, 3) := by decide +kernel
theorem dX1_init_13 : decode cX1_init 13 = .ok (.return_, 1) := by decide +kernel
theorem dX1_mark_0 : decode cX1_mark 0 = .ok (.aload_n 0, 1) := by decide +kernel
theorem dX1_mark_1 : decode cX1_mark 1 = .ok (.getfield 9, 3) := by decide +kernel
theorem dX1_mark_4 : decode cX1_mark 4 = .ok (.iload_n 1, 1) := by decide +kernel
theorem dX1_mark_5 : decode cX1_mark 5 = .ok (.iload_n 2, 1) := by decide +kernel
theorem dX1_mark_6 : decode cX1_mark 6 = .ok (.bastore, 1) := by decide +kernel
theorem dX1_mark_7 : decode cX1_mark 7 = .ok (.return_, 1) := by decide +kernel
theorem dX1_weekdayOf_0 : decode cX1_weekdayOf 0 = .ok (.aload_n 0, 1) := by decide +kernel
theorem dX1_weekdayOf_1 : decode cX1_weekdayOf 1 = .ok (.getfield 9, 3) := by decide +kernel
theorem dX1_weekdayOf_4 : decode cX1_weekdayOf 4 = .ok (.iload_n 1, 1) := by decide +kernel
theorem dX1_weekdayOf_5 : decode cX1_weekdayOf 5 = .ok (.baload, 1) := by decide +kernel
theorem dX1_weekdayOf_6 : decode cX1_weekdayOf 6 = .ok (.ifCond .eq 8, 3) := by decide +kernel
theorem dX1_weekdayOf_9 : decode cX1_weekdayOf 9 = .ok (.bipush 6, 2) := by decide +kernel
theorem dX1_weekdayOf_11 : decode cX1_weekdayOf 11 = .ok (.goto 7, 3) := by decide +kernel
theorem dX1_weekdayOf_14 : decode cX1_weekdayOf 14 = .ok (.iload_n 1, 1) := by decide +kernel
theorem dX1_weekdayOf_15 : decode cX1_weekdayOf 15 = .ok (.bipush 7, 2) := by decide +kernel
theorem dX1_weekdayOf_17 : decode cX1_weekdayOf 17 = .ok (.irem, 1) := by decide +kernel
theorem dX1_weekdayOf_18 : decode cX1_weekdayOf 18 = .ok (.ireturn, 1) := by decide +kernel
theorem dX2_init_0 : decode cX2_init 0 = .ok (.aload_n 0, 1) := by decide +kernel
theorem dX2_init_1 : decode cX2_init 1 = .ok (.invokespecial 3, 3) := by decide +kernel
theorem dX2_init_4 : decode cX2_init 4 = .ok (.aload_n 0, 1) := by decide +kernel
theorem dX2_init_5 : decode cX2_init 5 = .ok (.bipush 8, 2) := by decide +kernel
theorem dX2_init_7 : decode cX2_init 7 = .ok (.newarray .int, 2) := by decide +kernel
theorem dX2_init_9 : decode cX2_init 9 = .ok (.putfield 9, 3) := by decide +kernel
theorem dX2_init_12 : decode cX2_init 12 = .ok (.aload_n 0, 1) := by decide +kernel
theorem dX2_init_13 : decode cX2_init 13 = .ok (.iconst 1, 1) := by decide +kernel
theorem dX2_init_14 : decode cX2_init 14 = .ok (.iconst 2, 1) := by decide +kernel
theorem dX2_init_15 : decode cX2_init 15 = .ok (.invokevirtual 15, 3) := by decide +kernel
theorem dX2_init_18 : decode cX2_init 18 = .ok (.return_, 1) := by decide +kernel
theorem dX2_setTo_0 : decode cX2_setTo 0 = .ok (.iconst 0, 1) := by decide +kernel
theorem dX2_setTo_1 : decode cX2_setTo 1 = .ok (.istore_n 3, 1) := by decide +kernel
theorem dX2_setTo_2 : decode cX2_setTo 2 = .ok (.iload_n 3, 1) := by decide +kernel
theorem dX2_setTo_3 : decode cX2_setTo 3 = .ok (.bipush 8, 2) := by decide +kernel
theorem dX2_setTo_5 : decode cX2_setTo 5 = .ok (.if_icmp .ge 52, 3) := by decide +kernel
theorem dX2_setTo_8 : decode cX2_setTo 8 = .ok (.iconst 1, 1) := by decide +kernel
theorem dX2_setTo_9 : decode cX2_setTo 9 = .ok (.istore 4, 2) := by decide +kernel
theorem dX2_setTo_11 : decode cX2_setTo 11 = .ok (.iconst 0, 1) := by decide +kernel
theorem dX2_setTo_12 : decode cX2_setTo 12 = .ok (.istore 5, 2) := by decide +kernel
theorem dX2_setTo_14 : decode cX2_setTo 14 = .ok (.iload 5, 2) := by decide +kernel
theorem dX2_setTo_16 : decode cX2_setTo 16 = .ok (.bipush 7, 2) := by decide +kernel
theorem dX2_setTo_18 : decode cX2_setTo 18 = .ok (.if_icmp .ge 25, 3) := by decide +kernel
theorem dX2_setTo_21 : decode cX2_setTo 21 = .ok (.iload 4, 2) := by decide +kernel
theorem dX2_setTo_23 : decode cX2_setTo 23 = .ok (.iload 5, 2) := by decide +kernel
theorem dX2_setTo_25 : decode cX2_setTo 25 = .ok (.iload_n 3, 1) := by decide +kernel
theorem dX2_setTo_26 : decode cX2_setTo 26 = .ok (.if_icmp .ge 7, 3) := by decide +kernel
theorem dX2_setTo_29 : decode cX2_setTo 29 = .ok (.iload_n 1, 1) := by decide +kernel
theorem dX2_setTo_30 : decode cX2_setTo 30 = .ok (.goto 4, 3) := by decide +kernel
theorem dX2_setTo_33 : decode cX2_setTo 33 = .ok (.iload_n 2, 1) := by decide +kernel
theorem dX2_setTo_34 : decode cX2_setTo 34 = .ok (.imul, 1) := by decide +kernel
theorem dX2_setTo_35 : decode cX2_setTo 35 = .ok (.istore 4, 2) := by decide +kernel
theorem dX2_setTo_37 : decode cX2_setTo 37 = .ok (.iinc 5 1, 3) := by decide +kernel
theorem dX2_setTo_40 : decode cX2_setTo 40 = .ok (.goto (-26), 3) := by decide +kernel
theorem dX2_setTo_43 : decode cX2_setTo 43 = .ok (.aload_n 0, 1) := by decide +kernel
theorem dX2_setTo_44 : decode cX2_setTo 44 = .ok (.getfield 9, 3) := by decide +kernel
theorem dX2_setTo_47 : decode cX2_setTo 47 = .ok (.iload_n 3, 1) := by decide +kernel
theorem dX2_setTo_48 : decode cX2_setTo 48 = .ok (.iload 4, 2) := by decide +kernel
theorem dX2_setTo_50 : decode cX2_setTo 50 = .ok (.iastore, 1) := by decide +kernel
theorem dX2_setTo_51 : decode cX2_setTo 51 = .ok (.iinc 3 1, 3) := by decide +kernel
theorem dX2_setTo_54 : decode cX2_setTo 54 = .ok (.goto (-52), 3) := by decide +kernel
theorem dX2_setTo_57 : decode cX2_setTo 57 = .ok (.return_, 1) := by decide +kernel
theorem dX2_weightOf_0 : decode cX2_weightOf 0 = .ok (.aload_n 0, 1) := by decide +kernel
theorem dX2_weightOf_1 : decode cX2_weightOf 1 = .ok (.getfield 9, 3) := by decide +kernel
theorem dX2_weightOf_4 : decode cX2_weightOf 4 = .ok (.iload_n 1, 1) := by decide +kernel
theorem dX2_weightOf_5 : decode cX2_weightOf 5 = .ok (.iaload, 1) := by decide +kernel
theorem dX2_weightOf_6 : decode cX2_weightOf 6 = .ok (.ireturn, 1) := by decide +kernel
theorem dX3_init_0 : decode cX3_init 0 = .ok (.aload_n 0, 1) := by decide +kernel
theorem dX3_init_1 : decode cX3_init 1 = .ok (.invokespecial 3, 3) := by decide +kernel
theorem dX3_init_4 : decode cX3_init 4 = .ok (.aload_n 0, 1) := by decide +kernel
theorem dX3_init_5 : decode cX3_init 5 = .ok (.bipush 7, 2) := by decide +kernel
theorem dX3_init_7 : decode cX3_init 7 = .ok (.newarray .int, 2) := by decide +kernel
theorem dX3_init_9 : decode cX3_init 9 = .ok (.putfield 9, 3) := by decide +kernel
theorem dX3_init_12 : decode cX3_init 12 = .ok (.aload_n 0, 1) := by decide +kernel
theorem dX3_init_13 : decode cX3_init 13 = .ok (.sipush 418, 3) := by decide +kernel
theorem dX3_init_16 : decode cX3_init 16 = .ok (.newarray .int, 2) := by decide +kernel
theorem dX3_init_18 : decode cX3_init 18 = .ok (.putfield 15, 3) := by decide +kernel
theorem dX3_init_21 : decode cX3_init 21 = .ok (.return_, 1) := by decide +kernel
theorem dX3_setRate_0 : decode cX3_setRate 0 = .ok (.aload_n 0, 1) := by decide +kernel
theorem dX3_setRate_1 : decode cX3_setRate 1 = .ok (.getfield 9, 3) := by decide +kernel
theorem dX3_setRate_4 : decode cX3_setRate 4 = .ok (.iload_n 1, 1) := by decide +kernel
theorem dX3_setRate_5 : decode cX3_setRate 5 = .ok (.iload_n 2, 1) := by decide +kernel
theorem dX3_setRate_6 : decode cX3_setRate 6 = .ok (.iastore, 1) := by decide +kernel
theorem dX3_setRate_7 : decode cX3_setRate 7 = .ok (.return_, 1) := by decide +kernel
theorem dX3_sumUp_0 : decode cX3_sumUp 0 = .ok (.iconst 0, 1) := by decide +kernel
theorem dX3_sumUp_1 : decode cX3_sumUp 1 = .ok (.istore_n 2, 1) := by decide +kernel
theorem dX3_sumUp_2 : decode cX3_sumUp 2 = .ok (.iload_n 2, 1) := by decide +kernel
theorem dX3_sumUp_3 : decode cX3_sumUp 3 = .ok (.sipush 417, 3) := by decide +kernel
theorem dX3_sumUp_6 : decode cX3_sumUp 6 = .ok (.if_icmp .ge 34, 3) := by decide +kernel
theorem dX3_sumUp_9 : decode cX3_sumUp 9 = .ok (.aload_n 0, 1) := by decide +kernel
theorem dX3_sumUp_10 : decode cX3_sumUp 10 = .ok (.getfield 15, 3) := by decide +kernel
theorem dX3_sumUp_13 : decode cX3_sumUp 13 = .ok (.iload_n 2, 1) := by decide +kernel
theorem dX3_sumUp_14 : decode cX3_sumUp 14 = .ok (.iconst 1, 1) := by decide +kernel
theorem dX3_sumUp_15 : decode cX3_sumUp 15 = .ok (.iadd, 1) := by decide +kernel
theorem dX3_sumUp_16 : decode cX3_sumUp 16 = .ok (.aload_n 0, 1) := by decide +kernel
theorem dX3_sumUp_17 : decode cX3_sumUp 17 = .ok (.getfield 15, 3) := by decide +kernel
theorem dX3_sumUp_20 : decode cX3_sumUp 20 = .ok (.iload_n 2, 1) := by decide +kernel
theorem dX3_sumUp_21 : decode cX3_sumUp 21 = .ok (.iaload, 1) := by decide +kernel
theorem dX3_sumUp_22 : decode cX3_sumUp 22 = .ok (.aload_n 0, 1) := by decide +kernel
theorem dX3_sumUp_23 : decode cX3_sumUp 23 = .ok (.getfield 9, 3) := by decide +kernel
theorem dX3_sumUp_26 : decode cX3_sumUp 26 = .ok (.aload_n 1, 1) := by decide +kernel
theorem dX3_sumUp_27 : decode cX3_sumUp 27 = .ok (.iload_n 2, 1) := by decide +kernel
theorem dX3_sumUp_28 : decode cX3_sumUp 28 = .ok (.invokevirtual 18, 3) := by decide +kernel
theorem dX3_sumUp_31 : decode cX3_sumUp 31 = .ok (.iaload, 1) := by decide +kernel
theorem dX3_sumUp_32 : decode cX3_sumUp 32 = .ok (.iadd, 1) := by decide +kernel
theorem dX3_sumUp_33 : decode cX3_sumUp 33 = .ok (.iastore, 1) := by decide +kernel
theorem dX3_sumUp_34 : decode cX3_sumUp 34 = .ok (.iinc 2 1, 3) := by decide +kernel
theorem dX3_sumUp_37 : decode cX3_sumUp 37 = .ok (.goto (-35), 3) := by decide +kernel
theorem dX3_sumUp_40 : decode cX3_sumUp 40 = .ok (.return_, 1) := by decide +kernel
theorem dX3_shareAt_0 : decode cX3_shareAt 0 = .ok (.aload_n 0, 1) := by decide +kernel
theorem dX3_shareAt_1 : decode cX3_shareAt 1 = .ok (.aload_n 1, 1) := by decide +kernel
theorem dX3_shareAt_2 : decode cX3_shareAt 2 = .ok (.aload_n 1, 1) := by decide +kernel
theorem dX3_shareAt_3 : decode cX3_shareAt 3 = .ok (.iload_n 2, 1) := by decide +kernel
theorem dX3_shareAt_4 : decode cX3_shareAt 4 = .ok (.invokestatic 24, 3) := by decide +kernel
theorem dX3_shareAt_7 : decode cX3_shareAt 7 = .ok (.invokevirtual 29, 3) := by decide +kernel
theorem dX3_shareAt_10 : decode cX3_shareAt 10 = .ok (.iload_n 2, 1) := by decide +kernel
theorem dX3_shareAt_11 : decode cX3_shareAt 11 = .ok (.invokevirtual 32, 3) := by decide +kernel
theorem dX3_shareAt_14 : decode cX3_shareAt 14 = .ok (.lreturn, 1) := by decide +kernel
theorem dX3_shareBefore_0 : decode cX3_shareBefore 0 = .ok (.aload_n 0, 1) := by decide +kernel
theorem dX3_shareBefore_1 : decode cX3_shareBefore 1 = .ok (.aload_n 1, 1) := by decide +kernel
theorem dX3_shareBefore_2 : decode cX3_shareBefore 2 = .ok (.aload_n 1, 1) := by decide +kernel
theorem dX3_shareBefore_3 : decode cX3_shareBefore 3 = .ok (.aload_n 1, 1) := by decide +kernel
theorem dX3_shareBefore_4 : decode cX3_shareBefore 4 = .ok (.iload_n 2, 1) := by decide +kernel
theorem dX3_shareBefore_5 : decode cX3_shareBefore 5 = .ok (.invokevirtual 36, 3) := by decide +kernel
theorem dX3_shareBefore_8 : decode cX3_shareBefore 8 = .ok (.iconst 1, 1) := by decide +kernel
theorem dX3_shareBefore_9 : decode cX3_shareBefore 9 = .ok (.isub, 1) := by decide +kernel
theorem dX3_shareBefore_10 : decode cX3_shareBefore 10 = .ok (.invokevirtual 29, 3) := by decide +kernel
theorem dX3_shareBefore_13 : decode cX3_shareBefore 13 = .ok (.aload_n 1, 1) := by decide +kernel
theorem dX3_shareBefore_14 : decode cX3_shareBefore 14 = .ok (.iload_n 2, 1) := by decide +kernel
theorem dX3_shareBefore_15 : decode cX3_shareBefore 15 = .ok (.invokevirtual 39, 3) := by decide +kernel
theorem dX3_shareBefore_18 : decode cX3_shareBefore 18 = .ok (.invokevirtual 32, 3) := by decide +kernel
theorem dX3_shareBefore_21 : decode cX3_shareBefore 21 = .ok (.lreturn, 1) := by decide +kernel
theorem dX3_shareBy_0 : decode cX3_shareBy 0 = .ok (.iload_n 2, 1) := by decide +kernel
theorem dX3_shareBy_1 : decode cX3_shareBy 1 = .ok (.iconst (-1), 1) := by decide +kernel
theorem dX3_shareBy_2 : decode cX3_shareBy 2 = .ok (.if_icmp .ne 7, 3) := by decide +kernel
theorem dX3_shareBy_5 : decode cX3_shareBy 5 = .ok (.iconst 0, 1) := by decide +kernel
theorem dX3_shareBy_6 : decode cX3_shareBy 6 = .ok (.goto 8, 3) := by decide +kernel
theorem dX3_shareBy_9 : decode cX3_shareBy 9 = .ok (.aload_n 1, 1) := by decide +kernel
theorem dX3_shareBy_10 : decode cX3_shareBy 10 = .ok (.iload_n 2, 1) := by decide +kernel
theorem dX3_shareBy_11 : decode cX3_shareBy 11 = .ok (.invokevirtual 39, 3) := by decide +kernel
theorem dX3_shareBy_14 : decode cX3_shareBy 14 = .ok (.istore 4, 2) := by decide +kernel
theorem dX3_shareBy_16 : decode cX3_shareBy 16 = .ok (.iload_n 2, 1) := by decide +kernel
theorem dX3_shareBy_17 : decode cX3_shareBy 17 = .ok (.iconst (-1), 1) := by decide +kernel
theorem dX3_shareBy_18 : decode cX3_shareBy 18 = .ok (.if_icmp .ne 7, 3) := by decide +kernel
theorem dX3_shareBy_21 : decode cX3_shareBy 21 = .ok (.lconst 0, 1) := by decide +kernel
theorem dX3_shareBy_22 : decode cX3_shareBy 22 = .ok (.goto 9, 3) := by decide +kernel
theorem dX3_shareBy_25 : decode cX3_shareBy 25 = .ok (.aload_n 1, 1) := by decide +kernel
theorem dX3_shareBy_26 : decode cX3_shareBy 26 = .ok (.iload_n 2, 1) := by decide +kernel
theorem dX3_shareBy_27 : decode cX3_shareBy 27 = .ok (.invokevirtual 42, 3) := by decide +kernel
theorem dX3_shareBy_30 : decode cX3_shareBy 30 = .ok (.i2l, 1) := by decide +kernel
theorem dX3_shareBy_31 : decode cX3_shareBy 31 = .ok (.lstore 5, 2) := by decide +kernel
theorem dX3_shareBy_33 : decode cX3_shareBy 33 = .ok (.ldc2_w 45, 3) := by decide +kernel
theorem dX3_shareBy_36 : decode cX3_shareBy 36 = .ok (.lload 5, 2) := by decide +kernel
theorem dX3_shareBy_38 : decode cX3_shareBy 38 = .ok (.lmul, 1) := by decide +kernel
theorem dX3_shareBy_39 : decode cX3_shareBy 39 = .ok (.aload_n 0, 1) := by decide +kernel
theorem dX3_shareBy_40 : decode cX3_shareBy 40 = .ok (.iload_n 3, 1) := by decide +kernel
theorem dX3_shareBy_41 : decode cX3_shareBy 41 = .ok (.invokevirtual 47, 3) := by decide +kernel
theorem dX3_shareBy_44 : decode cX3_shareBy 44 = .ok (.ladd, 1) := by decide +kernel
theorem dX3_shareBy_45 : decode cX3_shareBy 45 = .ok (.aload_n 0, 1) := by decide +kernel
theorem dX3_shareBy_46 : decode cX3_shareBy 46 = .ok (.iload 4, 2) := by decide +kernel
theorem dX3_shareBy_48 : decode cX3_shareBy 48 = .ok (.invokevirtual 47, 3) := by decide +kernel
theorem dX3_shareBy_51 : decode cX3_shareBy 51 = .ok (.lsub, 1) := by decide +kernel
theorem dX3_shareBy_52 : decode cX3_shareBy 52 = .ok (.ldc2_w 45, 3) := by decide +kernel
theorem dX3_shareBy_55 : decode cX3_shareBy 55 = .ok (.ldiv, 1) := by decide +kernel
theorem dX3_shareBy_56 : decode cX3_shareBy 56 = .ok (.lreturn, 1) := by decide +kernel
theorem dX3_gainUpTo_0 : decode cX3_gainUpTo 0 = .ok (.iload_n 1, 1) := by decide +kernel
theorem dX3_gainUpTo_1 : decode cX3_gainUpTo 1 = .ok (.bipush 24, 2) := by decide +kernel
theorem dX3_gainUpTo_3 : decode cX3_gainUpTo 3 = .ok (.idiv, 1) := by decide +kernel
theorem dX3_gainUpTo_4 : decode cX3_gainUpTo 4 = .ok (.istore_n 2, 1) := by decide +kernel
theorem dX3_gainUpTo_5 : decode cX3_gainUpTo 5 = .ok (.aload_n 0, 1) := by decide +kernel
theorem dX3_gainUpTo_6 : decode cX3_gainUpTo 6 = .ok (.getfield 15, 3) := by decide +kernel
theorem dX3_gainUpTo_9 : decode cX3_gainUpTo 9 = .ok (.iload_n 2, 1) := by decide +kernel
theorem dX3_gainUpTo_10 : decode cX3_gainUpTo 10 = .ok (.iconst 1, 1) := by decide +kernel
theorem dX3_gainUpTo_11 : decode cX3_gainUpTo 11 = .ok (.iadd, 1) := by decide +kernel
theorem dX3_gainUpTo_12 : decode cX3_gainUpTo 12 = .ok (.iaload, 1) := by decide +kernel
theorem dX3_gainUpTo_13 : decode cX3_gainUpTo 13 = .ok (.aload_n 0, 1) := by decide +kernel
theorem dX3_gainUpTo_14 : decode cX3_gainUpTo 14 = .ok (.getfield 15, 3) := by decide +kernel
theorem dX3_gainUpTo_17 : decode cX3_gainUpTo 17 = .ok (.iload_n 2, 1) := by decide +kernel
theorem dX3_gainUpTo_18 : decode cX3_gainUpTo 18 = .ok (.iaload, 1) := by decide +kernel
theorem dX3_gainUpTo_19 : decode cX3_gainUpTo 19 = .ok (.isub, 1) := by decide +kernel
theorem dX3_gainUpTo_20 : decode cX3_gainUpTo 20 = .ok (.i2l, 1) := by decide +kernel
theorem dX3_gainUpTo_21 : decode cX3_gainUpTo 21 = .ok (.lstore_n 3, 1) := by decide +kernel
theorem dX3_gainUpTo_22 : decode cX3_gainUpTo 22 = .ok (.ldc2_w 45, 3) := by decide +kernel
theorem dX3_gainUpTo_25 : decode cX3_gainUpTo 25 = .ok (.aload_n 0, 1) := by decide +kernel
theorem dX3_gainUpTo_26 : decode cX3_gainUpTo 26 = .ok (.getfield 15, 3) := by decide +kernel
theorem dX3_gainUpTo_29 : decode cX3_gainUpTo 29 = .ok (.iload_n 2, 1) := by decide +kernel
theorem dX3_gainUpTo_30 : decode cX3_gainUpTo 30 = .ok (.iaload, 1) := by decide +kernel
theorem dX3_gainUpTo_31 : decode cX3_gainUpTo 31 = .ok (.i2l, 1) := by decide +kernel
theorem dX3_gainUpTo_32 : decode cX3_gainUpTo 32 = .ok (.lmul, 1) := by decide +kernel
theorem dX3_gainUpTo_33 : decode cX3_gainUpTo 33 = .ok (.iload_n 1, 1) := by decide +kernel
theorem dX3_gainUpTo_34 : decode cX3_gainUpTo 34 = .ok (.bipush 24, 2) := by decide +kernel
theorem dX3_gainUpTo_36 : decode cX3_gainUpTo 36 = .ok (.irem, 1) := by decide +kernel
theorem dX3_gainUpTo_37 : decode cX3_gainUpTo 37 = .ok (.i2l, 1) := by decide +kernel
theorem dX3_gainUpTo_38 : decode cX3_gainUpTo 38 = .ok (.lload_n 3, 1) := by decide +kernel
theorem dX3_gainUpTo_39 : decode cX3_gainUpTo 39 = .ok (.lmul, 1) := by decide +kernel
theorem dX3_gainUpTo_40 : decode cX3_gainUpTo 40 = .ok (.ladd, 1) := by decide +kernel
theorem dX3_gainUpTo_41 : decode cX3_gainUpTo 41 = .ok (.lreturn, 1) := by decide +kernel
end
section
theorem dX4_init_0 : decode cX4_init 0 = .ok (.aload_n 0, 1) := by decide +kernel
theorem dX4_init_1 : decode cX4_init 1 = .ok (.invokespecial 1, 3) := by decide +kernel
theorem dX4_init_4 : decode cX4_init 4 = .ok (.aload_n 0, 1) := by decide +kernel
theorem dX4_init_5 : decode cX4_init 5 = .ok (.new 7, 3) := by decide +kernel
theorem dX4_init_8 : decode cX4_init 8 = .ok (.dup, 1) := by decide +kernel
theorem dX4_init_9 : decode cX4_init 9 = .ok (.invokespecial 9, 3) := by decide +kernel
theorem dX4_init_12 : decode cX4_init 12 = .ok (.putfield 10, 3) := by decide +kernel
theorem dX4_init_15 : decode cX4_init 15 = .ok (.aload_n 0, 1) := by decide +kernel
theorem dX4_init_16 : decode cX4_init 16 = .ok (.new 16, 3) := by decide +kernel
theorem dX4_init_19 : decode cX4_init 19 = .ok (.dup, 1) := by decide +kernel
theorem dX4_init_20 : decode cX4_init 20 = .ok (.invokespecial 18, 3) := by decide +kernel
theorem dX4_init_23 : decode cX4_init 23 = .ok (.putfield 19, 3) := by decide +kernel
theorem dX4_init_26 : decode cX4_init 26 = .ok (.aload_n 0, 1) := by decide +kernel
theorem dX4_init_27 : decode cX4_init 27 = .ok (.new 23, 3) := by decide +kernel
theorem dX4_init_30 : decode cX4_init 30 = .ok (.dup, 1) := by decide +kernel
theorem dX4_init_31 : decode cX4_init 31 = .ok (.invokespecial 25, 3) := by decide +kernel
theorem dX4_init_34 : decode cX4_init 34 = .ok (.putfield 26, 3) := by decide +kernel
theorem dX4_init_37 : decode cX4_init 37 = .ok (.aload_n 0, 1) := by decide +kernel
theorem dX4_init_38 : decode cX4_init 38 = .ok (.bipush 8, 2) := by decide +kernel
theorem dX4_init_40 : decode cX4_init 40 = .ok (.anewarray 30, 3) := by decide +kernel
theorem dX4_init_43 : decode cX4_init 43 = .ok (.putfield 32, 3) := by decide +kernel
theorem dX4_init_46 : decode cX4_init 46 = .ok (.aload_n 0, 1) := by decide +kernel
theorem dX4_init_47 : decode cX4_init 47 = .ok (.iconst 0, 1) := by decide +kernel
theorem dX4_init_48 : decode cX4_init 48 = .ok (.putfield 36, 3) := by decide +kernel
theorem dX4_init_51 : decode cX4_init 51 = .ok (.aload_n 0, 1) := by decide +kernel
theorem dX4_init_52 : decode cX4_init 52 = .ok (.bipush 72, 2) := by decide +kernel
theorem dX4_init_54 : decode cX4_init 54 = .ok (.putfield 40, 3) := by decide +kernel
theorem dX4_init_57 : decode cX4_init 57 = .ok (.aload_n 0, 1) := by decide +kernel
theorem dX4_init_58 : decode cX4_init 58 = .ok (.iconst 1, 1) := by decide +kernel
theorem dX4_init_59 : decode cX4_init 59 = .ok (.putfield 43, 3) := by decide +kernel
theorem dX4_init_62 : decode cX4_init 62 = .ok (.aload_n 0, 1) := by decide +kernel
theorem dX4_init_63 : decode cX4_init 63 = .ok (.iconst 1, 1) := by decide +kernel
theorem dX4_init_64 : decode cX4_init 64 = .ok (.putfield 46, 3) := by decide +kernel
theorem dX4_init_67 : decode cX4_init 67 = .ok (.return_, 1) := by decide +kernel
theorem dX4_bin_0 : decode cX4_bin 0 = .ok (.aload_n 0, 1) := by decide +kernel
theorem dX4_bin_1 : decode cX4_bin 1 = .ok (.getfield 36, 3) := by decide +kernel
theorem dX4_bin_4 : decode cX4_bin 4 = .ok (.bipush 8, 2) := by decide +kernel
theorem dX4_bin_6 : decode cX4_bin 6 = .ok (.if_icmp .ge 23, 3) := by decide +kernel
theorem dX4_bin_9 : decode cX4_bin 9 = .ok (.iload_n 1, 1) := by decide +kernel
theorem dX4_bin_10 : decode cX4_bin 10 = .ok (.iconst 0, 1) := by decide +kernel
theorem dX4_bin_11 : decode cX4_bin 11 = .ok (.iconst 3, 1) := by decide +kernel
theorem dX4_bin_12 : decode cX4_bin 12 = .ok (.invokestatic 49, 3) := by decide +kernel
theorem dX4_bin_15 : decode cX4_bin 15 = .ok (.ifCond .eq 14, 3) := by decide +kernel
theorem dX4_bin_18 : decode cX4_bin 18 = .ok (.iload_n 2, 1) := by decide +kernel
theorem dX4_bin_19 : decode cX4_bin 19 = .ok (.iconst 1, 1) := by decide +kernel
theorem dX4_bin_20 : decode cX4_bin 20 = .ok (.sipush 10000, 3) := by decide +kernel
theorem dX4_bin_23 : decode cX4_bin 23 = .ok (.invokestatic 49, 3) := by decide +kernel
theorem dX4_bin_26 : decode cX4_bin 26 = .ok (.ifCond .ne 5, 3) := by decide +kernel
theorem dX4_bin_29 : decode cX4_bin 29 = .ok (.iconst (-1), 1) := by decide +kernel
theorem dX4_bin_30 : decode cX4_bin 30 = .ok (.ireturn, 1) := by decide +kernel
theorem dX4_bin_31 : decode cX4_bin 31 = .ok (.aload_n 0, 1) := by decide +kernel
theorem dX4_bin_32 : decode cX4_bin 32 = .ok (.getfield 32, 3) := by decide +kernel
theorem dX4_bin_35 : decode cX4_bin 35 = .ok (.aload_n 0, 1) := by decide +kernel
theorem dX4_bin_36 : decode cX4_bin 36 = .ok (.getfield 36, 3) := by decide +kernel
theorem dX4_bin_39 : decode cX4_bin 39 = .ok (.new 30, 3) := by decide +kernel
theorem dX4_bin_42 : decode cX4_bin 42 = .ok (.dup, 1) := by decide +kernel
theorem dX4_bin_43 : decode cX4_bin 43 = .ok (.iload_n 1, 1) := by decide +kernel
theorem dX4_bin_44 : decode cX4_bin 44 = .ok (.iload_n 2, 1) := by decide +kernel
theorem dX4_bin_45 : decode cX4_bin 45 = .ok (.invokespecial 53, 3) := by decide +kernel
theorem dX4_bin_48 : decode cX4_bin 48 = .ok (.aastore, 1) := by decide +kernel
theorem dX4_bin_49 : decode cX4_bin 49 = .ok (.aload_n 0, 1) := by decide +kernel
theorem dX4_bin_50 : decode cX4_bin 50 = .ok (.dup, 1) := by decide +kernel
theorem dX4_bin_51 : decode cX4_bin 51 = .ok (.getfield 36, 3) := by decide +kernel
theorem dX4_bin_54 : decode cX4_bin 54 = .ok (.iconst 1, 1) := by decide +kernel
theorem dX4_bin_55 : decode cX4_bin 55 = .ok (.iadd, 1) := by decide +kernel
theorem dX4_bin_56 : decode cX4_bin 56 = .ok (.putfield 36, 3) := by decide +kernel
theorem dX4_bin_59 : decode cX4_bin 59 = .ok (.aload_n 0, 1) := by decide +kernel
theorem dX4_bin_60 : decode cX4_bin 60 = .ok (.getfield 36, 3) := by decide +kernel
theorem dX4_bin_63 : decode cX4_bin 63 = .ok (.iconst 1, 1) := by decide +kernel
theorem dX4_bin_64 : decode cX4_bin 64 = .ok (.isub, 1) := by decide +kernel
theorem dX4_bin_65 : decode cX4_bin 65 = .ok (.ireturn, 1) := by decide +kernel
theorem dX4_row_0 : decode cX4_row 0 = .ok (.aload_n 0, 1) := by decide +kernel
theorem dX4_row_1 : decode cX4_row 1 = .ok (.iload_n 1, 1) := by decide +kernel
theorem dX4_row_2 : decode cX4_row 2 = .ok (.invokevirtual 56, 3) := by decide +kernel
theorem dX4_row_5 : decode cX4_row 5 = .ok (.astore 4, 2) := by decide +kernel
theorem dX4_row_7 : decode cX4_row 7 = .ok (.aload 4, 2) := by decide +kernel
theorem dX4_row_9 : decode cX4_row 9 = .ok (.ifnull 21, 3) := by decide +kernel
theorem dX4_row_12 : decode cX4_row 12 = .ok (.iload_n 2, 1) := by decide +kernel
theorem dX4_row_13 : decode cX4_row 13 = .ok (.invokestatic 60, 3) := by decide +kernel
theorem dX4_row_16 : decode cX4_row 16 = .ok (.ifCond .eq 14, 3) := by decide +kernel
theorem dX4_row_19 : decode cX4_row 19 = .ok (.iload_n 3, 1) := by decide +kernel
theorem dX4_row_20 : decode cX4_row 20 = .ok (.iconst 0, 1) := by decide +kernel
theorem dX4_row_21 : decode cX4_row 21 = .ok (.sipush 1500, 3) := by decide +kernel
theorem dX4_row_24 : decode cX4_row 24 = .ok (.invokestatic 49, 3) := by decide +kernel
theorem dX4_row_27 : decode cX4_row 27 = .ok (.ifCond .ne 5, 3) := by decide +kernel
theorem dX4_row_30 : decode cX4_row 30 = .ok (.iconst (-1), 1) := by decide +kernel
theorem dX4_row_31 : decode cX4_row 31 = .ok (.ireturn, 1) := by decide +kernel
theorem dX4_row_32 : decode cX4_row 32 = .ok (.aload 4, 2) := by decide +kernel
theorem dX4_row_34 : decode cX4_row 34 = .ok (.iload_n 2, 1) := by decide +kernel
theorem dX4_row_35 : decode cX4_row 35 = .ok (.iload_n 3, 1) := by decide +kernel
theorem dX4_row_36 : decode cX4_row 36 = .ok (.invokevirtual 64, 3) := by decide +kernel
theorem dX4_row_39 : decode cX4_row 39 = .ok (.ireturn, 1) := by decide +kernel
theorem dX4_emptied_0 : decode cX4_emptied 0 = .ok (.aload_n 0, 1) := by decide +kernel
theorem dX4_emptied_1 : decode cX4_emptied 1 = .ok (.iload_n 1, 1) := by decide +kernel
theorem dX4_emptied_2 : decode cX4_emptied 2 = .ok (.invokevirtual 56, 3) := by decide +kernel
theorem dX4_emptied_5 : decode cX4_emptied 5 = .ok (.astore 4, 2) := by decide +kernel
theorem dX4_emptied_7 : decode cX4_emptied 7 = .ok (.aload 4, 2) := by decide +kernel
theorem dX4_emptied_9 : decode cX4_emptied 9 = .ok (.ifnull 20, 3) := by decide +kernel
theorem dX4_emptied_12 : decode cX4_emptied 12 = .ok (.iload_n 2, 1) := by decide +kernel
theorem dX4_emptied_13 : decode cX4_emptied 13 = .ok (.invokestatic 60, 3) := by decide +kernel
theorem dX4_emptied_16 : decode cX4_emptied 16 = .ok (.ifCond .eq 13, 3) := by decide +kernel
theorem dX4_emptied_19 : decode cX4_emptied 19 = .ok (.iload_n 3, 1) := by decide +kernel
theorem dX4_emptied_20 : decode cX4_emptied 20 = .ok (.iconst 0, 1) := by decide +kernel
theorem dX4_emptied_21 : decode cX4_emptied 21 = .ok (.ldc 68, 2) := by decide +kernel
theorem dX4_emptied_23 : decode cX4_emptied 23 = .ok (.invokestatic 49, 3) := by decide +kernel
theorem dX4_emptied_26 : decode cX4_emptied 26 = .ok (.ifCond .ne 5, 3) := by decide +kernel
theorem dX4_emptied_29 : decode cX4_emptied 29 = .ok (.iconst (-1), 1) := by decide +kernel
theorem dX4_emptied_30 : decode cX4_emptied 30 = .ok (.ireturn, 1) := by decide +kernel
theorem dX4_emptied_31 : decode cX4_emptied 31 = .ok (.aload 4, 2) := by decide +kernel
theorem dX4_emptied_33 : decode cX4_emptied 33 = .ok (.iload_n 2, 1) := by decide +kernel
theorem dX4_emptied_34 : decode cX4_emptied 34 = .ok (.iload_n 3, 1) := by decide +kernel
theorem dX4_emptied_35 : decode cX4_emptied 35 = .ok (.invokevirtual 69, 3) := by decide +kernel
theorem dX4_emptied_38 : decode cX4_emptied 38 = .ok (.ireturn, 1) := by decide +kernel
theorem dX4_fade_0 : decode cX4_fade 0 = .ok (.iload_n 1, 1) := by decide +kernel
theorem dX4_fade_1 : decode cX4_fade 1 = .ok (.iconst 1, 1) := by decide +kernel
theorem dX4_fade_2 : decode cX4_fade 2 = .ok (.bipush 9, 2) := by decide +kernel
theorem dX4_fade_4 : decode cX4_fade 4 = .ok (.invokestatic 49, 3) := by decide +kernel
theorem dX4_fade_7 : decode cX4_fade 7 = .ok (.ifCond .eq 18, 3) := by decide +kernel
theorem dX4_fade_10 : decode cX4_fade 10 = .ok (.iload_n 2, 1) := by decide +kernel
theorem dX4_fade_11 : decode cX4_fade 11 = .ok (.iconst 1, 1) := by decide +kernel
theorem dX4_fade_12 : decode cX4_fade 12 = .ok (.bipush 9, 2) := by decide +kernel
theorem dX4_fade_14 : decode cX4_fade 14 = .ok (.invokestatic 49, 3) := by decide +kernel
theorem dX4_fade_17 : decode cX4_fade 17 = .ok (.ifCond .eq 8, 3) := by decide +kernel
theorem dX4_fade_20 : decode cX4_fade 20 = .ok (.iload_n 1, 1) := by decide +kernel
theorem dX4_fade_21 : decode cX4_fade 21 = .ok (.iload_n 2, 1) := by decide +kernel
theorem dX4_fade_22 : decode cX4_fade 22 = .ok (.if_icmp .le 5, 3) := by decide +kernel
theorem dX4_fade_25 : decode cX4_fade 25 = .ok (.iconst 0, 1) := by decide +kernel
theorem dX4_fade_26 : decode cX4_fade 26 = .ok (.ireturn, 1) := by decide +kernel
theorem dX4_fade_27 : decode cX4_fade 27 = .ok (.aload_n 0, 1) := by decide +kernel
theorem dX4_fade_28 : decode cX4_fade 28 = .ok (.getfield 19, 3) := by decide +kernel
theorem dX4_fade_31 : decode cX4_fade 31 = .ok (.iload_n 1, 1) := by decide +kernel
theorem dX4_fade_32 : decode cX4_fade 32 = .ok (.iload_n 2, 1) := by decide +kernel
theorem dX4_fade_33 : decode cX4_fade 33 = .ok (.invokevirtual 72, 3) := by decide +kernel
theorem dX4_fade_36 : decode cX4_fade 36 = .ok (.iconst 1, 1) := by decide +kernel
theorem dX4_fade_37 : decode cX4_fade 37 = .ok (.ireturn, 1) := by decide +kernel
theorem dX4_holiday_0 : decode cX4_holiday 0 = .ok (.iload_n 1, 1) := by decide +kernel
theorem dX4_holiday_1 : decode cX4_holiday 1 = .ok (.invokestatic 75, 3) := by decide +kernel
theorem dX4_holiday_4 : decode cX4_holiday 4 = .ok (.ifCond .ne 5, 3) := by decide +kernel
theorem dX4_holiday_7 : decode cX4_holiday 7 = .ok (.iconst 0, 1) := by decide +kernel
theorem dX4_holiday_8 : decode cX4_holiday 8 = .ok (.ireturn, 1) := by decide +kernel
theorem dX4_holiday_9 : decode cX4_holiday 9 = .ok (.aload_n 0, 1) := by decide +kernel
theorem dX4_holiday_10 : decode cX4_holiday 10 = .ok (.getfield 10, 3) := by decide +kernel
theorem dX4_holiday_13 : decode cX4_holiday 13 = .ok (.iload_n 1, 1) := by decide +kernel
theorem dX4_holiday_14 : decode cX4_holiday 14 = .ok (.iload_n 2, 1) := by decide +kernel
theorem dX4_holiday_15 : decode cX4_holiday 15 = .ok (.invokevirtual 78, 3) := by decide +kernel
theorem dX4_holiday_18 : decode cX4_holiday 18 = .ok (.iconst 1, 1) := by decide +kernel
theorem dX4_holiday_19 : decode cX4_holiday 19 = .ok (.ireturn, 1) := by decide +kernel
theorem dX4_mean_0 : decode cX4_mean 0 = .ok (.aload_n 0, 1) := by decide +kernel
theorem dX4_mean_1 : decode cX4_mean 1 = .ok (.iload_n 1, 1) := by decide +kernel
theorem dX4_mean_2 : decode cX4_mean 2 = .ok (.invokevirtual 56, 3) := by decide +kernel
theorem dX4_mean_5 : decode cX4_mean 5 = .ok (.astore_n 3, 1) := by decide +kernel
theorem dX4_mean_6 : decode cX4_mean 6 = .ok (.aload_n 3, 1) := by decide +kernel
theorem dX4_mean_7 : decode cX4_mean 7 = .ok (.ifnull 13, 3) := by decide +kernel
theorem dX4_mean_10 : decode cX4_mean 10 = .ok (.iload_n 2, 1) := by decide +kernel
theorem dX4_mean_11 : decode cX4_mean 11 = .ok (.iconst 0, 1) := by decide +kernel
theorem dX4_mean_12 : decode cX4_mean 12 = .ok (.bipush 6, 2) := by decide +kernel
theorem dX4_mean_14 : decode cX4_mean 14 = .ok (.invokestatic 49, 3) := by decide +kernel
theorem dX4_mean_17 : decode cX4_mean 17 = .ok (.ifCond .ne 5, 3) := by decide +kernel
theorem dX4_mean_20 : decode cX4_mean 20 = .ok (.iconst (-1), 1) := by decide +kernel
theorem dX4_mean_21 : decode cX4_mean 21 = .ok (.ireturn, 1) := by decide +kernel
theorem dX4_mean_22 : decode cX4_mean 22 = .ok (.aload_n 3, 1) := by decide +kernel
theorem dX4_mean_23 : decode cX4_mean 23 = .ok (.iload_n 2, 1) := by decide +kernel
theorem dX4_mean_24 : decode cX4_mean 24 = .ok (.aload_n 0, 1) := by decide +kernel
theorem dX4_mean_25 : decode cX4_mean 25 = .ok (.getfield 10, 3) := by decide +kernel
theorem dX4_mean_28 : decode cX4_mean 28 = .ok (.aload_n 0, 1) := by decide +kernel
theorem dX4_mean_29 : decode cX4_mean 29 = .ok (.getfield 19, 3) := by decide +kernel
theorem dX4_mean_32 : decode cX4_mean 32 = .ok (.invokevirtual 82, 3) := by decide +kernel
theorem dX4_mean_35 : decode cX4_mean 35 = .ok (.ireturn, 1) := by decide +kernel
theorem dX4_rate_0 : decode cX4_rate 0 = .ok (.aload_n 0, 1) := by decide +kernel
theorem dX4_rate_1 : decode cX4_rate 1 = .ok (.iload_n 1, 1) := by decide +kernel
theorem dX4_rate_2 : decode cX4_rate 2 = .ok (.invokevirtual 56, 3) := by decide +kernel
theorem dX4_rate_5 : decode cX4_rate 5 = .ok (.astore_n 3, 1) := by decide +kernel
theorem dX4_rate_6 : decode cX4_rate 6 = .ok (.aload_n 3, 1) := by decide +kernel
theorem dX4_rate_7 : decode cX4_rate 7 = .ok (.ifnull 10, 3) := by decide +kernel
theorem dX4_rate_10 : decode cX4_rate 10 = .ok (.iload_n 2, 1) := by decide +kernel
theorem dX4_rate_11 : decode cX4_rate 11 = .ok (.invokestatic 75, 3) := by decide +kernel
theorem dX4_rate_14 : decode cX4_rate 14 = .ok (.ifCond .ne 5, 3) := by decide +kernel
theorem dX4_rate_17 : decode cX4_rate 17 = .ok (.iconst (-1), 1) := by decide +kernel
theorem dX4_rate_18 : decode cX4_rate 18 = .ok (.ireturn, 1) := by decide +kernel
theorem dX4_rate_19 : decode cX4_rate 19 = .ok (.aload_n 0, 1) := by decide +kernel
theorem dX4_rate_20 : decode cX4_rate 20 = .ok (.aload_n 3, 1) := by decide +kernel
theorem dX4_rate_21 : decode cX4_rate 21 = .ok (.aload_n 0, 1) := by decide +kernel
theorem dX4_rate_22 : decode cX4_rate 22 = .ok (.getfield 10, 3) := by decide +kernel
theorem dX4_rate_25 : decode cX4_rate 25 = .ok (.iload_n 2, 1) := by decide +kernel
theorem dX4_rate_26 : decode cX4_rate 26 = .ok (.invokevirtual 86, 3) := by decide +kernel
theorem dX4_rate_29 : decode cX4_rate 29 = .ok (.invokevirtual 90, 3) := by decide +kernel
theorem dX4_rate_32 : decode cX4_rate 32 = .ok (.ireturn, 1) := by decide +kernel
theorem dX4_weight_0 : decode cX4_weight 0 = .ok (.iload_n 1, 1) := by decide +kernel
theorem dX4_weight_1 : decode cX4_weight 1 = .ok (.iconst 0, 1) := by decide +kernel
theorem dX4_weight_2 : decode cX4_weight 2 = .ok (.bipush 7, 2) := by decide +kernel
theorem dX4_weight_4 : decode cX4_weight 4 = .ok (.invokestatic 49, 3) := by decide +kernel
theorem dX4_weight_7 : decode cX4_weight 7 = .ok (.ifCond .eq 14, 3) := by decide +kernel
theorem dX4_weight_10 : decode cX4_weight 10 = .ok (.aload_n 0, 1) := by decide +kernel
theorem dX4_weight_11 : decode cX4_weight 11 = .ok (.getfield 19, 3) := by decide +kernel
theorem dX4_weight_14 : decode cX4_weight 14 = .ok (.iload_n 1, 1) := by decide +kernel
theorem dX4_weight_15 : decode cX4_weight 15 = .ok (.invokevirtual 94, 3) := by decide +kernel
theorem dX4_weight_18 : decode cX4_weight 18 = .ok (.goto 4, 3) := by decide +kernel
theorem dX4_weight_21 : decode cX4_weight 21 = .ok (.iconst (-1), 1) := by decide +kernel
theorem dX4_weight_22 : decode cX4_weight 22 = .ok (.ireturn, 1) := by decide +kernel
theorem dX4_expected_0 : decode cX4_expected 0 = .ok (.aload_n 0, 1) := by decide +kernel
theorem dX4_expected_1 : decode cX4_expected 1 = .ok (.iload_n 1, 1) := by decide +kernel
theorem dX4_expected_2 : decode cX4_expected 2 = .ok (.invokevirtual 56, 3) := by decide +kernel
theorem dX4_expected_5 : decode cX4_expected 5 = .ok (.astore_n 3, 1) := by decide +kernel
theorem dX4_expected_6 : decode cX4_expected 6 = .ok (.aload_n 3, 1) := by decide +kernel
theorem dX4_expected_7 : decode cX4_expected 7 = .ok (.ifnull 10, 3) := by decide +kernel
theorem dX4_expected_10 : decode cX4_expected 10 = .ok (.iload_n 2, 1) := by decide +kernel
theorem dX4_expected_11 : decode cX4_expected 11 = .ok (.invokestatic 60, 3) := by decide +kernel
theorem dX4_expected_14 : decode cX4_expected 14 = .ok (.ifCond .ne 7, 3) := by decide +kernel
theorem dX4_expected_17 : decode cX4_expected 17 = .ok (.ldc2_w 97, 3) := by decide +kernel
theorem dX4_expected_20 : decode cX4_expected 20 = .ok (.lreturn, 1) := by decide +kernel
theorem dX4_expected_21 : decode cX4_expected 21 = .ok (.aload_n 0, 1) := by decide +kernel
theorem dX4_expected_22 : decode cX4_expected 22 = .ok (.aload_n 3, 1) := by decide +kernel
theorem dX4_expected_23 : decode cX4_expected 23 = .ok (.invokevirtual 99, 3) := by decide +kernel
theorem dX4_expected_26 : decode cX4_expected 26 = .ok (.aload_n 0, 1) := by decide +kernel
theorem dX4_expected_27 : decode cX4_expected 27 = .ok (.getfield 26, 3) := by decide +kernel
theorem dX4_expected_30 : decode cX4_expected 30 = .ok (.aload_n 3, 1) := by decide +kernel
theorem dX4_expected_31 : decode cX4_expected 31 = .ok (.iload_n 2, 1) := by decide +kernel
theorem dX4_expected_32 : decode cX4_expected 32 = .ok (.invokevirtual 103, 3) := by decide +kernel
theorem dX4_expected_35 : decode cX4_expected 35 = .ok (.lreturn, 1) := by decide +kernel
theorem dX4_wrong_0 : decode cX4_wrong 0 = .ok (.aload_n 0, 1) := by decide +kernel
theorem dX4_wrong_1 : decode cX4_wrong 1 = .ok (.iload_n 1, 1) := by decide +kernel
theorem dX4_wrong_2 : decode cX4_wrong 2 = .ok (.invokevirtual 56, 3) := by decide +kernel
theorem dX4_wrong_5 : decode cX4_wrong 5 = .ok (.astore_n 3, 1) := by decide +kernel
theorem dX4_wrong_6 : decode cX4_wrong 6 = .ok (.aload_n 3, 1) := by decide +kernel
theorem dX4_wrong_7 : decode cX4_wrong 7 = .ok (.ifnonnull 7, 3) := by decide +kernel
theorem dX4_wrong_10 : decode cX4_wrong 10 = .ok (.iconst (-1), 1) := by decide +kernel
theorem dX4_wrong_11 : decode cX4_wrong 11 = .ok (.goto 8, 3) := by decide +kernel
theorem dX4_wrong_14 : decode cX4_wrong 14 = .ok (.aload_n 3, 1) := by decide +kernel
theorem dX4_wrong_15 : decode cX4_wrong 15 = .ok (.iload_n 2, 1) := by decide +kernel
theorem dX4_wrong_16 : decode cX4_wrong 16 = .ok (.invokevirtual 107, 3) := by decide +kernel
theorem dX4_wrong_19 : decode cX4_wrong 19 = .ok (.ireturn, 1) := by decide +kernel
theorem dX4_quiet_0 : decode cX4_quiet 0 = .ok (.iload_n 1, 1) := by decide +kernel
theorem dX4_quiet_1 : decode cX4_quiet 1 = .ok (.iconst 0, 1) := by decide +kernel
theorem dX4_quiet_2 : decode cX4_quiet 2 = .ok (.sipush 1000, 3) := by decide +kernel
theorem dX4_quiet_5 : decode cX4_quiet 5 = .ok (.invokestatic 49, 3) := by decide +kernel
theorem dX4_quiet_8 : decode cX4_quiet 8 = .ok (.ifCond .ne 5, 3) := by decide +kernel
theorem dX4_quiet_11 : decode cX4_quiet 11 = .ok (.iconst 0, 1) := by decide +kernel
theorem dX4_quiet_12 : decode cX4_quiet 12 = .ok (.ireturn, 1) := by decide +kernel
theorem dX4_quiet_13 : decode cX4_quiet 13 = .ok (.aload_n 0, 1) := by decide +kernel
theorem dX4_quiet_14 : decode cX4_quiet 14 = .ok (.iload_n 1, 1) := by decide +kernel
theorem dX4_quiet_15 : decode cX4_quiet 15 = .ok (.putfield 40, 3) := by decide +kernel
theorem dX4_quiet_18 : decode cX4_quiet 18 = .ok (.iconst 1, 1) := by decide +kernel
theorem dX4_quiet_19 : decode cX4_quiet 19 = .ok (.ireturn, 1) := by decide +kernel
theorem dX4_silent_0 : decode cX4_silent 0 = .ok (.iload_n 1, 1) := by decide +kernel
theorem dX4_silent_1 : decode cX4_silent 1 = .ok (.invokestatic 60, 3) := by decide +kernel
theorem dX4_silent_4 : decode cX4_silent 4 = .ok (.ifCond .ne 5, 3) := by decide +kernel
theorem dX4_silent_7 : decode cX4_silent 7 = .ok (.iconst (-1), 1) := by decide +kernel
theorem dX4_silent_8 : decode cX4_silent 8 = .ok (.ireturn, 1) := by decide +kernel
theorem dX4_silent_9 : decode cX4_silent 9 = .ok (.iconst 0, 1) := by decide +kernel
theorem dX4_silent_10 : decode cX4_silent 10 = .ok (.istore_n 3, 1) := by decide +kernel
theorem dX4_silent_11 : decode cX4_silent 11 = .ok (.iconst 0, 1) := by decide +kernel
theorem dX4_silent_12 : decode cX4_silent 12 = .ok (.istore 4, 2) := by decide +kernel
theorem dX4_silent_14 : decode cX4_silent 14 = .ok (.iload 4, 2) := by decide +kernel
theorem dX4_silent_16 : decode cX4_silent 16 = .ok (.aload_n 0, 1) := by decide +kernel
theorem dX4_silent_17 : decode cX4_silent 17 = .ok (.getfield 36, 3) := by decide +kernel
theorem dX4_silent_20 : decode cX4_silent 20 = .ok (.if_icmp .ge 40, 3) := by decide +kernel
theorem dX4_silent_23 : decode cX4_silent 23 = .ok (.aload_n 0, 1) := by decide +kernel
theorem dX4_silent_24 : decode cX4_silent 24 = .ok (.getfield 32, 3) := by decide +kernel
theorem dX4_silent_27 : decode cX4_silent 27 = .ok (.iload 4, 2) := by decide +kernel
theorem dX4_silent_29 : decode cX4_silent 29 = .ok (.aaload, 1) := by decide +kernel
theorem dX4_silent_30 : decode cX4_silent 30 = .ok (.iload_n 1, 1) := by decide +kernel
theorem dX4_silent_31 : decode cX4_silent 31 = .ok (.aload_n 0, 1) := by decide +kernel
theorem dX4_silent_32 : decode cX4_silent 32 = .ok (.getfield 40, 3) := by decide +kernel
theorem dX4_silent_35 : decode cX4_silent 35 = .ok (.isub, 1) := by decide +kernel
theorem dX4_silent_36 : decode cX4_silent 36 = .ok (.iload_n 1, 1) := by decide +kernel
theorem dX4_silent_37 : decode cX4_silent 37 = .ok (.invokevirtual 110, 3) := by decide +kernel
theorem dX4_silent_40 : decode cX4_silent 40 = .ok (.ifCond .ne 14, 3) := by decide +kernel
theorem dX4_silent_43 : decode cX4_silent 43 = .ok (.iload_n 3, 1) := by decide +kernel
theorem dX4_silent_44 : decode cX4_silent 44 = .ok (.iload_n 2, 1) := by decide +kernel
theorem dX4_silent_45 : decode cX4_silent 45 = .ok (.if_icmp .ne 6, 3) := by decide +kernel
theorem dX4_silent_48 : decode cX4_silent 48 = .ok (.iload 4, 2) := by decide +kernel
theorem dX4_silent_50 : decode cX4_silent 50 = .ok (.ireturn, 1) := by decide +kernel
theorem dX4_silent_51 : decode cX4_silent 51 = .ok (.iinc 3 1, 3) := by decide +kernel
theorem dX4_silent_54 : decode cX4_silent 54 = .ok (.iinc 4 1, 3) := by decide +kernel
theorem dX4_silent_57 : decode cX4_silent 57 = .ok (.goto (-43), 3) := by decide +kernel
theorem dX4_silent_60 : decode cX4_silent 60 = .ok (.iconst (-1), 1) := by decide +kernel
theorem dX4_silent_61 : decode cX4_silent 61 = .ok (.ireturn, 1) := by decide +kernel
theorem dX4_over_0 : decode cX4_over 0 = .ok (.iload_n 1, 1) := by decide +kernel
theorem dX4_over_1 : decode cX4_over 1 = .ok (.invokestatic 60, 3) := by decide +kernel
theorem dX4_over_4 : decode cX4_over 4 = .ok (.ifCond .ne 5, 3) := by decide +kernel
theorem dX4_over_7 : decode cX4_over 7 = .ok (.iconst (-1), 1) := by decide +kernel
theorem dX4_over_8 : decode cX4_over 8 = .ok (.ireturn, 1) := by decide +kernel
theorem dX4_over_9 : decode cX4_over 9 = .ok (.iconst 0, 1) := by decide +kernel
theorem dX4_over_10 : decode cX4_over 10 = .ok (.istore_n 3, 1) := by decide +kernel
theorem dX4_over_11 : decode cX4_over 11 = .ok (.iconst 0, 1) := by decide +kernel
theorem dX4_over_12 : decode cX4_over 12 = .ok (.istore 4, 2) := by decide +kernel
theorem dX4_over_14 : decode cX4_over 14 = .ok (.iload 4, 2) := by decide +kernel
theorem dX4_over_16 : decode cX4_over 16 = .ok (.aload_n 0, 1) := by decide +kernel
theorem dX4_over_17 : decode cX4_over 17 = .ok (.getfield 36, 3) := by decide +kernel
theorem dX4_over_20 : decode cX4_over 20 = .ok (.if_icmp .ge 53, 3) := by decide +kernel
theorem dX4_over_23 : decode cX4_over 23 = .ok (.aload_n 0, 1) := by decide +kernel
theorem dX4_over_24 : decode cX4_over 24 = .ok (.aload_n 0, 1) := by decide +kernel
theorem dX4_over_25 : decode cX4_over 25 = .ok (.getfield 32, 3) := by decide +kernel
theorem dX4_over_28 : decode cX4_over 28 = .ok (.iload 4, 2) := by decide +kernel
theorem dX4_over_30 : decode cX4_over 30 = .ok (.aaload, 1) := by decide +kernel
theorem dX4_over_31 : decode cX4_over 31 = .ok (.invokevirtual 99, 3) := by decide +kernel
theorem dX4_over_34 : decode cX4_over 34 = .ok (.aload_n 0, 1) := by decide +kernel
theorem dX4_over_35 : decode cX4_over 35 = .ok (.getfield 26, 3) := by decide +kernel
theorem dX4_over_38 : decode cX4_over 38 = .ok (.aload_n 0, 1) := by decide +kernel
theorem dX4_over_39 : decode cX4_over 39 = .ok (.getfield 32, 3) := by decide +kernel
theorem dX4_over_42 : decode cX4_over 42 = .ok (.iload 4, 2) := by decide +kernel
theorem dX4_over_44 : decode cX4_over 44 = .ok (.aaload, 1) := by decide +kernel
theorem dX4_over_45 : decode cX4_over 45 = .ok (.iload_n 1, 1) := by decide +kernel
theorem dX4_over_46 : decode cX4_over 46 = .ok (.invokevirtual 103, 3) := by decide +kernel
theorem dX4_over_49 : decode cX4_over 49 = .ok (.ldc2_w 114, 3) := by decide +kernel
theorem dX4_over_52 : decode cX4_over 52 = .ok (.lcmp, 1) := by decide +kernel
theorem dX4_over_53 : decode cX4_over 53 = .ok (.ifCond .lt 14, 3) := by decide +kernel
theorem dX4_over_56 : decode cX4_over 56 = .ok (.iload_n 3, 1) := by decide +kernel
theorem dX4_over_57 : decode cX4_over 57 = .ok (.iload_n 2, 1) := by decide +kernel
theorem dX4_over_58 : decode cX4_over 58 = .ok (.if_icmp .ne 6, 3) := by decide +kernel
theorem dX4_over_61 : decode cX4_over 61 = .ok (.iload 4, 2) := by decide +kernel
theorem dX4_over_63 : decode cX4_over 63 = .ok (.ireturn, 1) := by decide +kernel
theorem dX4_over_64 : decode cX4_over 64 = .ok (.iinc 3 1, 3) := by decide +kernel
theorem dX4_over_67 : decode cX4_over 67 = .ok (.iinc 4 1, 3) := by decide +kernel
theorem dX4_over_70 : decode cX4_over 70 = .ok (.goto (-56), 3) := by decide +kernel
theorem dX4_over_73 : decode cX4_over 73 = .ok (.iconst (-1), 1) := by decide +kernel
theorem dX4_over_74 : decode cX4_over 74 = .ok (.ireturn, 1) := by decide +kernel
theorem dX4_cost_0 : decode cX4_cost 0 = .ok (.iload_n 1, 1) := by decide +kernel
theorem dX4_cost_1 : decode cX4_cost 1 = .ok (.iconst 0, 1) := by decide +kernel
theorem dX4_cost_2 : decode cX4_cost 2 = .ok (.sipush 1000, 3) := by decide +kernel
theorem dX4_cost_5 : decode cX4_cost 5 = .ok (.invokestatic 49, 3) := by decide +kernel
theorem dX4_cost_8 : decode cX4_cost 8 = .ok (.ifCond .eq 14, 3) := by decide +kernel
theorem dX4_cost_11 : decode cX4_cost 11 = .ok (.iload_n 2, 1) := by decide +kernel
theorem dX4_cost_12 : decode cX4_cost 12 = .ok (.iconst 0, 1) := by decide +kernel
theorem dX4_cost_13 : decode cX4_cost 13 = .ok (.sipush 1000, 3) := by decide +kernel
theorem dX4_cost_16 : decode cX4_cost 16 = .ok (.invokestatic 49, 3) := by decide +kernel
theorem dX4_cost_19 : decode cX4_cost 19 = .ok (.ifCond .ne 5, 3) := by decide +kernel
theorem dX4_cost_22 : decode cX4_cost 22 = .ok (.iconst 0, 1) := by decide +kernel
theorem dX4_cost_23 : decode cX4_cost 23 = .ok (.ireturn, 1) := by decide +kernel
theorem dX4_cost_24 : decode cX4_cost 24 = .ok (.aload_n 0, 1) := by decide +kernel
theorem dX4_cost_25 : decode cX4_cost 25 = .ok (.iload_n 1, 1) := by decide +kernel
theorem dX4_cost_26 : decode cX4_cost 26 = .ok (.putfield 43, 3) := by decide +kernel
theorem dX4_cost_29 : decode cX4_cost 29 = .ok (.aload_n 0, 1) := by decide +kernel
theorem dX4_cost_30 : decode cX4_cost 30 = .ok (.iload_n 2, 1) := by decide +kernel
theorem dX4_cost_31 : decode cX4_cost 31 = .ok (.putfield 46, 3) := by decide +kernel
theorem dX4_cost_34 : decode cX4_cost 34 = .ok (.iconst 1, 1) := by decide +kernel
theorem dX4_cost_35 : decode cX4_cost 35 = .ok (.ireturn, 1) := by decide +kernel
theorem dX4_costOf_0 : decode cX4_costOf 0 = .ok (.aload_n 0, 1) := by decide +kernel
theorem dX4_costOf_1 : decode cX4_costOf 1 = .ok (.iload_n 1, 1) := by decide +kernel
theorem dX4_costOf_2 : decode cX4_costOf 2 = .ok (.invokevirtual 56, 3) := by decide +kernel
theorem dX4_costOf_5 : decode cX4_costOf 5 = .ok (.astore_n 3, 1) := by decide +kernel
theorem dX4_costOf_6 : decode cX4_costOf 6 = .ok (.aload_n 3, 1) := by decide +kernel
theorem dX4_costOf_7 : decode cX4_costOf 7 = .ok (.ifnull 10, 3) := by decide +kernel
theorem dX4_costOf_10 : decode cX4_costOf 10 = .ok (.iload_n 2, 1) := by decide +kernel
theorem dX4_costOf_11 : decode cX4_costOf 11 = .ok (.invokestatic 75, 3) := by decide +kernel
theorem dX4_costOf_14 : decode cX4_costOf 14 = .ok (.ifCond .ne 7, 3) := by decide +kernel
theorem dX4_costOf_17 : decode cX4_costOf 17 = .ok (.ldc2_w 97, 3) := by decide +kernel
theorem dX4_costOf_20 : decode cX4_costOf 20 = .ok (.lreturn, 1) := by decide +kernel
theorem dX4_costOf_21 : decode cX4_costOf 21 = .ok (.aload_n 0, 1) := by decide +kernel
theorem dX4_costOf_22 : decode cX4_costOf 22 = .ok (.aload_n 3, 1) := by decide +kernel
theorem dX4_costOf_23 : decode cX4_costOf 23 = .ok (.invokevirtual 99, 3) := by decide +kernel
theorem dX4_costOf_26 : decode cX4_costOf 26 = .ok (.aload_n 0, 1) := by decide +kernel
theorem dX4_costOf_27 : decode cX4_costOf 27 = .ok (.aload_n 3, 1) := by decide +kernel
theorem dX4_costOf_28 : decode cX4_costOf 28 = .ok (.iload_n 2, 1) := by decide +kernel
theorem dX4_costOf_29 : decode cX4_costOf 29 = .ok (.invokevirtual 116, 3) := by decide +kernel
theorem dX4_costOf_32 : decode cX4_costOf 32 = .ok (.lreturn, 1) := by decide +kernel
theorem dX4_day_0 : decode cX4_day 0 = .ok (.aload_n 0, 1) := by decide +kernel
theorem dX4_day_1 : decode cX4_day 1 = .ok (.iload_n 1, 1) := by decide +kernel
theorem dX4_day_2 : decode cX4_day 2 = .ok (.invokevirtual 56, 3) := by decide +kernel
theorem dX4_day_5 : decode cX4_day 5 = .ok (.astore 4, 2) := by decide +kernel
theorem dX4_day_7 : decode cX4_day 7 = .ok (.aload 4, 2) := by decide +kernel
theorem dX4_day_9 : decode cX4_day 9 = .ok (.ifnull 22, 3) := by decide +kernel
theorem dX4_day_12 : decode cX4_day 12 = .ok (.iload_n 2, 1) := by decide +kernel
theorem dX4_day_13 : decode cX4_day 13 = .ok (.invokestatic 75, 3) := by decide +kernel
theorem dX4_day_16 : decode cX4_day 16 = .ok (.ifCond .eq 15, 3) := by decide +kernel
theorem dX4_day_19 : decode cX4_day 19 = .ok (.iload_n 3, 1) := by decide +kernel
theorem dX4_day_20 : decode cX4_day 20 = .ok (.invokestatic 75, 3) := by decide +kernel
theorem dX4_day_23 : decode cX4_day 23 = .ok (.ifCond .eq 8, 3) := by decide +kernel
theorem dX4_day_26 : decode cX4_day 26 = .ok (.iload_n 2, 1) := by decide +kernel
theorem dX4_day_27 : decode cX4_day 27 = .ok (.iload_n 3, 1) := by decide +kernel
theorem dX4_day_28 : decode cX4_day 28 = .ok (.if_icmp .le 5, 3) := by decide +kernel
theorem dX4_day_31 : decode cX4_day 31 = .ok (.iconst (-1), 1) := by decide +kernel
theorem dX4_day_32 : decode cX4_day 32 = .ok (.ireturn, 1) := by decide +kernel
theorem dX4_day_33 : decode cX4_day 33 = .ok (.aload_n 0, 1) := by decide +kernel
theorem dX4_day_34 : decode cX4_day 34 = .ok (.aload 4, 2) := by decide +kernel
theorem dX4_day_36 : decode cX4_day 36 = .ok (.invokevirtual 99, 3) := by decide +kernel
theorem dX4_day_39 : decode cX4_day 39 = .ok (.iload_n 2, 1) := by decide +kernel
theorem dX4_day_40 : decode cX4_day 40 = .ok (.istore 5, 2) := by decide +kernel
theorem dX4_day_42 : decode cX4_day 42 = .ok (.aload_n 0, 1) := by decide +kernel
theorem dX4_day_43 : decode cX4_day 43 = .ok (.aload 4, 2) := by decide +kernel
theorem dX4_day_45 : decode cX4_day 45 = .ok (.iload_n 2, 1) := by decide +kernel
theorem dX4_day_46 : decode cX4_day 46 = .ok (.invokevirtual 116, 3) := by decide +kernel
theorem dX4_day_49 : decode cX4_day 49 = .ok (.lstore 6, 2) := by decide +kernel
theorem dX4_day_51 : decode cX4_day 51 = .ok (.iload_n 2, 1) := by decide +kernel
theorem dX4_day_52 : decode cX4_day 52 = .ok (.iconst 1, 1) := by decide +kernel
theorem dX4_day_53 : decode cX4_day 53 = .ok (.iadd, 1) := by decide +kernel
theorem dX4_day_54 : decode cX4_day 54 = .ok (.istore 8, 2) := by decide +kernel
theorem dX4_day_56 : decode cX4_day 56 = .ok (.iload 8, 2) := by decide +kernel
theorem dX4_day_58 : decode cX4_day 58 = .ok (.iload_n 3, 1) := by decide +kernel
theorem dX4_day_59 : decode cX4_day 59 = .ok (.if_icmp .gt 35, 3) := by decide +kernel
theorem dX4_day_62 : decode cX4_day 62 = .ok (.aload_n 0, 1) := by decide +kernel
theorem dX4_day_63 : decode cX4_day 63 = .ok (.aload 4, 2) := by decide +kernel
theorem dX4_day_65 : decode cX4_day 65 = .ok (.iload 8, 2) := by decide +kernel
theorem dX4_day_67 : decode cX4_day 67 = .ok (.invokevirtual 116, 3) := by decide +kernel
theorem dX4_day_70 : decode cX4_day 70 = .ok (.lstore 9, 2) := by decide +kernel
theorem dX4_day_72 : decode cX4_day 72 = .ok (.lload 9, 2) := by decide +kernel
theorem dX4_day_74 : decode cX4_day 74 = .ok (.lload 6, 2) := by decide +kernel
theorem dX4_day_76 : decode cX4_day 76 = .ok (.lcmp, 1) := by decide +kernel
theorem dX4_day_77 : decode cX4_day 77 = .ok (.ifCond .ge 11, 3) := by decide +kernel
theorem dX4_day_80 : decode cX4_day 80 = .ok (.iload 8, 2) := by decide +kernel
theorem dX4_day_82 : decode cX4_day 82 = .ok (.istore 5, 2) := by decide +kernel
theorem dX4_day_84 : decode cX4_day 84 = .ok (.lload 9, 2) := by decide +kernel
theorem dX4_day_86 : decode cX4_day 86 = .ok (.lstore 6, 2) := by decide +kernel
theorem dX4_day_88 : decode cX4_day 88 = .ok (.iinc 8 1, 3) := by decide +kernel
theorem dX4_day_91 : decode cX4_day 91 = .ok (.goto (-35), 3) := by decide +kernel
theorem dX4_day_94 : decode cX4_day 94 = .ok (.iload 5, 2) := by decide +kernel
theorem dX4_day_96 : decode cX4_day 96 = .ok (.ireturn, 1) := by decide +kernel
theorem dX4_check_0 : decode cX4_check 0 = .ok (.aload_n 0, 1) := by decide +kernel
theorem dX4_check_1 : decode cX4_check 1 = .ok (.iload_n 1, 1) := by decide +kernel
theorem dX4_check_2 : decode cX4_check 2 = .ok (.invokevirtual 56, 3) := by decide +kernel
theorem dX4_check_5 : decode cX4_check 5 = .ok (.astore_n 3, 1) := by decide +kernel
theorem dX4_check_6 : decode cX4_check 6 = .ok (.aload_n 3, 1) := by decide +kernel
theorem dX4_check_7 : decode cX4_check 7 = .ok (.ifnonnull 7, 3) := by decide +kernel
theorem dX4_check_10 : decode cX4_check 10 = .ok (.iconst (-1), 1) := by decide +kernel
theorem dX4_check_11 : decode cX4_check 11 = .ok (.goto 8, 3) := by decide +kernel
theorem dX4_check_14 : decode cX4_check 14 = .ok (.aload_n 3, 1) := by decide +kernel
theorem dX4_check_15 : decode cX4_check 15 = .ok (.iload_n 2, 1) := by decide +kernel
theorem dX4_check_16 : decode cX4_check 16 = .ok (.invokevirtual 119, 3) := by decide +kernel
theorem dX4_check_19 : decode cX4_check 19 = .ok (.istore 4, 2) := by decide +kernel
theorem dX4_check_21 : decode cX4_check 21 = .ok (.aload_n 3, 1) := by decide +kernel
theorem dX4_check_22 : decode cX4_check 22 = .ok (.ifnull 9, 3) := by decide +kernel
theorem dX4_check_25 : decode cX4_check 25 = .ok (.iload 4, 2) := by decide +kernel
theorem dX4_check_27 : decode cX4_check 27 = .ok (.iconst (-1), 1) := by decide +kernel
theorem dX4_check_28 : decode cX4_check 28 = .ok (.if_icmp .ne 7, 3) := by decide +kernel
theorem dX4_check_31 : decode cX4_check 31 = .ok (.ldc2_w 124, 3) := by decide +kernel
theorem dX4_check_34 : decode cX4_check 34 = .ok (.lreturn, 1) := by decide +kernel
theorem dX4_check_35 : decode cX4_check 35 = .ok (.aload_n 0, 1) := by decide +kernel
theorem dX4_check_36 : decode cX4_check 36 = .ok (.aload_n 3, 1) := by decide +kernel
theorem dX4_check_37 : decode cX4_check 37 = .ok (.invokevirtual 99, 3) := by decide +kernel
theorem dX4_check_40 : decode cX4_check 40 = .ok (.aload_n 0, 1) := by decide +kernel
theorem dX4_check_41 : decode cX4_check 41 = .ok (.getfield 26, 3) := by decide +kernel
theorem dX4_check_44 : decode cX4_check 44 = .ok (.aload_n 3, 1) := by decide +kernel
theorem dX4_check_45 : decode cX4_check 45 = .ok (.iload 4, 2) := by decide +kernel
theorem dX4_check_47 : decode cX4_check 47 = .ok (.invokevirtual 126, 3) := by decide +kernel
theorem dX4_check_50 : decode cX4_check 50 = .ok (.lstore 5, 2) := by decide +kernel
theorem dX4_check_52 : decode cX4_check 52 = .ok (.aload_n 3, 1) := by decide +kernel
theorem dX4_check_53 : decode cX4_check 53 = .ok (.iload 4, 2) := by decide +kernel
theorem dX4_check_55 : decode cX4_check 55 = .ok (.invokevirtual 129, 3) := by decide +kernel
theorem dX4_check_58 : decode cX4_check 58 = .ok (.i2l, 1) := by decide +kernel
theorem dX4_check_59 : decode cX4_check 59 = .ok (.lload 5, 2) := by decide +kernel
theorem dX4_check_61 : decode cX4_check 61 = .ok (.aload_n 3, 1) := by decide +kernel
theorem dX4_check_62 : decode cX4_check 62 = .ok (.invokevirtual 132, 3) := by decide +kernel
theorem dX4_check_65 : decode cX4_check 65 = .ok (.i2l, 1) := by decide +kernel
theorem dX4_check_66 : decode cX4_check 66 = .ok (.lmul, 1) := by decide +kernel
theorem dX4_check_67 : decode cX4_check 67 = .ok (.ldc2_w 114, 3) := by decide +kernel
theorem dX4_check_70 : decode cX4_check 70 = .ok (.ldiv, 1) := by decide +kernel
theorem dX4_check_71 : decode cX4_check 71 = .ok (.lsub, 1) := by decide +kernel
theorem dX4_check_72 : decode cX4_check 72 = .ok (.lreturn, 1) := by decide +kernel
theorem dX4_isWithin_0 : decode cX4_isWithin 0 = .ok (.iload_n 0, 1) := by decide +kernel
theorem dX4_isWithin_1 : decode cX4_isWithin 1 = .ok (.iload_n 1, 1) := by decide +kernel
theorem dX4_isWithin_2 : decode cX4_isWithin 2 = .ok (.if_icmp .lt 12, 3) := by decide +kernel
theorem dX4_isWithin_5 : decode cX4_isWithin 5 = .ok (.iload_n 0, 1) := by decide +kernel
theorem dX4_isWithin_6 : decode cX4_isWithin 6 = .ok (.iload_n 2, 1) := by decide +kernel
theorem dX4_isWithin_7 : decode cX4_isWithin 7 = .ok (.if_icmp .gt 7, 3) := by decide +kernel
theorem dX4_isWithin_10 : decode cX4_isWithin 10 = .ok (.iconst 1, 1) := by decide +kernel
theorem dX4_isWithin_11 : decode cX4_isWithin 11 = .ok (.goto 4, 3) := by decide +kernel
theorem dX4_isWithin_14 : decode cX4_isWithin 14 = .ok (.iconst 0, 1) := by decide +kernel
theorem dX4_isWithin_15 : decode cX4_isWithin 15 = .ok (.ireturn, 1) := by decide +kernel
theorem dX4_isHour_0 : decode cX4_isHour 0 = .ok (.iload_n 0, 1) := by decide +kernel
theorem dX4_isHour_1 : decode cX4_isHour 1 = .ok (.iconst 0, 1) := by decide +kernel
theorem dX4_isHour_2 : decode cX4_isHour 2 = .ok (.sipush 9999, 3) := by decide +kernel
theorem dX4_isHour_5 : decode cX4_isHour 5 = .ok (.invokestatic 49, 3) := by decide +kernel
theorem dX4_isHour_8 : decode cX4_isHour 8 = .ok (.ireturn, 1) := by decide +kernel
theorem dX4_isDay_0 : decode cX4_isDay 0 = .ok (.iload_n 0, 1) := by decide +kernel
theorem dX4_isDay_1 : decode cX4_isDay 1 = .ok (.iconst 0, 1) := by decide +kernel
theorem dX4_isDay_2 : decode cX4_isDay 2 = .ok (.sipush 416, 3) := by decide +kernel
theorem dX4_isDay_5 : decode cX4_isDay 5 = .ok (.invokestatic 49, 3) := by decide +kernel
theorem dX4_isDay_8 : decode cX4_isDay 8 = .ok (.ireturn, 1) := by decide +kernel
theorem dX4_binOf_0 : decode cX4_binOf 0 = .ok (.iload_n 1, 1) := by decide +kernel
theorem dX4_binOf_1 : decode cX4_binOf 1 = .ok (.iconst 0, 1) := by decide +kernel
theorem dX4_binOf_2 : decode cX4_binOf 2 = .ok (.aload_n 0, 1) := by decide +kernel
theorem dX4_binOf_3 : decode cX4_binOf 3 = .ok (.getfield 36, 3) := by decide +kernel
theorem dX4_binOf_6 : decode cX4_binOf 6 = .ok (.iconst 1, 1) := by decide +kernel
theorem dX4_binOf_7 : decode cX4_binOf 7 = .ok (.isub, 1) := by decide +kernel
theorem dX4_binOf_8 : decode cX4_binOf 8 = .ok (.invokestatic 49, 3) := by decide +kernel
theorem dX4_binOf_11 : decode cX4_binOf 11 = .ok (.ifCond .eq 12, 3) := by decide +kernel
theorem dX4_binOf_14 : decode cX4_binOf 14 = .ok (.aload_n 0, 1) := by decide +kernel
theorem dX4_binOf_15 : decode cX4_binOf 15 = .ok (.getfield 32, 3) := by decide +kernel
theorem dX4_binOf_18 : decode cX4_binOf 18 = .ok (.iload_n 1, 1) := by decide +kernel
theorem dX4_binOf_19 : decode cX4_binOf 19 = .ok (.aaload, 1) := by decide +kernel
theorem dX4_binOf_20 : decode cX4_binOf 20 = .ok (.goto 4, 3) := by decide +kernel
theorem dX4_binOf_23 : decode cX4_binOf 23 = .ok (.aconst_null, 1) := by decide +kernel
theorem dX4_binOf_24 : decode cX4_binOf 24 = .ok (.areturn, 1) := by decide +kernel
theorem dX4_rateOn_0 : decode cX4_rateOn 0 = .ok (.aload_n 1, 1) := by decide +kernel
theorem dX4_rateOn_1 : decode cX4_rateOn 1 = .ok (.iload_n 2, 1) := by decide +kernel
theorem dX4_rateOn_2 : decode cX4_rateOn 2 = .ok (.aload_n 0, 1) := by decide +kernel
theorem dX4_rateOn_3 : decode cX4_rateOn 3 = .ok (.getfield 10, 3) := by decide +kernel
theorem dX4_rateOn_6 : decode cX4_rateOn 6 = .ok (.aload_n 0, 1) := by decide +kernel
theorem dX4_rateOn_7 : decode cX4_rateOn 7 = .ok (.getfield 19, 3) := by decide +kernel
theorem dX4_rateOn_10 : decode cX4_rateOn 10 = .ok (.invokevirtual 82, 3) := by decide +kernel
theorem dX4_rateOn_13 : decode cX4_rateOn 13 = .ok (.istore_n 3, 1) := by decide +kernel
theorem dX4_rateOn_14 : decode cX4_rateOn 14 = .ok (.iload_n 3, 1) := by decide +kernel
theorem dX4_rateOn_15 : decode cX4_rateOn 15 = .ok (.iconst (-1), 1) := by decide +kernel
theorem dX4_rateOn_16 : decode cX4_rateOn 16 = .ok (.if_icmp .eq 7, 3) := by decide +kernel
theorem dX4_rateOn_19 : decode cX4_rateOn 19 = .ok (.iload_n 3, 1) := by decide +kernel
theorem dX4_rateOn_20 : decode cX4_rateOn 20 = .ok (.goto 12, 3) := by decide +kernel
theorem dX4_rateOn_23 : decode cX4_rateOn 23 = .ok (.aload_n 0, 1) := by decide +kernel
theorem dX4_rateOn_24 : decode cX4_rateOn 24 = .ok (.aload_n 1, 1) := by decide +kernel
theorem dX4_rateOn_25 : decode cX4_rateOn 25 = .ok (.invokevirtual 136, 3) := by decide +kernel
theorem dX4_rateOn_28 : decode cX4_rateOn 28 = .ok (.iload_n 2, 1) := by decide +kernel
theorem dX4_rateOn_29 : decode cX4_rateOn 29 = .ok (.invokevirtual 139, 3) := by decide +kernel
theorem dX4_rateOn_32 : decode cX4_rateOn 32 = .ok (.ireturn, 1) := by decide +kernel
theorem dX4_streetRateOn_0 : decode cX4_streetRateOn 0 = .ok (.lconst 0, 1) := by decide +kernel
theorem dX4_streetRateOn_1 : decode cX4_streetRateOn 1 = .ok (.lstore_n 3, 1) := by decide +kernel
theorem dX4_streetRateOn_2 : decode cX4_streetRateOn 2 = .ok (.iconst 0, 1) := by decide +kernel
theorem dX4_streetRateOn_3 : decode cX4_streetRateOn 3 = .ok (.istore 5, 2) := by decide +kernel
theorem dX4_streetRateOn_5 : decode cX4_streetRateOn 5 = .ok (.iconst 0, 1) := by decide +kernel
theorem dX4_streetRateOn_6 : decode cX4_streetRateOn 6 = .ok (.istore 6, 2) := by decide +kernel
theorem dX4_streetRateOn_8 : decode cX4_streetRateOn 8 = .ok (.iload 6, 2) := by decide +kernel
theorem dX4_streetRateOn_10 : decode cX4_streetRateOn 10 = .ok (.aload_n 0, 1) := by decide +kernel
theorem dX4_streetRateOn_11 : decode cX4_streetRateOn 11 = .ok (.getfield 36, 3) := by decide +kernel
theorem dX4_streetRateOn_14 : decode cX4_streetRateOn 14 = .ok (.if_icmp .ge 63, 3) := by decide +kernel
theorem dX4_streetRateOn_17 : decode cX4_streetRateOn 17 = .ok (.aload_n 0, 1) := by decide +kernel
theorem dX4_streetRateOn_18 : decode cX4_streetRateOn 18 = .ok (.getfield 32, 3) := by decide +kernel
theorem dX4_streetRateOn_21 : decode cX4_streetRateOn 21 = .ok (.iload 6, 2) := by decide +kernel
theorem dX4_streetRateOn_23 : decode cX4_streetRateOn 23 = .ok (.aaload, 1) := by decide +kernel
theorem dX4_streetRateOn_24 : decode cX4_streetRateOn 24 = .ok (.invokevirtual 136, 3) := by decide +kernel
theorem dX4_streetRateOn_27 : decode cX4_streetRateOn 27 = .ok (.iload_n 1, 1) := by decide +kernel
theorem dX4_streetRateOn_28 : decode cX4_streetRateOn 28 = .ok (.if_icmp .ne 25, 3) := by decide +kernel
theorem dX4_streetRateOn_31 : decode cX4_streetRateOn 31 = .ok (.aload_n 0, 1) := by decide +kernel
theorem dX4_streetRateOn_32 : decode cX4_streetRateOn 32 = .ok (.getfield 32, 3) := by decide +kernel
theorem dX4_streetRateOn_35 : decode cX4_streetRateOn 35 = .ok (.iload 6, 2) := by decide +kernel
theorem dX4_streetRateOn_37 : decode cX4_streetRateOn 37 = .ok (.aaload, 1) := by decide +kernel
theorem dX4_streetRateOn_38 : decode cX4_streetRateOn 38 = .ok (.iload_n 2, 1) := by decide +kernel
theorem dX4_streetRateOn_39 : decode cX4_streetRateOn 39 = .ok (.aload_n 0, 1) := by decide +kernel
theorem dX4_streetRateOn_40 : decode cX4_streetRateOn 40 = .ok (.getfield 10, 3) := by decide +kernel
theorem dX4_streetRateOn_43 : decode cX4_streetRateOn 43 = .ok (.aload_n 0, 1) := by decide +kernel
theorem dX4_streetRateOn_44 : decode cX4_streetRateOn 44 = .ok (.getfield 19, 3) := by decide +kernel
theorem dX4_streetRateOn_47 : decode cX4_streetRateOn 47 = .ok (.invokevirtual 82, 3) := by decide +kernel
theorem dX4_streetRateOn_50 : decode cX4_streetRateOn 50 = .ok (.goto 4, 3) := by decide +kernel
theorem dX4_streetRateOn_53 : decode cX4_streetRateOn 53 = .ok (.iconst (-1), 1) := by decide +kernel
theorem dX4_streetRateOn_54 : decode cX4_streetRateOn 54 = .ok (.istore 7, 2) := by decide +kernel
theorem dX4_streetRateOn_56 : decode cX4_streetRateOn 56 = .ok (.iload 7, 2) := by decide +kernel
theorem dX4_streetRateOn_58 : decode cX4_streetRateOn 58 = .ok (.iconst (-1), 1) := by decide +kernel
theorem dX4_streetRateOn_59 : decode cX4_streetRateOn 59 = .ok (.if_icmp .eq 12, 3) := by decide +kernel
theorem dX4_streetRateOn_62 : decode cX4_streetRateOn 62 = .ok (.lload_n 3, 1) := by decide +kernel
theorem dX4_streetRateOn_63 : decode cX4_streetRateOn 63 = .ok (.iload 7, 2) := by decide +kernel
theorem dX4_streetRateOn_65 : decode cX4_streetRateOn 65 = .ok (.i2l, 1) := by decide +kernel
theorem dX4_streetRateOn_66 : decode cX4_streetRateOn 66 = .ok (.ladd, 1) := by decide +kernel
theorem dX4_streetRateOn_67 : decode cX4_streetRateOn 67 = .ok (.lstore_n 3, 1) := by decide +kernel
theorem dX4_streetRateOn_68 : decode cX4_streetRateOn 68 = .ok (.iinc 5 1, 3) := by decide +kernel
theorem dX4_streetRateOn_71 : decode cX4_streetRateOn 71 = .ok (.iinc 6 1, 3) := by decide +kernel
theorem dX4_streetRateOn_74 : decode cX4_streetRateOn 74 = .ok (.goto (-66), 3) := by decide +kernel
theorem dX4_streetRateOn_77 : decode cX4_streetRateOn 77 = .ok (.iload 5, 2) := by decide +kernel
theorem dX4_streetRateOn_79 : decode cX4_streetRateOn 79 = .ok (.ifCond .le 12, 3) := by decide +kernel
theorem dX4_streetRateOn_82 : decode cX4_streetRateOn 82 = .ok (.lload_n 3, 1) := by decide +kernel
theorem dX4_streetRateOn_83 : decode cX4_streetRateOn 83 = .ok (.iload 5, 2) := by decide +kernel
theorem dX4_streetRateOn_85 : decode cX4_streetRateOn 85 = .ok (.i2l, 1) := by decide +kernel
theorem dX4_streetRateOn_86 : decode cX4_streetRateOn 86 = .ok (.ldiv, 1) := by decide +kernel
theorem dX4_streetRateOn_87 : decode cX4_streetRateOn 87 = .ok (.l2i, 1) := by decide +kernel
theorem dX4_streetRateOn_88 : decode cX4_streetRateOn 88 = .ok (.goto 5, 3) := by decide +kernel
theorem dX4_streetRateOn_91 : decode cX4_streetRateOn 91 = .ok (.bipush 100, 2) := by decide +kernel
theorem dX4_streetRateOn_93 : decode cX4_streetRateOn 93 = .ok (.ireturn, 1) := by decide +kernel
theorem dX4_lookAhead_0 : decode cX4_lookAhead 0 = .ok (.iconst 0, 1) := by decide +kernel
theorem dX4_lookAhead_1 : decode cX4_lookAhead 1 = .ok (.istore_n 2, 1) := by decide +kernel
theorem dX4_lookAhead_2 : decode cX4_lookAhead 2 = .ok (.iload_n 2, 1) := by decide +kernel
theorem dX4_lookAhead_3 : decode cX4_lookAhead 3 = .ok (.bipush 7, 2) := by decide +kernel
theorem dX4_lookAhead_5 : decode cX4_lookAhead 5 = .ok (.if_icmp .ge 23, 3) := by decide +kernel
theorem dX4_lookAhead_8 : decode cX4_lookAhead 8 = .ok (.aload_n 0, 1) := by decide +kernel
theorem dX4_lookAhead_9 : decode cX4_lookAhead 9 = .ok (.getfield 26, 3) := by decide +kernel
theorem dX4_lookAhead_12 : decode cX4_lookAhead 12 = .ok (.iload_n 2, 1) := by decide +kernel
theorem dX4_lookAhead_13 : decode cX4_lookAhead 13 = .ok (.aload_n 0, 1) := by decide +kernel
theorem dX4_lookAhead_14 : decode cX4_lookAhead 14 = .ok (.aload_n 1, 1) := by decide +kernel
theorem dX4_lookAhead_15 : decode cX4_lookAhead 15 = .ok (.iload_n 2, 1) := by decide +kernel
theorem dX4_lookAhead_16 : decode cX4_lookAhead 16 = .ok (.invokevirtual 90, 3) := by decide +kernel
theorem dX4_lookAhead_19 : decode cX4_lookAhead 19 = .ok (.invokevirtual 142, 3) := by decide +kernel
theorem dX4_lookAhead_22 : decode cX4_lookAhead 22 = .ok (.iinc 2 1, 3) := by decide +kernel
theorem dX4_lookAhead_25 : decode cX4_lookAhead 25 = .ok (.goto (-23), 3) := by decide +kernel
theorem dX4_lookAhead_28 : decode cX4_lookAhead 28 = .ok (.aload_n 0, 1) := by decide +kernel
theorem dX4_lookAhead_29 : decode cX4_lookAhead 29 = .ok (.getfield 26, 3) := by decide +kernel
theorem dX4_lookAhead_32 : decode cX4_lookAhead 32 = .ok (.aload_n 0, 1) := by decide +kernel
theorem dX4_lookAhead_33 : decode cX4_lookAhead 33 = .ok (.getfield 10, 3) := by decide +kernel
theorem dX4_lookAhead_36 : decode cX4_lookAhead 36 = .ok (.invokevirtual 145, 3) := by decide +kernel
theorem dX4_lookAhead_39 : decode cX4_lookAhead 39 = .ok (.return_, 1) := by decide +kernel
theorem dX4_centsOn_0 : decode cX4_centsOn 0 = .ok (.aload_n 0, 1) := by decide +kernel
theorem dX4_centsOn_1 : decode cX4_centsOn 1 = .ok (.getfield 26, 3) := by decide +kernel
theorem dX4_centsOn_4 : decode cX4_centsOn 4 = .ok (.aload_n 1, 1) := by decide +kernel
theorem dX4_centsOn_5 : decode cX4_centsOn 5 = .ok (.iload_n 2, 1) := by decide +kernel
theorem dX4_centsOn_6 : decode cX4_centsOn 6 = .ok (.bipush 24, 2) := by decide +kernel
theorem dX4_centsOn_8 : decode cX4_centsOn 8 = .ok (.imul, 1) := by decide +kernel
theorem dX4_centsOn_9 : decode cX4_centsOn 9 = .ok (.invokevirtual 103, 3) := by decide +kernel
theorem dX4_centsOn_12 : decode cX4_centsOn 12 = .ok (.lstore_n 3, 1) := by decide +kernel
theorem dX4_centsOn_13 : decode cX4_centsOn 13 = .ok (.lload_n 3, 1) := by decide +kernel
theorem dX4_centsOn_14 : decode cX4_centsOn 14 = .ok (.ldc2_w 114, 3) := by decide +kernel
theorem dX4_centsOn_17 : decode cX4_centsOn 17 = .ok (.lcmp, 1) := by decide +kernel
theorem dX4_centsOn_18 : decode cX4_centsOn 18 = .ok (.ifCond .ge 17, 3) := by decide +kernel
theorem dX4_centsOn_21 : decode cX4_centsOn 21 = .ok (.ldc2_w 114, 3) := by decide +kernel
theorem dX4_centsOn_24 : decode cX4_centsOn 24 = .ok (.lload_n 3, 1) := by decide +kernel
theorem dX4_centsOn_25 : decode cX4_centsOn 25 = .ok (.lsub, 1) := by decide +kernel
theorem dX4_centsOn_26 : decode cX4_centsOn 26 = .ok (.aload_n 0, 1) := by decide +kernel
theorem dX4_centsOn_27 : decode cX4_centsOn 27 = .ok (.getfield 43, 3) := by decide +kernel
theorem dX4_centsOn_30 : decode cX4_centsOn 30 = .ok (.i2l, 1) := by decide +kernel
theorem dX4_centsOn_31 : decode cX4_centsOn 31 = .ok (.lmul, 1) := by decide +kernel
theorem dX4_centsOn_32 : decode cX4_centsOn 32 = .ok (.goto 14, 3) := by decide +kernel
theorem dX4_centsOn_35 : decode cX4_centsOn 35 = .ok (.lload_n 3, 1) := by decide +kernel
theorem dX4_centsOn_36 : decode cX4_centsOn 36 = .ok (.ldc2_w 114, 3) := by decide +kernel
theorem dX4_centsOn_39 : decode cX4_centsOn 39 = .ok (.lsub, 1) := by decide +kernel
theorem dX4_centsOn_40 : decode cX4_centsOn 40 = .ok (.aload_n 0, 1) := by decide +kernel
theorem dX4_centsOn_41 : decode cX4_centsOn 41 = .ok (.getfield 46, 3) := by decide +kernel
theorem dX4_centsOn_44 : decode cX4_centsOn 44 = .ok (.i2l, 1) := by decide +kernel
theorem dX4_centsOn_45 : decode cX4_centsOn 45 = .ok (.lmul, 1) := by decide +kernel
theorem dX4_centsOn_46 : decode cX4_centsOn 46 = .ok (.lreturn, 1) := by decide +kernel
end
section
/-! base rows: numbers by Nat, branches by Nat, worlds by membership -/
def bI (b : Bool) : Int32 := if b then 1 else 0
def gI (o : Option Nat) : Int32 := match o with
  | none => -1
  | some v => nI v
theorem bI_t : bI true = 1 := rfl
theorem bI_f : bI false = 0 := rfl
theorem bI_eq0 {b : Bool} : bI b = 0 ↔ b = false := by cases b <;> decide
theorem bI_inj {a b : Bool} : bI a = bI b ↔ a = b := by cases a <;> cases b <;> decide
theorem nI_m1 {v : Nat} (h : v < 2 ^ 31) : nI v ≠ -1 := by
  intro e
  have := nI_toInt h
  rw [e] at this
  have h2 : (-1 : Int32).toInt = -1 := by decide
  omega
theorem gI_m1 {o : Option Nat} (h : ∀ v, o = some v → v < 2 ^ 31) : gI o = -1 ↔ o = none := by
  cases o with
  | none => exact ⟨fun _ => rfl, fun _ => rfl⟩
  | some v => exact ⟨fun e => absurd e (nI_m1 (h v rfl)), fun e => by cases e⟩
theorem lN_ne0 {b : Nat} (h0 : 0 < b) (hb : b < 2 ^ 63) : ¬ lN b = 0 := by
  intro e
  have h : lN b = lN 0 := e
  rw [pk_lEQ hb (by decide)] at h
  omega
theorem i_dec (x : Int32) : x + Int32.ofInt (-1) = x - nI 1 := by
  rw [Int32.sub_eq_add_neg]
  congr 1
theorem any_f {n : Nat} {P : Nat → Bool} (h : ∀ i, i < n → P i = false) : (List.range n).any P = false := by
  rw [List.any_eq_false]
  intro i hi
  rw [h i (List.mem_range.mp hi)]
  decide
theorem any_t {n j : Nat} {P : Nat → Bool} (hj : j < n) (h : P j = true) : (List.range n).any P = true := by
  rw [List.any_eq_true]
  exact ⟨j, List.mem_range.mpr hj, h⟩
theorem va_P.nil {D : va_G} {cl : List vw_C} {H : Heap} : va_P D cl [] H := fun k q h => by simp at h
section BASE
variable {p : Program} {l : Launch} {e : Env} {R : Room} {s : State} {m : MethodId} {args : Array Value} {below : List Frame} {meth : Method} {c : Code} {H : Heap} {locs : List Loc} {cells slots : Nat} {Q : State → Prop}
variable {cc : ByteArray} {pc : Nat} {ls : Array Slot} {rest : List Value}
theorem tp_i {x y : Int32} (h : x = y) (k : W p l e R s m args below meth c H locs cells slots Q (F0 m pc ls (.int y :: rest))) : W p l e R s m args below meth c H locs cells slots Q (F0 m pc ls (.int x :: rest)) := by rw [h]; exact k
theorem tp_l {x y : Int64} (h : x = y) (k : W p l e R s m args below meth c H locs cells slots Q (F0 m pc ls (.long y :: rest))) : W p l e R s m args below meth c H locs cells slots Q (F0 m pc ls (.long x :: rest)) := by rw [h]; exact k
theorem n_iadd (hexec : p.tables.exec = Jvm.exec) (hb : c.code = cc) {a b : Nat} (hdg : decode cc pc = .ok (.iadd, 1))
    (k : W p l e R s m args below meth c H locs cells slots Q (F0 m (pc + 1) ls (.int (nI (a + b)) :: rest))) : W p l e R s m args below meth c H locs cells slots Q (F0 m pc ls (.int (nI b) :: .int (nI a) :: rest)) :=
  lv_iadd hexec hb hdg (tp_i (nI_add a b) k)
theorem n_imul (hexec : p.tables.exec = Jvm.exec) (hb : c.code = cc) {a b : Nat} (hdg : decode cc pc = .ok (.imul, 1))
    (k : W p l e R s m args below meth c H locs cells slots Q (F0 m (pc + 1) ls (.int (nI (a * b)) :: rest))) : W p l e R s m args below meth c H locs cells slots Q (F0 m pc ls (.int (nI b) :: .int (nI a) :: rest)) :=
  lv_imul hexec hb hdg (tp_i (pk_mul a b) k)
theorem n_isub (hexec : p.tables.exec = Jvm.exec) (hb : c.code = cc) {a b : Nat} (h : b ≤ a) (hdg : decode cc pc = .ok (.isub, 1))
    (k : W p l e R s m args below meth c H locs cells slots Q (F0 m (pc + 1) ls (.int (nI (a - b)) :: rest))) : W p l e R s m args below meth c H locs cells slots Q (F0 m pc ls (.int (nI b) :: .int (nI a) :: rest)) :=
  lv_isub hexec hb hdg (tp_i (pk_sub h) k)
theorem n_idiv (hexec : p.tables.exec = Jvm.exec) (hb : c.code = cc) {a b : Nat} (ha : a < 2 ^ 31) (h0 : 0 < b) (hb2 : b < 2 ^ 31) (hdg : decode cc pc = .ok (.idiv, 1))
    (k : W p l e R s m args below meth c H locs cells slots Q (F0 m (pc + 1) ls (.int (nI (a / b)) :: rest))) : W p l e R s m args below meth c H locs cells slots Q (F0 m pc ls (.int (nI b) :: .int (nI a) :: rest)) :=
  lv_idiv hexec hb hdg (nI_ne0 h0 hb2) (tp_i (pk_div ha h0 hb2) k)
theorem n_irem (hexec : p.tables.exec = Jvm.exec) (hb : c.code = cc) {a b : Nat} (ha : a < 2 ^ 31) (h0 : 0 < b) (hb2 : b < 2 ^ 31) (hdg : decode cc pc = .ok (.irem, 1))
    (k : W p l e R s m args below meth c H locs cells slots Q (F0 m (pc + 1) ls (.int (nI (a % b)) :: rest))) : W p l e R s m args below meth c H locs cells slots Q (F0 m pc ls (.int (nI b) :: .int (nI a) :: rest)) :=
  lv_irem hexec hb hdg (nI_ne0 h0 hb2) (tp_i (pk_rem ha h0 hb2) k)
theorem n_ladd (hexec : p.tables.exec = Jvm.exec) (hb : c.code = cc) {a b : Nat} (hdg : decode cc pc = .ok (.ladd, 1))
    (k : W p l e R s m args below meth c H locs cells slots Q (F0 m (pc + 1) ls (.long (lN (a + b)) :: rest))) : W p l e R s m args below meth c H locs cells slots Q (F0 m pc ls (.long (lN b) :: .long (lN a) :: rest)) :=
  lv_ladd hexec hb hdg (tp_l (lN_add a b) k)
theorem n_lmul (hexec : p.tables.exec = Jvm.exec) (hb : c.code = cc) {a b : Nat} (hdg : decode cc pc = .ok (.lmul, 1))
    (k : W p l e R s m args below meth c H locs cells slots Q (F0 m (pc + 1) ls (.long (lN (a * b)) :: rest))) : W p l e R s m args below meth c H locs cells slots Q (F0 m pc ls (.long (lN b) :: .long (lN a) :: rest)) :=
  lv_lmul hexec hb hdg (tp_l (lN_mul a b) k)
theorem n_lsub (hexec : p.tables.exec = Jvm.exec) (hb : c.code = cc) {a b : Nat} (h : b ≤ a) (hdg : decode cc pc = .ok (.lsub, 1))
    (k : W p l e R s m args below meth c H locs cells slots Q (F0 m (pc + 1) ls (.long (lN (a - b)) :: rest))) : W p l e R s m args below meth c H locs cells slots Q (F0 m pc ls (.long (lN b) :: .long (lN a) :: rest)) :=
  lv_lsub hexec hb hdg (tp_l (lN_sub h) k)
theorem n_ldiv (hexec : p.tables.exec = Jvm.exec) (hb : c.code = cc) {a b : Nat} (ha : a < 2 ^ 63) (h0 : 0 < b) (hb2 : b < 2 ^ 63) (hdg : decode cc pc = .ok (.ldiv, 1))
    (k : W p l e R s m args below meth c H locs cells slots Q (F0 m (pc + 1) ls (.long (lN (a / b)) :: rest))) : W p l e R s m args below meth c H locs cells slots Q (F0 m pc ls (.long (lN b) :: .long (lN a) :: rest)) :=
  lv_ldiv hexec hb hdg (lN_ne0 h0 hb2) (tp_l (pk_lDiv ha h0 hb2) k)
theorem n_i2l (hexec : p.tables.exec = Jvm.exec) (hb : c.code = cc) {a : Nat} (ha : a < 2 ^ 31) (hdg : decode cc pc = .ok (.i2l, 1))
    (k : W p l e R s m args below meth c H locs cells slots Q (F0 m (pc + 1) ls (.long (lN a) :: rest))) : W p l e R s m args below meth c H locs cells slots Q (F0 m pc ls (.int (nI a) :: rest)) :=
  lv_i2l hexec hb hdg (nI_l ha) k
theorem n_l2i (hexec : p.tables.exec = Jvm.exec) (hb : c.code = cc) {a : Nat} (hdg : decode cc pc = .ok (.l2i, 1))
    (k : W p l e R s m args below meth c H locs cells slots Q (F0 m (pc + 1) ls (.int (nI a) :: rest))) : W p l e R s m args below meth c H locs cells slots Q (F0 m pc ls (.long (lN a) :: rest)) :=
  lv_l2i hexec hb hdg (lN_i a) k
theorem bn_eq (hexec : p.tables.exec = Jvm.exec) (hb : c.code = cc) {a b : Nat} {off : Int} {tgt : Nat} (ha : a < 2 ^ 31) (hb2 : b < 2 ^ 31) (hdg : decode cc pc = .ok (.if_icmp .eq off, 3)) (ht : (pc : Int) + off = (tgt : Int))
    (kt : a = b → W p l e R s m args below meth c H locs cells slots Q (F0 m tgt ls rest)) (kf : a ≠ b → W p l e R s m args below meth c H locs cells slots Q (F0 m (pc + 3) ls rest)) : W p l e R s m args below meth c H locs cells slots Q (F0 m pc ls (.int (nI b) :: .int (nI a) :: rest)) :=
  lv_icmp_eq hexec hb hdg ht (fun h => kt ((nI_eq ha hb2).mp h)) (fun h => kf (fun q => h ((nI_eq ha hb2).mpr q)))
theorem bn_ne (hexec : p.tables.exec = Jvm.exec) (hb : c.code = cc) {a b : Nat} {off : Int} {tgt : Nat} (ha : a < 2 ^ 31) (hb2 : b < 2 ^ 31) (hdg : decode cc pc = .ok (.if_icmp .ne off, 3)) (ht : (pc : Int) + off = (tgt : Int))
    (kt : a ≠ b → W p l e R s m args below meth c H locs cells slots Q (F0 m tgt ls rest)) (kf : a = b → W p l e R s m args below meth c H locs cells slots Q (F0 m (pc + 3) ls rest)) : W p l e R s m args below meth c H locs cells slots Q (F0 m pc ls (.int (nI b) :: .int (nI a) :: rest)) :=
  lv_icmp_ne hexec hb hdg ht (fun h => kt (fun q => h ((nI_eq ha hb2).mpr q))) (fun h => kf ((nI_eq ha hb2).mp h))
theorem bn_ge (hexec : p.tables.exec = Jvm.exec) (hb : c.code = cc) {a b : Nat} {off : Int} {tgt : Nat} (ha : a < 2 ^ 31) (hb2 : b < 2 ^ 31) (hdg : decode cc pc = .ok (.if_icmp .ge off, 3)) (ht : (pc : Int) + off = (tgt : Int))
    (kt : b ≤ a → W p l e R s m args below meth c H locs cells slots Q (F0 m tgt ls rest)) (kf : a < b → W p l e R s m args below meth c H locs cells slots Q (F0 m (pc + 3) ls rest)) : W p l e R s m args below meth c H locs cells slots Q (F0 m pc ls (.int (nI b) :: .int (nI a) :: rest)) :=
  lv_icmp_ge hexec hb hdg ht (fun h => kt ((nI_leI hb2 ha).mp h)) (fun h => kf (Nat.lt_of_not_le (fun q => h ((nI_leI hb2 ha).mpr q))))
theorem bn_gt (hexec : p.tables.exec = Jvm.exec) (hb : c.code = cc) {a b : Nat} {off : Int} {tgt : Nat} (ha : a < 2 ^ 31) (hb2 : b < 2 ^ 31) (hdg : decode cc pc = .ok (.if_icmp .gt off, 3)) (ht : (pc : Int) + off = (tgt : Int))
    (kt : b < a → W p l e R s m args below meth c H locs cells slots Q (F0 m tgt ls rest)) (kf : a ≤ b → W p l e R s m args below meth c H locs cells slots Q (F0 m (pc + 3) ls rest)) : W p l e R s m args below meth c H locs cells slots Q (F0 m pc ls (.int (nI b) :: .int (nI a) :: rest)) :=
  lv_icmp_gt hexec hb hdg ht (fun h => kt ((nI_ltI hb2 ha).mp h)) (fun h => kf (Nat.le_of_not_lt (fun q => h ((nI_ltI hb2 ha).mpr q))))
theorem bn_lt (hexec : p.tables.exec = Jvm.exec) (hb : c.code = cc) {a b : Nat} {off : Int} {tgt : Nat} (ha : a < 2 ^ 31) (hb2 : b < 2 ^ 31) (hdg : decode cc pc = .ok (.if_icmp .lt off, 3)) (ht : (pc : Int) + off = (tgt : Int))
    (kt : a < b → W p l e R s m args below meth c H locs cells slots Q (F0 m tgt ls rest)) (kf : b ≤ a → W p l e R s m args below meth c H locs cells slots Q (F0 m (pc + 3) ls rest)) : W p l e R s m args below meth c H locs cells slots Q (F0 m pc ls (.int (nI b) :: .int (nI a) :: rest)) :=
  lv_icmp_lt hexec hb hdg ht (fun h => kt ((nI_ltI ha hb2).mp h)) (fun h => kf (Nat.le_of_not_lt (fun q => h ((nI_ltI ha hb2).mpr q))))
theorem bn_le (hexec : p.tables.exec = Jvm.exec) (hb : c.code = cc) {a b : Nat} {off : Int} {tgt : Nat} (ha : a < 2 ^ 31) (hb2 : b < 2 ^ 31) (hdg : decode cc pc = .ok (.if_icmp .le off, 3)) (ht : (pc : Int) + off = (tgt : Int))
    (kt : a ≤ b → W p l e R s m args below meth c H locs cells slots Q (F0 m tgt ls rest)) (kf : b < a → W p l e R s m args below meth c H locs cells slots Q (F0 m (pc + 3) ls rest)) : W p l e R s m args below meth c H locs cells slots Q (F0 m pc ls (.int (nI b) :: .int (nI a) :: rest)) :=
  lv_icmp_le hexec hb hdg ht (fun h => kt ((nI_leI ha hb2).mp h)) (fun h => kf (Nat.lt_of_not_le (fun q => h ((nI_leI ha hb2).mpr q))))
theorem bb_eq (hexec : p.tables.exec = Jvm.exec) (hb : c.code = cc) {x : Bool} {off : Int} {tgt : Nat} (hdg : decode cc pc = .ok (.ifCond .eq off, 3)) (ht : (pc : Int) + off = (tgt : Int))
    (kt : x = false → W p l e R s m args below meth c H locs cells slots Q (F0 m tgt ls rest)) (kf : x = true → W p l e R s m args below meth c H locs cells slots Q (F0 m (pc + 3) ls rest)) : W p l e R s m args below meth c H locs cells slots Q (F0 m pc ls (.int (bI x) :: rest)) :=
  lv_if_eq hexec hb hdg ht (fun h => kt (bI_eq0.mp h)) (fun h => kf (by cases x with | true => rfl | false => exact absurd rfl h))
theorem bb_ne (hexec : p.tables.exec = Jvm.exec) (hb : c.code = cc) {x : Bool} {off : Int} {tgt : Nat} (hdg : decode cc pc = .ok (.ifCond .ne off, 3)) (ht : (pc : Int) + off = (tgt : Int))
    (kt : x = true → W p l e R s m args below meth c H locs cells slots Q (F0 m tgt ls rest)) (kf : x = false → W p l e R s m args below meth c H locs cells slots Q (F0 m (pc + 3) ls rest)) : W p l e R s m args below meth c H locs cells slots Q (F0 m pc ls (.int (bI x) :: rest)) :=
  lv_if_ne hexec hb hdg ht (fun h => kt (by cases x with | true => rfl | false => exact absurd rfl h)) (fun h => kf (bI_eq0.mp h))
theorem bz_eq (hexec : p.tables.exec = Jvm.exec) (hb : c.code = cc) {a : Nat} {off : Int} {tgt : Nat} (ha : a < 2 ^ 31) (hdg : decode cc pc = .ok (.ifCond .eq off, 3)) (ht : (pc : Int) + off = (tgt : Int))
    (kt : a = 0 → W p l e R s m args below meth c H locs cells slots Q (F0 m tgt ls rest)) (kf : a ≠ 0 → W p l e R s m args below meth c H locs cells slots Q (F0 m (pc + 3) ls rest)) : W p l e R s m args below meth c H locs cells slots Q (F0 m pc ls (.int (nI a) :: rest)) :=
  lv_if_eq hexec hb hdg ht (fun h => kt ((nI_eq ha (by decide)).mp (h.trans nI_0.symm))) (fun h => kf (fun q => h (by rw [q]; exact nI_0)))
theorem bz_ne (hexec : p.tables.exec = Jvm.exec) (hb : c.code = cc) {a : Nat} {off : Int} {tgt : Nat} (ha : a < 2 ^ 31) (hdg : decode cc pc = .ok (.ifCond .ne off, 3)) (ht : (pc : Int) + off = (tgt : Int))
    (kt : a ≠ 0 → W p l e R s m args below meth c H locs cells slots Q (F0 m tgt ls rest)) (kf : a = 0 → W p l e R s m args below meth c H locs cells slots Q (F0 m (pc + 3) ls rest)) : W p l e R s m args below meth c H locs cells slots Q (F0 m pc ls (.int (nI a) :: rest)) :=
  lv_if_ne hexec hb hdg ht (fun h => kt (fun q => h (by rw [q]; exact nI_0))) (fun h => kf ((nI_eq ha (by decide)).mp (h.trans nI_0.symm)))
theorem bz_le (hexec : p.tables.exec = Jvm.exec) (hb : c.code = cc) {a : Nat} {off : Int} {tgt : Nat} (ha : a < 2 ^ 31) (hdg : decode cc pc = .ok (.ifCond .le off, 3)) (ht : (pc : Int) + off = (tgt : Int))
    (kt : a = 0 → W p l e R s m args below meth c H locs cells slots Q (F0 m tgt ls rest)) (kf : 0 < a → W p l e R s m args below meth c H locs cells slots Q (F0 m (pc + 3) ls rest)) : W p l e R s m args below meth c H locs cells slots Q (F0 m pc ls (.int (nI a) :: rest)) :=
  lv_if_le hexec hb hdg ht (fun h => kt (by rcases Nat.eq_zero_or_pos a with q | q; exact q; exact absurd h (nI_nle q ha))) (fun h => kf (Nat.pos_of_ne_zero (fun q => h (by rw [q, nI_0]; decide))))
theorem bz_gt (hexec : p.tables.exec = Jvm.exec) (hb : c.code = cc) {a : Nat} {off : Int} {tgt : Nat} (ha : a < 2 ^ 31) (hdg : decode cc pc = .ok (.ifCond .gt off, 3)) (ht : (pc : Int) + off = (tgt : Int))
    (kt : 0 < a → W p l e R s m args below meth c H locs cells slots Q (F0 m tgt ls rest)) (kf : a = 0 → W p l e R s m args below meth c H locs cells slots Q (F0 m (pc + 3) ls rest)) : W p l e R s m args below meth c H locs cells slots Q (F0 m pc ls (.int (nI a) :: rest)) :=
  lv_if_gt hexec hb hdg ht (fun h => kt (Nat.pos_of_ne_zero (fun q => by rw [q, nI_0] at h; exact absurd h (by decide)))) (fun h => kf (by
    rcases Nat.eq_zero_or_pos a with q | q
    · exact q
    · exact absurd (by rw [← nI_0]; exact nI_lt q ha) h))
theorem bl_eq (hexec : p.tables.exec = Jvm.exec) (hb : c.code = cc) {a b : Nat} {off : Int} {tgt : Nat} (ha : a < 2 ^ 63) (hb2 : b < 2 ^ 63) (hdg : decode cc pc = .ok (.ifCond .eq off, 3)) (ht : (pc : Int) + off = (tgt : Int))
    (kt : a = b → W p l e R s m args below meth c H locs cells slots Q (F0 m tgt ls rest)) (kf : a ≠ b → W p l e R s m args below meth c H locs cells slots Q (F0 m (pc + 3) ls rest)) : W p l e R s m args below meth c H locs cells slots Q (F0 m pc ls (.int (lg_cmp (lN a) (lN b)) :: rest)) :=
  lv_if_eq hexec hb hdg ht (fun h => kt (((lg_cmp_eq _ _).trans (pk_lEQ ha hb2)).mp h)) (fun h => kf (fun q => h (((lg_cmp_eq _ _).trans (pk_lEQ ha hb2)).mpr q)))
theorem bl_ne (hexec : p.tables.exec = Jvm.exec) (hb : c.code = cc) {a b : Nat} {off : Int} {tgt : Nat} (ha : a < 2 ^ 63) (hb2 : b < 2 ^ 63) (hdg : decode cc pc = .ok (.ifCond .ne off, 3)) (ht : (pc : Int) + off = (tgt : Int))
    (kt : a ≠ b → W p l e R s m args below meth c H locs cells slots Q (F0 m tgt ls rest)) (kf : a = b → W p l e R s m args below meth c H locs cells slots Q (F0 m (pc + 3) ls rest)) : W p l e R s m args below meth c H locs cells slots Q (F0 m pc ls (.int (lg_cmp (lN a) (lN b)) :: rest)) :=
  lv_if_ne hexec hb hdg ht (fun h => kt (fun q => h (((lg_cmp_eq _ _).trans (pk_lEQ ha hb2)).mpr q))) (fun h => kf (((lg_cmp_eq _ _).trans (pk_lEQ ha hb2)).mp h))
theorem bl_lt (hexec : p.tables.exec = Jvm.exec) (hb : c.code = cc) {a b : Nat} {off : Int} {tgt : Nat} (ha : a < 2 ^ 63) (hb2 : b < 2 ^ 63) (hdg : decode cc pc = .ok (.ifCond .lt off, 3)) (ht : (pc : Int) + off = (tgt : Int))
    (kt : a < b → W p l e R s m args below meth c H locs cells slots Q (F0 m tgt ls rest)) (kf : b ≤ a → W p l e R s m args below meth c H locs cells slots Q (F0 m (pc + 3) ls rest)) : W p l e R s m args below meth c H locs cells slots Q (F0 m pc ls (.int (lg_cmp (lN a) (lN b)) :: rest)) :=
  lv_if_lt hexec hb hdg ht (fun h => kt (((lg_cmp_lt _ _).trans (pk_lLT ha hb2)).mp h)) (fun h => kf (Nat.le_of_not_lt (fun q => h (((lg_cmp_lt _ _).trans (pk_lLT ha hb2)).mpr q))))
theorem bl_ge (hexec : p.tables.exec = Jvm.exec) (hb : c.code = cc) {a b : Nat} {off : Int} {tgt : Nat} (ha : a < 2 ^ 63) (hb2 : b < 2 ^ 63) (hdg : decode cc pc = .ok (.ifCond .ge off, 3)) (ht : (pc : Int) + off = (tgt : Int))
    (kt : b ≤ a → W p l e R s m args below meth c H locs cells slots Q (F0 m tgt ls rest)) (kf : a < b → W p l e R s m args below meth c H locs cells slots Q (F0 m (pc + 3) ls rest)) : W p l e R s m args below meth c H locs cells slots Q (F0 m pc ls (.int (lg_cmp (lN a) (lN b)) :: rest)) :=
  lv_if_ge hexec hb hdg ht (fun h => kt (((lg_cmp_ge _ _).trans (pk_lLE hb2 ha)).mp h)) (fun h => kf (Nat.lt_of_not_le (fun q => h (((lg_cmp_ge _ _).trans (pk_lLE hb2 ha)).mpr q))))
theorem bl_gt (hexec : p.tables.exec = Jvm.exec) (hb : c.code = cc) {a b : Nat} {off : Int} {tgt : Nat} (ha : a < 2 ^ 63) (hb2 : b < 2 ^ 63) (hdg : decode cc pc = .ok (.ifCond .gt off, 3)) (ht : (pc : Int) + off = (tgt : Int))
    (kt : b < a → W p l e R s m args below meth c H locs cells slots Q (F0 m tgt ls rest)) (kf : a ≤ b → W p l e R s m args below meth c H locs cells slots Q (F0 m (pc + 3) ls rest)) : W p l e R s m args below meth c H locs cells slots Q (F0 m pc ls (.int (lg_cmp (lN a) (lN b)) :: rest)) :=
  lv_if_gt hexec hb hdg ht (fun h => kt (((lg_cmp_gt _ _).trans (pk_lLT hb2 ha)).mp h)) (fun h => kf (Nat.le_of_not_lt (fun q => h (((lg_cmp_gt _ _).trans (pk_lLT hb2 ha)).mpr q))))
theorem bl_le (hexec : p.tables.exec = Jvm.exec) (hb : c.code = cc) {a b : Nat} {off : Int} {tgt : Nat} (ha : a < 2 ^ 63) (hb2 : b < 2 ^ 63) (hdg : decode cc pc = .ok (.ifCond .le off, 3)) (ht : (pc : Int) + off = (tgt : Int))
    (kt : a ≤ b → W p l e R s m args below meth c H locs cells slots Q (F0 m tgt ls rest)) (kf : b < a → W p l e R s m args below meth c H locs cells slots Q (F0 m (pc + 3) ls rest)) : W p l e R s m args below meth c H locs cells slots Q (F0 m pc ls (.int (lg_cmp (lN a) (lN b)) :: rest)) :=
  lv_if_le hexec hb hdg ht (fun h => kt (((lg_cmp_le _ _).trans (pk_lLE ha hb2)).mp h)) (fun h => kf (Nat.lt_of_not_le (fun q => h (((lg_cmp_le _ _).trans (pk_lLE ha hb2)).mpr q))))
variable {D : va_G} {cl : List vw_C} {tys : List (ClassId × FieldType)} {ws : va_W} {a : Nat} {A : Nat → Prop} {H0 : Heap}
theorem n_iald (hexec : p.tables.exec = Jvm.exec) (hb : c.code = cc) (hK : va_K D cl tys s) (hP : va_P D cl ws H) (q0 t0 : Nat) {cA : ClassId} {n k : Nat} {f : Nat → Int32} {v : Int32} (ha : ws[q0]? = some (a, .inl (cA, n, .inl f))) (ht : tys[t0]? = some (cA, .int)) (hk : k < n) (hn : n < 2 ^ 31) (hv : f k = v) (hdg : decode cc pc = .ok (.iaload, 1))
    (kk : W p l e R s m args below meth c H locs cells slots Q (F0 m (pc + 1) ls (.int v :: rest))) : W p l e R s m args below meth c H locs cells slots Q (F0 m pc ls (.int (nI k) :: .ref a :: rest)) :=
  va_iald hexec hb hK hP q0 t0 ha ht (vp_in_nI hk hn) hdg (tp_i (by rw [nI_clamp (Nat.lt_trans hk hn)]; exact hv) kk)
theorem n_zald (hexec : p.tables.exec = Jvm.exec) (hb : c.code = cc) (hK : va_K D cl tys s) (hP : va_P D cl ws H) (q0 t0 : Nat) {cA : ClassId} {n k : Nat} {f : Nat → Int32} {v : Int32} (ha : ws[q0]? = some (a, .inl (cA, n, .inl f))) (ht : tys[t0]? = some (cA, .boolean)) (hk : k < n) (hn : n < 2 ^ 31) (hv : f k = v) (hdg : decode cc pc = .ok (.baload, 1))
    (kk : W p l e R s m args below meth c H locs cells slots Q (F0 m (pc + 1) ls (.int v :: rest))) : W p l e R s m args below meth c H locs cells slots Q (F0 m pc ls (.int (nI k) :: .ref a :: rest)) :=
  va_zald hexec hb hK hP q0 t0 ha ht (vp_in_nI hk hn) hdg (tp_i (by rw [nI_clamp (Nat.lt_trans hk hn)]; exact hv) kk)
theorem n_iast (hexec : p.tables.exec = Jvm.exec) (hb : c.code = cc) (hK : va_K D cl tys s) (hP : va_P D cl ws H) (hD : va_D A ws) (hS : va_S A H0 H locs) (q0 t0 : Nat) {cA : ClassId} {n k : Nat} {f : Nat → Int32} {x : Int32} (ha : ws[q0]? = some (a, .inl (cA, n, .inl f))) (ht : tys[t0]? = some (cA, .int)) (hk : k < n) (hn : n < 2 ^ 31) (hdg : decode cc pc = .ok (.iastore, 1))
    (kk : ∀ (H1 : Heap) (locs1 : List Loc), va_P D cl (ws.set q0 (a, .inl (cA, n, .inl (upd f k x)))) H1 → va_D A (ws.set q0 (a, .inl (cA, n, .inl (upd f k x)))) → va_S A H0 H1 locs1 → W p l e R s m args below meth c H1 locs1 cells slots Q (F0 m (pc + 1) ls rest)) : W p l e R s m args below meth c H locs cells slots Q (F0 m pc ls (.int x :: .int (nI k) :: .ref a :: rest)) :=
  va_iast hexec hb hK hP hD hS q0 t0 ha ht (vp_in_nI hk hn) hdg (by rw [nI_clamp (Nat.lt_trans hk hn)]; exact kk)
theorem nar_bool (b : Bool) : vp_nar .boolean (bI b) = bI b := by cases b <;> rfl
theorem n_zast (hexec : p.tables.exec = Jvm.exec) (hb : c.code = cc) (hK : va_K D cl tys s) (hP : va_P D cl ws H) (hD : va_D A ws) (hS : va_S A H0 H locs) (q0 t0 : Nat) {cA : ClassId} {n k : Nat} {f : Nat → Int32} {x : Bool} (ha : ws[q0]? = some (a, .inl (cA, n, .inl f))) (ht : tys[t0]? = some (cA, .boolean)) (hk : k < n) (hn : n < 2 ^ 31) (hdg : decode cc pc = .ok (.bastore, 1))
    (kk : ∀ (H1 : Heap) (locs1 : List Loc), va_P D cl (ws.set q0 (a, .inl (cA, n, .inl (upd f k (bI x))))) H1 → va_D A (ws.set q0 (a, .inl (cA, n, .inl (upd f k (bI x))))) → va_S A H0 H1 locs1 → W p l e R s m args below meth c H1 locs1 cells slots Q (F0 m (pc + 1) ls rest)) : W p l e R s m args below meth c H locs cells slots Q (F0 m pc ls (.int (bI x) :: .int (nI k) :: .ref a :: rest)) :=
  va_zast hexec hb hK hP hD hS q0 t0 ha ht (vp_in_nI hk hn) hdg (by rw [nI_clamp (Nat.lt_trans hk hn), nar_bool]; exact kk)
end BASE
/-! worlds by membership -/
theorem P_mem {D : va_G} {cl : List vw_C} {ws : va_W} {H : Heap} : va_P D cl ws H ↔ ∀ q ∈ ws, va_at D cl q H :=
  ⟨fun h q hq => by obtain ⟨k, hk⟩ := List.getElem?_of_mem hq; exact h k q hk, fun h k q hk => h q (List.mem_of_getElem? hk)⟩
theorem D_mem {A : Nat → Prop} {ws : va_W} : va_D A ws ↔ (ws.map (fun q => q.1)).Nodup ∧ ∀ q ∈ ws, A q.1 := by
  constructor
  · intro h
    refine ⟨?_, fun q hq => ?_⟩
    · rw [List.Nodup, List.pairwise_iff_getElem]
      intro i j hi hj hij
      rw [List.length_map] at hi hj
      rw [List.getElem_map, List.getElem_map]
      intro e
      have := h.1 i j _ _ (List.getElem?_eq_getElem hi) (List.getElem?_eq_getElem hj) e
      omega
    · obtain ⟨k, hk⟩ := List.getElem?_of_mem hq
      exact h.2 k q hk
  · intro h
    refine ⟨fun i j p q hp hq e => ?_, fun k q hk => h.2 q (List.mem_of_getElem? hk)⟩
    have h1 := h.1
    rw [List.Nodup, List.pairwise_iff_getElem] at h1
    obtain ⟨hi, ei⟩ := List.getElem?_eq_some_iff.mp hp
    obtain ⟨hj, ej⟩ := List.getElem?_eq_some_iff.mp hq
    have hi' : i < (ws.map (fun q => q.1)).length := by rw [List.length_map]; exact hi
    have hj' : j < (ws.map (fun q => q.1)).length := by rw [List.length_map]; exact hj
    rcases Nat.lt_trichotomy i j with z | z | z
    · exact absurd (by rw [List.getElem_map, List.getElem_map, ei, ej]; exact e) (h1 i j hi' hj' z)
    · exact z
    · exact absurd (by rw [List.getElem_map, List.getElem_map, ei, ej]; exact e.symm) (h1 j i hj' hi' z)
theorem A_mem {ws : va_W} {sz q : Nat} : va_A ws sz q ↔ (∃ e, (q, e) ∈ ws) ∨ sz ≤ q :=
  ⟨fun h => h.elim (fun ⟨_, e, hk⟩ => Or.inl ⟨e, List.mem_of_getElem? hk⟩) Or.inr, fun h => h.elim (fun ⟨e, hm⟩ => by obtain ⟨k, hk⟩ := List.getElem?_of_mem hm; exact Or.inl ⟨k, e, hk⟩) Or.inr⟩
theorem P_sub {D : va_G} {cl : List vw_C} {ws ws' : va_W} {H : Heap} (h : va_P D cl ws H) (hs : ∀ q ∈ ws', q ∈ ws) : va_P D cl ws' H := P_mem.mpr (fun q hq => P_mem.mp h q (hs q hq))
theorem hpT {D : va_G} {cl : List vw_C} {w : va_W} {H : Heap} {t : State} (ht : t.heap = H) (h : va_P D cl w H) : va_P D cl w t.heap := by rw [ht]; exact h
theorem P_left {D : va_G} {cl : List vw_C} {w1 w2 : va_W} {H : Heap} (h : va_P D cl (w1 ++ w2) H) : va_P D cl w1 H := P_sub h (fun _ hq => List.mem_append_left _ hq)
theorem P_right {D : va_G} {cl : List vw_C} {w1 w2 : va_W} {H : Heap} (h : va_P D cl (w1 ++ w2) H) : va_P D cl w2 H := P_sub h (fun _ hq => List.mem_append_right _ hq)
/-- addresses alone decide va_D -/
theorem D_addr {A : Nat → Prop} {ws ws' : va_W} (h : va_D A ws) (he : ws'.map (fun q => q.1) = ws.map (fun q => q.1)) : va_D A ws' := by
  rw [D_mem] at h ⊢
  refine ⟨by rw [he]; exact h.1, fun q hq => ?_⟩
  have h2 : q.1 ∈ ws'.map (fun q => q.1) := List.mem_map.mpr ⟨q, hq, rfl⟩
  rw [he] at h2
  obtain ⟨q2, hq2, e2⟩ := List.mem_map.mp h2
  rw [← e2]
  exact h.2 q2 hq2
/-- behind a call on the middle cells -/
theorem jn3 {A0 : Nat → Prop} {D : va_G} {cl : List vw_C} {wl wc wr w1 : va_W} {H H1 : Heap} (hP : va_P D cl (wl ++ (wc ++ wr)) H) (hD : va_D A0 (wl ++ (wc ++ wr)))
    (hk : ∀ q : Nat, q < H.size → ¬ va_A wc H.size q → H1[q]? = H[q]?) (hF : ∀ q, va_A wc H.size q → A0 q) (hP1 : va_P D cl w1 H1) (hD1 : va_D (va_A wc H.size) w1) :
    va_P D cl (wl ++ (w1 ++ wr)) H1 ∧ va_D A0 (wl ++ (w1 ++ wr)) := by
  have hPm := P_mem.mp hP
  have hDm := D_mem.mp hD
  have hN := hDm.1
  rw [List.map_append, List.map_append, List.nodup_append, List.nodup_append] at hN
  obtain ⟨hNl, ⟨hNc, hNr, hcr⟩, hlcr⟩ := hN
  have apart : ∀ q, (q ∈ wl ∨ q ∈ wr) → q.1 < H.size ∧ ¬ va_A wc H.size q.1 := by
    intro q hq
    have hm : q ∈ wl ++ (wc ++ wr) := by
      rcases hq with h | h
      · exact List.mem_append_left _ h
      · exact List.mem_append_right _ (List.mem_append_right _ h)
    have hlt := (hPm q hm).lt
    refine ⟨hlt, fun h => ?_⟩
    rcases A_mem.mp h with ⟨e, he⟩ | h
    · have hec : q.1 ∈ wc.map (fun q => q.1) := List.mem_map.mpr ⟨_, he, rfl⟩
      rcases hq with h | h
      · exact hlcr q.1 (List.mem_map.mpr ⟨q, h, rfl⟩) q.1 (List.mem_append_left _ hec) rfl
      · exact hcr q.1 hec q.1 (List.mem_map.mpr ⟨q, h, rfl⟩) rfl
    · omega
  have hD1m := D_mem.mp hD1
  constructor
  · rw [P_mem]
    intro q hq
    rcases List.mem_append.mp hq with h | h
    · obtain ⟨g1, g2⟩ := apart q (Or.inl h)
      exact (hPm q (List.mem_append_left _ h)).kept (hk q.1 g1 g2)
    · rcases List.mem_append.mp h with h | h
      · exact P_mem.mp hP1 q h
      · obtain ⟨g1, g2⟩ := apart q (Or.inr h)
        exact (hPm q (List.mem_append_right _ (List.mem_append_right _ h))).kept (hk q.1 g1 g2)
  · rw [D_mem, List.map_append, List.map_append, List.nodup_append, List.nodup_append]
    refine ⟨⟨hNl, ⟨hD1m.1, hNr, ?_⟩, ?_⟩, ?_⟩
    · intro a ha b hb e
      obtain ⟨q1, h1, rfl⟩ := List.mem_map.mp ha
      obtain ⟨q2, h2, rfl⟩ := List.mem_map.mp hb
      have z := hD1m.2 q1 h1
      rw [e] at z
      exact (apart q2 (Or.inr h2)).2 z
    · intro a ha b hb e
      obtain ⟨q1, h1, rfl⟩ := List.mem_map.mp ha
      rcases List.mem_append.mp hb with hb | hb
      · obtain ⟨q2, h2, rfl⟩ := List.mem_map.mp hb
        have z := hD1m.2 q2 h2
        rw [← e] at z
        exact (apart q1 (Or.inl h1)).2 z
      · exact hlcr q1.1 (List.mem_map.mpr ⟨q1, h1, rfl⟩) b (List.mem_append_right _ hb) e
    · intro q hq
      rcases List.mem_append.mp hq with h | h
      · exact hDm.2 q (List.mem_append_left _ h)
      · rcases List.mem_append.mp h with h | h
        · exact hF q.1 (hD1m.2 q h)
        · exact hDm.2 q (List.mem_append_right _ (List.mem_append_right _ h))
/-! contracts of methods that write nothing -/
abbrev GG : Type := va_G × (Nat → ClassId)
def QlRead (r : Int64) : Array Value → State → Outcome → State → Prop := fun _ st o t => o = .returned (some (.long r)) ∧ t.heap = st.heap
def QqRead (r : Option Nat) : Array Value → State → Outcome → State → Prop := fun _ st o t => o = .returned (some (va_rf r)) ∧ t.heap = st.heap
theorem rdI {v r : Int32} (h : v = r) {t s : State} {a : Array Value} (ht : t.heap = s.heap) : QcRead r a s (.returned (some (.int v))) t := ⟨by rw [h], ht⟩
theorem rdL {v r : Int64} (h : v = r) {t s : State} {a : Array Value} (ht : t.heap = s.heap) : QlRead r a s (.returned (some (.long v))) t := ⟨by rw [h], ht⟩
theorem nar_b (b : Bool) : narrow .boolean (.int (bI b)) = .int (bI b) := by cases b <;> rfl
section CALLS
variable {p : Program} {l : Launch} {e : Env} {R : Room} {s : State} {m : MethodId} {args : Array Value} {below : List Frame} {meth : Method} {c : Code} {H : Heap} {locs : List Loc} {cells slots : Nat} {Q : State → Prop}
variable {pc : Nat} {ls : Array Slot} {rest st0 : List Value} {a : Array Value}
theorem q_ab {R R2 : Room} (h : R = R2) {g : JFrame} (k : W p l e R s m args below meth c H locs cells slots Q g) : W p l e R2 s m args below meth c H locs cells slots Q g := by rw [← h]; exact k
theorem cR_i {r : Int32} (hr : CallRun p l e R s m args below meth c H locs cells slots 0 0 (F0 m pc ls st0) rest (QcRead r a) (fun _ => False)) (kk : W p l e R s m args below meth c H locs cells slots Q (F0 m (pc + 3) ls (.int r :: rest))) : W p l e R s m args below meth c H locs cells slots Q (F0 m pc ls st0) := W.callR hr kk
theorem cR_l {r : Int64} (hr : CallRun p l e R s m args below meth c H locs cells slots 0 0 (F0 m pc ls st0) rest (QlRead r a) (fun _ => False)) (kk : W p l e R s m args below meth c H locs cells slots Q (F0 m (pc + 3) ls (.long r :: rest))) : W p l e R s m args below meth c H locs cells slots Q (F0 m pc ls st0) := by
  intro T hT X
  obtain ⟨v, st₀, t, T', L, h0, X', hL, e1, ⟨hv, hh⟩, st⟩ := hr T hT X
  cases hv
  obtain ⟨t2, a1, b1⟩ := kk T' (by rw [e1, hh, h0]) (Stand.forget X' (fun q h => (hL q h).elim))
  exact ⟨t2, st t2 a1, b1⟩
theorem cR_q {r : Option Nat} (hr : CallRun p l e R s m args below meth c H locs cells slots 0 0 (F0 m pc ls st0) rest (QqRead r a) (fun _ => False)) (kk : W p l e R s m args below meth c H locs cells slots Q (F0 m (pc + 3) ls (va_rf r :: rest))) : W p l e R s m args below meth c H locs cells slots Q (F0 m pc ls st0) := by
  intro T hT X
  obtain ⟨v, st₀, t, T', L, h0, X', hL, e1, ⟨hv, hh⟩, st⟩ := hr T hT X
  cases hv
  obtain ⟨t2, a1, b1⟩ := kk T' (by rw [e1, hh, h0]) (Stand.forget X' (fun q h => (hL q h).elim))
  exact ⟨t2, st t2 a1, b1⟩
end CALLS
/-! calls that write the middle cells of a world -/
theorem jn3e {A0 : Nat → Prop} {D : va_G} {cl : List vw_C} {wl wc wr w1 : va_W} {H H1 : Heap} (hP : va_P D cl (wl ++ (wc ++ wr)) H) (hD : va_D A0 (wl ++ (wc ++ wr)))
    (hk : ∀ q : Nat, q < H.size → ¬ va_A wc H.size q → H1[q]? = H[q]?) (hF : ∀ q, va_A wc H.size q → A0 q) (hP1 : va_P D cl w1 H1) (he : w1.map (fun q => q.1) = wc.map (fun q => q.1)) :
    va_P D cl (wl ++ (w1 ++ wr)) H1 ∧ va_D A0 (wl ++ (w1 ++ wr)) := by
  have hDc : va_D A0 wc := by
    have h := D_mem.mp hD
    rw [D_mem]
    have h1 := h.1
    rw [List.map_append, List.map_append, List.nodup_append, List.nodup_append] at h1
    exact ⟨h1.2.1.1, fun q hq => h.2 q (List.mem_append_right _ (List.mem_append_left _ hq))⟩
  exact jn3 hP hD hk hF hP1 (D_addr (hDc.self (sz := H.size)) he)
theorem P_mid {D : va_G} {cl : List vw_C} {wl wc wr : va_W} {H : Heap} (h : va_P D cl (wl ++ (wc ++ wr)) H) : va_P D cl wc H := P_left (P_right h)
theorem D_left {A : Nat → Prop} {w1 w2 : va_W} (h : va_D A (w1 ++ w2)) : va_D A w1 := by
  have h := D_mem.mp h
  rw [D_mem]
  have h1 := h.1
  rw [List.map_append, List.nodup_append] at h1
  exact ⟨h1.1, fun q hq => h.2 q (List.mem_append_left _ hq)⟩
theorem D_right {A : Nat → Prop} {w1 w2 : va_W} (h : va_D A (w1 ++ w2)) : va_D A w2 := by
  have h := D_mem.mp h
  rw [D_mem]
  have h1 := h.1
  rw [List.map_append, List.nodup_append] at h1
  exact ⟨h1.2.1, fun q hq => h.2 q (List.mem_append_right _ hq)⟩
theorem D_mid {A : Nat → Prop} {wl wc wr : va_W} (h : va_D A (wl ++ (wc ++ wr))) : va_D A wc := D_left (D_right h)
theorem F_mid {A0 : Nat → Prop} {wl wc wr : va_W} {H0 H : Heap} {locs : List Loc} (hD : va_D A0 (wl ++ (wc ++ wr))) (hS : va_S A0 H0 H locs) (hA : ∀ q, H0.size ≤ q → A0 q) : ∀ q, va_A wc H.size q → A0 q := by
  intro q h
  rcases A_mem.mp h with ⟨e, he⟩ | h
  · exact (D_mem.mp (D_mid hD)).2 (q, e) he
  · exact hA q (Nat.le_trans hS.1 h)
section CALLW
variable {p : Program} {l : Launch} {e : Env} {R : Room} {s : State} {m : MethodId} {args : Array Value} {below : List Frame} {meth : Method} {c : Code} {H : Heap} {locs : List Loc} {cells slots : Nat} {Q : State → Prop}
variable {pc : Nat} {ls : Array Slot} {rest st0 : List Value} {a : Array Value} {A0 : Nat → Prop} {H0 : Heap} {D : va_G} {cl : List vw_C} {wl wc wr w1 : va_W}
theorem cW_v (hr : va_Run p l e R s m args below meth c H locs cells slots 0 0 (F0 m pc ls st0) rest (va_Qv (fun _ : Unit => True) (fun _ t => va_P D cl w1 t.heap) (va_A wc H.size) a) (va_A wc H.size)) (hP : va_P D cl (wl ++ (wc ++ wr)) H) (hD : va_D A0 (wl ++ (wc ++ wr))) (hS : va_S A0 H0 H locs) (hA : ∀ q, H0.size ≤ q → A0 q) (he : w1.map (fun q => q.1) = wc.map (fun q => q.1))
    (kk : ∀ (H1 : Heap) (locs1 : List Loc), va_P D cl (wl ++ (w1 ++ wr)) H1 → va_D A0 (wl ++ (w1 ++ wr)) → va_S A0 H0 H1 locs1 → W p l e R s m args below meth c H1 locs1 cells slots Q (F0 m (pc + 3) ls rest)) : W p l e R s m args below meth c H locs cells slots Q (F0 m pc ls st0) :=
  va_callv hr hS (fun q _ h => F_mid hD hS hA q h) (F_mid hD hS hA) (fun u t H1 locs1 ht hvm _ hB hz hk hS1 => by
    obtain ⟨hP2, hD2⟩ := jn3e hP hD hk (F_mid hD hS hA) (by rw [← ht]; exact hB) he
    exact kk H1 locs1 hP2 hD2 hS1)
theorem cW_i {r : Int32} (hr : va_Run p l e R s m args below meth c H locs cells slots 0 0 (F0 m pc ls st0) rest (va_Qi (fun r' (_ : Unit) => r' = r) (fun _ t => va_P D cl w1 t.heap) (va_A wc H.size) a) (va_A wc H.size)) (hP : va_P D cl (wl ++ (wc ++ wr)) H) (hD : va_D A0 (wl ++ (wc ++ wr))) (hS : va_S A0 H0 H locs) (hA : ∀ q, H0.size ≤ q → A0 q) (he : w1.map (fun q => q.1) = wc.map (fun q => q.1))
    (kk : ∀ (H1 : Heap) (locs1 : List Loc), va_P D cl (wl ++ (w1 ++ wr)) H1 → va_D A0 (wl ++ (w1 ++ wr)) → va_S A0 H0 H1 locs1 → W p l e R s m args below meth c H1 locs1 cells slots Q (F0 m (pc + 3) ls (.int r :: rest))) : W p l e R s m args below meth c H locs cells slots Q (F0 m pc ls st0) :=
  va_calli hr hS (fun q _ h => F_mid hD hS hA q h) (F_mid hD hS hA) (fun r' u t H1 locs1 ht hvm hp hB hz hk hS1 => by
    obtain ⟨hP2, hD2⟩ := jn3e hP hD hk (F_mid hD hS hA) (by rw [← ht]; exact hB) he
    rw [hp]
    exact kk H1 locs1 hP2 hD2 hS1)
theorem cW_l {r : Int64} (hr : va_Run p l e R s m args below meth c H locs cells slots 0 0 (F0 m pc ls st0) rest (va_Ql (fun r' (_ : Unit) => r' = r) (fun _ t => va_P D cl w1 t.heap) (va_A wc H.size) a) (va_A wc H.size)) (hP : va_P D cl (wl ++ (wc ++ wr)) H) (hD : va_D A0 (wl ++ (wc ++ wr))) (hS : va_S A0 H0 H locs) (hA : ∀ q, H0.size ≤ q → A0 q) (he : w1.map (fun q => q.1) = wc.map (fun q => q.1))
    (kk : ∀ (H1 : Heap) (locs1 : List Loc), va_P D cl (wl ++ (w1 ++ wr)) H1 → va_D A0 (wl ++ (w1 ++ wr)) → va_S A0 H0 H1 locs1 → W p l e R s m args below meth c H1 locs1 cells slots Q (F0 m (pc + 3) ls (.long r :: rest))) : W p l e R s m args below meth c H locs cells slots Q (F0 m pc ls st0) :=
  va_calll hr hS (fun q _ h => F_mid hD hS hA q h) (F_mid hD hS hA) (fun r' u t H1 locs1 ht hvm hp hB hz hk hS1 => by
    obtain ⟨hP2, hD2⟩ := jn3e hP hD hk (F_mid hD hS hA) (by rw [← ht]; exact hB) he
    rw [hp]
    exact kk H1 locs1 hP2 hD2 hS1)
theorem cW0_v (hr : va_Run p l e R s m args below meth c H locs cells slots 0 0 (F0 m pc ls st0) rest (va_Qv (fun _ : Unit => True) (fun _ t => va_P D cl w1 t.heap) (va_A wc H.size) a) (va_A wc H.size)) (hP : va_P D cl wc H) (hD : va_D A0 wc) (hS : va_S A0 H0 H locs) (hA : ∀ q, H0.size ≤ q → A0 q) (he : w1.map (fun q => q.1) = wc.map (fun q => q.1))
    (kk : ∀ (H1 : Heap) (locs1 : List Loc), va_P D cl w1 H1 → va_D A0 w1 → va_S A0 H0 H1 locs1 → W p l e R s m args below meth c H1 locs1 cells slots Q (F0 m (pc + 3) ls rest)) : W p l e R s m args below meth c H locs cells slots Q (F0 m pc ls st0) :=
  cW_v (wl := []) (wr := []) hr (by rw [List.nil_append, List.append_nil]; exact hP) (by rw [List.nil_append, List.append_nil]; exact hD) hS hA he (fun H1 locs1 h1 h2 h3 => kk H1 locs1 (by rw [List.nil_append, List.append_nil] at h1; exact h1) (by rw [List.nil_append, List.append_nil] at h2; exact h2) h3)
end CALLW
theorem up_enc {α : Type} (enc : α → Int32) (f : Nat → α) (k : Nat) (x : α) : upd (fun j => enc (f j)) k (enc x) = fun j => enc (va_up f k x j) := by
  funext j
  unfold upd va_up
  split <;> rfl
theorem n_dec {q : Nat} (h : 0 < q) : nI q + Int32.ofInt (-1) = nI (q - 1) := sb_m1 h
section STORES
variable {p : Program} {l : Launch} {e : Env} {R : Room} {s : State} {m : MethodId} {args : Array Value} {below : List Frame} {meth : Method} {c : Code} {H : Heap} {locs : List Loc} {cells slots : Nat} {Q : State → Prop}
variable {cc : ByteArray} {pc : Nat} {ls : Array Slot} {rest : List Value} {D : va_G} {cl : List vw_C} {tys : List (ClassId × FieldType)} {ws : va_W} {a : Nat} {A : Nat → Prop} {H0 : Heap}
theorem n_iastE {α : Type} {enc : α → Int32} {f : Nat → α} {x : α} (hexec : p.tables.exec = Jvm.exec) (hb : c.code = cc) (hK : va_K D cl tys s) (hP : va_P D cl ws H) (hD : va_D A ws) (hS : va_S A H0 H locs) (q0 t0 : Nat) {cA : ClassId} {n k : Nat} (ha : ws[q0]? = some (a, .inl (cA, n, .inl (fun j => enc (f j))))) (ht : tys[t0]? = some (cA, .int)) (hk : k < n) (hn : n < 2 ^ 31) (hdg : decode cc pc = .ok (.iastore, 1))
    (kk : ∀ (H1 : Heap) (locs1 : List Loc), va_P D cl (ws.set q0 (a, .inl (cA, n, .inl (fun j => enc (va_up f k x j))))) H1 → va_D A (ws.set q0 (a, .inl (cA, n, .inl (fun j => enc (va_up f k x j))))) → va_S A H0 H1 locs1 → W p l e R s m args below meth c H1 locs1 cells slots Q (F0 m (pc + 1) ls rest)) : W p l e R s m args below meth c H locs cells slots Q (F0 m pc ls (.int (enc x) :: .int (nI k) :: .ref a :: rest)) :=
  n_iast hexec hb hK hP hD hS q0 t0 ha ht hk hn hdg (by rw [up_enc]; exact kk)
theorem n_zastE {f : Nat → Bool} {x : Bool} (hexec : p.tables.exec = Jvm.exec) (hb : c.code = cc) (hK : va_K D cl tys s) (hP : va_P D cl ws H) (hD : va_D A ws) (hS : va_S A H0 H locs) (q0 t0 : Nat) {cA : ClassId} {n k : Nat} (ha : ws[q0]? = some (a, .inl (cA, n, .inl (fun j => bI (f j))))) (ht : tys[t0]? = some (cA, .boolean)) (hk : k < n) (hn : n < 2 ^ 31) (hdg : decode cc pc = .ok (.bastore, 1))
    (kk : ∀ (H1 : Heap) (locs1 : List Loc), va_P D cl (ws.set q0 (a, .inl (cA, n, .inl (fun j => bI (va_up f k x j))))) H1 → va_D A (ws.set q0 (a, .inl (cA, n, .inl (fun j => bI (va_up f k x j))))) → va_S A H0 H1 locs1 → W p l e R s m args below meth c H1 locs1 cells slots Q (F0 m (pc + 1) ls rest)) : W p l e R s m args below meth c H locs cells slots Q (F0 m pc ls (.int (bI x) :: .int (nI k) :: .ref a :: rest)) :=
  n_zast hexec hb hK hP hD hS q0 t0 ha ht hk hn hdg (by rw [up_enc]; exact kk)
theorem n_aldr (hexec : p.tables.exec = Jvm.exec) (hb : c.code = cc) (hK : va_K D cl tys s) (hP : va_P D cl ws H) (q0 t0 : Nat) {cA : ClassId} {C : String} {n k r : Nat} {f : Nat → Option Nat} (ha : ws[q0]? = some (a, .inl (cA, n, .inr (.inr (.inr (.inr f)))))) (ht : tys[t0]? = some (cA, .object C)) (hk : k < n) (hn : n < 2 ^ 31) (hv : f k = some r) (hdg : decode cc pc = .ok (.aaload, 1))
    (kk : W p l e R s m args below meth c H locs cells slots Q (F0 m (pc + 1) ls (.ref r :: rest))) : W p l e R s m args below meth c H locs cells slots Q (F0 m pc ls (.int (nI k) :: .ref a :: rest)) :=
  va_aldq hexec hb hK hP q0 t0 ha ht (vp_in_nI hk hn) hdg (by rw [nI_clamp (Nat.lt_trans hk hn), hv]; exact kk)
end STORES
end
section
abbrev tysG (g : GG) : List (ClassId × FieldType) := [(g.2 0, .int), (g.2 1, .boolean), (g.2 2, .object "FillForecast$Bin"), (g.2 3, .long)]
def KK (g : GG) (U : State) : Prop := va_K g.1 vwCl (tysG g) U ∧ va_Nw (.methodLinkNest "FillForecast$Bin" 66 yX4_isWithin "FillForecast") U ∧ va_AO "FillForecast$Bin" U
theorem KK.warm {g : GG} {s U : State} (hW : s.WarmedH U.vm) (h : KK g s) : KK g U := ⟨va_K.moved hW.alike h.1, va_Nw.warmM hW h.2.1, va_AO.moved hW.alike h.2.2⟩
theorem KK.same {g : GG} {s U : State} (e : s.vm = U.vm) (h : KK g s) : KK g U := ⟨va_K.moved (by rw [e]; exact Vm.Alike.refl U.vm) h.1, va_Nw.same rfl e h.2.1, va_AO.moved (by rw [e]; exact Vm.Alike.refl U.vm) h.2.2⟩
abbrev Pre0 (as : List Value) (g : GG) (w : va_W) : Array Value → State → Prop := va_Pc as (fun U => va_P g.1 vwCl w U.heap ∧ KK g U)
theorem blind0 {as : List Value} {g : GG} {w : va_W} : FrameBlind (Pre0 as g w) := fun _ U gg mk q => ⟨q.1, q.2.1, KK.same (U := U.calling gg mk _) rfl q.2.2⟩
theorem preS_rd {s : State} {H : Heap} {g : GG} {w : va_W} {as : List Value} (hP : va_P g.1 vwCl w H) (hK : KK g s) : PreS s H (Pre0 as g w) as := ⟨blind0, fun U hU hW => ⟨rfl, by rw [hU]; exact hP, hK.warm hW⟩⟩
theorem preV_rd {s : State} {H : Heap} {g : GG} {w : va_W} {b : Nat} {C : String} {as : List Value} (hP : va_P g.1 vwCl w H) (hK : KK g s) (hr : ∃ cell : Cell, H[b]? = some cell ∧ cell.vm.isStatics = false ∧ s.vm.findClass C = some cell.cls) : PreV s H C b (Pre0 (.ref b :: as) g w) as := ⟨blind0, hr, fun U hU hW => ⟨rfl, by rw [hU]; exact hP, hK.warm hW⟩⟩
abbrev Rd (l : Launch) (y : MethodName) (ws : List Cond) (fr lo : Nat) (as : List Value) (g : GG) (w : va_W) (r : Int32) : Prop := Met l y ws ⟨fr, 0, 0, lo⟩ (Pre0 as g w) (QcRead r) 0 0 (fun _ => False)
abbrev Rz (l : Launch) (y : MethodName) (ws : List Cond) (fr lo : Nat) (as : List Value) (g : GG) (w : va_W) (r : Int32) : Prop := Met l y ws ⟨fr, 0, 0, lo⟩ (Pre0 as g w) (QcRead r) 0 0 (fun _ => False)
abbrev Rl (l : Launch) (y : MethodName) (ws : List Cond) (fr lo : Nat) (as : List Value) (g : GG) (w : va_W) (r : Int64) : Prop := Met l y ws ⟨fr, 0, 0, lo⟩ (Pre0 as g w) (QlRead r) 0 0 (fun _ => False)
abbrev Rq (l : Launch) (y : MethodName) (ws : List Cond) (fr lo : Nat) (as : List Value) (g : GG) (w : va_W) (r : Option Nat) : Prop := Met l y ws ⟨fr, 0, 0, lo⟩ (Pre0 as g w) (QqRead r) 0 0 (fun _ => False)
abbrev PreW (as : List Value) (g : GG) (w : va_W) (sz : Nat) : Array Value → State → Prop := va_Pc as (fun U => U.heap.size = sz ∧ va_P g.1 vwCl w U.heap ∧ KK g U ∧ va_D (fun _ => True) w)
theorem blindW {as : List Value} {g : GG} {w : va_W} {sz : Nat} : FrameBlind (PreW as g w sz) := fun _ U gg mk q => ⟨q.1, q.2.1, q.2.2.1, KK.same (U := U.calling gg mk _) rfl q.2.2.2.1, q.2.2.2.2⟩
theorem preV_wr {s : State} {H : Heap} {g : GG} {w : va_W} {b : Nat} {C : String} {as : List Value} {A : Nat → Prop} (hP : va_P g.1 vwCl w H) (hK : KK g s) (hD : va_D A w) (hr : ∃ cell : Cell, H[b]? = some cell ∧ cell.vm.isStatics = false ∧ s.vm.findClass C = some cell.cls) : PreV s H C b (PreW (.ref b :: as) g w H.size) as := ⟨blindW, hr, fun U hU hW => ⟨rfl, by rw [hU], by rw [hU]; exact hP, hK.warm hW, hD.weaken (fun _ _ _ _ => trivial)⟩⟩
theorem preI_wr {s : State} {H : Heap} {g : GG} {w : va_W} {as : List Value} {A : Nat → Prop} (hP : va_P g.1 vwCl w H) (hK : KK g s) (hD : va_D A w) : PreS s H (PreW as g w H.size) as := ⟨blindW, fun U hU hW => ⟨rfl, by rw [hU], by rw [hU]; exact hP, hK.warm hW, hD.weaken (fun _ _ _ _ => trivial)⟩⟩
abbrev Wv (l : Launch) (y : MethodName) (ws : List Cond) (fr lo mc ms : Nat) (as : List Value) (g : GG) (w : va_W) (sz : Nat) (w1 : va_W) : Prop := Met l y ws ⟨fr, mc, ms, lo⟩ (PreW as g w sz) (va_Qv (fun _ : Unit => True) (fun _ t => va_P g.1 vwCl w1 t.heap) (va_A w sz)) mc ms (va_A w sz)
abbrev Wi (l : Launch) (y : MethodName) (ws : List Cond) (fr lo mc ms : Nat) (as : List Value) (g : GG) (w : va_W) (sz : Nat) (r : Int32) (w1 : va_W) : Prop := Met l y ws ⟨fr, mc, ms, lo⟩ (PreW as g w sz) (va_Qi (fun r' (_ : Unit) => r' = r) (fun _ t => va_P g.1 vwCl w1 t.heap) (va_A w sz)) mc ms (va_A w sz)
abbrev Wz (l : Launch) (y : MethodName) (ws : List Cond) (fr lo mc ms : Nat) (as : List Value) (g : GG) (w : va_W) (sz : Nat) (r : Int32) (w1 : va_W) : Prop := Met l y ws ⟨fr, mc, ms, lo⟩ (PreW as g w sz) (va_Qi (fun r' (_ : Unit) => r' = r) (fun _ t => va_P g.1 vwCl w1 t.heap) (va_A w sz)) mc ms (va_A w sz)
abbrev Wl (l : Launch) (y : MethodName) (ws : List Cond) (fr lo mc ms : Nat) (as : List Value) (g : GG) (w : va_W) (sz : Nat) (r : Int64) (w1 : va_W) : Prop := Met l y ws ⟨fr, mc, ms, lo⟩ (PreW as g w sz) (va_Ql (fun r' (_ : Unit) => r' = r) (fun _ t => va_P g.1 vwCl w1 t.heap) (va_A w sz)) mc ms (va_A w sz)
/-! a bin: its addresses; street, room, points, rows; places, amounts, wrongs, gains -/
abbrev BinT : Type := (Nat → Nat) × (Nat × Nat × Nat × Nat) × (Nat → Nat) × (Nat → Nat) × (Nat → Bool) × (Nat → Option Nat)
def bA (b : BinT) : Nat → Nat := b.1
def bSt (b : BinT) : Nat := b.2.1.1
def bRm (b : BinT) : Nat := b.2.1.2.1
def bN (b : BinT) : Nat := b.2.1.2.2.1
def bR (b : BinT) : Nat := b.2.1.2.2.2
def bPl (b : BinT) : Nat → Nat := b.2.2.1
def bAm (b : BinT) : Nat → Nat := b.2.2.2.1
def bWr (b : BinT) : Nat → Bool := b.2.2.2.2.1
def bGn (b : BinT) : Nat → Option Nat := b.2.2.2.2.2
def bsN (b : BinT) (n : Nat) : BinT := (b.1, (b.2.1.1, b.2.1.2.1, n, b.2.1.2.2.2), b.2.2)
def bsR (b : BinT) (r : Nat) : BinT := (b.1, (b.2.1.1, b.2.1.2.1, b.2.1.2.2.1, r), b.2.2)
def bsPl (b : BinT) (f : Nat → Nat) : BinT := (b.1, b.2.1, f, b.2.2.2)
def bsAm (b : BinT) (f : Nat → Nat) : BinT := (b.1, b.2.1, b.2.2.1, f, b.2.2.2.2)
def bsWr (b : BinT) (f : Nat → Bool) : BinT := (b.1, b.2.1, b.2.2.1, b.2.2.2.1, f, b.2.2.2.2.2)
def bsGn (b : BinT) (f : Nat → Option Nat) : BinT := (b.1, b.2.1, b.2.2.1, b.2.2.2.1, b.2.2.2.2.1, f)
def wB (g : GG) (b : BinT) : va_W := [(bA b 0, .inr (0, [.int (nI (bSt b)), .int (nI (bRm b)), .ref (bA b 1), .ref (bA b 2), .ref (bA b 3), .ref (bA b 4), .int (nI (bN b)), .int (nI (bR b))])), (bA b 1, .inl (g.2 0, 32, .inl (fun j => nI (bPl b j)))), (bA b 2, .inl (g.2 0, 32, .inl (fun j => nI (bAm b j)))), (bA b 3, .inl (g.2 1, 32, .inl (fun j => bI (bWr b j)))), (bA b 4, .inl (g.2 0, 32, .inl (fun j => gI (bGn b j))))]
def wC (g : GG) (ca : Nat → Nat) (hol : Nat → Bool) : va_W := [(ca 0, .inr (1, [.ref (ca 1)])), (ca 1, .inl (g.2 1, 417, .inl (fun j => bI (hol j))))]
def wF (g : GG) (fa : Nat → Nat) (wt : Nat → Nat) : va_W := [(fa 0, .inr (2, [.ref (fa 1)])), (fa 1, .inl (g.2 0, 8, .inl (fun j => nI (wt j))))]
def wO (g : GG) (oa : Nat → Nat) (rt sm : Nat → Nat) : va_W := [(oa 0, .inr (3, [.ref (oa 1), .ref (oa 2)])), (oa 1, .inl (g.2 0, 7, .inl (fun j => nI (rt j)))), (oa 2, .inl (g.2 0, 418, .inl (fun j => nI (sm j))))]
/-- the share of a point; a wrong row by the one before it; a gain -/
def shB (b : BinT) (i : Nat) : Nat := if bPl b i % 2 = 0 then bAm b i else 0
def hrB (b : BinT) (i : Nat) : Nat := bPl b i / 2
def rowB (b : BinT) (i : Nat) : Bool := decide (bPl b i % 2 = 0)
/-- wrong by the latest right point before it; its gain; the latest right point below i -/
def wrgF (b : BinT) (o : Option Nat) (i : Nat) : Bool := match o with
  | none => false
  | some k => rowB b i && decide (shB b i < shB b k)
def gnF (b : BinT) (o : Option Nat) (i : Nat) : Option Nat := match o with
  | none => none
  | some k => if (rowB b i && !decide (shB b i < shB b k)) = true then some ((shB b i - shB b k) * 24 / (hrB b i - hrB b k)) else none
theorem wrgF_some {b : BinT} {a i : Nat} : wrgF b (some a) i = (rowB b i && decide (shB b i < shB b a)) := rfl
theorem gnF_some {b : BinT} {a i : Nat} : gnF b (some a) i = if (rowB b i && !decide (shB b i < shB b a)) = true then some ((shB b i - shB b a) * 24 / (hrB b i - hrB b a)) else none := rfl
def bef (b : BinT) : Nat → Option Nat
  | 0 => none
  | i + 1 => if wrgF b (bef b i) i = true then bef b i else some i
theorem bef_lt {b : BinT} : ∀ {i k : Nat}, bef b i = some k → k < i
  | 0, k, h => by cases h
  | i + 1, k, h => by
    rw [bef] at h
    split at h
    · have := bef_lt h
      omega
    · cases h
      omega
def jW (b : BinT) (j : Nat) : Nat → Bool := fun x => if x < j then wrgF b (bef b x) x else bWr b x
def jG (b : BinT) (j : Nat) : Nat → Option Nat := fun x => if x < j then gnF b (bef b x) x else bGn b x
/-- the bin, judged up to point j -/
def jB (b : BinT) (j : Nat) : BinT := bsGn (bsWr b (jW b j)) (jG b j)
theorem jW_s (b : BinT) (j : Nat) : va_up (jW b j) j (wrgF b (bef b j) j) = jW b (j + 1) := by
  funext x
  unfold va_up jW
  by_cases h : x = j
  · rw [if_pos h, if_pos (by omega), h]
  · rw [if_neg h]
    by_cases h2 : x < j
    · rw [if_pos h2, if_pos (by omega)]
    · rw [if_neg h2, if_neg (by omega)]
theorem jG_s (b : BinT) (j : Nat) : va_up (jG b j) j (gnF b (bef b j) j) = jG b (j + 1) := by
  funext x
  unfold va_up jG
  by_cases h : x = j
  · rw [if_pos h, if_pos (by omega), h]
  · rw [if_neg h]
    by_cases h2 : x < j
    · rw [if_pos h2, if_pos (by omega)]
    · rw [if_neg h2, if_neg (by omega)]
theorem jW_at {b : BinT} {j : Nat} : jW b (j + 1) j = wrgF b (bef b j) j := by
  unfold jW
  rw [if_pos (by omega)]
/-- f below j, the old ones above -/
def ptU {α : Type} (f old : Nat → α) (j : Nat) : Nat → α := fun i => if i < j then f i else old i
theorem ptU_0 {α : Type} (f old : Nat → α) : ptU f old 0 = old := by
  funext x
  unfold ptU
  rw [if_neg (by omega)]
theorem ptU_s {α : Type} (f old : Nat → α) (j : Nat) : va_up (ptU f old j) j (f j) = ptU f old (j + 1) := by
  funext x
  unfold va_up ptU
  by_cases h : x = j
  · rw [if_pos h, if_pos (by omega), h]
  · rw [if_neg h]
    by_cases h2 : x < j
    · rw [if_pos h2, if_pos (by omega)]
    · rw [if_neg h2, if_neg (by omega)]
/-- a row of numbers with a place opened at i (those of i .. n - 1 one on), done from n down to i -/
def shf {α : Type} (f : Nat → α) (i n : Nat) : Nat → α := fun j => if i < j ∧ j ≤ n then f (j - 1) else f j
theorem shf_n {α : Type} (f : Nat → α) (n : Nat) : shf f n n = f := by
  funext j
  unfold shf
  rw [if_neg (by omega)]
theorem shf_s {α : Type} (f : Nat → α) {i n : Nat} (h0 : 0 < i) (h : i ≤ n) : va_up (shf f i n) i (shf f i n (i - 1)) = shf f (i - 1) n := by
  funext j
  unfold va_up shf
  by_cases h2 : j = i
  · rw [if_pos h2, if_neg (by omega), if_pos (by omega), h2]
  · rw [if_neg h2]
    by_cases h3 : i < j ∧ j ≤ n
    · rw [if_pos h3, if_pos (by omega)]
    · rw [if_neg h3, if_neg (by omega)]
/-- what judging asks of a bin -/
def Jok (b : BinT) : Prop := bN b ≤ 32 ∧ (∀ i, i < bN b → bPl b i < 20000) ∧ (∀ i j, i < j → j < bN b → bPl b i < bPl b j) ∧ ∀ i, i < bN b → shB b i ≤ 1500
/-- the bin with another amount at i; with a new point of place q and amount v at i -/
def amB (b : BinT) (i v : Nat) : BinT := bsAm b (va_up (bAm b) i v)
def opB (b : BinT) (i q : Nat) : BinT := bsN (bsAm (bsPl b (va_up (shf (bPl b) i (bN b)) i q)) (shf (bAm b) i (bN b))) (bN b + 1)
/-- the k-th of those that P names, counting from c, in i .. i + f -/
def kth (P : Nat → Bool) (k : Int32) : Nat → Nat → Nat → Option Nat
  | 0, _, _ => none
  | f + 1, i, c => if P i = true then (if nI c = k then some i else kth P k f (i + 1) (c + 1)) else kth P k f (i + 1) c
/-- the last below j that P names -/
def lst (P : Nat → Bool) : Nat → Option Nat
  | 0 => none
  | j + 1 => if P j = true then some j else lst P j
theorem lst_some {P : Nat → Bool} : ∀ {n i : Nat}, lst P n = some i → i < n ∧ P i = true
  | 0, i, h => by cases h
  | n + 1, i, h => by
    rw [lst] at h
    split at h
    · rename_i hp
      cases h
      exact ⟨Nat.lt_succ_self _, hp⟩
    · have := lst_some h
      exact ⟨by omega, this.2⟩
/-- sum of gains by weights and sum of weights, from j - 1 down, at age a -/
def mnR (G : Nat → Option Nat) (wt : Nat → Nat) : Nat → Nat → Nat × Nat
  | 0, _ => (0, 0)
  | j + 1, a => if a < 8 then (match G j with
      | none => mnR G wt j a
      | some v => ((mnR G wt j (a + 1)).1 + v * wt a, (mnR G wt j (a + 1)).2 + wt a)) else (0, 0)
def mnV (q : Nat × Nat) : Option Nat := if q.2 = 0 then none else some (q.1 / q.2)
def wdy (hol : Nat → Bool) (d : Nat) : Nat := if hol d = true then 6 else d % 7
theorem wdy_lt {hol : Nat → Bool} {d : Nat} : wdy hol d < 7 := by
  unfold wdy
  split <;> omega
/-- sums of days, written up to day j -/
def smU (rt : Nat → Nat) (hol : Nat → Bool) (sm : Nat → Nat) : Nat → Nat → Nat
  | 0 => sm
  | j + 1 => va_up (smU rt hol sm j) (j + 1) (smU rt hol sm j j + rt (wdy hol j))
/-- a weight's product after i factors; the weights, written up to age j -/
def wtP (x y j : Nat) : Nat → Nat
  | 0 => 1
  | i + 1 => wtP x y j i * (if i < j then x else y)
def wtU (x y : Nat) (wt : Nat → Nat) : Nat → Nat → Nat
  | 0 => wt
  | j + 1 => va_up (wtU x y wt j) j (wtP x y j 7)
/-- in 24ths: what is gained up to an hour, by the sums of days -/
def gup (sm : Nat → Nat) (h : Nat) : Nat := 24 * sm (h / 24) + h % 24 * (sm (h / 24 + 1) - sm (h / 24))
def shY (b : BinT) (sm : Nat → Nat) (o : Option Nat) (h : Nat) : Nat := match o with
  | none => (24 * 0 + gup sm h - gup sm 0) / 24
  | some i => (24 * shB b i + gup sm h - gup sm (hrB b i)) / 24
/-- the latest right point up to a place -/
def ltB (b : BinT) (q : Nat) : Option Nat := lst (fun i => decide (bPl b i ≤ q) && !bWr b i) (bN b)
def shA (b : BinT) (sm : Nat → Nat) (h : Nat) : Nat := shY b sm (ltB b (2 * h + 1)) h
def shE (b : BinT) (sm : Nat → Nat) (i : Nat) : Nat := shY b sm (ltB b (bPl b i - 1)) (hrB b i)
theorem ltB_ok {b : BinT} {q h : Nat} (hq : q ≤ 2 * h + 1) : ∀ i, ltB b q = some i → i < bN b ∧ hrB b i ≤ h := by
  intro i hi
  obtain ⟨h1, h2⟩ := lst_some hi
  refine ⟨h1, ?_⟩
  have h3 : bPl b i ≤ q := by
    have := (Bool.and_eq_true_iff.mp h2).1
    exact of_decide_eq_true this
  unfold hrB
  omega
theorem gup_lt {sm : Nat → Nat} {h : Nat} (hh : h < 10000) (hs : ∀ d, d < 418 → sm d ≤ 20000000) (hm : ∀ d, d < 417 → sm d ≤ sm (d + 1)) : gup sm h < 2 ^ 40 := by
  have h1 := hs (h / 24) (by omega)
  have h2 := hs (h / 24 + 1) (by omega)
  have h3 : h % 24 * (sm (h / 24 + 1) - sm (h / 24)) ≤ 24 * 20000000 := Nat.mul_le_mul (by omega) (by omega)
  unfold gup
  omega
theorem gup_step {sm : Nat → Nat} {h : Nat} (hm : ∀ d, d < 417 → sm d ≤ sm (d + 1)) (hh : h + 1 < 10000) : gup sm (h + 1) = gup sm h + (sm (h / 24 + 1) - sm (h / 24)) := by
  have h3 := hm (h / 24) (by omega)
  unfold gup
  rcases Nat.lt_or_ge (h % 24) 23 with z | z
  · rw [show (h + 1) / 24 = h / 24 by omega, show (h + 1) % 24 = h % 24 + 1 by omega, Nat.add_mul, Nat.one_mul]
    omega
  · rw [show (h + 1) / 24 = h / 24 + 1 by omega, show (h + 1) % 24 = 0 by omega, show h % 24 = 23 by omega, Nat.zero_mul]
    omega
theorem gup_le {sm : Nat → Nat} {i h : Nat} (hi : i ≤ h) (hh : h < 10000) (hm : ∀ d, d < 417 → sm d ≤ sm (d + 1)) : gup sm i ≤ gup sm h := by
  induction h with
  | zero => rw [show i = 0 by omega]; exact Nat.le_refl _
  | succ h ih =>
    rcases Nat.lt_or_ge i (h + 1) with z | z
    · have := ih (by omega) (by omega)
      rw [gup_step hm hh]
      omega
    · rw [show i = h + 1 by omega]
      exact Nat.le_refl _
/-! the object: its addresses (itself, its bins' row), those of calendar, fading, outlook; holidays, weights, rates, sums; silence and costs; bins -/
abbrev FT : Type := ((Nat → Nat) × (Nat → Nat) × (Nat → Nat) × (Nat → Nat)) × (Nat → Bool) × (Nat → Nat) × (Nat → Nat) × (Nat → Nat) × (Nat × Nat × Nat) × List BinT
def xA (x : FT) : Nat → Nat := x.1.1
def xC (x : FT) : Nat → Nat := x.1.2.1
def xF (x : FT) : Nat → Nat := x.1.2.2.1
def xO (x : FT) : Nat → Nat := x.1.2.2.2
def xH (x : FT) : Nat → Bool := x.2.1
def xW (x : FT) : Nat → Nat := x.2.2.1
def xR (x : FT) : Nat → Nat := x.2.2.2.1
def xS (x : FT) : Nat → Nat := x.2.2.2.2.1
def xQ (x : FT) : Nat := x.2.2.2.2.2.1.1
def xE (x : FT) : Nat := x.2.2.2.2.2.1.2.1
def xL (x : FT) : Nat := x.2.2.2.2.2.1.2.2
def xB (x : FT) : List BinT := x.2.2.2.2.2.2
def xsH (x : FT) (v : Nat → Bool) : FT := (x.1, v, x.2.2)
def xsW (x : FT) (v : Nat → Nat) : FT := (x.1, x.2.1, v, x.2.2.2)
def xsRS (x : FT) (r v : Nat → Nat) : FT := (x.1, x.2.1, x.2.2.1, r, v, x.2.2.2.2.2)
def xsQ (x : FT) (v : Nat) : FT := (x.1, x.2.1, x.2.2.1, x.2.2.2.1, x.2.2.2.2.1, (v, x.2.2.2.2.2.1.2), x.2.2.2.2.2.2)
def xsE (x : FT) (v : Nat) : FT := (x.1, x.2.1, x.2.2.1, x.2.2.2.1, x.2.2.2.2.1, (x.2.2.2.2.2.1.1, v, x.2.2.2.2.2.1.2.2), x.2.2.2.2.2.2)
def xsL (x : FT) (v : Nat) : FT := (x.1, x.2.1, x.2.2.1, x.2.2.2.1, x.2.2.2.2.1, (x.2.2.2.2.2.1.1, x.2.2.2.2.2.1.2.1, v), x.2.2.2.2.2.2)
def xsB (x : FT) (v : List BinT) : FT := (x.1, x.2.1, x.2.2.1, x.2.2.2.1, x.2.2.2.2.1, x.2.2.2.2.2.1, v)
def bw (g : GG) (bs : List BinT) : va_W := bs.flatMap (wB g)
def bRef (bs : List BinT) : Nat → Option Nat := fun j => (bs[j]?).map (fun b => bA b 0)
def wXh (g : GG) (x : FT) : va_W := [(xA x 0, .inr (4, [.ref (xC x 0), .ref (xF x 0), .ref (xO x 0), .ref (xA x 1), .int (nI ((xB x).length)), .int (nI (xQ x)), .int (nI (xE x)), .int (nI (xL x))])), (xA x 1, .inl (g.2 2, 8, .inr (.inr (.inr (.inr (bRef (xB x)))))))]
def wX (g : GG) (x : FT) : va_W := wXh g x ++ (wF g (xF x) (xW x) ++ (wO g (xO x) (xR x) (xS x) ++ (wC g (xC x) (xH x) ++ bw g (xB x))))
theorem wX_C {D : va_G} {cl : List vw_C} {g : GG} {x : FT} {H : Heap} (h : va_P D cl (wX g x) H) : va_P D cl (wC g (xC x) (xH x)) H := P_left (P_right (P_right (P_right h)))
theorem wX_F {D : va_G} {cl : List vw_C} {g : GG} {x : FT} {H : Heap} (h : va_P D cl (wX g x) H) : va_P D cl (wF g (xF x) (xW x)) H := P_left (P_right h)
theorem wX_O {D : va_G} {cl : List vw_C} {g : GG} {x : FT} {H : Heap} (h : va_P D cl (wX g x) H) : va_P D cl (wO g (xO x) (xR x) (xS x)) H := P_left (P_right (P_right h))
theorem wX_B {D : va_G} {cl : List vw_C} {g : GG} {x : FT} {H : Heap} (h : va_P D cl (wX g x) H) {b : BinT} (hb : b ∈ xB x) : va_P D cl (wB g b) H := P_sub (P_right (P_right (P_right (P_right h)))) (fun _ hq => List.mem_flatMap.mpr ⟨b, hb, hq⟩)
/-- the bin that a number names -/
def binAt (bs : List BinT) (k : Int32) : Option BinT := if 0 ≤ k then bs[k.toNatClampNeg]? else none
theorem binAt_n {bs : List BinT} {k : Int32} (h8 : bs.length ≤ 8) (h : binAt bs k = none) : decide (nI 0 ≤ k ∧ k ≤ nI bs.length - nI 1) = false := by
  apply decide_eq_false
  intro z
  rcases pk_ix k (n := bs.length) (by omega) with q | q | ⟨j, hj, q⟩
  · rw [← nI_0] at q
    exact absurd z.1 (by rw [Int32.not_le]; exact q)
  · have z2 := z.2
    rcases Nat.eq_zero_or_pos bs.length with q0 | q0
    · rw [q0] at z2
      have z3 : k ≤ -1 := z2
      have z1 := z.1
      rw [Int32.le_iff_toInt_le] at z1 z3
      have e0 : (nI 0).toInt = 0 := by decide
      have e1 : (-1 : Int32).toInt = -1 := by decide
      omega
    · rw [pk_sub q0, Int32.le_iff_toInt_le, nI_toInt (by omega)] at z2
      rw [Int32.le_iff_toInt_le, nI_toInt (by omega)] at q
      omega
  · subst q
    unfold binAt at h
    rw [if_pos (nI_pos' (by omega)), nI_clamp (by omega), List.getElem?_eq_getElem hj] at h
    cases h
theorem binAt_s {bs : List BinT} {k : Int32} {b : BinT} (h8 : bs.length ≤ 8) (h : binAt bs k = some b) : ∃ j, j < bs.length ∧ k = nI j ∧ bs[j]? = some b ∧ decide (nI 0 ≤ k ∧ k ≤ nI bs.length - nI 1) = true := by
  unfold binAt at h
  split at h
  case isFalse => cases h
  case isTrue h0 =>
    obtain ⟨hj, -⟩ := List.getElem?_eq_some_iff.mp h
    have hk : k = nI k.toNatClampNeg := by
      obtain ⟨j, hj2, e⟩ := nI_of (x := k) (by rw [Int32.not_lt]; exact h0)
      rw [e, nI_clamp hj2]
    refine ⟨k.toNatClampNeg, hj, hk, h, decide_eq_true ⟨?_, ?_⟩⟩
    · rw [nI_0]; exact h0
    · rw [pk_sub (by omega)]
      rw [hk]
      exact nI_le (by omega) (by omega)
def bin0 : BinT := (fun _ => 0, (0, 0, 0, 0), fun _ => 0, fun _ => 0, fun _ => false, fun _ => none)
/-- a row of the bin in a stretch of hours -/
def silB (b : BinT) (lo hi : Int32) : Bool := (List.range (bN b)).any (fun i => rowB b i && decide (lo ≤ nI (hrB b i) ∧ nI (hrB b i) ≤ hi))
/-- a number of lo .. N, or none -/
def inL (lo N : Nat) (k : Int32) : Option Nat := if nI lo ≤ k ∧ k ≤ nI N then some k.toNatClampNeg else none
theorem inL_n {lo N : Nat} {k : Int32} (h : inL lo N k = none) : decide (nI lo ≤ k ∧ k ≤ nI N) = false := by
  unfold inL at h
  split at h
  · cases h
  · rename_i h2
    exact decide_eq_false h2
theorem inL_s {lo N : Nat} {k : Int32} {j : Nat} (hN : N < 2 ^ 31) (hlo : lo ≤ N) (h : inL lo N k = some j) : lo ≤ j ∧ j ≤ N ∧ k = nI j ∧ decide (nI lo ≤ k ∧ k ≤ nI N) = true := by
  unfold inL at h
  split at h
  · rename_i h2
    cases h
    have h3 := h2.1
    have h4 := h2.2
    rw [Int32.le_iff_toInt_le, nI_toInt (by omega)] at h3 h4
    obtain ⟨j, hj, e⟩ := nI_of (x := k) (by rw [Int32.lt_iff_toInt_lt, Int32.toInt_zero]; omega)
    subst e
    rw [nI_clamp hj]
    rw [nI_toInt hj] at h3 h4
    exact ⟨by omega, by omega, rfl, decide_eq_true h2⟩
  · cases h
/-- a bin's mean of a weekday; sums over the bins of a street; its rate -/
def meanH (hol : Nat → Bool) (wt : Nat → Nat) (b : BinT) (wd : Nat) : Option Nat := mnV (mnR (fun i => if wdy hol (hrB b i / 24) = wd then bGn b i else none) wt (bN b) 0)
def stH (hol : Nat → Bool) (wt : Nat → Nat) (st wd : Nat) : List BinT → Nat × Nat
  | [] => (0, 0)
  | b :: t => if bSt b = st then (match meanH hol wt b wd with
      | none => stH hol wt st wd t
      | some v => ((stH hol wt st wd t).1 + v, (stH hol wt st wd t).2 + 1)) else stH hol wt st wd t
def stQ (q : Nat × Nat) : Nat := if q.2 = 0 then 100 else q.1 / q.2
def rateH (hol : Nat → Bool) (wt : Nat → Nat) (bs : List BinT) (b : BinT) (wd : Nat) : Nat := match meanH hol wt b wd with
  | none => stQ (stH hol wt (bSt b) wd bs)
  | some v => v
abbrev meanX (x : FT) (b : BinT) (wd : Nat) : Option Nat := meanH (xH x) (xW x) b wd
abbrev stR (x : FT) (st wd : Nat) (l : List BinT) : Nat × Nat := stH (xH x) (xW x) st wd l
abbrev stV (x : FT) (st wd : Nat) : Nat := stQ (stH (xH x) (xW x) st wd (xB x))
abbrev rateV (x : FT) (b : BinT) (wd : Nat) : Nat := rateH (xH x) (xW x) (xB x) b wd
/-- the outlook for a bin -/
def lkX (x : FT) (b : BinT) : FT := xsRS x (ptU (rateV x b) (xR x) 7) (smU (ptU (rateV x b) (xR x) 7) (xH x) (xS x) 417)
/-- the cost of a day -/
def ctV (x : FT) (b : BinT) (d : Nat) : Nat := if shA b (xS x) (d * 24) < 1000 then (1000 - shA b (xS x) (d * 24)) * xE x else (shA b (xS x) (d * 24) - 1000) * xL x
theorem shA_lt {b : BinT} {sm : Nat → Nat} {h : Nat} (ham : ∀ i, i < bN b → shB b i ≤ 1500) (hs : ∀ d, d < 418 → sm d ≤ 20000000) (hm : ∀ d, d < 417 → sm d ≤ sm (d + 1)) (hh : h < 10000) : shA b sm h < 2 ^ 40 := by
  have hg := gup_lt (sm := sm) hh hs hm
  unfold shA shY
  split
  · omega
  · rename_i i hi
    have := ham i (ltB_ok (Nat.le_refl _) i hi).1
    omega
/-- sums of days -/
def dsum (f : Nat → Nat) : Nat → Nat
  | 0 => 0
  | d + 1 => dsum f d + f d
theorem dsum_le {f : Nat → Nat} {M : Nat} (h : ∀ i, f i ≤ M) : ∀ d, dsum f d ≤ d * M
  | 0 => Nat.zero_le _
  | d + 1 => by
    have h1 := dsum_le h d
    have h2 := h d
    rw [dsum, Nat.add_mul, Nat.one_mul]
    omega
theorem smU_at {rt : Nat → Nat} {hol : Nat → Bool} {sm : Nat → Nat} (h0 : sm 0 = 0) : ∀ {j d : Nat}, d ≤ j → smU rt hol sm j d = dsum (fun i => rt (wdy hol i)) d
  | 0, d, h => by
    rw [show d = 0 by omega]
    exact h0
  | j + 1, d, h => by
    rw [smU]
    unfold va_up
    split
    · rename_i e
      subst e
      rw [dsum, smU_at h0 (Nat.le_refl j)]
    · exact smU_at h0 (by omega)
theorem smU_0 {rt : Nat → Nat} {hol : Nat → Bool} {sm : Nat → Nat} : ∀ (j : Nat), smU rt hol sm j 0 = sm 0
  | 0 => rfl
  | j + 1 => by
    rw [smU]
    unfold va_up
    rw [if_neg (by omega)]
    exact smU_0 j
theorem dsum_congr {f k : Nat → Nat} (h : ∀ i, f i = k i) (d : Nat) : dsum f d = dsum k d := by rw [show f = k from funext h]
/-- the sums of the days' rates of a bin -/
def rsum (x : FT) (b : BinT) : Nat → Nat := dsum (fun i => rateV x b (wdy (xH x) i))
theorem lkX_S {x : FT} {b : BinT} (h0 : xS x 0 = 0) {d : Nat} (hd : d ≤ 417) : xS (lkX x b) d = rsum x b d := by
  show smU (ptU (rateV x b) (xR x) 7) (xH x) (xS x) 417 d = _
  rw [smU_at h0 hd]
  apply dsum_congr
  intro i
  unfold ptU
  rw [if_pos wdy_lt]
theorem gup_congr {s1 s2 : Nat → Nat} (h : ∀ d, d ≤ 417 → s1 d = s2 d) {t : Nat} (ht : t < 10000) : gup s1 t = gup s2 t := by
  unfold gup
  rw [h (t / 24) (by omega), h (t / 24 + 1) (by omega)]
theorem shY_congr {b : BinT} {s1 s2 : Nat → Nat} (h : ∀ d, d ≤ 417 → s1 d = s2 d) {t : Nat} (ht : t < 10000) {o : Option Nat} (ho : ∀ i, o = some i → i < bN b ∧ hrB b i ≤ t) : shY b s1 o t = shY b s2 o t := by
  unfold shY
  cases o with
  | none =>
    show (24 * 0 + gup s1 t - gup s1 0) / 24 = (24 * 0 + gup s2 t - gup s2 0) / 24
    rw [gup_congr h ht, gup_congr h (by omega)]
  | some i =>
    have := (ho i rfl).2
    show (24 * shB b i + gup s1 t - gup s1 (hrB b i)) / 24 = (24 * shB b i + gup s2 t - gup s2 (hrB b i)) / 24
    rw [gup_congr h ht, gup_congr h (by omega)]
theorem lkX_shA {x : FT} {b : BinT} (h0 : xS x 0 = 0) {t : Nat} (ht : t < 10000) : shA b (xS (lkX x b)) t = shA b (rsum x b) t := by
  unfold shA
  exact shY_congr (fun d hd => lkX_S h0 hd) ht (ltB_ok (Nat.le_refl _))
/-- what a bin keeps; what the object keeps -/
def Bok (b : BinT) : Prop := Jok b ∧ (∀ i, i < bN b → bWr b i = wrgF b (bef b i) i) ∧ (∀ i, i < bN b → bGn b i = gnF b (bef b i) i) ∧ bSt b < 4 ∧ (1 ≤ bRm b ∧ bRm b ≤ 10000) ∧ bR b ≤ bN b ∧ bR b ≤ 24 ∧ bN b - bR b ≤ 8 ∧ ∀ i, i < bN b → bAm b i ≤ 100000
def Xok (x : FT) : Prop := (xB x).length ≤ 8 ∧ (∀ b ∈ xB x, Bok b) ∧ (∀ a, a < 8 → 1 ≤ xW x a ∧ xW x a ≤ 4782969) ∧ xQ x ≤ 1000 ∧ xE x ≤ 1000 ∧ xL x ≤ 1000
/-- the objects alike but for the outlook's rows of numbers -/
def alX (u x : FT) : Prop := ∃ r v, u = xsRS x r v ∧ v 0 = 0
theorem Bok.gain {b : BinT} (h : Bok b) : ∀ i v, i < bN b → bGn b i = some v → v ≤ 36000 := by
  intro i v hi hv
  obtain ⟨⟨h1, h2, h3, h4⟩, h5, h6, -⟩ := h
  rw [h6 i hi] at hv
  unfold gnF at hv
  split at hv
  · cases hv
  · split at hv
    · cases hv
      have hs := h4 i hi
      refine Nat.le_trans (Nat.div_le_self _ _) ?_
      omega
    · cases hv
theorem mnR_le {G : Nat → Option Nat} {wt : Nat → Nat} {M : Nat} : ∀ {n : Nat} (a : Nat), (∀ i v, i < n → G i = some v → v ≤ M) → (mnR G wt n a).1 ≤ M * (mnR G wt n a).2
  | 0, a, _ => by rw [mnR]; exact Nat.zero_le _
  | n + 1, a, h => by
    rw [mnR]
    split
    · cases hg : G n with
      | none => exact mnR_le a (fun i v hi => h i v (by omega))
      | some v =>
        have h1 := mnR_le (wt := wt) (a + 1) (fun i v hi => h i v (Nat.lt_succ_of_lt hi))
        have h2 := h n v (by omega) hg
        show _ + v * wt a ≤ M * (_ + wt a)
        rw [Nat.mul_add]
        exact Nat.add_le_add h1 (Nat.mul_le_mul_right _ h2)
    · exact Nat.zero_le _
theorem meanX_le {x : FT} {b : BinT} {wd v : Nat} (h : Bok b) (hv : meanX x b wd = some v) : v ≤ 36000 := by
  unfold meanX meanH mnV at hv
  split at hv
  · cases hv
  · cases hv
    rename_i h0
    refine Nat.div_le_of_le_mul ?_
    rw [Nat.mul_comm]
    exact mnR_le 0 (fun i v hi hg => by
      split at hg
      · exact h.gain i v hi hg
      · cases hg)
theorem stR_le {x : FT} {st wd : Nat} : ∀ {l : List BinT}, (∀ b ∈ l, Bok b) → (stR x st wd l).1 ≤ 36000 * (stR x st wd l).2 ∧ (stR x st wd l).2 ≤ l.length
  | [], _ => ⟨Nat.le_refl _, Nat.le_refl _⟩
  | b :: t, h => by
    have ih := stR_le (x := x) (st := st) (wd := wd) (l := t) (fun b hb => h b (List.mem_cons_of_mem _ hb))
    unfold stR at ih ⊢
    rw [stH]
    split
    · cases hm : meanH (xH x) (xW x) b wd with
      | none => exact ⟨ih.1, Nat.le_succ_of_le ih.2⟩
      | some v =>
        have hv := meanX_le (h b List.mem_cons_self) hm
        show _ + v ≤ 36000 * (_ + 1) ∧ _ + 1 ≤ _ + 1
        omega
    · exact ⟨ih.1, Nat.le_succ_of_le ih.2⟩
theorem rateV_le {x : FT} {b : BinT} {wd : Nat} (hx : Xok x) (hb : b ∈ xB x) : rateV x b wd ≤ 36000 := by
  unfold rateV rateH
  split
  · unfold stQ
    split
    · omega
    · have := stR_le (x := x) (st := bSt b) (wd := wd) (l := xB x) hx.2.1
      exact Nat.div_le_of_le_mul (by rw [Nat.mul_comm]; exact this.1)
  · rename_i v hv
    exact meanX_le (hx.2.1 b hb) hv
theorem lkX_le {x : FT} {b : BinT} (hx : Xok x) (hb : b ∈ xB x) (h0 : xS x 0 = 0) : (∀ d, d < 418 → xS (lkX x b) d ≤ 20000000) ∧ ∀ d, d < 417 → xS (lkX x b) d ≤ xS (lkX x b) (d + 1) := by
  constructor
  · intro d hd
    rw [lkX_S h0 (by omega)]
    have := dsum_le (f := fun i => rateV x b (wdy (xH x) i)) (M := 36000) (fun i => rateV_le hx hb) d
    have h2 : d * 36000 ≤ 417 * 36000 := Nat.mul_le_mul_right _ (by omega)
    unfold rsum
    omega
  · intro d hd
    rw [lkX_S h0 (by omega), lkX_S h0 (by omega)]
    unfold rsum
    rw [dsum]
    omega
theorem shE_lt {b : BinT} {sm : Nat → Nat} {i : Nat} (ham : ∀ i, i < bN b → shB b i ≤ 1500) (hs : ∀ d, d < 418 → sm d ≤ 20000000) (hm : ∀ d, d < 417 → sm d ≤ sm (d + 1)) (hh : hrB b i < 10000) : shE b sm i < 2 ^ 40 := by
  have hg := gup_lt (sm := sm) hh hs hm
  unfold shE shY
  split
  · omega
  · rename_i j hj
    have := ham j (ltB_ok (h := hrB b i) (by unfold hrB; omega) j hj).1
    omega
/-- numbers that the looking methods answer -/
def lE (o : Option Nat) : Int64 := match o with
  | none => -1
  | some v => lN v
def ctN (x : FT) (b : BinT) (d : Nat) : Nat := if shA b (rsum x b) (d * 24) < 1000 then (1000 - shA b (rsum x b) (d * 24)) * xE x else (shA b (rsum x b) (d * 24) - 1000) * xL x
theorem ctN_eq {x : FT} {b : BinT} (h0 : xS x 0 = 0) {d : Nat} (hd : d < 417) : ctV (lkX x b) b d = ctN x b d := by
  unfold ctV ctN
  rw [lkX_shA h0 (by omega)]
  rfl
theorem lkX_shE {x : FT} {b : BinT} (h0 : xS x 0 = 0) {i : Nat} (hi : hrB b i < 10000) : shE b (xS (lkX x b)) i = shE b (rsum x b) i := by
  unfold shE
  exact shY_congr (fun d hd => lkX_S h0 hd) hi (ltB_ok (by unfold hrB; omega))
theorem alX_lk {x : FT} {b : BinT} (h0 : xS x 0 = 0) : alX (lkX x b) x := ⟨_, _, rfl, by rw [smU_0]; exact h0⟩
theorem alX_rf {x : FT} (h0 : xS x 0 = 0) : alX x x := ⟨xR x, xS x, rfl, h0⟩
theorem ctN_lt {x : FT} {b : BinT} (hx : Xok x) (hb : b ∈ xB x) (h0 : xS x 0 = 0) {d : Nat} (hd : d < 417) : ctN x b d < 2 ^ 60 := by
  obtain ⟨hs, hm⟩ := lkX_le hx hb h0
  obtain ⟨⟨-, -, -, hba⟩, -⟩ := hx.2.1 b hb
  have h1 := shA_lt (sm := xS (lkX x b)) (h := d * 24) hba hs hm (by omega)
  rw [lkX_shA h0 (by omega)] at h1
  have h2 := hx.2.2.2.2.1
  have h3 := hx.2.2.2.2.2
  unfold ctN
  split
  · exact Nat.lt_of_le_of_lt (Nat.mul_le_mul (show _ ≤ 1000 by omega) h2) (by decide)
  · exact Nat.lt_of_le_of_lt (Nat.mul_le_mul (show _ ≤ 2 ^ 40 by omega) h3) (by decide)
def expO (x : FT) (k t : Int32) : Option Nat := (binAt (xB x) k).bind (fun b => (inL 0 9999 t).map (fun h => shA b (rsum x b) h))
def cosO (x : FT) (k t : Int32) : Option Nat := (binAt (xB x) k).bind (fun b => (inL 0 416 t).map (fun d => ctN x b d))
/-- the least of f at a .. a + n, the earliest -/
def bestD (f : Nat → Nat) (a : Nat) : Nat → Nat
  | 0 => a
  | n + 1 => if f (a + 1 + n) < f (bestD f a n) then a + 1 + n else bestD f a n
theorem bestD_in {f : Nat → Nat} {a : Nat} : ∀ (n : Nat), a ≤ bestD f a n ∧ bestD f a n ≤ a + n
  | 0 => ⟨Nat.le_refl _, Nat.le_refl _⟩
  | n + 1 => by
    have := bestD_in (f := f) (a := a) n
    rw [bestD]
    split <;> omega
def dayO (x : FT) (k a e : Int32) : Option Nat := (binAt (xB x) k).bind (fun b => (inL 0 416 a).bind (fun i => (inL 0 416 e).bind (fun j => if i ≤ j then some (bestD (ctN x b) i (j - i)) else none)))
def ovP (x : FT) (h : Nat) (i : Nat) : Bool := decide (1000 ≤ shA ((xB x).getD i bin0) (rsum x ((xB x).getD i bin0)) h)
def ovO (x : FT) (t k : Int32) : Option Nat := (inL 0 9999 t).bind (fun h => kth (ovP x h) k (xB x).length 0 0)
def chkV (x : FT) (k t : Int32) : Int64 := match (binAt (xB x) k).bind (fun b => (kth (fun i => !rowB b i) t (bN b) 0 0).map (fun i => (b, i))) with
  | none => -9223372036854775808
  | some q => lN (bAm q.1 q.2) - lN (shE q.1 (rsum x q.1) q.2 * bRm q.1 / 1000)
theorem kth_in {P : Nat → Bool} {k : Int32} : ∀ {f i c r : Nat}, kth P k f i c = some r → (i ≤ r ∧ r < i + f) ∧ P r = true
  | 0, i, c, r, h => by cases h
  | f + 1, i, c, r, h => by
    rw [kth] at h
    split at h
    · rename_i hp
      split at h
      · cases h
        exact ⟨⟨Nat.le_refl _, by omega⟩, hp⟩
      · have := kth_in h
        exact ⟨by omega, this.2⟩
    · have := kth_in h
      exact ⟨by omega, this.2⟩
/-- what the writing methods answer and leave -/
def quietS (x : FT) (k : Int32) : Int32 × FT := match inL 0 1000 k with
  | none => (bI false, x)
  | some a => (bI true, xsQ x a)
def costS (x : FT) (k d : Int32) : Int32 × FT := match inL 0 1000 k with
  | none => (bI false, x)
  | some a => match inL 0 1000 d with
    | none => (bI false, x)
    | some e => (bI true, xsL (xsE x a) e)
def holS (x : FT) (k : Int32) (on : Bool) : Int32 × FT := match inL 0 416 k with
  | none => (bI false, x)
  | some a => (bI true, xsH x (va_up (xH x) a on))
def fadeS (x : FT) (k d : Int32) : Int32 × FT := match inL 1 9 k with
  | none => (bI false, x)
  | some a => match inL 1 9 d with
    | none => (bI false, x)
    | some e => if a ≤ e then (bI true, xsW x (wtU a e (xW x) 8)) else (bI false, x)
abbrev Ai (l : Launch) (y : MethodName) (ws : List Cond) (fr lo mc ms : Nat) (as : List Value) (g : GG) (x : FT) (sz : Nat) (post : Int32 → FT → Prop) : Prop := Met l y ws ⟨fr, mc, ms, lo⟩ (PreW as g (wX g x) sz) (va_Qi post (fun u t => va_P g.1 vwCl (wX g u) t.heap ∧ va_D (va_A (wX g x) sz) (wX g u)) (va_A (wX g x) sz)) mc ms (va_A (wX g x) sz)
abbrev Al (l : Launch) (y : MethodName) (ws : List Cond) (fr lo mc ms : Nat) (as : List Value) (g : GG) (x : FT) (sz : Nat) (post : Int64 → FT → Prop) : Prop := Met l y ws ⟨fr, mc, ms, lo⟩ (PreW as g (wX g x) sz) (va_Ql post (fun u t => va_P g.1 vwCl (wX g u) t.heap ∧ va_D (va_A (wX g x) sz) (wX g u)) (va_A (wX g x) sz)) mc ms (va_A (wX g x) sz)
end
section
/-! where a place stands among a bin's points; a point put: numbers alone -/
theorem lst_none {P : Nat → Bool} : ∀ {n : Nat}, lst P n = none → ∀ i, i < n → P i = false
  | 0, _, i, h => by omega
  | n + 1, h, i, hi => by
    rw [lst] at h
    split at h
    · cases h
    · rename_i hp
      rcases Nat.lt_or_ge i n with z | z
      · exact lst_none h i z
      · rw [show i = n by omega]
        cases hq : P n with
        | false => rfl
        | true => exact absurd hq hp
theorem lst_last {P : Nat → Bool} : ∀ {n i : Nat}, lst P n = some i → ∀ j, i < j → j < n → P j = false
  | 0, i, h, _, _, _ => by cases h
  | n + 1, i, h, j, h1, h2 => by
    rw [lst] at h
    split at h
    · cases h
      omega
    · rename_i hp
      rcases Nat.lt_or_ge j n with z | z
      · exact lst_last h j h1 z
      · rw [show j = n by omega]
        cases hq : P n with
        | false => rfl
        | true => exact absurd hq hp
def ixB (b : BinT) (q : Nat) : Nat := match lst (fun i => decide (bPl b i < q)) (bN b) with
  | none => 0
  | some i => i + 1
theorem ixB_ok {b : BinT} {q : Nat} (hso : ∀ i j, i < j → j < bN b → bPl b i < bPl b j) : ixB b q ≤ bN b ∧ (∀ j, j < ixB b q → bPl b j < q) ∧ (ixB b q < bN b → q ≤ bPl b (ixB b q)) := by
  unfold ixB
  cases h : lst (fun i => decide (bPl b i < q)) (bN b) with
  | none =>
    refine ⟨Nat.zero_le _, fun j hj => absurd hj (Nat.not_lt_zero _), fun h0 => ?_⟩
    have := lst_none h 0 h0
    have := of_decide_eq_false this
    show q ≤ bPl b 0
    omega
  | some i =>
    obtain ⟨h1, h2⟩ := lst_some h
    have h2 := of_decide_eq_true h2
    refine ⟨h1, fun j hj => ?_, fun h0 => ?_⟩
    · rcases Nat.lt_or_ge j i with z | z
      · exact Nat.lt_trans (hso j i z h1) h2
      · have hj : j < i + 1 := hj
        rw [show j = i by omega]
        exact h2
    · have := lst_last h (i + 1) (by omega) h0
      have := of_decide_eq_false this
      show q ≤ bPl b (i + 1)
      omega
/-- how many of a kind; full of them; a place opened for one -/
def cntB (row : Bool) (b : BinT) : Nat := if row = true then bR b else bN b - bR b
def fullB (row : Bool) (b : BinT) : Bool := if row = true then decide (24 ≤ bR b) else decide (8 ≤ bN b - bR b)
def opR (row : Bool) (b : BinT) (i q : Nat) : BinT := if row = true then bsR (opB b i q) (bR b + 1) else opB b i q
def plQ (row : Bool) (h : Nat) : Nat := if row = true then 2 * h else 2 * h + 1
def putB (row : Bool) (b : BinT) (q v : Nat) : Int32 × BinT :=
  if ixB b q < bN b ∧ bPl b (ixB b q) = q then (nI (cntB row b), jB (amB b (ixB b q) v) (bN b))
  else if fullB row b = true then (-1, b)
  else (nI (cntB row b + 1), jB (amB (opR row b (ixB b q) q) (ixB b q) v) (bN b + 1))
theorem bef_congr {b c : BinT} (hp : bPl b = bPl c) (ha : bAm b = bAm c) : ∀ i, bef b i = bef c i
  | 0 => rfl
  | i + 1 => by
    rw [bef, bef, bef_congr hp ha i]
    have : wrgF b = wrgF c := by
      funext o j
      unfold wrgF rowB shB
      rw [hp, ha]
    rw [this]
/-- judging gives what a bin keeps -/
theorem jB_ok {b : BinT} : (∀ i, i < bN b → bWr (jB b (bN b)) i = wrgF (jB b (bN b)) (bef (jB b (bN b)) i) i) ∧ ∀ i, i < bN b → bGn (jB b (bN b)) i = gnF (jB b (bN b)) (bef (jB b (bN b)) i) i := by
  constructor
  · intro i hi
    rw [bef_congr (b := jB b (bN b)) (c := b) rfl rfl]
    show jW b (bN b) i = _
    unfold jW
    rw [if_pos hi]
    rfl
  · intro i hi
    rw [bef_congr (b := jB b (bN b)) (c := b) rfl rfl]
    show jG b (bN b) i = _
    unfold jG
    rw [if_pos hi]
    rfl
theorem Jok_am {b : BinT} {i v : Nat} (h : Jok b) (hv : bPl b i % 2 = 0 → v ≤ 1500) : Jok (amB b i v) := by
  obtain ⟨h1, h2, h3, h4⟩ := h
  refine ⟨h1, h2, h3, fun j hj => ?_⟩
  have h5 := h4 j hj
  show (if bPl b j % 2 = 0 then va_up (bAm b) i v j else 0) ≤ 1500
  unfold shB at h5
  unfold va_up
  split
  · rename_i he
    rw [if_pos he] at h5
    split
    · rename_i e
      subst e
      exact hv he
    · exact h5
  · omega
theorem Jok_op {b : BinT} {i q v : Nat} (h : Jok b) (hn : bN b < 32) (hq : q < 20000) (hi : i ≤ bN b) (h1 : ∀ j, j < i → bPl b j < q) (h2 : i < bN b → q < bPl b i) (hv : q % 2 = 0 → v ≤ 1500) : Jok (amB (opB b i q) i v) := by
  obtain ⟨k1, k2, k3, k4⟩ := h
  have epl : ∀ j, bPl (amB (opB b i q) i v) j = if j = i then q else if i < j ∧ j ≤ bN b then bPl b (j - 1) else bPl b j := fun j => rfl
  have eam : ∀ j, bAm (amB (opB b i q) i v) j = if j = i then v else if i < j ∧ j ≤ bN b then bAm b (j - 1) else bAm b j := fun j => rfl
  refine ⟨show bN b + 1 ≤ 32 by omega, fun j hj => ?_, fun j k hjk hk => ?_, fun j hj => ?_⟩
  · have hj : j < bN b + 1 := hj
    rw [epl]
    split
    · exact hq
    · split
      · exact k2 _ (by omega)
      · exact k2 _ (by omega)
  · have hk : k < bN b + 1 := hk
    rw [epl, epl]
    by_cases a1 : j = i
    · rw [if_pos a1, if_neg (by omega), if_pos (by omega)]
      rcases Nat.lt_or_ge i (k - 1) with z | z
      · exact Nat.lt_trans (h2 (by omega)) (k3 i (k - 1) z (by omega))
      · rw [show k - 1 = i by omega]
        exact h2 (by omega)
    · rw [if_neg a1]
      by_cases a2 : k = i
      · rw [if_pos a2, if_neg (by omega)]
        exact h1 j (by omega)
      · rw [if_neg a2]
        by_cases a3 : i < j
        · rw [if_pos (by omega), if_pos (by omega)]
          exact k3 _ _ (by omega) (by omega)
        · rw [if_neg (by omega)]
          by_cases a4 : i < k
          · rw [if_pos (by omega)]
            rcases Nat.lt_or_ge j (k - 1) with z | z
            · exact k3 _ _ z (by omega)
            · omega
          · rw [if_neg (by omega)]
            exact k3 _ _ hjk (by omega)
  · have hj : j < bN b + 1 := hj
    unfold shB
    rw [epl, eam]
    by_cases a1 : j = i
    · rw [if_pos a1, if_pos a1]
      split
      · rename_i e
        exact hv e
      · omega
    · rw [if_neg a1, if_neg a1]
      by_cases a2 : i < j ∧ j ≤ bN b
      · rw [if_pos a2, if_pos a2]
        exact k4 (j - 1) (by omega)
      · rw [if_neg a2, if_neg a2]
        exact k4 j (by omega)
end
section
set_option maxHeartbeats 4000000 in
set_option maxRecDepth 100000 in
theorem k_isWithin (l : Launch) (g : GG) (x lo hi : Int32) : Rz l yX4_isWithin wsX4_isWithin 0 0 [.int (x), .int (lo), .int (hi)] g ([]) (bI (decide (lo ≤ x ∧ x ≤ hi))) := by
  refine Met.ofW (cc := cX4_isWithin) (maxL := 3) (ret := (some .boolean)) (by decide) rfl ?_
  intro p e s m args below meth c s₁ BB hml hv
  obtain ⟨hargs, hP, hK⟩ := hv
  have hx := BB.exec
  have hb := BB.bytes
  have hr := BB.returns
  have hts : ∀ w ∈ BIG, w.before args s = true := fun w h => atoms_spec (ws := wsX4_isWithin) BB.pre w (List.mem_cons_of_mem _ h)
  have hown : s.vm.findClass RX4 = some m.cls := findClass_of_methodNamed BB.named
  have hlocks := BB.notSynchronized
  obtain ⟨RR, hRR⟩ : ∃ RR, RR = (headSpec wsX4_isWithin ⟨0, 0, 0, 0⟩).room := ⟨_, rfl⟩
  have hR1 : RR.frames = 0 := by rw [hRR]; rfl
  have hR2 : RR.locals = 0 := by rw [hRR]; rfl
  have hR3 : RR.cells = 0 := by rw [hRR]; rfl
  have hR4 : RR.slots = 0 := by rw [hRR]; rfl
  have hl := lv_entry ([.int (x), .int (lo), .int (hi)]) (n := 3) (Nat.le_of_ble_eq_true rfl)
  have hent : entryFrame m args 3 = F0 m 0 ((lg_sl ([.int (x), .int (lo), .int (hi)]) ++ List.replicate (3 - (lg_sl ([.int (x), .int (lo), .int (hi)])).length) Slot.unset).toArray) [] := by rw [hargs, lg_entry_eq]
  rw [hent]
  generalize (lg_sl ([.int (x), .int (lo), .int (hi)]) ++ List.replicate (3 - (lg_sl ([.int (x), .int (lo), .int (hi)])).length) Slot.unset).toArray = ls at hl ⊢
  have hl : lv_has ls 3 [(0, .int (x)), (1, .int (lo)), (2, .int (hi))] := hl
  refine q_ab (R := RR) hRR ?_
  generalize hQQ : MQ below _ args s _ _ _ = QQ
  refine lv_iload_n hx hb dX4_isWithin_0 rfl (lv_at hl 0 rfl) ?_
  refine lv_iload_n hx hb dX4_isWithin_1 rfl (lv_at hl 1 rfl) ?_
  refine lv_icmp_lt (tgt := 14) hx hb dX4_isWithin_2 (by decide) (fun h1 => ?_) (fun h1 => ?_)
  · refine lv_iconst (v := bI (false)) hx hb dX4_isWithin_14 (by decide) ?_
    subst hQQ
    exact W.zret hx hb hr (nar_b _) (fun t9 ht _ => rdI (by rw [decide_eq_false (fun q => absurd h1 (by rw [Int32.not_lt]; exact q.1))]) ht) (fun q h => absurd h List.not_mem_nil) dX4_isWithin_15
  · refine lv_iload_n hx hb dX4_isWithin_5 rfl (lv_at hl 0 rfl) ?_
    refine lv_iload_n hx hb dX4_isWithin_6 rfl (lv_at hl 2 rfl) ?_
    refine lv_icmp_gt (tgt := 14) hx hb dX4_isWithin_7 (by decide) (fun h2 => ?_) (fun h2 => ?_)
    · refine lv_iconst (v := bI (false)) hx hb dX4_isWithin_14 (by decide) ?_
      subst hQQ
      exact W.zret hx hb hr (nar_b _) (fun t9 ht _ => rdI (by rw [decide_eq_false (fun q => absurd h2 (by rw [Int32.not_lt]; exact q.2))]) ht) (fun q h => absurd h List.not_mem_nil) dX4_isWithin_15
    · refine lv_iconst (v := bI (true)) hx hb dX4_isWithin_10 (by decide) ?_
      refine lv_goto (tgt := 15) hx hb dX4_isWithin_11 (by decide) ?_
      subst hQQ
      exact W.zret hx hb hr (nar_b _) (fun t9 ht _ => rdI (by rw [decide_eq_true ⟨by rw [← Int32.not_lt]; exact h1, by rw [← Int32.not_lt]; exact h2⟩]) ht) (fun q h => absurd h List.not_mem_nil) dX4_isWithin_15

set_option maxHeartbeats 4000000 in
set_option maxRecDepth 100000 in
theorem k_isHour (l : Launch) (g : GG) (x : Int32) : Rz l yX4_isHour wsX4_isHour 1 22 [.int (x)] g ([]) (bI (decide (nI 0 ≤ x ∧ x ≤ nI 9999))) := by
  refine Met.ofW (cc := cX4_isHour) (maxL := 1) (ret := (some .boolean)) (by decide) rfl ?_
  intro p e s m args below meth c s₁ BB hml hv
  obtain ⟨hargs, hP, hK⟩ := hv
  have hx := BB.exec
  have hb := BB.bytes
  have hr := BB.returns
  have hts : ∀ w ∈ BIG, w.before args s = true := fun w h => atoms_spec (ws := wsX4_isHour) BB.pre w (List.mem_cons_of_mem _ h)
  have hown : s.vm.findClass RX4 = some m.cls := findClass_of_methodNamed BB.named
  have hlocks := BB.notSynchronized
  obtain ⟨RR, hRR⟩ : ∃ RR, RR = (headSpec wsX4_isHour ⟨1, 0, 0, 22⟩).room := ⟨_, rfl⟩
  have hR1 : RR.frames = 1 := by rw [hRR]; rfl
  have hR2 : RR.locals = 22 := by rw [hRR]; rfl
  have hR3 : RR.cells = 0 := by rw [hRR]; rfl
  have hR4 : RR.slots = 0 := by rw [hRR]; rfl
  have hl := lv_entry ([.int (x)]) (n := 1) (Nat.le_of_ble_eq_true rfl)
  have hent : entryFrame m args 1 = F0 m 0 ((lg_sl ([.int (x)]) ++ List.replicate (1 - (lg_sl ([.int (x)])).length) Slot.unset).toArray) [] := by rw [hargs, lg_entry_eq]
  rw [hent]
  generalize (lg_sl ([.int (x)]) ++ List.replicate (1 - (lg_sl ([.int (x)])).length) Slot.unset).toArray = ls at hl ⊢
  have hl : lv_has ls 1 [(0, .int (x))] := hl
  refine q_ab (R := RR) hRR ?_
  generalize hQQ : MQ below _ args s _ _ _ = QQ
  refine lv_iload_n hx hb dX4_isHour_0 rfl (lv_at hl 0 rfl) ?_
  refine lv_iconst (v := nI (0)) hx hb dX4_isHour_1 (by decide) ?_
  refine lv_sipush (v := nI (9999)) hx hb dX4_isHour_2 (by decide) ?_
  refine cR_i (W.runS (As := [.int (x), .int (nI (0)), .int (nI (9999))]) (rest := []) ⟨hx, hb, hml, hown, hts⟩ (k_isWithin l g x (nI 0) (nI 9999)) (va_cwS 3 hts (gS w_ml_X4_49 w_sm_X4_isWithin w_ini_X4 w_co_X4_isWithin) rfl rfl rfl (by decide +kernel) (by rw [hR1, hR2]; exact ⟨Nat.le_of_ble_eq_true rfl, Nat.le_of_ble_eq_true rfl⟩)) (preS_rd hP hK) rfl rfl hl.1 rfl (lv_room (Nat.le_of_ble_eq_true rfl)) dX4_isHour_5 ⟨by rw [hR3]; omega, by rw [hR4]; omega⟩) ?_
  subst hQQ
  exact W.zret hx hb hr (nar_b _) (fun t9 ht _ => rdI (rfl) ht) (fun q h => absurd h List.not_mem_nil) dX4_isHour_8

set_option maxHeartbeats 4000000 in
set_option maxRecDepth 100000 in
theorem k_isDay (l : Launch) (g : GG) (x : Int32) : Rz l yX4_isDay wsX4_isDay 1 22 [.int (x)] g ([]) (bI (decide (nI 0 ≤ x ∧ x ≤ nI 416))) := by
  refine Met.ofW (cc := cX4_isDay) (maxL := 1) (ret := (some .boolean)) (by decide) rfl ?_
  intro p e s m args below meth c s₁ BB hml hv
  obtain ⟨hargs, hP, hK⟩ := hv
  have hx := BB.exec
  have hb := BB.bytes
  have hr := BB.returns
  have hts : ∀ w ∈ BIG, w.before args s = true := fun w h => atoms_spec (ws := wsX4_isDay) BB.pre w (List.mem_cons_of_mem _ h)
  have hown : s.vm.findClass RX4 = some m.cls := findClass_of_methodNamed BB.named
  have hlocks := BB.notSynchronized
  obtain ⟨RR, hRR⟩ : ∃ RR, RR = (headSpec wsX4_isDay ⟨1, 0, 0, 22⟩).room := ⟨_, rfl⟩
  have hR1 : RR.frames = 1 := by rw [hRR]; rfl
  have hR2 : RR.locals = 22 := by rw [hRR]; rfl
  have hR3 : RR.cells = 0 := by rw [hRR]; rfl
  have hR4 : RR.slots = 0 := by rw [hRR]; rfl
  have hl := lv_entry ([.int (x)]) (n := 1) (Nat.le_of_ble_eq_true rfl)
  have hent : entryFrame m args 1 = F0 m 0 ((lg_sl ([.int (x)]) ++ List.replicate (1 - (lg_sl ([.int (x)])).length) Slot.unset).toArray) [] := by rw [hargs, lg_entry_eq]
  rw [hent]
  generalize (lg_sl ([.int (x)]) ++ List.replicate (1 - (lg_sl ([.int (x)])).length) Slot.unset).toArray = ls at hl ⊢
  have hl : lv_has ls 1 [(0, .int (x))] := hl
  refine q_ab (R := RR) hRR ?_
  generalize hQQ : MQ below _ args s _ _ _ = QQ
  refine lv_iload_n hx hb dX4_isDay_0 rfl (lv_at hl 0 rfl) ?_
  refine lv_iconst (v := nI (0)) hx hb dX4_isDay_1 (by decide) ?_
  refine lv_sipush (v := nI (416)) hx hb dX4_isDay_2 (by decide) ?_
  refine cR_i (W.runS (As := [.int (x), .int (nI (0)), .int (nI (416))]) (rest := []) ⟨hx, hb, hml, hown, hts⟩ (k_isWithin l g x (nI 0) (nI 416)) (va_cwS 3 hts (gS w_ml_X4_49 w_sm_X4_isWithin w_ini_X4 w_co_X4_isWithin) rfl rfl rfl (by decide +kernel) (by rw [hR1, hR2]; exact ⟨Nat.le_of_ble_eq_true rfl, Nat.le_of_ble_eq_true rfl⟩)) (preS_rd hP hK) rfl rfl hl.1 rfl (lv_room (Nat.le_of_ble_eq_true rfl)) dX4_isDay_5 ⟨by rw [hR3]; omega, by rw [hR4]; omega⟩) ?_
  subst hQQ
  exact W.zret hx hb hr (nar_b _) (fun t9 ht _ => rdI (rfl) ht) (fun q h => absurd h List.not_mem_nil) dX4_isDay_8

set_option maxHeartbeats 4000000 in
set_option maxRecDepth 100000 in
theorem k_placeOfRow (l : Launch) (g : GG) (h : Nat) : Rd l yX0_placeOfRow wsX0_placeOfRow 0 0 [.int (nI (h))] g ([]) (nI (2 * h)) := by
  refine Met.ofW (cc := cX0_placeOfRow) (maxL := 1) (ret := (some .int)) (by decide) rfl ?_
  intro p e s m args below meth c s₁ BB hml hv
  obtain ⟨hargs, hP, hK⟩ := hv
  have hx := BB.exec
  have hb := BB.bytes
  have hr := BB.returns
  have hts : ∀ w ∈ BIG, w.before args s = true := fun w h => atoms_spec (ws := wsX0_placeOfRow) BB.pre w (List.mem_cons_of_mem _ h)
  have hown : s.vm.findClass RX0 = some m.cls := findClass_of_methodNamed BB.named
  have hlocks := BB.notSynchronized
  obtain ⟨RR, hRR⟩ : ∃ RR, RR = (headSpec wsX0_placeOfRow ⟨0, 0, 0, 0⟩).room := ⟨_, rfl⟩
  have hR1 : RR.frames = 0 := by rw [hRR]; rfl
  have hR2 : RR.locals = 0 := by rw [hRR]; rfl
  have hR3 : RR.cells = 0 := by rw [hRR]; rfl
  have hR4 : RR.slots = 0 := by rw [hRR]; rfl
  have hl := lv_entry ([.int (nI (h))]) (n := 1) (Nat.le_of_ble_eq_true rfl)
  have hent : entryFrame m args 1 = F0 m 0 ((lg_sl ([.int (nI (h))]) ++ List.replicate (1 - (lg_sl ([.int (nI (h))])).length) Slot.unset).toArray) [] := by rw [hargs, lg_entry_eq]
  rw [hent]
  generalize (lg_sl ([.int (nI (h))]) ++ List.replicate (1 - (lg_sl ([.int (nI (h))])).length) Slot.unset).toArray = ls at hl ⊢
  have hl : lv_has ls 1 [(0, .int (nI (h)))] := hl
  refine q_ab (R := RR) hRR ?_
  generalize hQQ : MQ below _ args s _ _ _ = QQ
  refine lv_iconst (v := nI (2)) hx hb dX0_placeOfRow_0 (by decide) ?_
  refine lv_iload_n hx hb dX0_placeOfRow_1 rfl (lv_at hl 0 rfl) ?_
  refine n_imul hx hb dX0_placeOfRow_2 ?_
  subst hQQ
  exact W.iret hx hb hr (fun t9 ht _ => rdI (rfl) ht) (fun q h => absurd h List.not_mem_nil) dX0_placeOfRow_3

set_option maxHeartbeats 4000000 in
set_option maxRecDepth 100000 in
theorem k_placeOfEmptying (l : Launch) (g : GG) (h : Nat) : Rd l yX0_placeOfEmptying wsX0_placeOfEmptying 0 0 [.int (nI (h))] g ([]) (nI (2 * h + 1)) := by
  refine Met.ofW (cc := cX0_placeOfEmptying) (maxL := 1) (ret := (some .int)) (by decide) rfl ?_
  intro p e s m args below meth c s₁ BB hml hv
  obtain ⟨hargs, hP, hK⟩ := hv
  have hx := BB.exec
  have hb := BB.bytes
  have hr := BB.returns
  have hts : ∀ w ∈ BIG, w.before args s = true := fun w h => atoms_spec (ws := wsX0_placeOfEmptying) BB.pre w (List.mem_cons_of_mem _ h)
  have hown : s.vm.findClass RX0 = some m.cls := findClass_of_methodNamed BB.named
  have hlocks := BB.notSynchronized
  obtain ⟨RR, hRR⟩ : ∃ RR, RR = (headSpec wsX0_placeOfEmptying ⟨0, 0, 0, 0⟩).room := ⟨_, rfl⟩
  have hR1 : RR.frames = 0 := by rw [hRR]; rfl
  have hR2 : RR.locals = 0 := by rw [hRR]; rfl
  have hR3 : RR.cells = 0 := by rw [hRR]; rfl
  have hR4 : RR.slots = 0 := by rw [hRR]; rfl
  have hl := lv_entry ([.int (nI (h))]) (n := 1) (Nat.le_of_ble_eq_true rfl)
  have hent : entryFrame m args 1 = F0 m 0 ((lg_sl ([.int (nI (h))]) ++ List.replicate (1 - (lg_sl ([.int (nI (h))])).length) Slot.unset).toArray) [] := by rw [hargs, lg_entry_eq]
  rw [hent]
  generalize (lg_sl ([.int (nI (h))]) ++ List.replicate (1 - (lg_sl ([.int (nI (h))])).length) Slot.unset).toArray = ls at hl ⊢
  have hl : lv_has ls 1 [(0, .int (nI (h)))] := hl
  refine q_ab (R := RR) hRR ?_
  generalize hQQ : MQ below _ args s _ _ _ = QQ
  refine lv_iconst (v := nI (2)) hx hb dX0_placeOfEmptying_0 (by decide) ?_
  refine lv_iload_n hx hb dX0_placeOfEmptying_1 rfl (lv_at hl 0 rfl) ?_
  refine n_imul hx hb dX0_placeOfEmptying_2 ?_
  refine lv_iconst (v := nI (1)) hx hb dX0_placeOfEmptying_3 (by decide) ?_
  refine n_iadd hx hb dX0_placeOfEmptying_4 ?_
  subst hQQ
  exact W.iret hx hb hr (fun t9 ht _ => rdI (rfl) ht) (fun q h => absurd h List.not_mem_nil) dX0_placeOfEmptying_5

set_option maxHeartbeats 4000000 in
set_option maxRecDepth 100000 in
theorem k_streetNumber (l : Launch) (g : GG) (b : BinT) : Rd l yX0_streetNumber wsX0_streetNumber 0 0 [.ref (bA b 0)] g (wB g b) (nI (bSt b)) := by
  refine Met.ofW (cc := cX0_streetNumber) (maxL := 1) (ret := (some .int)) (by decide) rfl ?_
  intro p e s m args below meth c s₁ BB hml hv
  obtain ⟨hargs, hP, hK⟩ := hv
  have hx := BB.exec
  have hb := BB.bytes
  have hr := BB.returns
  have hts : ∀ w ∈ BIG, w.before args s = true := fun w h => atoms_spec (ws := wsX0_streetNumber) BB.pre w (List.mem_cons_of_mem _ h)
  have hown : s.vm.findClass RX0 = some m.cls := findClass_of_methodNamed BB.named
  have hlocks := BB.notSynchronized
  obtain ⟨RR, hRR⟩ : ∃ RR, RR = (headSpec wsX0_streetNumber ⟨0, 0, 0, 0⟩).room := ⟨_, rfl⟩
  have hR1 : RR.frames = 0 := by rw [hRR]; rfl
  have hR2 : RR.locals = 0 := by rw [hRR]; rfl
  have hR3 : RR.cells = 0 := by rw [hRR]; rfl
  have hR4 : RR.slots = 0 := by rw [hRR]; rfl
  have hl := lv_entry ([.ref (bA b 0)]) (n := 1) (Nat.le_of_ble_eq_true rfl)
  have hent : entryFrame m args 1 = F0 m 0 ((lg_sl ([.ref (bA b 0)]) ++ List.replicate (1 - (lg_sl ([.ref (bA b 0)])).length) Slot.unset).toArray) [] := by rw [hargs, lg_entry_eq]
  rw [hent]
  generalize (lg_sl ([.ref (bA b 0)]) ++ List.replicate (1 - (lg_sl ([.ref (bA b 0)])).length) Slot.unset).toArray = ls at hl ⊢
  have hl : lv_has ls 1 [(0, .ref (bA b 0))] := hl
  refine q_ab (R := RR) hRR ?_
  generalize hQQ : MQ below _ args s _ _ _ = QQ
  refine lv_aload_n hx hb dX0_streetNumber_0 rfl (lv_at hl 0 rfl) ?_
  refine va_get (D := g.1) (ci := 0) (v := .int (nI (bSt b))) (C := RX0) (T := TX0) (N := 8) hx hb hts hiX0 hown hK.1 hP 0 rfl rfl 0 (by decide) (hts _ w_fl_X0_11) (fun _ h9 => h9) rfl dX0_streetNumber_1 ?_
  subst hQQ
  exact W.iret hx hb hr (fun t9 ht _ => rdI (rfl) ht) (fun q h => absurd h List.not_mem_nil) dX0_streetNumber_4

set_option maxHeartbeats 4000000 in
set_option maxRecDepth 100000 in
theorem k_roomInKilograms (l : Launch) (g : GG) (b : BinT) : Rd l yX0_roomInKilograms wsX0_roomInKilograms 0 0 [.ref (bA b 0)] g (wB g b) (nI (bRm b)) := by
  refine Met.ofW (cc := cX0_roomInKilograms) (maxL := 1) (ret := (some .int)) (by decide) rfl ?_
  intro p e s m args below meth c s₁ BB hml hv
  obtain ⟨hargs, hP, hK⟩ := hv
  have hx := BB.exec
  have hb := BB.bytes
  have hr := BB.returns
  have hts : ∀ w ∈ BIG, w.before args s = true := fun w h => atoms_spec (ws := wsX0_roomInKilograms) BB.pre w (List.mem_cons_of_mem _ h)
  have hown : s.vm.findClass RX0 = some m.cls := findClass_of_methodNamed BB.named
  have hlocks := BB.notSynchronized
  obtain ⟨RR, hRR⟩ : ∃ RR, RR = (headSpec wsX0_roomInKilograms ⟨0, 0, 0, 0⟩).room := ⟨_, rfl⟩
  have hR1 : RR.frames = 0 := by rw [hRR]; rfl
  have hR2 : RR.locals = 0 := by rw [hRR]; rfl
  have hR3 : RR.cells = 0 := by rw [hRR]; rfl
  have hR4 : RR.slots = 0 := by rw [hRR]; rfl
  have hl := lv_entry ([.ref (bA b 0)]) (n := 1) (Nat.le_of_ble_eq_true rfl)
  have hent : entryFrame m args 1 = F0 m 0 ((lg_sl ([.ref (bA b 0)]) ++ List.replicate (1 - (lg_sl ([.ref (bA b 0)])).length) Slot.unset).toArray) [] := by rw [hargs, lg_entry_eq]
  rw [hent]
  generalize (lg_sl ([.ref (bA b 0)]) ++ List.replicate (1 - (lg_sl ([.ref (bA b 0)])).length) Slot.unset).toArray = ls at hl ⊢
  have hl : lv_has ls 1 [(0, .ref (bA b 0))] := hl
  refine q_ab (R := RR) hRR ?_
  generalize hQQ : MQ below _ args s _ _ _ = QQ
  refine lv_aload_n hx hb dX0_roomInKilograms_0 rfl (lv_at hl 0 rfl) ?_
  refine va_get (D := g.1) (ci := 0) (v := .int (nI (bRm b))) (C := RX0) (T := TX0) (N := 8) hx hb hts hiX0 hown hK.1 hP 0 rfl rfl 1 (by decide) (hts _ w_fl_X0_15) (fun _ h9 => h9) rfl dX0_roomInKilograms_1 ?_
  subst hQQ
  exact W.iret hx hb hr (fun t9 ht _ => rdI (rfl) ht) (fun q h => absurd h List.not_mem_nil) dX0_roomInKilograms_4

set_option maxHeartbeats 4000000 in
set_option maxRecDepth 100000 in
theorem k_placeAt (l : Launch) (g : GG) (b : BinT) (i : Nat) (hi : i < 32) : Rd l yX0_placeAt wsX0_placeAt 0 0 [.ref (bA b 0), .int (nI (i))] g (wB g b) (nI (bPl b i)) := by
  refine Met.ofW (cc := cX0_placeAt) (maxL := 2) (ret := (some .int)) (by decide) rfl ?_
  intro p e s m args below meth c s₁ BB hml hv
  obtain ⟨hargs, hP, hK⟩ := hv
  have hx := BB.exec
  have hb := BB.bytes
  have hr := BB.returns
  have hts : ∀ w ∈ BIG, w.before args s = true := fun w h => atoms_spec (ws := wsX0_placeAt) BB.pre w (List.mem_cons_of_mem _ h)
  have hown : s.vm.findClass RX0 = some m.cls := findClass_of_methodNamed BB.named
  have hlocks := BB.notSynchronized
  obtain ⟨RR, hRR⟩ : ∃ RR, RR = (headSpec wsX0_placeAt ⟨0, 0, 0, 0⟩).room := ⟨_, rfl⟩
  have hR1 : RR.frames = 0 := by rw [hRR]; rfl
  have hR2 : RR.locals = 0 := by rw [hRR]; rfl
  have hR3 : RR.cells = 0 := by rw [hRR]; rfl
  have hR4 : RR.slots = 0 := by rw [hRR]; rfl
  have hl := lv_entry ([.ref (bA b 0), .int (nI (i))]) (n := 2) (Nat.le_of_ble_eq_true rfl)
  have hent : entryFrame m args 2 = F0 m 0 ((lg_sl ([.ref (bA b 0), .int (nI (i))]) ++ List.replicate (2 - (lg_sl ([.ref (bA b 0), .int (nI (i))])).length) Slot.unset).toArray) [] := by rw [hargs, lg_entry_eq]
  rw [hent]
  generalize (lg_sl ([.ref (bA b 0), .int (nI (i))]) ++ List.replicate (2 - (lg_sl ([.ref (bA b 0), .int (nI (i))])).length) Slot.unset).toArray = ls at hl ⊢
  have hl : lv_has ls 2 [(0, .ref (bA b 0)), (1, .int (nI (i)))] := hl
  refine q_ab (R := RR) hRR ?_
  generalize hQQ : MQ below _ args s _ _ _ = QQ
  refine lv_aload_n hx hb dX0_placeAt_0 rfl (lv_at hl 0 rfl) ?_
  refine va_get (D := g.1) (ci := 0) (v := .ref (bA b 1)) (C := RX0) (T := TX0) (N := 8) hx hb hts hiX0 hown hK.1 hP 0 rfl rfl 2 (by decide) (hts _ w_fl_X0_18) (fun _ h9 => h9) rfl dX0_placeAt_1 ?_
  refine lv_iload_n hx hb dX0_placeAt_4 rfl (lv_at hl 1 rfl) ?_
  refine n_iald (k := i) (v := nI (bPl b i)) hx hb hK.1 hP 1 0 rfl rfl (by omega) (by decide) (rfl) dX0_placeAt_5 ?_
  subst hQQ
  exact W.iret hx hb hr (fun t9 ht _ => rdI (rfl) ht) (fun q h => absurd h List.not_mem_nil) dX0_placeAt_6

set_option maxHeartbeats 4000000 in
set_option maxRecDepth 100000 in
theorem k_amountAt (l : Launch) (g : GG) (b : BinT) (i : Nat) (hi : i < 32) : Rd l yX0_amountAt wsX0_amountAt 0 0 [.ref (bA b 0), .int (nI (i))] g (wB g b) (nI (bAm b i)) := by
  refine Met.ofW (cc := cX0_amountAt) (maxL := 2) (ret := (some .int)) (by decide) rfl ?_
  intro p e s m args below meth c s₁ BB hml hv
  obtain ⟨hargs, hP, hK⟩ := hv
  have hx := BB.exec
  have hb := BB.bytes
  have hr := BB.returns
  have hts : ∀ w ∈ BIG, w.before args s = true := fun w h => atoms_spec (ws := wsX0_amountAt) BB.pre w (List.mem_cons_of_mem _ h)
  have hown : s.vm.findClass RX0 = some m.cls := findClass_of_methodNamed BB.named
  have hlocks := BB.notSynchronized
  obtain ⟨RR, hRR⟩ : ∃ RR, RR = (headSpec wsX0_amountAt ⟨0, 0, 0, 0⟩).room := ⟨_, rfl⟩
  have hR1 : RR.frames = 0 := by rw [hRR]; rfl
  have hR2 : RR.locals = 0 := by rw [hRR]; rfl
  have hR3 : RR.cells = 0 := by rw [hRR]; rfl
  have hR4 : RR.slots = 0 := by rw [hRR]; rfl
  have hl := lv_entry ([.ref (bA b 0), .int (nI (i))]) (n := 2) (Nat.le_of_ble_eq_true rfl)
  have hent : entryFrame m args 2 = F0 m 0 ((lg_sl ([.ref (bA b 0), .int (nI (i))]) ++ List.replicate (2 - (lg_sl ([.ref (bA b 0), .int (nI (i))])).length) Slot.unset).toArray) [] := by rw [hargs, lg_entry_eq]
  rw [hent]
  generalize (lg_sl ([.ref (bA b 0), .int (nI (i))]) ++ List.replicate (2 - (lg_sl ([.ref (bA b 0), .int (nI (i))])).length) Slot.unset).toArray = ls at hl ⊢
  have hl : lv_has ls 2 [(0, .ref (bA b 0)), (1, .int (nI (i)))] := hl
  refine q_ab (R := RR) hRR ?_
  generalize hQQ : MQ below _ args s _ _ _ = QQ
  refine lv_aload_n hx hb dX0_amountAt_0 rfl (lv_at hl 0 rfl) ?_
  refine va_get (D := g.1) (ci := 0) (v := .ref (bA b 2)) (C := RX0) (T := TX0) (N := 8) hx hb hts hiX0 hown hK.1 hP 0 rfl rfl 3 (by decide) (hts _ w_fl_X0_22) (fun _ h9 => h9) rfl dX0_amountAt_1 ?_
  refine lv_iload_n hx hb dX0_amountAt_4 rfl (lv_at hl 1 rfl) ?_
  refine n_iald (k := i) (v := nI (bAm b i)) hx hb hK.1 hP 2 0 rfl rfl (by omega) (by decide) (rfl) dX0_amountAt_5 ?_
  subst hQQ
  exact W.iret hx hb hr (fun t9 ht _ => rdI (rfl) ht) (fun q h => absurd h List.not_mem_nil) dX0_amountAt_6

set_option maxHeartbeats 4000000 in
set_option maxRecDepth 100000 in
theorem k_hourAt (l : Launch) (g : GG) (b : BinT) (i : Nat) (hi : i < 32) (hp : bPl b i < 2 ^ 31) : Rd l yX0_hourAt wsX0_hourAt 0 0 [.ref (bA b 0), .int (nI (i))] g (wB g b) (nI (hrB b i)) := by
  refine Met.ofW (cc := cX0_hourAt) (maxL := 2) (ret := (some .int)) (by decide) rfl ?_
  intro p e s m args below meth c s₁ BB hml hv
  obtain ⟨hargs, hP, hK⟩ := hv
  have hx := BB.exec
  have hb := BB.bytes
  have hr := BB.returns
  have hts : ∀ w ∈ BIG, w.before args s = true := fun w h => atoms_spec (ws := wsX0_hourAt) BB.pre w (List.mem_cons_of_mem _ h)
  have hown : s.vm.findClass RX0 = some m.cls := findClass_of_methodNamed BB.named
  have hlocks := BB.notSynchronized
  obtain ⟨RR, hRR⟩ : ∃ RR, RR = (headSpec wsX0_hourAt ⟨0, 0, 0, 0⟩).room := ⟨_, rfl⟩
  have hR1 : RR.frames = 0 := by rw [hRR]; rfl
  have hR2 : RR.locals = 0 := by rw [hRR]; rfl
  have hR3 : RR.cells = 0 := by rw [hRR]; rfl
  have hR4 : RR.slots = 0 := by rw [hRR]; rfl
  have hl := lv_entry ([.ref (bA b 0), .int (nI (i))]) (n := 2) (Nat.le_of_ble_eq_true rfl)
  have hent : entryFrame m args 2 = F0 m 0 ((lg_sl ([.ref (bA b 0), .int (nI (i))]) ++ List.replicate (2 - (lg_sl ([.ref (bA b 0), .int (nI (i))])).length) Slot.unset).toArray) [] := by rw [hargs, lg_entry_eq]
  rw [hent]
  generalize (lg_sl ([.ref (bA b 0), .int (nI (i))]) ++ List.replicate (2 - (lg_sl ([.ref (bA b 0), .int (nI (i))])).length) Slot.unset).toArray = ls at hl ⊢
  have hl : lv_has ls 2 [(0, .ref (bA b 0)), (1, .int (nI (i)))] := hl
  refine q_ab (R := RR) hRR ?_
  generalize hQQ : MQ below _ args s _ _ _ = QQ
  refine lv_aload_n hx hb dX0_hourAt_0 rfl (lv_at hl 0 rfl) ?_
  refine va_get (D := g.1) (ci := 0) (v := .ref (bA b 1)) (C := RX0) (T := TX0) (N := 8) hx hb hts hiX0 hown hK.1 hP 0 rfl rfl 2 (by decide) (hts _ w_fl_X0_18) (fun _ h9 => h9) rfl dX0_hourAt_1 ?_
  refine lv_iload_n hx hb dX0_hourAt_4 rfl (lv_at hl 1 rfl) ?_
  refine n_iald (k := i) (v := nI (bPl b i)) hx hb hK.1 hP 1 0 rfl rfl (by omega) (by decide) (rfl) dX0_hourAt_5 ?_
  refine lv_iconst (v := nI (2)) hx hb dX0_hourAt_6 (by decide) ?_
  refine n_idiv hx hb (by omega) (by omega) (by omega) dX0_hourAt_7 ?_
  subst hQQ
  exact W.iret hx hb hr (fun t9 ht _ => rdI (rfl) ht) (fun q h => absurd h List.not_mem_nil) dX0_hourAt_8

set_option maxHeartbeats 4000000 in
set_option maxRecDepth 100000 in
theorem k_isRow (l : Launch) (g : GG) (b : BinT) (i : Nat) (hi : i < 32) (hp : bPl b i < 2 ^ 31) : Rz l yX0_isRow wsX0_isRow 0 0 [.ref (bA b 0), .int (nI (i))] g (wB g b) (bI (rowB b i)) := by
  refine Met.ofW (cc := cX0_isRow) (maxL := 2) (ret := (some .boolean)) (by decide) rfl ?_
  intro p e s m args below meth c s₁ BB hml hv
  obtain ⟨hargs, hP, hK⟩ := hv
  have hx := BB.exec
  have hb := BB.bytes
  have hr := BB.returns
  have hts : ∀ w ∈ BIG, w.before args s = true := fun w h => atoms_spec (ws := wsX0_isRow) BB.pre w (List.mem_cons_of_mem _ h)
  have hown : s.vm.findClass RX0 = some m.cls := findClass_of_methodNamed BB.named
  have hlocks := BB.notSynchronized
  obtain ⟨RR, hRR⟩ : ∃ RR, RR = (headSpec wsX0_isRow ⟨0, 0, 0, 0⟩).room := ⟨_, rfl⟩
  have hR1 : RR.frames = 0 := by rw [hRR]; rfl
  have hR2 : RR.locals = 0 := by rw [hRR]; rfl
  have hR3 : RR.cells = 0 := by rw [hRR]; rfl
  have hR4 : RR.slots = 0 := by rw [hRR]; rfl
  have hl := lv_entry ([.ref (bA b 0), .int (nI (i))]) (n := 2) (Nat.le_of_ble_eq_true rfl)
  have hent : entryFrame m args 2 = F0 m 0 ((lg_sl ([.ref (bA b 0), .int (nI (i))]) ++ List.replicate (2 - (lg_sl ([.ref (bA b 0), .int (nI (i))])).length) Slot.unset).toArray) [] := by rw [hargs, lg_entry_eq]
  rw [hent]
  generalize (lg_sl ([.ref (bA b 0), .int (nI (i))]) ++ List.replicate (2 - (lg_sl ([.ref (bA b 0), .int (nI (i))])).length) Slot.unset).toArray = ls at hl ⊢
  have hl : lv_has ls 2 [(0, .ref (bA b 0)), (1, .int (nI (i)))] := hl
  refine q_ab (R := RR) hRR ?_
  generalize hQQ : MQ below _ args s _ _ _ = QQ
  refine lv_aload_n hx hb dX0_isRow_0 rfl (lv_at hl 0 rfl) ?_
  refine va_get (D := g.1) (ci := 0) (v := .ref (bA b 1)) (C := RX0) (T := TX0) (N := 8) hx hb hts hiX0 hown hK.1 hP 0 rfl rfl 2 (by decide) (hts _ w_fl_X0_18) (fun _ h9 => h9) rfl dX0_isRow_1 ?_
  refine lv_iload_n hx hb dX0_isRow_4 rfl (lv_at hl 1 rfl) ?_
  refine n_iald (k := i) (v := nI (bPl b i)) hx hb hK.1 hP 1 0 rfl rfl (by omega) (by decide) (rfl) dX0_isRow_5 ?_
  refine lv_iconst (v := nI (2)) hx hb dX0_isRow_6 (by decide) ?_
  refine n_irem hx hb (by omega) (by omega) (by omega) dX0_isRow_7 ?_
  refine bz_ne (tgt := 15) hx hb (by omega) dX0_isRow_8 (by decide) (fun h1 => ?_) (fun h1 => ?_)
  · refine lv_iconst (v := bI (false)) hx hb dX0_isRow_15 (by decide) ?_
    subst hQQ
    exact W.zret hx hb hr (nar_b _) (fun t9 ht _ => rdI (by rw [rowB, decide_eq_false h1]) ht) (fun q h => absurd h List.not_mem_nil) dX0_isRow_16
  · refine lv_iconst (v := bI (true)) hx hb dX0_isRow_11 (by decide) ?_
    refine lv_goto (tgt := 16) hx hb dX0_isRow_12 (by decide) ?_
    subst hQQ
    exact W.zret hx hb hr (nar_b _) (fun t9 ht _ => rdI (by rw [rowB, decide_eq_true h1]) ht) (fun q h => absurd h List.not_mem_nil) dX0_isRow_16
end
section
set_option maxHeartbeats 4000000 in
set_option maxRecDepth 100000 in
theorem k_shareAt (l : Launch) (g : GG) (b : BinT) (i : Nat) (hi : i < 32) (hp : bPl b i < 2 ^ 31) : Rd l yX0_shareAt wsX0_shareAt 1 21 [.ref (bA b 0), .int (nI (i))] g (wB g b) (nI (shB b i)) := by
  refine Met.ofW (cc := cX0_shareAt) (maxL := 2) (ret := (some .int)) (by decide) rfl ?_
  intro p e s m args below meth c s₁ BB hml hv
  obtain ⟨hargs, hP, hK⟩ := hv
  have hx := BB.exec
  have hb := BB.bytes
  have hr := BB.returns
  have hts : ∀ w ∈ BIG, w.before args s = true := fun w h => atoms_spec (ws := wsX0_shareAt) BB.pre w (List.mem_cons_of_mem _ h)
  have hown : s.vm.findClass RX0 = some m.cls := findClass_of_methodNamed BB.named
  have hlocks := BB.notSynchronized
  obtain ⟨RR, hRR⟩ : ∃ RR, RR = (headSpec wsX0_shareAt ⟨1, 0, 0, 21⟩).room := ⟨_, rfl⟩
  have hR1 : RR.frames = 1 := by rw [hRR]; rfl
  have hR2 : RR.locals = 21 := by rw [hRR]; rfl
  have hR3 : RR.cells = 0 := by rw [hRR]; rfl
  have hR4 : RR.slots = 0 := by rw [hRR]; rfl
  have hl := lv_entry ([.ref (bA b 0), .int (nI (i))]) (n := 2) (Nat.le_of_ble_eq_true rfl)
  have hent : entryFrame m args 2 = F0 m 0 ((lg_sl ([.ref (bA b 0), .int (nI (i))]) ++ List.replicate (2 - (lg_sl ([.ref (bA b 0), .int (nI (i))])).length) Slot.unset).toArray) [] := by rw [hargs, lg_entry_eq]
  rw [hent]
  generalize (lg_sl ([.ref (bA b 0), .int (nI (i))]) ++ List.replicate (2 - (lg_sl ([.ref (bA b 0), .int (nI (i))])).length) Slot.unset).toArray = ls at hl ⊢
  have hl : lv_has ls 2 [(0, .ref (bA b 0)), (1, .int (nI (i)))] := hl
  refine q_ab (R := RR) hRR ?_
  generalize hQQ : MQ below _ args s _ _ _ = QQ
  refine lv_aload_n hx hb dX0_shareAt_0 rfl (lv_at hl 0 rfl) ?_
  refine lv_iload_n hx hb dX0_shareAt_1 rfl (lv_at hl 1 rfl) ?_
  refine cR_i (W.runV (As := [.int (nI (i))]) (rest := []) ⟨hx, hb, hml, hown, hts⟩ (k_isRow l g b i hi hp) (cwV 1 hts (gV w_ml_X0_38 w_im_X0_isRow w_sel_X0_isRow w_ini_X0 w_co_X0_isRow) rfl rfl rfl (by decide +kernel) (by rw [hR1, hR2]; exact ⟨Nat.le_of_ble_eq_true rfl, Nat.le_of_ble_eq_true rfl⟩)) (preV_rd hP hK (va_recv hK.1 hP (ci := 0) (q0 := 0) rfl rfl)) rfl rfl hl.1 rfl (lv_room (Nat.le_of_ble_eq_true rfl)) dX0_shareAt_2 ⟨by rw [hR3]; omega, by rw [hR4]; omega⟩) ?_
  refine bb_eq (tgt := 17) hx hb dX0_shareAt_5 (by decide) (fun h1 => ?_) (fun h1 => ?_)
  · refine lv_iconst (v := nI (0)) hx hb dX0_shareAt_17 (by decide) ?_
    subst hQQ
    exact W.iret hx hb hr (fun t9 ht _ => rdI (by rw [shB, if_neg (of_decide_eq_false h1)]) ht) (fun q h => absurd h List.not_mem_nil) dX0_shareAt_18
  · refine lv_aload_n hx hb dX0_shareAt_8 rfl (lv_at hl 0 rfl) ?_
    refine va_get (D := g.1) (ci := 0) (v := .ref (bA b 2)) (C := RX0) (T := TX0) (N := 8) hx hb hts hiX0 hown hK.1 hP 0 rfl rfl 3 (by decide) (hts _ w_fl_X0_22) (fun _ h9 => h9) rfl dX0_shareAt_9 ?_
    refine lv_iload_n hx hb dX0_shareAt_12 rfl (lv_at hl 1 rfl) ?_
    refine n_iald (k := i) (v := nI (bAm b i)) hx hb hK.1 hP 2 0 rfl rfl (by omega) (by decide) (rfl) dX0_shareAt_13 ?_
    refine lv_goto (tgt := 18) hx hb dX0_shareAt_14 (by decide) ?_
    subst hQQ
    exact W.iret hx hb hr (fun t9 ht _ => rdI (by rw [shB, if_pos (of_decide_eq_true h1)]) ht) (fun q h => absurd h List.not_mem_nil) dX0_shareAt_18

set_option maxHeartbeats 4000000 in
set_option maxRecDepth 100000 in
theorem k_indexFor (l : Launch) (g : GG) (b : BinT) (q ix : Nat) (hn : bN b ≤ 32) (hpl : ∀ i, i < bN b → bPl b i < 2 ^ 31) (hq : q < 2 ^ 31) (h1 : ix ≤ bN b) (h2 : ∀ i, i < ix → bPl b i < q) (h3 : ix < bN b → q ≤ bPl b ix) : Rd l yX0_indexFor wsX0_indexFor 0 0 [.ref (bA b 0), .int (nI (q))] g (wB g b) (nI ix) := by
  refine Met.ofW (cc := cX0_indexFor) (maxL := 3) (ret := (some .int)) (by decide) rfl ?_
  intro p e s m args below meth c s₁ BB hml hv
  obtain ⟨hargs, hP, hK⟩ := hv
  have hx := BB.exec
  have hb := BB.bytes
  have hr := BB.returns
  have hts : ∀ w ∈ BIG, w.before args s = true := fun w h => atoms_spec (ws := wsX0_indexFor) BB.pre w (List.mem_cons_of_mem _ h)
  have hown : s.vm.findClass RX0 = some m.cls := findClass_of_methodNamed BB.named
  have hlocks := BB.notSynchronized
  obtain ⟨RR, hRR⟩ : ∃ RR, RR = (headSpec wsX0_indexFor ⟨0, 0, 0, 0⟩).room := ⟨_, rfl⟩
  have hR1 : RR.frames = 0 := by rw [hRR]; rfl
  have hR2 : RR.locals = 0 := by rw [hRR]; rfl
  have hR3 : RR.cells = 0 := by rw [hRR]; rfl
  have hR4 : RR.slots = 0 := by rw [hRR]; rfl
  have hl := lv_entry ([.ref (bA b 0), .int (nI (q))]) (n := 3) (Nat.le_of_ble_eq_true rfl)
  have hent : entryFrame m args 3 = F0 m 0 ((lg_sl ([.ref (bA b 0), .int (nI (q))]) ++ List.replicate (3 - (lg_sl ([.ref (bA b 0), .int (nI (q))])).length) Slot.unset).toArray) [] := by rw [hargs, lg_entry_eq]
  rw [hent]
  generalize (lg_sl ([.ref (bA b 0), .int (nI (q))]) ++ List.replicate (3 - (lg_sl ([.ref (bA b 0), .int (nI (q))])).length) Slot.unset).toArray = ls at hl ⊢
  have hl : lv_has ls 3 [(0, .ref (bA b 0)), (1, .int (nI (q)))] := hl
  refine q_ab (R := RR) hRR ?_
  generalize hQQ : MQ below _ args s _ _ _ = QQ
  refine lv_iconst (v := nI (0)) hx hb dX0_indexFor_0 (by decide) ?_
  refine lv_istore_n (lv' := [(2, .int (nI (0))), (0, .ref (bA b 0)), (1, .int (nI (q)))]) hx hb dX0_indexFor_1 rfl hl (by decide) rfl (fun ls hl => ?_)
  have loop : ∀ (k j : Nat) (ls : Array Slot), j ≤ ix → ix < j + k → lv_has ls 3 [(0, .ref (bA b 0)), (1, .int (nI q)), (2, .int (nI j))] → W p l e RR s m args below meth c s.heap [] 0 0 QQ (F0 m 2 ls []) := by
    intro k
    induction k with
    | zero => intro j ls h h5; exact absurd h5 (by omega)
    | succ k ih =>
      intro j ls hj hk hl
      refine lv_iload_n hx hb dX0_indexFor_2 rfl (lv_at hl 2 rfl) ?_
      refine lv_aload_n hx hb dX0_indexFor_3 rfl (lv_at hl 0 rfl) ?_
      refine va_get (D := g.1) (ci := 0) (v := .int (nI (bN b))) (C := RX0) (T := TX0) (N := 8) hx hb hts hiX0 hown hK.1 hP 0 rfl rfl 6 (by decide) (hts _ w_fl_X0_32) (fun _ h9 => h9) rfl dX0_indexFor_4 ?_
      refine bn_ge (tgt := 26) hx hb (by omega) (by omega) dX0_indexFor_7 (by decide) (fun c1 => ?_) (fun c1 => ?_)
      · refine lv_iload_n hx hb dX0_indexFor_26 rfl (lv_at hl 2 rfl) ?_
        subst hQQ
        exact W.iret hx hb hr (fun t9 ht _ => rdI (by rw [show j = ix by omega]) ht) (fun q h => absurd h List.not_mem_nil) dX0_indexFor_27
      · have hpj := hpl j c1
        refine lv_aload_n hx hb dX0_indexFor_10 rfl (lv_at hl 0 rfl) ?_
        refine va_get (D := g.1) (ci := 0) (v := .ref (bA b 1)) (C := RX0) (T := TX0) (N := 8) hx hb hts hiX0 hown hK.1 hP 0 rfl rfl 2 (by decide) (hts _ w_fl_X0_18) (fun _ h9 => h9) rfl dX0_indexFor_11 ?_
        refine lv_iload_n hx hb dX0_indexFor_14 rfl (lv_at hl 2 rfl) ?_
        refine n_iald (k := j) (v := nI (bPl b j)) hx hb hK.1 hP 1 0 rfl rfl (by omega) (by decide) (rfl) dX0_indexFor_15 ?_
        refine lv_iload_n hx hb dX0_indexFor_16 rfl (lv_at hl 1 rfl) ?_
        refine bn_ge (tgt := 26) hx hb (by omega) (by omega) dX0_indexFor_17 (by decide) (fun c2 => ?_) (fun c2 => ?_)
        · have e : j = ix := by
            rcases Nat.lt_or_ge j ix with z | z
            · exact absurd (h2 j z) (by omega)
            · omega
          refine lv_iload_n hx hb dX0_indexFor_26 rfl (lv_at hl 2 rfl) ?_
          subst hQQ
          exact W.iret hx hb hr (fun t9 ht _ => rdI (by rw [e]) ht) (fun q h => absurd h List.not_mem_nil) dX0_indexFor_27
        · have hlt : j < ix := by
            rcases Nat.lt_or_ge j ix with z | z
            · exact z
            · exact absurd (h3 (by omega)) (by rw [show ix = j by omega]; omega)
          refine lv_iinc (v := nI (j + 1)) (lv' := [(2, .int (nI (j + 1))), (0, .ref (bA b 0)), (1, .int (nI (q)))]) hx hb dX0_indexFor_20 hl (k := 2) rfl (nI_1 _) (by decide) rfl (fun ls hl => ?_)
          refine lv_goto (tgt := 2) hx hb dX0_indexFor_23 (by decide) ?_
          exact ih (j + 1) ls hlt (by omega) (lv_sub hl [1, 2, 0] rfl)
  exact loop (ix + 1) 0 ls (Nat.zero_le _) (by omega) (lv_sub hl [1, 2, 0] rfl)

set_option maxHeartbeats 4000000 in
set_option maxRecDepth 100000 in
theorem k_isTaken (l : Launch) (g : GG) (b : BinT) (i q : Nat) (hi : i < 2 ^ 31) (hn : bN b ≤ 32) (hpl : ∀ i, i < bN b → bPl b i < 2 ^ 31) (hq : q < 2 ^ 31) : Rz l yX0_isTaken wsX0_isTaken 0 0 [.ref (bA b 0), .int (nI (i)), .int (nI (q))] g (wB g b) (bI (decide (i < bN b ∧ bPl b i = q))) := by
  refine Met.ofW (cc := cX0_isTaken) (maxL := 3) (ret := (some .boolean)) (by decide) rfl ?_
  intro p e s m args below meth c s₁ BB hml hv
  obtain ⟨hargs, hP, hK⟩ := hv
  have hx := BB.exec
  have hb := BB.bytes
  have hr := BB.returns
  have hts : ∀ w ∈ BIG, w.before args s = true := fun w h => atoms_spec (ws := wsX0_isTaken) BB.pre w (List.mem_cons_of_mem _ h)
  have hown : s.vm.findClass RX0 = some m.cls := findClass_of_methodNamed BB.named
  have hlocks := BB.notSynchronized
  obtain ⟨RR, hRR⟩ : ∃ RR, RR = (headSpec wsX0_isTaken ⟨0, 0, 0, 0⟩).room := ⟨_, rfl⟩
  have hR1 : RR.frames = 0 := by rw [hRR]; rfl
  have hR2 : RR.locals = 0 := by rw [hRR]; rfl
  have hR3 : RR.cells = 0 := by rw [hRR]; rfl
  have hR4 : RR.slots = 0 := by rw [hRR]; rfl
  have hl := lv_entry ([.ref (bA b 0), .int (nI (i)), .int (nI (q))]) (n := 3) (Nat.le_of_ble_eq_true rfl)
  have hent : entryFrame m args 3 = F0 m 0 ((lg_sl ([.ref (bA b 0), .int (nI (i)), .int (nI (q))]) ++ List.replicate (3 - (lg_sl ([.ref (bA b 0), .int (nI (i)), .int (nI (q))])).length) Slot.unset).toArray) [] := by rw [hargs, lg_entry_eq]
  rw [hent]
  generalize (lg_sl ([.ref (bA b 0), .int (nI (i)), .int (nI (q))]) ++ List.replicate (3 - (lg_sl ([.ref (bA b 0), .int (nI (i)), .int (nI (q))])).length) Slot.unset).toArray = ls at hl ⊢
  have hl : lv_has ls 3 [(0, .ref (bA b 0)), (1, .int (nI (i))), (2, .int (nI (q)))] := hl
  refine q_ab (R := RR) hRR ?_
  generalize hQQ : MQ below _ args s _ _ _ = QQ
  refine lv_iload_n hx hb dX0_isTaken_0 rfl (lv_at hl 1 rfl) ?_
  refine lv_aload_n hx hb dX0_isTaken_1 rfl (lv_at hl 0 rfl) ?_
  refine va_get (D := g.1) (ci := 0) (v := .int (nI (bN b))) (C := RX0) (T := TX0) (N := 8) hx hb hts hiX0 hown hK.1 hP 0 rfl rfl 6 (by decide) (hts _ w_fl_X0_32) (fun _ h9 => h9) rfl dX0_isTaken_2 ?_
  refine bn_ge (tgt := 22) hx hb (by omega) (by omega) dX0_isTaken_5 (by decide) (fun c1 => ?_) (fun c1 => ?_)
  · refine lv_iconst (v := bI (false)) hx hb dX0_isTaken_22 (by decide) ?_
    subst hQQ
    exact W.zret hx hb hr (nar_b _) (fun t9 ht _ => rdI (by rw [decide_eq_false (fun z => absurd z.1 (by omega))]) ht) (fun q h => absurd h List.not_mem_nil) dX0_isTaken_23
  · have hpj := hpl i c1
    refine lv_aload_n hx hb dX0_isTaken_8 rfl (lv_at hl 0 rfl) ?_
    refine va_get (D := g.1) (ci := 0) (v := .ref (bA b 1)) (C := RX0) (T := TX0) (N := 8) hx hb hts hiX0 hown hK.1 hP 0 rfl rfl 2 (by decide) (hts _ w_fl_X0_18) (fun _ h9 => h9) rfl dX0_isTaken_9 ?_
    refine lv_iload_n hx hb dX0_isTaken_12 rfl (lv_at hl 1 rfl) ?_
    refine n_iald (k := i) (v := nI (bPl b i)) hx hb hK.1 hP 1 0 rfl rfl (by omega) (by decide) (rfl) dX0_isTaken_13 ?_
    refine lv_iload_n hx hb dX0_isTaken_14 rfl (lv_at hl 2 rfl) ?_
    refine bn_ne (tgt := 22) hx hb (by omega) (by omega) dX0_isTaken_15 (by decide) (fun c2 => ?_) (fun c2 => ?_)
    · refine lv_iconst (v := bI (false)) hx hb dX0_isTaken_22 (by decide) ?_
      subst hQQ
      exact W.zret hx hb hr (nar_b _) (fun t9 ht _ => rdI (by rw [decide_eq_false (fun z => c2 z.2)]) ht) (fun q h => absurd h List.not_mem_nil) dX0_isTaken_23
    · refine lv_iconst (v := bI (true)) hx hb dX0_isTaken_18 (by decide) ?_
      refine lv_goto (tgt := 23) hx hb dX0_isTaken_19 (by decide) ?_
      subst hQQ
      exact W.zret hx hb hr (nar_b _) (fun t9 ht _ => rdI (by rw [decide_eq_true ⟨c1, c2⟩]) ht) (fun q h => absurd h List.not_mem_nil) dX0_isTaken_23

set_option maxHeartbeats 4000000 in
set_option maxRecDepth 100000 in
theorem k_hourOfWrong (l : Launch) (g : GG) (b : BinT) (x : Int32) (hn : bN b ≤ 32) (hpl : ∀ i, i < bN b → bPl b i < 2 ^ 31) : Rd l yX0_hourOfWrong wsX0_hourOfWrong 1 21 [.ref (bA b 0), .int (x)] g (wB g b) (gI ((kth (bWr b) x (bN b) 0 0).map (hrB b))) := by
  refine Met.ofW (cc := cX0_hourOfWrong) (maxL := 4) (ret := (some .int)) (by decide) rfl ?_
  intro p e s m args below meth c s₁ BB hml hv
  obtain ⟨hargs, hP, hK⟩ := hv
  have hx := BB.exec
  have hb := BB.bytes
  have hr := BB.returns
  have hts : ∀ w ∈ BIG, w.before args s = true := fun w h => atoms_spec (ws := wsX0_hourOfWrong) BB.pre w (List.mem_cons_of_mem _ h)
  have hown : s.vm.findClass RX0 = some m.cls := findClass_of_methodNamed BB.named
  have hlocks := BB.notSynchronized
  obtain ⟨RR, hRR⟩ : ∃ RR, RR = (headSpec wsX0_hourOfWrong ⟨1, 0, 0, 21⟩).room := ⟨_, rfl⟩
  have hR1 : RR.frames = 1 := by rw [hRR]; rfl
  have hR2 : RR.locals = 21 := by rw [hRR]; rfl
  have hR3 : RR.cells = 0 := by rw [hRR]; rfl
  have hR4 : RR.slots = 0 := by rw [hRR]; rfl
  have hl := lv_entry ([.ref (bA b 0), .int (x)]) (n := 4) (Nat.le_of_ble_eq_true rfl)
  have hent : entryFrame m args 4 = F0 m 0 ((lg_sl ([.ref (bA b 0), .int (x)]) ++ List.replicate (4 - (lg_sl ([.ref (bA b 0), .int (x)])).length) Slot.unset).toArray) [] := by rw [hargs, lg_entry_eq]
  rw [hent]
  generalize (lg_sl ([.ref (bA b 0), .int (x)]) ++ List.replicate (4 - (lg_sl ([.ref (bA b 0), .int (x)])).length) Slot.unset).toArray = ls at hl ⊢
  have hl : lv_has ls 4 [(0, .ref (bA b 0)), (1, .int (x))] := hl
  refine q_ab (R := RR) hRR ?_
  generalize hQQ : MQ below _ args s _ _ _ = QQ
  refine lv_iconst (v := nI (0)) hx hb dX0_hourOfWrong_0 (by decide) ?_
  refine lv_istore_n (lv' := [(2, .int (nI (0))), (0, .ref (bA b 0)), (1, .int (x))]) hx hb dX0_hourOfWrong_1 rfl hl (by decide) rfl (fun ls hl => ?_)
  refine lv_iconst (v := nI (0)) hx hb dX0_hourOfWrong_2 (by decide) ?_
  refine lv_istore_n (lv' := [(3, .int (nI (0))), (2, .int (nI (0))), (0, .ref (bA b 0)), (1, .int (x))]) hx hb dX0_hourOfWrong_3 rfl hl (by decide) rfl (fun ls hl => ?_)
  have loop : ∀ (k : Nat) (j : Nat) (f : Nat) (ls : Array Slot), (j ≤ bN b) → (f ≤ j) → (bN b < j + k) → (kth (bWr b) x (bN b - j) j f = kth (bWr b) x (bN b) 0 0) → lv_has ls 4 [(0, .ref (bA b 0)), (1, .int (x)), (2, .int (nI (f))), (3, .int (nI (j)))] → W p l e RR s m args below meth c s.heap [] 0 0 QQ (F0 m 4 ls []) := by
    intro k
    induction k with
    | zero => intro j f ls hj hf hk he hl; exact absurd hk (by omega)
    | succ k ih =>
      intro j f ls hj hf hk he hl
      refine lv_iload_n hx hb dX0_hourOfWrong_4 rfl (lv_at hl 3 rfl) ?_
      refine lv_aload_n hx hb dX0_hourOfWrong_5 rfl (lv_at hl 0 rfl) ?_
      refine va_get (D := g.1) (ci := 0) (v := .int (nI (bN b))) (C := RX0) (T := TX0) (N := 8) hx hb hts hiX0 hown hK.1 hP 0 rfl rfl 6 (by decide) (hts _ w_fl_X0_32) (fun _ h9 => h9) rfl dX0_hourOfWrong_6 ?_
      refine bn_ge (tgt := 41) hx hb (by omega) (by omega) dX0_hourOfWrong_9 (by decide) (fun c1 => ?_) (fun c1 => ?_)
      · refine lv_iconst (v := (-1)) hx hb dX0_hourOfWrong_41 (by decide) ?_
        subst hQQ
        exact W.iret hx hb hr (fun t9 ht _ => rdI (by rw [← he, show bN b - j = 0 by omega]; rfl) ht) (fun q h => absurd h List.not_mem_nil) dX0_hourOfWrong_42
      · rw [show bN b - j = (bN b - (j + 1)) + 1 by omega, kth] at he
        refine lv_aload_n hx hb dX0_hourOfWrong_12 rfl (lv_at hl 0 rfl) ?_
        refine va_get (D := g.1) (ci := 0) (v := .ref (bA b 3)) (C := RX0) (T := TX0) (N := 8) hx hb hts hiX0 hown hK.1 hP 0 rfl rfl 4 (by decide) (hts _ w_fl_X0_25) (fun _ h9 => h9) rfl dX0_hourOfWrong_13 ?_
        refine lv_iload_n hx hb dX0_hourOfWrong_16 rfl (lv_at hl 3 rfl) ?_
        refine n_zald (k := j) (v := bI (bWr b j)) hx hb hK.1 hP 3 1 rfl rfl (by omega) (by decide) (rfl) dX0_hourOfWrong_17 ?_
        refine bb_eq (tgt := 35) hx hb dX0_hourOfWrong_18 (by decide) (fun c2 => ?_) (fun c2 => ?_)
        · rw [if_neg (by rw [c2]; decide)] at he
          refine lv_iinc (v := nI (j + 1)) (lv' := [(3, .int (nI (j + 1))), (0, .ref (bA b 0)), (1, .int (x)), (2, .int (nI (f)))]) hx hb dX0_hourOfWrong_35 hl (k := 3) rfl (nI_1 _) (by decide) rfl (fun ls hl => ?_)
          refine lv_goto (tgt := 4) hx hb dX0_hourOfWrong_38 (by decide) ?_
          exact ih (j + 1) f ls (by omega) (by omega) (by omega) he (lv_sub hl [1, 2, 3, 0] rfl)
        · rw [if_pos c2] at he
          refine lv_iload_n hx hb dX0_hourOfWrong_21 rfl (lv_at hl 2 rfl) ?_
          refine lv_iload_n hx hb dX0_hourOfWrong_22 rfl (lv_at hl 1 rfl) ?_
          refine lv_icmp_ne (tgt := 32) hx hb dX0_hourOfWrong_23 (by decide) (fun c3 => ?_) (fun c3 => ?_)
          · rw [if_neg c3] at he
            refine lv_iinc (v := nI (f + 1)) (lv' := [(2, .int (nI (f + 1))), (0, .ref (bA b 0)), (1, .int (x)), (3, .int (nI (j)))]) hx hb dX0_hourOfWrong_32 hl (k := 2) rfl (nI_1 _) (by decide) rfl (fun ls hl => ?_)
            refine lv_iinc (v := nI (j + 1)) (lv' := [(3, .int (nI (j + 1))), (2, .int (nI (f + 1))), (0, .ref (bA b 0)), (1, .int (x))]) hx hb dX0_hourOfWrong_35 hl (k := 3) rfl (nI_1 _) (by decide) rfl (fun ls hl => ?_)
            refine lv_goto (tgt := 4) hx hb dX0_hourOfWrong_38 (by decide) ?_
            exact ih (j + 1) (f + 1) ls (by omega) (by omega) (by omega) he (lv_sub hl [2, 3, 1, 0] rfl)
          · rw [if_pos c3] at he
            refine lv_aload_n hx hb dX0_hourOfWrong_26 rfl (lv_at hl 0 rfl) ?_
            refine lv_iload_n hx hb dX0_hourOfWrong_27 rfl (lv_at hl 3 rfl) ?_
            refine cR_i (W.runV (As := [.int (nI (j))]) (rest := []) ⟨hx, hb, hml, hown, hts⟩ (k_hourAt l g b j (by omega) (hpl j c1)) (cwV 1 hts (gV w_ml_X0_63 w_im_X0_hourAt w_sel_X0_hourAt w_ini_X0 w_co_X0_hourAt) rfl rfl rfl (by decide +kernel) (by rw [hR1, hR2]; exact ⟨Nat.le_of_ble_eq_true rfl, Nat.le_of_ble_eq_true rfl⟩)) (preV_rd hP hK (va_recv hK.1 hP (ci := 0) (q0 := 0) rfl rfl)) rfl rfl hl.1 rfl (lv_room (Nat.le_of_ble_eq_true rfl)) dX0_hourOfWrong_28 ⟨by rw [hR3]; omega, by rw [hR4]; omega⟩) ?_
            subst hQQ
            exact W.iret hx hb hr (fun t9 ht _ => rdI (by rw [← he]; rfl) ht) (fun q h => absurd h List.not_mem_nil) dX0_hourOfWrong_31
  exact loop (bN b + 1) 0 0 ls (Nat.zero_le _) (Nat.le_refl _) (by omega) rfl (lv_sub hl [2, 3, 1, 0] rfl)

set_option maxHeartbeats 4000000 in
set_option maxRecDepth 100000 in
theorem k_indexOfEmptying (l : Launch) (g : GG) (b : BinT) (x : Int32) (hn : bN b ≤ 32) (hpl : ∀ i, i < bN b → bPl b i < 2 ^ 31) : Rd l yX0_indexOfEmptying wsX0_indexOfEmptying 1 21 [.ref (bA b 0), .int (x)] g (wB g b) (gI (kth (fun i => !rowB b i) x (bN b) 0 0)) := by
  refine Met.ofW (cc := cX0_indexOfEmptying) (maxL := 4) (ret := (some .int)) (by decide) rfl ?_
  intro p e s m args below meth c s₁ BB hml hv
  obtain ⟨hargs, hP, hK⟩ := hv
  have hx := BB.exec
  have hb := BB.bytes
  have hr := BB.returns
  have hts : ∀ w ∈ BIG, w.before args s = true := fun w h => atoms_spec (ws := wsX0_indexOfEmptying) BB.pre w (List.mem_cons_of_mem _ h)
  have hown : s.vm.findClass RX0 = some m.cls := findClass_of_methodNamed BB.named
  have hlocks := BB.notSynchronized
  obtain ⟨RR, hRR⟩ : ∃ RR, RR = (headSpec wsX0_indexOfEmptying ⟨1, 0, 0, 21⟩).room := ⟨_, rfl⟩
  have hR1 : RR.frames = 1 := by rw [hRR]; rfl
  have hR2 : RR.locals = 21 := by rw [hRR]; rfl
  have hR3 : RR.cells = 0 := by rw [hRR]; rfl
  have hR4 : RR.slots = 0 := by rw [hRR]; rfl
  have hl := lv_entry ([.ref (bA b 0), .int (x)]) (n := 4) (Nat.le_of_ble_eq_true rfl)
  have hent : entryFrame m args 4 = F0 m 0 ((lg_sl ([.ref (bA b 0), .int (x)]) ++ List.replicate (4 - (lg_sl ([.ref (bA b 0), .int (x)])).length) Slot.unset).toArray) [] := by rw [hargs, lg_entry_eq]
  rw [hent]
  generalize (lg_sl ([.ref (bA b 0), .int (x)]) ++ List.replicate (4 - (lg_sl ([.ref (bA b 0), .int (x)])).length) Slot.unset).toArray = ls at hl ⊢
  have hl : lv_has ls 4 [(0, .ref (bA b 0)), (1, .int (x))] := hl
  refine q_ab (R := RR) hRR ?_
  generalize hQQ : MQ below _ args s _ _ _ = QQ
  refine lv_iconst (v := nI (0)) hx hb dX0_indexOfEmptying_0 (by decide) ?_
  refine lv_istore_n (lv' := [(2, .int (nI (0))), (0, .ref (bA b 0)), (1, .int (x))]) hx hb dX0_indexOfEmptying_1 rfl hl (by decide) rfl (fun ls hl => ?_)
  refine lv_iconst (v := nI (0)) hx hb dX0_indexOfEmptying_2 (by decide) ?_
  refine lv_istore_n (lv' := [(3, .int (nI (0))), (2, .int (nI (0))), (0, .ref (bA b 0)), (1, .int (x))]) hx hb dX0_indexOfEmptying_3 rfl hl (by decide) rfl (fun ls hl => ?_)
  have loop : ∀ (k : Nat) (j : Nat) (f : Nat) (ls : Array Slot), (j ≤ bN b) → (f ≤ j) → (bN b < j + k) → (kth (fun i => !rowB b i) x (bN b - j) j f = kth (fun i => !rowB b i) x (bN b) 0 0) → lv_has ls 4 [(0, .ref (bA b 0)), (1, .int (x)), (2, .int (nI (f))), (3, .int (nI (j)))] → W p l e RR s m args below meth c s.heap [] 0 0 QQ (F0 m 4 ls []) := by
    intro k
    induction k with
    | zero => intro j f ls hj hf hk he hl; exact absurd hk (by omega)
    | succ k ih =>
      intro j f ls hj hf hk he hl
      refine lv_iload_n hx hb dX0_indexOfEmptying_4 rfl (lv_at hl 3 rfl) ?_
      refine lv_aload_n hx hb dX0_indexOfEmptying_5 rfl (lv_at hl 0 rfl) ?_
      refine va_get (D := g.1) (ci := 0) (v := .int (nI (bN b))) (C := RX0) (T := TX0) (N := 8) hx hb hts hiX0 hown hK.1 hP 0 rfl rfl 6 (by decide) (hts _ w_fl_X0_32) (fun _ h9 => h9) rfl dX0_indexOfEmptying_6 ?_
      refine bn_ge (tgt := 36) hx hb (by omega) (by omega) dX0_indexOfEmptying_9 (by decide) (fun c1 => ?_) (fun c1 => ?_)
      · refine lv_iconst (v := (-1)) hx hb dX0_indexOfEmptying_36 (by decide) ?_
        subst hQQ
        exact W.iret hx hb hr (fun t9 ht _ => rdI (by rw [← he, show bN b - j = 0 by omega]; rfl) ht) (fun q h => absurd h List.not_mem_nil) dX0_indexOfEmptying_37
      · rw [show bN b - j = (bN b - (j + 1)) + 1 by omega, kth] at he
        refine lv_aload_n hx hb dX0_indexOfEmptying_12 rfl (lv_at hl 0 rfl) ?_
        refine lv_iload_n hx hb dX0_indexOfEmptying_13 rfl (lv_at hl 3 rfl) ?_
        refine cR_i (W.runV (As := [.int (nI (j))]) (rest := []) ⟨hx, hb, hml, hown, hts⟩ (k_isRow l g b j (by omega) (hpl j c1)) (cwV 1 hts (gV w_ml_X0_38 w_im_X0_isRow w_sel_X0_isRow w_ini_X0 w_co_X0_isRow) rfl rfl rfl (by decide +kernel) (by rw [hR1, hR2]; exact ⟨Nat.le_of_ble_eq_true rfl, Nat.le_of_ble_eq_true rfl⟩)) (preV_rd hP hK (va_recv hK.1 hP (ci := 0) (q0 := 0) rfl rfl)) rfl rfl hl.1 rfl (lv_room (Nat.le_of_ble_eq_true rfl)) dX0_indexOfEmptying_14 ⟨by rw [hR3]; omega, by rw [hR4]; omega⟩) ?_
        refine bb_ne (tgt := 30) hx hb dX0_indexOfEmptying_17 (by decide) (fun c2 => ?_) (fun c2 => ?_)
        · rw [if_neg (by rw [c2]; decide)] at he
          refine lv_iinc (v := nI (j + 1)) (lv' := [(3, .int (nI (j + 1))), (0, .ref (bA b 0)), (1, .int (x)), (2, .int (nI (f)))]) hx hb dX0_indexOfEmptying_30 hl (k := 3) rfl (nI_1 _) (by decide) rfl (fun ls hl => ?_)
          refine lv_goto (tgt := 4) hx hb dX0_indexOfEmptying_33 (by decide) ?_
          exact ih (j + 1) f ls (by omega) (by omega) (by omega) he (lv_sub hl [1, 2, 3, 0] rfl)
        · rw [if_pos (by rw [c2]; rfl)] at he
          refine lv_iload_n hx hb dX0_indexOfEmptying_20 rfl (lv_at hl 2 rfl) ?_
          refine lv_iload_n hx hb dX0_indexOfEmptying_21 rfl (lv_at hl 1 rfl) ?_
          refine lv_icmp_ne (tgt := 27) hx hb dX0_indexOfEmptying_22 (by decide) (fun c3 => ?_) (fun c3 => ?_)
          · rw [if_neg c3] at he
            refine lv_iinc (v := nI (f + 1)) (lv' := [(2, .int (nI (f + 1))), (0, .ref (bA b 0)), (1, .int (x)), (3, .int (nI (j)))]) hx hb dX0_indexOfEmptying_27 hl (k := 2) rfl (nI_1 _) (by decide) rfl (fun ls hl => ?_)
            refine lv_iinc (v := nI (j + 1)) (lv' := [(3, .int (nI (j + 1))), (2, .int (nI (f + 1))), (0, .ref (bA b 0)), (1, .int (x))]) hx hb dX0_indexOfEmptying_30 hl (k := 3) rfl (nI_1 _) (by decide) rfl (fun ls hl => ?_)
            refine lv_goto (tgt := 4) hx hb dX0_indexOfEmptying_33 (by decide) ?_
            exact ih (j + 1) (f + 1) ls (by omega) (by omega) (by omega) he (lv_sub hl [2, 3, 1, 0] rfl)
          · rw [if_pos c3] at he
            refine lv_iload_n hx hb dX0_indexOfEmptying_25 rfl (lv_at hl 3 rfl) ?_
            subst hQQ
            exact W.iret hx hb hr (fun t9 ht _ => rdI (by rw [← he]; rfl) ht) (fun q h => absurd h List.not_mem_nil) dX0_indexOfEmptying_26
  exact loop (bN b + 1) 0 0 ls (Nat.zero_le _) (Nat.le_refl _) (by omega) rfl (lv_sub hl [2, 3, 1, 0] rfl)
end
section
set_option maxHeartbeats 4000000 in
set_option maxRecDepth 100000 in
theorem k_hasRowWithin (l : Launch) (g : GG) (b : BinT) (lo hi : Int32) (hn : bN b ≤ 32) (hpl : ∀ i, i < bN b → bPl b i < 2 ^ 31) : Rz l yX0_hasRowWithin wsX0_hasRowWithin 1 22 [.ref (bA b 0), .int (lo), .int (hi)] g (wB g b) (bI ((List.range (bN b)).any (fun i => rowB b i && decide (lo ≤ nI (hrB b i) ∧ nI (hrB b i) ≤ hi)))) := by
  refine Met.ofW (cc := cX0_hasRowWithin) (maxL := 4) (ret := (some .boolean)) (by decide) rfl ?_
  intro p e s m args below meth c s₁ BB hml hv
  obtain ⟨hargs, hP, hK⟩ := hv
  have hx := BB.exec
  have hb := BB.bytes
  have hr := BB.returns
  have hts : ∀ w ∈ BIG, w.before args s = true := fun w h => atoms_spec (ws := wsX0_hasRowWithin) BB.pre w (List.mem_cons_of_mem _ h)
  have hown : s.vm.findClass RX0 = some m.cls := findClass_of_methodNamed BB.named
  have hlocks := BB.notSynchronized
  obtain ⟨RR, hRR⟩ : ∃ RR, RR = (headSpec wsX0_hasRowWithin ⟨1, 0, 0, 22⟩).room := ⟨_, rfl⟩
  have hR1 : RR.frames = 1 := by rw [hRR]; rfl
  have hR2 : RR.locals = 22 := by rw [hRR]; rfl
  have hR3 : RR.cells = 0 := by rw [hRR]; rfl
  have hR4 : RR.slots = 0 := by rw [hRR]; rfl
  have hl := lv_entry ([.ref (bA b 0), .int (lo), .int (hi)]) (n := 4) (Nat.le_of_ble_eq_true rfl)
  have hent : entryFrame m args 4 = F0 m 0 ((lg_sl ([.ref (bA b 0), .int (lo), .int (hi)]) ++ List.replicate (4 - (lg_sl ([.ref (bA b 0), .int (lo), .int (hi)])).length) Slot.unset).toArray) [] := by rw [hargs, lg_entry_eq]
  rw [hent]
  generalize (lg_sl ([.ref (bA b 0), .int (lo), .int (hi)]) ++ List.replicate (4 - (lg_sl ([.ref (bA b 0), .int (lo), .int (hi)])).length) Slot.unset).toArray = ls at hl ⊢
  have hl : lv_has ls 4 [(0, .ref (bA b 0)), (1, .int (lo)), (2, .int (hi))] := hl
  refine q_ab (R := RR) hRR ?_
  generalize hQQ : MQ below _ args s _ _ _ = QQ
  refine lv_iconst (v := nI (0)) hx hb dX0_hasRowWithin_0 (by decide) ?_
  refine lv_istore_n (lv' := [(3, .int (nI (0))), (0, .ref (bA b 0)), (1, .int (lo)), (2, .int (hi))]) hx hb dX0_hasRowWithin_1 rfl hl (by decide) rfl (fun ls hl => ?_)
  have loop : ∀ (k : Nat) (j : Nat) (ls : Array Slot), (j ≤ bN b) → (bN b < j + k) → (∀ i, i < j → (rowB b i && decide (lo ≤ nI (hrB b i) ∧ nI (hrB b i) ≤ hi)) = false) → lv_has ls 4 [(0, .ref (bA b 0)), (1, .int (lo)), (2, .int (hi)), (3, .int (nI (j)))] → W p l e RR s m args below meth c s.heap [] 0 0 QQ (F0 m 2 ls []) := by
    intro k
    induction k with
    | zero => intro j ls hj hk he hl; exact absurd hk (by omega)
    | succ k ih =>
      intro j ls hj hk he hl
      refine lv_iload_n hx hb dX0_hasRowWithin_2 rfl (lv_at hl 3 rfl) ?_
      refine lv_aload_n hx hb dX0_hasRowWithin_3 rfl (lv_at hl 0 rfl) ?_
      refine va_get (D := g.1) (ci := 0) (v := .int (nI (bN b))) (C := RX0) (T := TX0) (N := 8) hx hb hts hiX0 hown hK.1 hP 0 rfl rfl 6 (by decide) (hts _ w_fl_X0_32) (fun _ h9 => h9) rfl dX0_hasRowWithin_4 ?_
      refine bn_ge (tgt := 39) hx hb (by omega) (by omega) dX0_hasRowWithin_7 (by decide) (fun c1 => ?_) (fun c1 => ?_)
      · refine lv_iconst (v := bI (false)) hx hb dX0_hasRowWithin_39 (by decide) ?_
        subst hQQ
        exact W.zret hx hb hr (nar_b _) (fun t9 ht _ => rdI (by rw [any_f (fun i h => he i (by omega))]) ht) (fun q h => absurd h List.not_mem_nil) dX0_hasRowWithin_40
      · refine lv_aload_n hx hb dX0_hasRowWithin_10 rfl (lv_at hl 0 rfl) ?_
        refine lv_iload_n hx hb dX0_hasRowWithin_11 rfl (lv_at hl 3 rfl) ?_
        refine cR_i (W.runV (As := [.int (nI (j))]) (rest := []) ⟨hx, hb, hml, hown, hts⟩ (k_isRow l g b j (by omega) (hpl j c1)) (cwV 1 hts (gV w_ml_X0_38 w_im_X0_isRow w_sel_X0_isRow w_ini_X0 w_co_X0_isRow) rfl rfl rfl (by decide +kernel) (by rw [hR1, hR2]; exact ⟨Nat.le_of_ble_eq_true rfl, Nat.le_of_ble_eq_true rfl⟩)) (preV_rd hP hK (va_recv hK.1 hP (ci := 0) (q0 := 0) rfl rfl)) rfl rfl hl.1 rfl (lv_room (Nat.le_of_ble_eq_true rfl)) dX0_hasRowWithin_12 ⟨by rw [hR3]; omega, by rw [hR4]; omega⟩) ?_
        refine bb_eq (tgt := 33) hx hb dX0_hasRowWithin_15 (by decide) (fun c2 => ?_) (fun c2 => ?_)
        · refine lv_iinc (v := nI (j + 1)) (lv' := [(3, .int (nI (j + 1))), (0, .ref (bA b 0)), (1, .int (lo)), (2, .int (hi))]) hx hb dX0_hasRowWithin_33 hl (k := 3) rfl (nI_1 _) (by decide) rfl (fun ls hl => ?_)
          refine lv_goto (tgt := 2) hx hb dX0_hasRowWithin_36 (by decide) ?_
          exact ih (j + 1) ls (by omega) (by omega) (lt_s he (by rw [c2]; rfl)) (lv_sub hl [1, 2, 3, 0] rfl)
        · refine lv_aload_n hx hb dX0_hasRowWithin_18 rfl (lv_at hl 0 rfl) ?_
          refine lv_iload_n hx hb dX0_hasRowWithin_19 rfl (lv_at hl 3 rfl) ?_
          refine cR_i (W.runV (As := [.int (nI (j))]) (rest := []) ⟨hx, hb, hml, hown, hts⟩ (k_hourAt l g b j (by omega) (hpl j c1)) (cwV 1 hts (gV w_ml_X0_63 w_im_X0_hourAt w_sel_X0_hourAt w_ini_X0 w_co_X0_hourAt) rfl rfl rfl (by decide +kernel) (by rw [hR1, hR2]; exact ⟨Nat.le_of_ble_eq_true rfl, Nat.le_of_ble_eq_true rfl⟩)) (preV_rd hP hK (va_recv hK.1 hP (ci := 0) (q0 := 0) rfl rfl)) rfl rfl hl.1 rfl (lv_room (Nat.le_of_ble_eq_true rfl)) dX0_hasRowWithin_20 ⟨by rw [hR3]; omega, by rw [hR4]; omega⟩) ?_
          refine lv_iload_n hx hb dX0_hasRowWithin_23 rfl (lv_at hl 1 rfl) ?_
          refine lv_iload_n hx hb dX0_hasRowWithin_24 rfl (lv_at hl 2 rfl) ?_
          refine cR_i ((va_runSN (As := [.int (nI (hrB b j)), .int (lo), .int (hi)]) (rest := []) ⟨hx, hb, hml, hown, hts⟩ (k_isWithin l g (nI (hrB b j)) lo hi) ⟨va_cnB (host := "FillForecast") 3 hts (gI0 w_co_X4_isWithin) rfl rfl rfl hK.2.1 (hts _ w_ini_X4) (by decide +kernel) (by rw [hR1, hR2]; exact ⟨Nat.le_of_ble_eq_true rfl, Nat.le_of_ble_eq_true rfl⟩), hts _ w_sm_X4_isWithin, trivial⟩ (preS_rd (va_P.nil : va_P g.1 vwCl [] s.heap) hK) rfl rfl hl.1 rfl (lv_room (Nat.le_of_ble_eq_true rfl)) dX0_hasRowWithin_25 ⟨by rw [hR3]; omega, by rw [hR4]; omega⟩).run) ?_
          refine bb_eq (tgt := 33) hx hb dX0_hasRowWithin_28 (by decide) (fun c3 => ?_) (fun c3 => ?_)
          · refine lv_iinc (v := nI (j + 1)) (lv' := [(3, .int (nI (j + 1))), (0, .ref (bA b 0)), (1, .int (lo)), (2, .int (hi))]) hx hb dX0_hasRowWithin_33 hl (k := 3) rfl (nI_1 _) (by decide) rfl (fun ls hl => ?_)
            refine lv_goto (tgt := 2) hx hb dX0_hasRowWithin_36 (by decide) ?_
            exact ih (j + 1) ls (by omega) (by omega) (lt_s he (by rw [c3, Bool.and_false])) (lv_sub hl [1, 2, 3, 0] rfl)
          · refine lv_iconst (v := bI (true)) hx hb dX0_hasRowWithin_31 (by decide) ?_
            subst hQQ
            exact W.zret hx hb hr (nar_b _) (fun t9 ht _ => rdI (by rw [any_t c1 (by rw [c2, c3]; rfl)]) ht) (fun q h => absurd h List.not_mem_nil) dX0_hasRowWithin_32
  exact loop (bN b + 1) 0 ls (Nat.zero_le _) (by omega) lt_0 (lv_sub hl [1, 2, 3, 0] rfl)

set_option maxHeartbeats 4000000 in
set_option maxRecDepth 100000 in
theorem k_latestUpTo (l : Launch) (g : GG) (b : BinT) (q : Nat) (hn : bN b ≤ 32) (hpl : ∀ i, i < bN b → bPl b i < 2 ^ 31) (hq : q < 2 ^ 31) : Rd l yX0_latestUpTo wsX0_latestUpTo 0 0 [.ref (bA b 0), .int (nI (q))] g (wB g b) (gI (lst (fun i => decide (bPl b i ≤ q) && !bWr b i) (bN b))) := by
  refine Met.ofW (cc := cX0_latestUpTo) (maxL := 3) (ret := (some .int)) (by decide) rfl ?_
  intro p e s m args below meth c s₁ BB hml hv
  obtain ⟨hargs, hP, hK⟩ := hv
  have hx := BB.exec
  have hb := BB.bytes
  have hr := BB.returns
  have hts : ∀ w ∈ BIG, w.before args s = true := fun w h => atoms_spec (ws := wsX0_latestUpTo) BB.pre w (List.mem_cons_of_mem _ h)
  have hown : s.vm.findClass RX0 = some m.cls := findClass_of_methodNamed BB.named
  have hlocks := BB.notSynchronized
  obtain ⟨RR, hRR⟩ : ∃ RR, RR = (headSpec wsX0_latestUpTo ⟨0, 0, 0, 0⟩).room := ⟨_, rfl⟩
  have hR1 : RR.frames = 0 := by rw [hRR]; rfl
  have hR2 : RR.locals = 0 := by rw [hRR]; rfl
  have hR3 : RR.cells = 0 := by rw [hRR]; rfl
  have hR4 : RR.slots = 0 := by rw [hRR]; rfl
  have hl := lv_entry ([.ref (bA b 0), .int (nI (q))]) (n := 3) (Nat.le_of_ble_eq_true rfl)
  have hent : entryFrame m args 3 = F0 m 0 ((lg_sl ([.ref (bA b 0), .int (nI (q))]) ++ List.replicate (3 - (lg_sl ([.ref (bA b 0), .int (nI (q))])).length) Slot.unset).toArray) [] := by rw [hargs, lg_entry_eq]
  rw [hent]
  generalize (lg_sl ([.ref (bA b 0), .int (nI (q))]) ++ List.replicate (3 - (lg_sl ([.ref (bA b 0), .int (nI (q))])).length) Slot.unset).toArray = ls at hl ⊢
  have hl : lv_has ls 3 [(0, .ref (bA b 0)), (1, .int (nI (q)))] := hl
  refine q_ab (R := RR) hRR ?_
  generalize hQQ : MQ below _ args s _ _ _ = QQ
  refine lv_aload_n hx hb dX0_latestUpTo_0 rfl (lv_at hl 0 rfl) ?_
  refine va_get (D := g.1) (ci := 0) (v := .int (nI (bN b))) (C := RX0) (T := TX0) (N := 8) hx hb hts hiX0 hown hK.1 hP 0 rfl rfl 6 (by decide) (hts _ w_fl_X0_32) (fun _ h9 => h9) rfl dX0_latestUpTo_1 ?_
  refine lv_iconst (v := nI (1)) hx hb dX0_latestUpTo_4 (by decide) ?_
  refine lv_isub hx hb dX0_latestUpTo_5 ?_
  refine lv_istore_n (lv' := [(2, .int (nI (bN b) - nI (1))), (0, .ref (bA b 0)), (1, .int (nI (q)))]) hx hb dX0_latestUpTo_6 rfl hl (by decide) rfl (fun ls hl => ?_)
  have loop : ∀ (k : Nat) (j : Nat) (ls : Array Slot), (j ≤ bN b) → (j < k) → (lst (fun i => decide (bPl b i ≤ q) && !bWr b i) j = lst (fun i => decide (bPl b i ≤ q) && !bWr b i) (bN b)) → lv_has ls 3 [(0, .ref (bA b 0)), (1, .int (nI (q))), (2, .int (nI j - nI 1))] → W p l e RR s m args below meth c s.heap [] 0 0 QQ (F0 m 7 ls []) := by
    intro k
    induction k with
    | zero => intro j ls hj hk he hl; exact absurd hk (by omega)
    | succ k ih =>
      intro j ls hj hk he hl
      refine lv_iload_n hx hb dX0_latestUpTo_7 rfl (lv_at hl 2 rfl) ?_
      cases j with
      | zero =>
        refine lv_if_lt (tgt := 38) hx hb dX0_latestUpTo_8 (by decide) (fun c1 => ?_) (fun c1 => ?_)
        · refine lv_iconst (v := (-1)) hx hb dX0_latestUpTo_38 (by decide) ?_
          subst hQQ
          exact W.iret hx hb hr (fun t9 ht _ => rdI (by rw [← he]; rfl) ht) (fun q h => absurd h List.not_mem_nil) dX0_latestUpTo_39
        · exact absurd (by decide) c1
      | succ j =>
        have ej : nI (j + 1) - nI 1 = nI j := pk_sub (by omega)
        rw [ej] at hl
        have hl : lv_has ls 3 [(0, .ref (bA b 0)), (1, .int (nI (q))), (2, .int (nI (j)))] := hl
        refine tp_i ej ?_
        refine lv_if_lt (tgt := 38) hx hb dX0_latestUpTo_8 (by decide) (fun c1 => ?_) (fun c1 => ?_)
        · exact absurd c1 (nI_pos (by omega))
        · have hpj := hpl j hj
          rw [lst] at he
          refine lv_aload_n hx hb dX0_latestUpTo_11 rfl (lv_at hl 0 rfl) ?_
          refine va_get (D := g.1) (ci := 0) (v := .ref (bA b 1)) (C := RX0) (T := TX0) (N := 8) hx hb hts hiX0 hown hK.1 hP 0 rfl rfl 2 (by decide) (hts _ w_fl_X0_18) (fun _ h9 => h9) rfl dX0_latestUpTo_12 ?_
          refine lv_iload_n hx hb dX0_latestUpTo_15 rfl (lv_at hl 2 rfl) ?_
          refine n_iald (k := j) (v := nI (bPl b j)) hx hb hK.1 hP 1 0 rfl rfl (by omega) (by decide) (rfl) dX0_latestUpTo_16 ?_
          refine lv_iload_n hx hb dX0_latestUpTo_17 rfl (lv_at hl 1 rfl) ?_
          refine bn_gt (tgt := 32) hx hb (by omega) (by omega) dX0_latestUpTo_18 (by decide) (fun c2 => ?_) (fun c2 => ?_)
          · rw [if_neg (by rw [decide_eq_false (by omega), Bool.false_and]; decide)] at he
            refine lv_iinc (v := (nI j - nI 1)) (lv' := [(2, .int (nI j - nI 1)), (0, .ref (bA b 0)), (1, .int (nI (q)))]) hx hb dX0_latestUpTo_32 hl (k := 2) rfl (i_dec _) (by decide) rfl (fun ls hl => ?_)
            refine lv_goto (tgt := 7) hx hb dX0_latestUpTo_35 (by decide) ?_
            exact ih j ls (by omega) (by omega) he (lv_sub hl [1, 2, 0] rfl)
          · refine lv_aload_n hx hb dX0_latestUpTo_21 rfl (lv_at hl 0 rfl) ?_
            refine va_get (D := g.1) (ci := 0) (v := .ref (bA b 3)) (C := RX0) (T := TX0) (N := 8) hx hb hts hiX0 hown hK.1 hP 0 rfl rfl 4 (by decide) (hts _ w_fl_X0_25) (fun _ h9 => h9) rfl dX0_latestUpTo_22 ?_
            refine lv_iload_n hx hb dX0_latestUpTo_25 rfl (lv_at hl 2 rfl) ?_
            refine n_zald (k := j) (v := bI (bWr b j)) hx hb hK.1 hP 3 1 rfl rfl (by omega) (by decide) (rfl) dX0_latestUpTo_26 ?_
            refine bb_ne (tgt := 32) hx hb dX0_latestUpTo_27 (by decide) (fun c3 => ?_) (fun c3 => ?_)
            · rw [if_neg (by rw [c3]; simp)] at he
              refine lv_iinc (v := (nI j - nI 1)) (lv' := [(2, .int (nI j - nI 1)), (0, .ref (bA b 0)), (1, .int (nI (q)))]) hx hb dX0_latestUpTo_32 hl (k := 2) rfl (i_dec _) (by decide) rfl (fun ls hl => ?_)
              refine lv_goto (tgt := 7) hx hb dX0_latestUpTo_35 (by decide) ?_
              exact ih j ls (by omega) (by omega) he (lv_sub hl [1, 2, 0] rfl)
            · rw [if_pos (by rw [c3, decide_eq_true c2]; rfl)] at he
              refine lv_iload_n hx hb dX0_latestUpTo_30 rfl (lv_at hl 2 rfl) ?_
              subst hQQ
              exact W.iret hx hb hr (fun t9 ht _ => rdI (by rw [← he]; rfl) ht) (fun q h => absurd h List.not_mem_nil) dX0_latestUpTo_31
  exact loop (bN b + 1) (bN b) ls (Nat.le_refl _) (by omega) rfl (lv_sub hl [1, 2, 0] rfl)

set_option maxHeartbeats 4000000 in
set_option maxRecDepth 100000 in
theorem k_weekdayOf (l : Launch) (g : GG) (ca : Nat → Nat) (hol : Nat → Bool) (d : Nat) (hd : d < 417) : Rd l yX1_weekdayOf wsX1_weekdayOf 0 0 [.ref (ca 0), .int (nI (d))] g (wC g ca hol) (nI (wdy hol d)) := by
  refine Met.ofW (cc := cX1_weekdayOf) (maxL := 2) (ret := (some .int)) (by decide) rfl ?_
  intro p e s m args below meth c s₁ BB hml hv
  obtain ⟨hargs, hP, hK⟩ := hv
  have hx := BB.exec
  have hb := BB.bytes
  have hr := BB.returns
  have hts : ∀ w ∈ BIG, w.before args s = true := fun w h => atoms_spec (ws := wsX1_weekdayOf) BB.pre w (List.mem_cons_of_mem _ h)
  have hown : s.vm.findClass RX1 = some m.cls := findClass_of_methodNamed BB.named
  have hlocks := BB.notSynchronized
  obtain ⟨RR, hRR⟩ : ∃ RR, RR = (headSpec wsX1_weekdayOf ⟨0, 0, 0, 0⟩).room := ⟨_, rfl⟩
  have hR1 : RR.frames = 0 := by rw [hRR]; rfl
  have hR2 : RR.locals = 0 := by rw [hRR]; rfl
  have hR3 : RR.cells = 0 := by rw [hRR]; rfl
  have hR4 : RR.slots = 0 := by rw [hRR]; rfl
  have hl := lv_entry ([.ref (ca 0), .int (nI (d))]) (n := 2) (Nat.le_of_ble_eq_true rfl)
  have hent : entryFrame m args 2 = F0 m 0 ((lg_sl ([.ref (ca 0), .int (nI (d))]) ++ List.replicate (2 - (lg_sl ([.ref (ca 0), .int (nI (d))])).length) Slot.unset).toArray) [] := by rw [hargs, lg_entry_eq]
  rw [hent]
  generalize (lg_sl ([.ref (ca 0), .int (nI (d))]) ++ List.replicate (2 - (lg_sl ([.ref (ca 0), .int (nI (d))])).length) Slot.unset).toArray = ls at hl ⊢
  have hl : lv_has ls 2 [(0, .ref (ca 0)), (1, .int (nI (d)))] := hl
  refine q_ab (R := RR) hRR ?_
  generalize hQQ : MQ below _ args s _ _ _ = QQ
  refine lv_aload_n hx hb dX1_weekdayOf_0 rfl (lv_at hl 0 rfl) ?_
  refine va_get (D := g.1) (ci := 1) (v := .ref (ca 1)) (C := RX1) (T := TX1) (N := 1) hx hb hts hiX1 hown hK.1 hP 0 rfl rfl 0 (by decide) (hts _ w_fl_X1_9) (fun _ h9 => h9) rfl dX1_weekdayOf_1 ?_
  refine lv_iload_n hx hb dX1_weekdayOf_4 rfl (lv_at hl 1 rfl) ?_
  refine n_zald (k := d) (v := bI (hol d)) hx hb hK.1 hP 1 1 rfl rfl (by omega) (by decide) (rfl) dX1_weekdayOf_5 ?_
  refine bb_eq (tgt := 14) hx hb dX1_weekdayOf_6 (by decide) (fun c1 => ?_) (fun c1 => ?_)
  · refine lv_iload_n hx hb dX1_weekdayOf_14 rfl (lv_at hl 1 rfl) ?_
    refine lv_bipush (v := nI (7)) hx hb dX1_weekdayOf_15 (by decide) ?_
    refine n_irem hx hb (by omega) (by omega) (by omega) dX1_weekdayOf_17 ?_
    subst hQQ
    exact W.iret hx hb hr (fun t9 ht _ => rdI (by rw [wdy, c1]; rfl) ht) (fun q h => absurd h List.not_mem_nil) dX1_weekdayOf_18
  · refine lv_bipush (v := nI (6)) hx hb dX1_weekdayOf_9 (by decide) ?_
    refine lv_goto (tgt := 18) hx hb dX1_weekdayOf_11 (by decide) ?_
    subst hQQ
    exact W.iret hx hb hr (fun t9 ht _ => rdI (by rw [wdy, c1]; rfl) ht) (fun q h => absurd h List.not_mem_nil) dX1_weekdayOf_18

set_option maxHeartbeats 4000000 in
set_option maxRecDepth 100000 in
theorem k_weightOf (l : Launch) (g : GG) (fa : Nat → Nat) (wt : Nat → Nat) (a : Nat) (ha : a < 8) : Rd l yX2_weightOf wsX2_weightOf 0 0 [.ref (fa 0), .int (nI (a))] g (wF g fa wt) (nI (wt a)) := by
  refine Met.ofW (cc := cX2_weightOf) (maxL := 2) (ret := (some .int)) (by decide) rfl ?_
  intro p e s m args below meth c s₁ BB hml hv
  obtain ⟨hargs, hP, hK⟩ := hv
  have hx := BB.exec
  have hb := BB.bytes
  have hr := BB.returns
  have hts : ∀ w ∈ BIG, w.before args s = true := fun w h => atoms_spec (ws := wsX2_weightOf) BB.pre w (List.mem_cons_of_mem _ h)
  have hown : s.vm.findClass RX2 = some m.cls := findClass_of_methodNamed BB.named
  have hlocks := BB.notSynchronized
  obtain ⟨RR, hRR⟩ : ∃ RR, RR = (headSpec wsX2_weightOf ⟨0, 0, 0, 0⟩).room := ⟨_, rfl⟩
  have hR1 : RR.frames = 0 := by rw [hRR]; rfl
  have hR2 : RR.locals = 0 := by rw [hRR]; rfl
  have hR3 : RR.cells = 0 := by rw [hRR]; rfl
  have hR4 : RR.slots = 0 := by rw [hRR]; rfl
  have hl := lv_entry ([.ref (fa 0), .int (nI (a))]) (n := 2) (Nat.le_of_ble_eq_true rfl)
  have hent : entryFrame m args 2 = F0 m 0 ((lg_sl ([.ref (fa 0), .int (nI (a))]) ++ List.replicate (2 - (lg_sl ([.ref (fa 0), .int (nI (a))])).length) Slot.unset).toArray) [] := by rw [hargs, lg_entry_eq]
  rw [hent]
  generalize (lg_sl ([.ref (fa 0), .int (nI (a))]) ++ List.replicate (2 - (lg_sl ([.ref (fa 0), .int (nI (a))])).length) Slot.unset).toArray = ls at hl ⊢
  have hl : lv_has ls 2 [(0, .ref (fa 0)), (1, .int (nI (a)))] := hl
  refine q_ab (R := RR) hRR ?_
  generalize hQQ : MQ below _ args s _ _ _ = QQ
  refine lv_aload_n hx hb dX2_weightOf_0 rfl (lv_at hl 0 rfl) ?_
  refine va_get (D := g.1) (ci := 2) (v := .ref (fa 1)) (C := RX2) (T := TX2) (N := 1) hx hb hts hiX2 hown hK.1 hP 0 rfl rfl 0 (by decide) (hts _ w_fl_X2_9) (fun _ h9 => h9) rfl dX2_weightOf_1 ?_
  refine lv_iload_n hx hb dX2_weightOf_4 rfl (lv_at hl 1 rfl) ?_
  refine n_iald (k := a) (v := nI (wt a)) hx hb hK.1 hP 1 0 rfl rfl (by omega) (by decide) (rfl) dX2_weightOf_5 ?_
  subst hQQ
  exact W.iret hx hb hr (fun t9 ht _ => rdI (rfl) ht) (fun q h => absurd h List.not_mem_nil) dX2_weightOf_6

set_option maxHeartbeats 4000000 in
set_option maxRecDepth 100000 in
theorem k_gainFrom (l : Launch) (g : GG) (b : BinT) (i j : Nat) (hi : i < 32) (hj : j < 32) (hpi : bPl b i < 2 ^ 31) (hpj : bPl b j < 2 ^ 31) (hh : hrB b i < hrB b j) (hs : shB b i ≤ shB b j) (hs2 : shB b j ≤ 1500) : Rd l yX0_gainFrom wsX0_gainFrom 2 42 [.ref (bA b 0), .int (nI (i)), .int (nI (j))] g (wB g b) (nI ((shB b j - shB b i) * 24 / (hrB b j - hrB b i))) := by
  refine Met.ofW (cc := cX0_gainFrom) (maxL := 4) (ret := (some .int)) (by decide) rfl ?_
  intro p e s m args below meth c s₁ BB hml hv
  obtain ⟨hargs, hP, hK⟩ := hv
  have hx := BB.exec
  have hb := BB.bytes
  have hr := BB.returns
  have hts : ∀ w ∈ BIG, w.before args s = true := fun w h => atoms_spec (ws := wsX0_gainFrom) BB.pre w (List.mem_cons_of_mem _ h)
  have hown : s.vm.findClass RX0 = some m.cls := findClass_of_methodNamed BB.named
  have hlocks := BB.notSynchronized
  obtain ⟨RR, hRR⟩ : ∃ RR, RR = (headSpec wsX0_gainFrom ⟨2, 0, 0, 42⟩).room := ⟨_, rfl⟩
  have hR1 : RR.frames = 2 := by rw [hRR]; rfl
  have hR2 : RR.locals = 42 := by rw [hRR]; rfl
  have hR3 : RR.cells = 0 := by rw [hRR]; rfl
  have hR4 : RR.slots = 0 := by rw [hRR]; rfl
  have hl := lv_entry ([.ref (bA b 0), .int (nI (i)), .int (nI (j))]) (n := 4) (Nat.le_of_ble_eq_true rfl)
  have hent : entryFrame m args 4 = F0 m 0 ((lg_sl ([.ref (bA b 0), .int (nI (i)), .int (nI (j))]) ++ List.replicate (4 - (lg_sl ([.ref (bA b 0), .int (nI (i)), .int (nI (j))])).length) Slot.unset).toArray) [] := by rw [hargs, lg_entry_eq]
  rw [hent]
  generalize (lg_sl ([.ref (bA b 0), .int (nI (i)), .int (nI (j))]) ++ List.replicate (4 - (lg_sl ([.ref (bA b 0), .int (nI (i)), .int (nI (j))])).length) Slot.unset).toArray = ls at hl ⊢
  have hl : lv_has ls 4 [(0, .ref (bA b 0)), (1, .int (nI (i))), (2, .int (nI (j)))] := hl
  refine q_ab (R := RR) hRR ?_
  generalize hQQ : MQ below _ args s _ _ _ = QQ
  have hh2 : hrB b j < 2 ^ 30 := by unfold hrB; omega
  refine lv_aload_n hx hb dX0_gainFrom_0 rfl (lv_at hl 0 rfl) ?_
  refine lv_iload_n hx hb dX0_gainFrom_1 rfl (lv_at hl 2 rfl) ?_
  refine cR_i (W.runV (As := [.int (nI (j))]) (rest := []) ⟨hx, hb, hml, hown, hts⟩ (k_hourAt l g b j hj hpj) (cwV 1 hts (gV w_ml_X0_63 w_im_X0_hourAt w_sel_X0_hourAt w_ini_X0 w_co_X0_hourAt) rfl rfl rfl (by decide +kernel) (by rw [hR1, hR2]; exact ⟨Nat.le_of_ble_eq_true rfl, Nat.le_of_ble_eq_true rfl⟩)) (preV_rd hP hK (va_recv hK.1 hP (ci := 0) (q0 := 0) rfl rfl)) rfl rfl hl.1 rfl (lv_room (Nat.le_of_ble_eq_true rfl)) dX0_gainFrom_2 ⟨by rw [hR3]; omega, by rw [hR4]; omega⟩) ?_
  refine lv_aload_n hx hb dX0_gainFrom_5 rfl (lv_at hl 0 rfl) ?_
  refine lv_iload_n hx hb dX0_gainFrom_6 rfl (lv_at hl 1 rfl) ?_
  refine cR_i (W.runV (As := [.int (nI (i))]) (rest := [.int (nI (hrB b j))]) ⟨hx, hb, hml, hown, hts⟩ (k_hourAt l g b i hi hpi) (cwV 1 hts (gV w_ml_X0_63 w_im_X0_hourAt w_sel_X0_hourAt w_ini_X0 w_co_X0_hourAt) rfl rfl rfl (by decide +kernel) (by rw [hR1, hR2]; exact ⟨Nat.le_of_ble_eq_true rfl, Nat.le_of_ble_eq_true rfl⟩)) (preV_rd hP hK (va_recv hK.1 hP (ci := 0) (q0 := 0) rfl rfl)) rfl rfl hl.1 rfl (lv_room (Nat.le_of_ble_eq_true rfl)) dX0_gainFrom_7 ⟨by rw [hR3]; omega, by rw [hR4]; omega⟩) ?_
  refine n_isub hx hb (by omega) dX0_gainFrom_10 ?_
  refine lv_istore_n (lv' := [(3, .int (nI ((hrB b j) - (hrB b i)))), (0, .ref (bA b 0)), (1, .int (nI (i))), (2, .int (nI (j)))]) hx hb dX0_gainFrom_11 rfl hl (by decide) rfl (fun ls hl => ?_)
  refine lv_iload_n hx hb dX0_gainFrom_12 rfl (lv_at hl 0 rfl) ?_
  refine bz_le (tgt := 35) hx hb (by omega) dX0_gainFrom_13 (by decide) (fun c1 => ?_) (fun c1 => ?_)
  · exact absurd c1 (by omega)
  · refine lv_aload_n hx hb dX0_gainFrom_16 rfl (lv_at hl 1 rfl) ?_
    refine lv_iload_n hx hb dX0_gainFrom_17 rfl (lv_at hl 3 rfl) ?_
    refine cR_i (W.runV (As := [.int (nI (j))]) (rest := []) ⟨hx, hb, hml, hown, hts⟩ (k_shareAt l g b j hj hpj) (cwV 1 hts (gV w_ml_X0_80 w_im_X0_shareAt w_sel_X0_shareAt w_ini_X0 w_co_X0_shareAt) rfl rfl rfl (by decide +kernel) (by rw [hR1, hR2]; exact ⟨Nat.le_of_ble_eq_true rfl, Nat.le_of_ble_eq_true rfl⟩)) (preV_rd hP hK (va_recv hK.1 hP (ci := 0) (q0 := 0) rfl rfl)) rfl rfl hl.1 rfl (lv_room (Nat.le_of_ble_eq_true rfl)) dX0_gainFrom_18 ⟨by rw [hR3]; omega, by rw [hR4]; omega⟩) ?_
    refine lv_aload_n hx hb dX0_gainFrom_21 rfl (lv_at hl 1 rfl) ?_
    refine lv_iload_n hx hb dX0_gainFrom_22 rfl (lv_at hl 2 rfl) ?_
    refine cR_i (W.runV (As := [.int (nI (i))]) (rest := [.int (nI (shB b j))]) ⟨hx, hb, hml, hown, hts⟩ (k_shareAt l g b i hi hpi) (cwV 1 hts (gV w_ml_X0_80 w_im_X0_shareAt w_sel_X0_shareAt w_ini_X0 w_co_X0_shareAt) rfl rfl rfl (by decide +kernel) (by rw [hR1, hR2]; exact ⟨Nat.le_of_ble_eq_true rfl, Nat.le_of_ble_eq_true rfl⟩)) (preV_rd hP hK (va_recv hK.1 hP (ci := 0) (q0 := 0) rfl rfl)) rfl rfl hl.1 rfl (lv_room (Nat.le_of_ble_eq_true rfl)) dX0_gainFrom_23 ⟨by rw [hR3]; omega, by rw [hR4]; omega⟩) ?_
    refine n_isub hx hb (by omega) dX0_gainFrom_26 ?_
    refine lv_bipush (v := nI (24)) hx hb dX0_gainFrom_27 (by decide) ?_
    refine n_imul hx hb dX0_gainFrom_29 ?_
    refine lv_iload_n hx hb dX0_gainFrom_30 rfl (lv_at hl 0 rfl) ?_
    refine n_idiv hx hb (by omega) (by omega) (by omega) dX0_gainFrom_31 ?_
    refine lv_goto (tgt := 36) hx hb dX0_gainFrom_32 (by decide) ?_
    subst hQQ
    exact W.iret hx hb hr (fun t9 ht _ => rdI (rfl) ht) (fun q h => absurd h List.not_mem_nil) dX0_gainFrom_36
end
section
set_option maxHeartbeats 4000000 in
set_option maxRecDepth 100000 in
theorem k_meanOn (l : Launch) (g : GG) (b : BinT) (ca fa : Nat → Nat) (hol : Nat → Bool) (wt : Nat → Nat) (wd : Nat) (hwd : wd < 7) (hn : bN b ≤ 32) (hpl : ∀ i, i < bN b → bPl b i < 20000) (hg : ∀ i v, i < bN b → bGn b i = some v → v ≤ 36000) (hw : ∀ a, a < 8 → 1 ≤ wt a ∧ wt a ≤ 4782969) : Rd l yX0_meanOn wsX0_meanOn 1 21 [.ref (bA b 0), .int (nI (wd)), .ref (ca 0), .ref (fa 0)] g (wB g b ++ (wC g ca hol ++ wF g fa wt)) (gI (mnV (mnR (fun i => if wdy hol (hrB b i / 24) = wd then bGn b i else none) wt (bN b) 0))) := by
  refine Met.ofW (cc := cX0_meanOn) (maxL := 12) (ret := (some .int)) (by decide) rfl ?_
  intro p e s m args below meth c s₁ BB hml hv
  obtain ⟨hargs, hP, hK⟩ := hv
  have hx := BB.exec
  have hb := BB.bytes
  have hr := BB.returns
  have hts : ∀ w ∈ BIG, w.before args s = true := fun w h => atoms_spec (ws := wsX0_meanOn) BB.pre w (List.mem_cons_of_mem _ h)
  have hown : s.vm.findClass RX0 = some m.cls := findClass_of_methodNamed BB.named
  have hlocks := BB.notSynchronized
  obtain ⟨RR, hRR⟩ : ∃ RR, RR = (headSpec wsX0_meanOn ⟨1, 0, 0, 21⟩).room := ⟨_, rfl⟩
  have hR1 : RR.frames = 1 := by rw [hRR]; rfl
  have hR2 : RR.locals = 21 := by rw [hRR]; rfl
  have hR3 : RR.cells = 0 := by rw [hRR]; rfl
  have hR4 : RR.slots = 0 := by rw [hRR]; rfl
  have hl := lv_entry ([.ref (bA b 0), .int (nI (wd)), .ref (ca 0), .ref (fa 0)]) (n := 12) (Nat.le_of_ble_eq_true rfl)
  have hent : entryFrame m args 12 = F0 m 0 ((lg_sl ([.ref (bA b 0), .int (nI (wd)), .ref (ca 0), .ref (fa 0)]) ++ List.replicate (12 - (lg_sl ([.ref (bA b 0), .int (nI (wd)), .ref (ca 0), .ref (fa 0)])).length) Slot.unset).toArray) [] := by rw [hargs, lg_entry_eq]
  rw [hent]
  generalize (lg_sl ([.ref (bA b 0), .int (nI (wd)), .ref (ca 0), .ref (fa 0)]) ++ List.replicate (12 - (lg_sl ([.ref (bA b 0), .int (nI (wd)), .ref (ca 0), .ref (fa 0)])).length) Slot.unset).toArray = ls at hl ⊢
  have hl : lv_has ls 12 [(0, .ref (bA b 0)), (1, .int (nI (wd))), (2, .ref (ca 0)), (3, .ref (fa 0))] := hl
  refine q_ab (R := RR) hRR ?_
  generalize hQQ : MQ below _ args s _ _ _ = QQ
  have hPb := P_left hP
  have hPc := P_left (P_right hP)
  have hPf := P_right (P_right hP)
  refine lv_lconst (v := lN 0) hx hb dX0_meanOn_0 (by decide) ?_
  refine lv_lstore (lv' := [(4, .long (lN (0))), (0, .ref (bA b 0)), (1, .int (nI (wd))), (2, .ref (ca 0)), (3, .ref (fa 0))]) hx hb dX0_meanOn_1 hl (by decide) rfl (fun ls hl => ?_)
  refine lv_lconst (v := lN 0) hx hb dX0_meanOn_3 (by decide) ?_
  refine lv_lstore (lv' := [(6, .long (lN (0))), (4, .long (lN (0))), (0, .ref (bA b 0)), (1, .int (nI (wd))), (2, .ref (ca 0)), (3, .ref (fa 0))]) hx hb dX0_meanOn_4 hl (by decide) rfl (fun ls hl => ?_)
  refine lv_iconst (v := nI (0)) hx hb dX0_meanOn_6 (by decide) ?_
  refine lv_istore (lv' := [(8, .int (nI (0))), (6, .long (lN (0))), (4, .long (lN (0))), (0, .ref (bA b 0)), (1, .int (nI (wd))), (2, .ref (ca 0)), (3, .ref (fa 0))]) hx hb dX0_meanOn_7 hl (by decide) rfl (fun ls hl => ?_)
  refine lv_aload_n hx hb dX0_meanOn_9 rfl (lv_at hl 3 rfl) ?_
  refine va_get (D := g.1) (ci := 0) (v := .int (nI (bN b))) (C := RX0) (T := TX0) (N := 8) hx hb hts hiX0 hown hK.1 hP 0 rfl rfl 6 (by decide) (hts _ w_fl_X0_32) (fun _ h9 => h9) rfl dX0_meanOn_10 ?_
  refine lv_iconst (v := nI (1)) hx hb dX0_meanOn_13 (by decide) ?_
  refine lv_isub hx hb dX0_meanOn_14 ?_
  refine lv_istore (lv' := [(9, .int (nI (bN b) - nI (1))), (8, .int (nI (0))), (6, .long (lN (0))), (4, .long (lN (0))), (0, .ref (bA b 0)), (1, .int (nI (wd))), (2, .ref (ca 0)), (3, .ref (fa 0))]) hx hb dX0_meanOn_15 hl (by decide) rfl (fun ls hl => ?_)
  have loop : ∀ (k : Nat) (j : Nat) (a : Nat) (S : Nat) (T : Nat) (ls : Array Slot), (j ≤ bN b) → (a ≤ 8) → (j < k) → (S ≤ a * 172186884000) → (T ≤ a * 4782969) → ((S + (mnR (fun i => if wdy hol (hrB b i / 24) = wd then bGn b i else none) wt j a).1, T + (mnR (fun i => if wdy hol (hrB b i / 24) = wd then bGn b i else none) wt j a).2) = mnR (fun i => if wdy hol (hrB b i / 24) = wd then bGn b i else none) wt (bN b) 0) → lv_has ls 12 [(0, .ref (bA b 0)), (1, .int (nI (wd))), (2, .ref (ca 0)), (3, .ref (fa 0)), (4, .long (lN (S))), (6, .long (lN (T))), (8, .int (nI (a))), (9, .int (nI j - nI 1))] → W p l e RR s m args below meth c s.heap [] 0 0 QQ (F0 m 17 ls []) := by
    intro k
    induction k with
    | zero => intro j a S T ls hj ha hk hS1 hT1 he hl; exact absurd hk (by omega)
    | succ k ih =>
      intro j a S T ls hj ha hk hS1 hT1 he hl
      refine lv_iload hx hb dX0_meanOn_17 (lv_at hl 7 rfl) ?_
      cases j with
      | zero =>
        refine lv_if_lt (tgt := 98) hx hb dX0_meanOn_19 (by decide) (fun c1 => ?_) (fun c1 => ?_)
        · have he : (S, T) = mnR (fun i => if wdy hol (hrB b i / 24) = wd then bGn b i else none) wt (bN b) 0 := by rw [← he, mnR]; rfl
          refine lv_lload hx hb dX0_meanOn_98 (lv_at hl 5 rfl) ?_
          refine lv_lconst (v := lN 0) hx hb dX0_meanOn_100 (by decide) ?_
          refine W.lcmp hx hb dX0_meanOn_101 ?_
          refine bl_le (tgt := 114) hx hb (by omega) (by omega) dX0_meanOn_102 (by decide) (fun c9 => ?_) (fun c9 => ?_)
          · refine lv_iconst (v := (-1)) hx hb dX0_meanOn_114 (by decide) ?_
            subst hQQ
            exact W.iret hx hb hr (fun t9 ht _ => rdI (by rw [← he, mnV, if_pos (by omega)]; rfl) ht) (fun q h => absurd h List.not_mem_nil) dX0_meanOn_115
          · refine lv_lload hx hb dX0_meanOn_105 (lv_at hl 4 rfl) ?_
            refine lv_lload hx hb dX0_meanOn_107 (lv_at hl 5 rfl) ?_
            refine n_ldiv hx hb (by omega) (by omega) (by omega) dX0_meanOn_109 ?_
            refine n_l2i hx hb dX0_meanOn_110 ?_
            refine lv_goto (tgt := 115) hx hb dX0_meanOn_111 (by decide) ?_
            subst hQQ
            exact W.iret hx hb hr (fun t9 ht _ => rdI (by rw [← he, mnV, if_neg (by omega)]; rfl) ht) (fun q h => absurd h List.not_mem_nil) dX0_meanOn_115
        · exact absurd (by decide) c1
      | succ j =>
        have ej : nI (j + 1) - nI 1 = nI j := pk_sub (by omega)
        rw [ej] at hl
        have hl : lv_has ls 12 [(0, .ref (bA b 0)), (1, .int (nI (wd))), (2, .ref (ca 0)), (3, .ref (fa 0)), (4, .long (lN (S))), (6, .long (lN (T))), (8, .int (nI (a))), (9, .int (nI (j)))] := hl
        refine tp_i ej ?_
        refine lv_if_lt (tgt := 98) hx hb dX0_meanOn_19 (by decide) (fun c1 => ?_) (fun c1 => ?_)
        · exact absurd c1 (nI_pos (by omega))
        · refine lv_iload hx hb dX0_meanOn_22 (lv_at hl 6 rfl) ?_
          refine lv_bipush (v := nI (8)) hx hb dX0_meanOn_24 (by decide) ?_
          refine bn_ge (tgt := 98) hx hb (by omega) (by omega) dX0_meanOn_26 (by decide) (fun c2 => ?_) (fun c2 => ?_)
          · have he : (S, T) = mnR (fun i => if wdy hol (hrB b i / 24) = wd then bGn b i else none) wt (bN b) 0 := by rw [← he, mnR, if_neg (by omega)]; rfl
            refine lv_lload hx hb dX0_meanOn_98 (lv_at hl 5 rfl) ?_
            refine lv_lconst (v := lN 0) hx hb dX0_meanOn_100 (by decide) ?_
            refine W.lcmp hx hb dX0_meanOn_101 ?_
            refine bl_le (tgt := 114) hx hb (by omega) (by omega) dX0_meanOn_102 (by decide) (fun c9 => ?_) (fun c9 => ?_)
            · refine lv_iconst (v := (-1)) hx hb dX0_meanOn_114 (by decide) ?_
              subst hQQ
              exact W.iret hx hb hr (fun t9 ht _ => rdI (by rw [← he, mnV, if_pos (by omega)]; rfl) ht) (fun q h => absurd h List.not_mem_nil) dX0_meanOn_115
            · refine lv_lload hx hb dX0_meanOn_105 (lv_at hl 4 rfl) ?_
              refine lv_lload hx hb dX0_meanOn_107 (lv_at hl 5 rfl) ?_
              refine n_ldiv hx hb (by omega) (by omega) (by omega) dX0_meanOn_109 ?_
              refine n_l2i hx hb dX0_meanOn_110 ?_
              refine lv_goto (tgt := 115) hx hb dX0_meanOn_111 (by decide) ?_
              subst hQQ
              exact W.iret hx hb hr (fun t9 ht _ => rdI (by rw [← he, mnV, if_neg (by omega)]; rfl) ht) (fun q h => absurd h List.not_mem_nil) dX0_meanOn_115
          · have hpj := hpl j hj
            have hh : hrB b j < 10000 := by unfold hrB; omega
            rw [mnR, if_pos c2] at he
            refine lv_aload_n hx hb dX0_meanOn_29 rfl (lv_at hl 0 rfl) ?_
            refine va_get (D := g.1) (ci := 0) (v := .ref (bA b 4)) (C := RX0) (T := TX0) (N := 8) hx hb hts hiX0 hown hK.1 hP 0 rfl rfl 5 (by decide) (hts _ w_fl_X0_29) (fun _ h9 => h9) rfl dX0_meanOn_30 ?_
            refine lv_iload hx hb dX0_meanOn_33 (lv_at hl 7 rfl) ?_
            refine n_iald (k := j) (v := (gI (bGn b j))) hx hb hK.1 hP 4 0 rfl rfl (by omega) (by decide) (rfl) dX0_meanOn_35 ?_
            refine lv_iconst (v := (-1)) hx hb dX0_meanOn_36 (by decide) ?_
            refine lv_icmp_eq (tgt := 92) hx hb dX0_meanOn_37 (by decide) (fun c3 => ?_) (fun c3 => ?_)
            · have c3 : bGn b j = none := (gI_m1 (fun v hv => by have := hg j v hj hv; omega)).mp c3
              rw [show (if wdy hol (hrB b j / 24) = wd then bGn b j else none) = none by rw [c3]; split <;> rfl] at he
              refine lv_iinc (v := (nI j - nI 1)) (lv' := [(9, .int (nI j - nI 1)), (0, .ref (bA b 0)), (1, .int (nI (wd))), (2, .ref (ca 0)), (3, .ref (fa 0)), (4, .long (lN (S))), (6, .long (lN (T))), (8, .int (nI (a)))]) hx hb dX0_meanOn_92 hl (k := 7) rfl (i_dec _) (by decide) rfl (fun ls hl => ?_)
              refine lv_goto (tgt := 17) hx hb dX0_meanOn_95 (by decide) ?_
              exact ih j (a) (S) (T) ls (by omega) (by omega) (by omega) hS1 hT1 he (lv_sub hl [1, 2, 3, 4, 5, 6, 7, 0] rfl)
            · refine lv_aload_n hx hb dX0_meanOn_40 rfl (lv_at hl 2 rfl) ?_
              refine lv_aload_n hx hb dX0_meanOn_41 rfl (lv_at hl 0 rfl) ?_
              refine lv_iload hx hb dX0_meanOn_42 (lv_at hl 7 rfl) ?_
              refine cR_i (W.runV (As := [.int (nI (j))]) (rest := [.ref (ca 0)]) ⟨hx, hb, hml, hown, hts⟩ (k_hourAt l g b j (by omega) (by omega)) (cwV 1 hts (gV w_ml_X0_63 w_im_X0_hourAt w_sel_X0_hourAt w_ini_X0 w_co_X0_hourAt) rfl rfl rfl (by decide +kernel) (by rw [hR1, hR2]; exact ⟨Nat.le_of_ble_eq_true rfl, Nat.le_of_ble_eq_true rfl⟩)) (preV_rd hPb hK (va_recv hK.1 hPb (ci := 0) (q0 := 0) rfl rfl)) rfl rfl hl.1 rfl (lv_room (Nat.le_of_ble_eq_true rfl)) dX0_meanOn_44 ⟨by rw [hR3]; omega, by rw [hR4]; omega⟩) ?_
              refine lv_bipush (v := nI (24)) hx hb dX0_meanOn_47 (by decide) ?_
              refine n_idiv hx hb (by omega) (by omega) (by omega) dX0_meanOn_49 ?_
              refine cR_i (W.runV (As := [.int (nI ((hrB b j) / 24))]) (rest := []) ⟨hx, hb, hml, hown, hts⟩ (k_weekdayOf l g ca hol (hrB b j / 24) (by omega)) (cwV 1 hts (gV w_ml_X0_70 w_im_X1_weekdayOf w_sel_X1_weekdayOf w_ini_X1 w_co_X1_weekdayOf) rfl rfl rfl (by decide +kernel) (by rw [hR1, hR2]; exact ⟨Nat.le_of_ble_eq_true rfl, Nat.le_of_ble_eq_true rfl⟩)) (preV_rd hPc hK (va_recv hK.1 hPc (ci := 1) (q0 := 0) rfl rfl)) rfl rfl hl.1 rfl (lv_room (Nat.le_of_ble_eq_true rfl)) dX0_meanOn_50 ⟨by rw [hR3]; omega, by rw [hR4]; omega⟩) ?_
              have hwy : wdy hol (hrB b j / 24) < 7 := wdy_lt
              refine lv_iload_n hx hb dX0_meanOn_53 rfl (lv_at hl 1 rfl) ?_
              refine bn_ne (tgt := 92) hx hb (by omega) (by omega) dX0_meanOn_54 (by decide) (fun c4 => ?_) (fun c4 => ?_)
              · rw [if_neg c4] at he
                refine lv_iinc (v := (nI j - nI 1)) (lv' := [(9, .int (nI j - nI 1)), (0, .ref (bA b 0)), (1, .int (nI (wd))), (2, .ref (ca 0)), (3, .ref (fa 0)), (4, .long (lN (S))), (6, .long (lN (T))), (8, .int (nI (a)))]) hx hb dX0_meanOn_92 hl (k := 7) rfl (i_dec _) (by decide) rfl (fun ls hl => ?_)
                refine lv_goto (tgt := 17) hx hb dX0_meanOn_95 (by decide) ?_
                exact ih j (a) (S) (T) ls (by omega) (by omega) (by omega) hS1 hT1 he (lv_sub hl [1, 2, 3, 4, 5, 6, 7, 0] rfl)
              · obtain ⟨v, hv⟩ : ∃ v, bGn b j = some v := by
                  cases hv : bGn b j with
                  | none => exact absurd (by rw [hv]; rfl) c3
                  | some v => exact ⟨v, rfl⟩
                have hv2 := hg j v hj hv
                have hwa := hw a c2
                rw [if_pos c4, hv] at he
                refine lv_aload_n hx hb dX0_meanOn_57 rfl (lv_at hl 3 rfl) ?_
                refine lv_iload hx hb dX0_meanOn_58 (lv_at hl 6 rfl) ?_
                refine cR_i (W.runV (As := [.int (nI (a))]) (rest := []) ⟨hx, hb, hml, hown, hts⟩ (k_weightOf l g fa wt a c2) (cwV 1 hts (gV w_ml_X0_75 w_im_X2_weightOf w_sel_X2_weightOf w_ini_X2 w_co_X2_weightOf) rfl rfl rfl (by decide +kernel) (by rw [hR1, hR2]; exact ⟨Nat.le_of_ble_eq_true rfl, Nat.le_of_ble_eq_true rfl⟩)) (preV_rd hPf hK (va_recv hK.1 hPf (ci := 2) (q0 := 0) rfl rfl)) rfl rfl hl.1 rfl (lv_room (Nat.le_of_ble_eq_true rfl)) dX0_meanOn_60 ⟨by rw [hR3]; omega, by rw [hR4]; omega⟩) ?_
                refine n_i2l hx hb (by omega) dX0_meanOn_63 ?_
                refine lv_lstore (lv' := [(10, .long (lN (wt a))), (0, .ref (bA b 0)), (1, .int (nI (wd))), (2, .ref (ca 0)), (3, .ref (fa 0)), (4, .long (lN (S))), (6, .long (lN (T))), (8, .int (nI (a))), (9, .int (nI (j)))]) hx hb dX0_meanOn_64 hl (by decide) rfl (fun ls hl => ?_)
                refine lv_lload hx hb dX0_meanOn_66 (lv_at hl 5 rfl) ?_
                refine lv_aload_n hx hb dX0_meanOn_68 rfl (lv_at hl 1 rfl) ?_
                refine va_get (D := g.1) (ci := 0) (v := .ref (bA b 4)) (C := RX0) (T := TX0) (N := 8) hx hb hts hiX0 hown hK.1 hP 0 rfl rfl 5 (by decide) (hts _ w_fl_X0_29) (fun _ h9 => h9) rfl dX0_meanOn_69 ?_
                refine lv_iload hx hb dX0_meanOn_72 (lv_at hl 8 rfl) ?_
                refine n_iald (k := j) (v := (gI (bGn b j))) hx hb hK.1 hP 4 0 rfl rfl (by omega) (by decide) (rfl) dX0_meanOn_74 ?_
                refine tp_i (y := nI v) (by rw [hv]; rfl) ?_
                have hm : v * wt a ≤ 172186884000 := Nat.le_trans (Nat.mul_le_mul hv2 hwa.2) (by decide)
                refine n_i2l hx hb (by omega) dX0_meanOn_75 ?_
                refine lv_lload hx hb dX0_meanOn_76 (lv_at hl 0 rfl) ?_
                refine n_lmul hx hb dX0_meanOn_78 ?_
                refine n_ladd hx hb dX0_meanOn_79 ?_
                refine lv_lstore (lv' := [(4, .long (lN (S + (v * (wt a))))), (10, .long (lN (wt a))), (0, .ref (bA b 0)), (1, .int (nI (wd))), (2, .ref (ca 0)), (3, .ref (fa 0)), (6, .long (lN (T))), (8, .int (nI (a))), (9, .int (nI (j)))]) hx hb dX0_meanOn_80 hl (by decide) rfl (fun ls hl => ?_)
                refine lv_lload hx hb dX0_meanOn_82 (lv_at hl 6 rfl) ?_
                refine lv_lload hx hb dX0_meanOn_84 (lv_at hl 1 rfl) ?_
                refine n_ladd hx hb dX0_meanOn_86 ?_
                refine lv_lstore (lv' := [(6, .long (lN (T + (wt a)))), (4, .long (lN (S + (v * (wt a))))), (10, .long (lN (wt a))), (0, .ref (bA b 0)), (1, .int (nI (wd))), (2, .ref (ca 0)), (3, .ref (fa 0)), (8, .int (nI (a))), (9, .int (nI (j)))]) hx hb dX0_meanOn_87 hl (by decide) rfl (fun ls hl => ?_)
                refine lv_iinc (v := nI (a + 1)) (lv' := [(8, .int (nI (a + 1))), (6, .long (lN (T + (wt a)))), (4, .long (lN (S + (v * (wt a))))), (10, .long (lN (wt a))), (0, .ref (bA b 0)), (1, .int (nI (wd))), (2, .ref (ca 0)), (3, .ref (fa 0)), (9, .int (nI (j)))]) hx hb dX0_meanOn_89 hl (k := 7) rfl (nI_1 _) (by decide) rfl (fun ls hl => ?_)
                refine lv_iinc (v := (nI j - nI 1)) (lv' := [(9, .int (nI j - nI 1)), (8, .int (nI (a + 1))), (6, .long (lN (T + (wt a)))), (4, .long (lN (S + (v * (wt a))))), (10, .long (lN (wt a))), (0, .ref (bA b 0)), (1, .int (nI (wd))), (2, .ref (ca 0)), (3, .ref (fa 0))]) hx hb dX0_meanOn_92 hl (k := 8) rfl (i_dec _) (by decide) rfl (fun ls hl => ?_)
                refine lv_goto (tgt := 17) hx hb dX0_meanOn_95 (by decide) ?_
                exact ih j (a + 1) (S + v * wt a) (T + wt a) ls (by omega) (by omega) (by omega) (by omega) (by omega) (by rw [← he]; exact Prod.ext (by show _ + _ = _ + (_ + _); omega) (by show _ + _ = _ + (_ + _); omega)) (lv_sub hl [5, 6, 7, 8, 3, 2, 1, 0] rfl)
  exact loop (bN b + 1) (bN b) 0 0 0 ls (Nat.le_refl _) (by omega) (by omega) (by omega) (by omega) (by rw [Nat.zero_add, Nat.zero_add]) (lv_sub hl [4, 5, 6, 7, 3, 2, 1, 0] rfl)

set_option maxHeartbeats 4000000 in
set_option maxRecDepth 100000 in
theorem k_gainUpTo (l : Launch) (g : GG) (oa : Nat → Nat) (rt sm : Nat → Nat) (h : Nat) (hh : h < 10000) (hs : ∀ d, d < 418 → sm d ≤ 20000000) (hm : ∀ d, d < 417 → sm d ≤ sm (d + 1)) : Rl l yX3_gainUpTo wsX3_gainUpTo 0 0 [.ref (oa 0), .int (nI (h))] g (wO g oa rt sm) (lN (gup sm h)) := by
  refine Met.ofW (cc := cX3_gainUpTo) (maxL := 5) (ret := (some .long)) (by decide) rfl ?_
  intro p e s m args below meth c s₁ BB hml hv
  obtain ⟨hargs, hP, hK⟩ := hv
  have hx := BB.exec
  have hb := BB.bytes
  have hr := BB.returns
  have hts : ∀ w ∈ BIG, w.before args s = true := fun w h => atoms_spec (ws := wsX3_gainUpTo) BB.pre w (List.mem_cons_of_mem _ h)
  have hown : s.vm.findClass RX3 = some m.cls := findClass_of_methodNamed BB.named
  have hlocks := BB.notSynchronized
  obtain ⟨RR, hRR⟩ : ∃ RR, RR = (headSpec wsX3_gainUpTo ⟨0, 0, 0, 0⟩).room := ⟨_, rfl⟩
  have hR1 : RR.frames = 0 := by rw [hRR]; rfl
  have hR2 : RR.locals = 0 := by rw [hRR]; rfl
  have hR3 : RR.cells = 0 := by rw [hRR]; rfl
  have hR4 : RR.slots = 0 := by rw [hRR]; rfl
  have hl := lv_entry ([.ref (oa 0), .int (nI (h))]) (n := 5) (Nat.le_of_ble_eq_true rfl)
  have hent : entryFrame m args 5 = F0 m 0 ((lg_sl ([.ref (oa 0), .int (nI (h))]) ++ List.replicate (5 - (lg_sl ([.ref (oa 0), .int (nI (h))])).length) Slot.unset).toArray) [] := by rw [hargs, lg_entry_eq]
  rw [hent]
  generalize (lg_sl ([.ref (oa 0), .int (nI (h))]) ++ List.replicate (5 - (lg_sl ([.ref (oa 0), .int (nI (h))])).length) Slot.unset).toArray = ls at hl ⊢
  have hl : lv_has ls 5 [(0, .ref (oa 0)), (1, .int (nI (h)))] := hl
  refine q_ab (R := RR) hRR ?_
  generalize hQQ : MQ below _ args s _ _ _ = QQ
  have hd : h / 24 < 417 := by omega
  have h1 := hs (h / 24) (by omega)
  have h2 := hs (h / 24 + 1) (by omega)
  have h3 := hm (h / 24) hd
  refine lv_iload_n hx hb dX3_gainUpTo_0 rfl (lv_at hl 1 rfl) ?_
  refine lv_bipush (v := nI (24)) hx hb dX3_gainUpTo_1 (by decide) ?_
  refine n_idiv hx hb (by omega) (by omega) (by omega) dX3_gainUpTo_3 ?_
  refine lv_istore_n (lv' := [(2, .int (nI (h / 24))), (0, .ref (oa 0)), (1, .int (nI (h)))]) hx hb dX3_gainUpTo_4 rfl hl (by decide) rfl (fun ls hl => ?_)
  refine lv_aload_n hx hb dX3_gainUpTo_5 rfl (lv_at hl 1 rfl) ?_
  refine va_get (D := g.1) (ci := 3) (v := .ref (oa 2)) (C := RX3) (T := TX3) (N := 2) hx hb hts hiX3 hown hK.1 hP 0 rfl rfl 1 (by decide) (hts _ w_fl_X3_15) (fun _ h9 => h9) rfl dX3_gainUpTo_6 ?_
  refine lv_iload_n hx hb dX3_gainUpTo_9 rfl (lv_at hl 0 rfl) ?_
  refine lv_iconst (v := nI (1)) hx hb dX3_gainUpTo_10 (by decide) ?_
  refine n_iadd hx hb dX3_gainUpTo_11 ?_
  refine n_iald (k := (h / 24) + 1) (v := nI (sm ((h / 24) + 1))) hx hb hK.1 hP 2 0 rfl rfl (by omega) (by decide) (rfl) dX3_gainUpTo_12 ?_
  refine lv_aload_n hx hb dX3_gainUpTo_13 rfl (lv_at hl 1 rfl) ?_
  refine va_get (D := g.1) (ci := 3) (v := .ref (oa 2)) (C := RX3) (T := TX3) (N := 2) hx hb hts hiX3 hown hK.1 hP 0 rfl rfl 1 (by decide) (hts _ w_fl_X3_15) (fun _ h9 => h9) rfl dX3_gainUpTo_14 ?_
  refine lv_iload_n hx hb dX3_gainUpTo_17 rfl (lv_at hl 0 rfl) ?_
  refine n_iald (k := h / 24) (v := nI (sm (h / 24))) hx hb hK.1 hP 2 0 rfl rfl (by omega) (by decide) (rfl) dX3_gainUpTo_18 ?_
  refine n_isub hx hb (by omega) dX3_gainUpTo_19 ?_
  refine n_i2l hx hb (by omega) dX3_gainUpTo_20 ?_
  refine lv_lstore_n (lv' := [(3, .long (lN ((sm ((h / 24) + 1)) - (sm (h / 24))))), (2, .int (nI (h / 24))), (0, .ref (oa 0)), (1, .int (nI (h)))]) hx hb dX3_gainUpTo_21 rfl hl (by decide) rfl (fun ls hl => ?_)
  refine lv_ldc2 (v := 24) hx hb hown (hts _ w_ct_X3_45) dX3_gainUpTo_22 ?_
  refine tp_l (y := lN 24) (by decide) ?_
  refine lv_aload_n hx hb dX3_gainUpTo_25 rfl (lv_at hl 2 rfl) ?_
  refine va_get (D := g.1) (ci := 3) (v := .ref (oa 2)) (C := RX3) (T := TX3) (N := 2) hx hb hts hiX3 hown hK.1 hP 0 rfl rfl 1 (by decide) (hts _ w_fl_X3_15) (fun _ h9 => h9) rfl dX3_gainUpTo_26 ?_
  refine lv_iload_n hx hb dX3_gainUpTo_29 rfl (lv_at hl 1 rfl) ?_
  refine n_iald (k := h / 24) (v := nI (sm (h / 24))) hx hb hK.1 hP 2 0 rfl rfl (by omega) (by decide) (rfl) dX3_gainUpTo_30 ?_
  refine n_i2l hx hb (by omega) dX3_gainUpTo_31 ?_
  refine n_lmul hx hb dX3_gainUpTo_32 ?_
  refine lv_iload_n hx hb dX3_gainUpTo_33 rfl (lv_at hl 3 rfl) ?_
  refine lv_bipush (v := nI (24)) hx hb dX3_gainUpTo_34 (by decide) ?_
  refine n_irem hx hb (by omega) (by omega) (by omega) dX3_gainUpTo_36 ?_
  refine n_i2l hx hb (by omega) dX3_gainUpTo_37 ?_
  refine lv_lload_n hx hb dX3_gainUpTo_38 rfl (lv_at hl 0 rfl) ?_
  refine n_lmul hx hb dX3_gainUpTo_39 ?_
  refine n_ladd hx hb dX3_gainUpTo_40 ?_
  subst hQQ
  exact W.lret hx hb hr (fun t9 ht _ => rdL (rfl) ht) (fun q h => absurd h List.not_mem_nil) dX3_gainUpTo_41
end
section
set_option maxHeartbeats 4000000 in
set_option maxRecDepth 100000 in
theorem k_shareBy (l : Launch) (g : GG) (oa : Nat → Nat) (rt sm : Nat → Nat) (b : BinT) (hn : bN b ≤ 32) (hpl : ∀ i, i < bN b → bPl b i < 20000) (ham : ∀ i, i < bN b → shB b i ≤ 1500) (hs : ∀ d, d < 418 → sm d ≤ 20000000) (hm : ∀ d, d < 417 → sm d ≤ sm (d + 1)) (o : Option Nat) (h : Nat) (hh : h < 10000) (ho : ∀ i, o = some i → i < bN b ∧ hrB b i ≤ h) : Rl l yX3_shareBy wsX3_shareBy 2 42 [.ref (oa 0), .ref (bA b 0), .int (gI o), .int (nI (h))] g (wO g oa rt sm ++ wB g b) (lN (shY b sm o h)) := by
  refine Met.ofW (cc := cX3_shareBy) (maxL := 7) (ret := (some .long)) (by decide) rfl ?_
  intro p e s m args below meth c s₁ BB hml hv
  obtain ⟨hargs, hP, hK⟩ := hv
  have hx := BB.exec
  have hb := BB.bytes
  have hr := BB.returns
  have hts : ∀ w ∈ BIG, w.before args s = true := fun w h => atoms_spec (ws := wsX3_shareBy) BB.pre w (List.mem_cons_of_mem _ h)
  have hown : s.vm.findClass RX3 = some m.cls := findClass_of_methodNamed BB.named
  have hlocks := BB.notSynchronized
  obtain ⟨RR, hRR⟩ : ∃ RR, RR = (headSpec wsX3_shareBy ⟨2, 0, 0, 42⟩).room := ⟨_, rfl⟩
  have hR1 : RR.frames = 2 := by rw [hRR]; rfl
  have hR2 : RR.locals = 42 := by rw [hRR]; rfl
  have hR3 : RR.cells = 0 := by rw [hRR]; rfl
  have hR4 : RR.slots = 0 := by rw [hRR]; rfl
  have hl := lv_entry ([.ref (oa 0), .ref (bA b 0), .int (gI o), .int (nI (h))]) (n := 7) (Nat.le_of_ble_eq_true rfl)
  have hent : entryFrame m args 7 = F0 m 0 ((lg_sl ([.ref (oa 0), .ref (bA b 0), .int (gI o), .int (nI (h))]) ++ List.replicate (7 - (lg_sl ([.ref (oa 0), .ref (bA b 0), .int (gI o), .int (nI (h))])).length) Slot.unset).toArray) [] := by rw [hargs, lg_entry_eq]
  rw [hent]
  generalize (lg_sl ([.ref (oa 0), .ref (bA b 0), .int (gI o), .int (nI (h))]) ++ List.replicate (7 - (lg_sl ([.ref (oa 0), .ref (bA b 0), .int (gI o), .int (nI (h))])).length) Slot.unset).toArray = ls at hl ⊢
  have hl : lv_has ls 7 [(0, .ref (oa 0)), (1, .ref (bA b 0)), (2, .int (gI o)), (3, .int (nI (h)))] := hl
  refine q_ab (R := RR) hRR ?_
  generalize hQQ : MQ below _ args s _ _ _ = QQ
  have hPo := P_left hP
  have hPb := P_right hP
  have hg1 : gup sm h < 2 ^ 40 := gup_lt hh hs hm
  refine lv_iload_n hx hb dX3_shareBy_0 rfl (lv_at hl 2 rfl) ?_
  refine lv_iconst (v := (-1)) hx hb dX3_shareBy_1 (by decide) ?_
  cases o with
  | none =>
    have hl : lv_has ls 7 [(0, .ref (oa 0)), (1, .ref (bA b 0)), (2, .int (-1)), (3, .int (nI (h)))] := hl
    have hg0 := gup_le (sm := sm) (Nat.zero_le h) hh hm
    refine lv_icmp_ne (tgt := 9) hx hb dX3_shareBy_2 (by decide) (fun c1 => ?_) (fun c1 => ?_)
    · exact absurd rfl c1
    · refine lv_iconst (v := nI (0)) hx hb dX3_shareBy_5 (by decide) ?_
      refine lv_goto (tgt := 14) hx hb dX3_shareBy_6 (by decide) ?_
      refine lv_istore (lv' := [(4, .int (nI (0))), (0, .ref (oa 0)), (1, .ref (bA b 0)), (2, .int (-1)), (3, .int (nI (h)))]) hx hb dX3_shareBy_14 hl (by decide) rfl (fun ls hl => ?_)
      refine lv_iload_n hx hb dX3_shareBy_16 rfl (lv_at hl 3 rfl) ?_
      refine lv_iconst (v := (-1)) hx hb dX3_shareBy_17 (by decide) ?_
      refine lv_icmp_ne (tgt := 25) hx hb dX3_shareBy_18 (by decide) (fun c2 => ?_) (fun c2 => ?_)
      · exact absurd rfl c2
      · refine lv_lconst (v := lN 0) hx hb dX3_shareBy_21 (by decide) ?_
        refine lv_goto (tgt := 31) hx hb dX3_shareBy_22 (by decide) ?_
        refine lv_lstore (lv' := [(5, .long (lN (0))), (4, .int (nI (0))), (0, .ref (oa 0)), (1, .ref (bA b 0)), (2, .int (-1)), (3, .int (nI (h)))]) hx hb dX3_shareBy_31 hl (by decide) rfl (fun ls hl => ?_)
        refine lv_ldc2 (v := 24) hx hb hown (hts _ w_ct_X3_45) dX3_shareBy_33 ?_
        refine tp_l (y := lN 24) (by decide) ?_
        refine lv_lload hx hb dX3_shareBy_36 (lv_at hl 0 rfl) ?_
        refine n_lmul hx hb dX3_shareBy_38 ?_
        refine lv_aload_n hx hb dX3_shareBy_39 rfl (lv_at hl 2 rfl) ?_
        refine lv_iload_n hx hb dX3_shareBy_40 rfl (lv_at hl 5 rfl) ?_
        refine cR_l (W.runV (As := [.int (nI (h))]) (rest := [.long (lN (24 * 0))]) ⟨hx, hb, hml, hown, hts⟩ (k_gainUpTo l g oa rt sm h hh hs hm) (cwV 1 hts (gV w_ml_X3_47 w_im_X3_gainUpTo w_sel_X3_gainUpTo w_ini_X3 w_co_X3_gainUpTo) rfl rfl rfl (by decide +kernel) (by rw [hR1, hR2]; exact ⟨Nat.le_of_ble_eq_true rfl, Nat.le_of_ble_eq_true rfl⟩)) (preV_rd hPo hK (va_recv hK.1 hPo (ci := 3) (q0 := 0) rfl rfl)) rfl rfl hl.1 rfl (lv_room (Nat.le_of_ble_eq_true rfl)) dX3_shareBy_41 ⟨by rw [hR3]; omega, by rw [hR4]; omega⟩) ?_
        refine n_ladd hx hb dX3_shareBy_44 ?_
        refine lv_aload_n hx hb dX3_shareBy_45 rfl (lv_at hl 2 rfl) ?_
        refine lv_iload hx hb dX3_shareBy_46 (lv_at hl 1 rfl) ?_
        refine cR_l (W.runV (As := [.int (nI (0))]) (rest := [.long (lN ((24 * 0) + (gup sm h)))]) ⟨hx, hb, hml, hown, hts⟩ (k_gainUpTo l g oa rt sm 0 (by omega) hs hm) (cwV 1 hts (gV w_ml_X3_47 w_im_X3_gainUpTo w_sel_X3_gainUpTo w_ini_X3 w_co_X3_gainUpTo) rfl rfl rfl (by decide +kernel) (by rw [hR1, hR2]; exact ⟨Nat.le_of_ble_eq_true rfl, Nat.le_of_ble_eq_true rfl⟩)) (preV_rd hPo hK (va_recv hK.1 hPo (ci := 3) (q0 := 0) rfl rfl)) rfl rfl hl.1 rfl (lv_room (Nat.le_of_ble_eq_true rfl)) dX3_shareBy_48 ⟨by rw [hR3]; omega, by rw [hR4]; omega⟩) ?_
        refine n_lsub hx hb (by omega) dX3_shareBy_51 ?_
        refine lv_ldc2 (v := 24) hx hb hown (hts _ w_ct_X3_45) dX3_shareBy_52 ?_
        refine tp_l (y := lN 24) (by decide) ?_
        refine n_ldiv hx hb (by omega) (by omega) (by omega) dX3_shareBy_55 ?_
        subst hQQ
        exact W.lret hx hb hr (fun t9 ht _ => rdL (rfl) ht) (fun q h => absurd h List.not_mem_nil) dX3_shareBy_56
  | some i =>
    have hl : lv_has ls 7 [(0, .ref (oa 0)), (1, .ref (bA b 0)), (2, .int (nI (i))), (3, .int (nI (h)))] := hl
    obtain ⟨hi, hih⟩ := ho i rfl
    have hpi := hpl i hi
    have hsi := ham i hi
    have hne : nI i ≠ -1 := nI_m1 (by omega)
    have hg0 := gup_le (sm := sm) hih hh hm
    refine lv_icmp_ne (tgt := 9) hx hb dX3_shareBy_2 (by decide) (fun c1 => ?_) (fun c1 => ?_)
    · refine lv_aload_n hx hb dX3_shareBy_9 rfl (lv_at hl 1 rfl) ?_
      refine lv_iload_n hx hb dX3_shareBy_10 rfl (lv_at hl 2 rfl) ?_
      refine cR_i (W.runV (As := [.int (nI (i))]) (rest := []) ⟨hx, hb, hml, hown, hts⟩ (k_hourAt l g b i (by omega) (by omega)) (cwV 1 hts (gV w_ml_X3_39 w_im_X0_hourAt w_sel_X0_hourAt w_ini_X0 w_co_X0_hourAt) rfl rfl rfl (by decide +kernel) (by rw [hR1, hR2]; exact ⟨Nat.le_of_ble_eq_true rfl, Nat.le_of_ble_eq_true rfl⟩)) (preV_rd hPb hK (va_recv hK.1 hPb (ci := 0) (q0 := 0) rfl rfl)) rfl rfl hl.1 rfl (lv_room (Nat.le_of_ble_eq_true rfl)) dX3_shareBy_11 ⟨by rw [hR3]; omega, by rw [hR4]; omega⟩) ?_
      refine lv_istore (lv' := [(4, .int (nI (hrB b i))), (0, .ref (oa 0)), (1, .ref (bA b 0)), (2, .int (nI (i))), (3, .int (nI (h)))]) hx hb dX3_shareBy_14 hl (by decide) rfl (fun ls hl => ?_)
      refine lv_iload_n hx hb dX3_shareBy_16 rfl (lv_at hl 3 rfl) ?_
      refine lv_iconst (v := (-1)) hx hb dX3_shareBy_17 (by decide) ?_
      refine lv_icmp_ne (tgt := 25) hx hb dX3_shareBy_18 (by decide) (fun c2 => ?_) (fun c2 => ?_)
      · refine lv_aload_n hx hb dX3_shareBy_25 rfl (lv_at hl 2 rfl) ?_
        refine lv_iload_n hx hb dX3_shareBy_26 rfl (lv_at hl 3 rfl) ?_
        refine cR_i (W.runV (As := [.int (nI (i))]) (rest := []) ⟨hx, hb, hml, hown, hts⟩ (k_shareAt l g b i (by omega) (by omega)) (cwV 1 hts (gV w_ml_X3_42 w_im_X0_shareAt w_sel_X0_shareAt w_ini_X0 w_co_X0_shareAt) rfl rfl rfl (by decide +kernel) (by rw [hR1, hR2]; exact ⟨Nat.le_of_ble_eq_true rfl, Nat.le_of_ble_eq_true rfl⟩)) (preV_rd hPb hK (va_recv hK.1 hPb (ci := 0) (q0 := 0) rfl rfl)) rfl rfl hl.1 rfl (lv_room (Nat.le_of_ble_eq_true rfl)) dX3_shareBy_27 ⟨by rw [hR3]; omega, by rw [hR4]; omega⟩) ?_
        refine n_i2l hx hb (by omega) dX3_shareBy_30 ?_
        refine lv_lstore (lv' := [(5, .long (lN (shB b i))), (4, .int (nI (hrB b i))), (0, .ref (oa 0)), (1, .ref (bA b 0)), (2, .int (nI (i))), (3, .int (nI (h)))]) hx hb dX3_shareBy_31 hl (by decide) rfl (fun ls hl => ?_)
        refine lv_ldc2 (v := 24) hx hb hown (hts _ w_ct_X3_45) dX3_shareBy_33 ?_
        refine tp_l (y := lN 24) (by decide) ?_
        refine lv_lload hx hb dX3_shareBy_36 (lv_at hl 0 rfl) ?_
        refine n_lmul hx hb dX3_shareBy_38 ?_
        refine lv_aload_n hx hb dX3_shareBy_39 rfl (lv_at hl 2 rfl) ?_
        refine lv_iload_n hx hb dX3_shareBy_40 rfl (lv_at hl 5 rfl) ?_
        refine cR_l (W.runV (As := [.int (nI (h))]) (rest := [.long (lN (24 * (shB b i)))]) ⟨hx, hb, hml, hown, hts⟩ (k_gainUpTo l g oa rt sm h hh hs hm) (cwV 1 hts (gV w_ml_X3_47 w_im_X3_gainUpTo w_sel_X3_gainUpTo w_ini_X3 w_co_X3_gainUpTo) rfl rfl rfl (by decide +kernel) (by rw [hR1, hR2]; exact ⟨Nat.le_of_ble_eq_true rfl, Nat.le_of_ble_eq_true rfl⟩)) (preV_rd hPo hK (va_recv hK.1 hPo (ci := 3) (q0 := 0) rfl rfl)) rfl rfl hl.1 rfl (lv_room (Nat.le_of_ble_eq_true rfl)) dX3_shareBy_41 ⟨by rw [hR3]; omega, by rw [hR4]; omega⟩) ?_
        refine n_ladd hx hb dX3_shareBy_44 ?_
        refine lv_aload_n hx hb dX3_shareBy_45 rfl (lv_at hl 2 rfl) ?_
        refine lv_iload hx hb dX3_shareBy_46 (lv_at hl 1 rfl) ?_
        refine cR_l (W.runV (As := [.int (nI (hrB b i))]) (rest := [.long (lN ((24 * (shB b i)) + (gup sm h)))]) ⟨hx, hb, hml, hown, hts⟩ (k_gainUpTo l g oa rt sm (hrB b i) (by omega) hs hm) (cwV 1 hts (gV w_ml_X3_47 w_im_X3_gainUpTo w_sel_X3_gainUpTo w_ini_X3 w_co_X3_gainUpTo) rfl rfl rfl (by decide +kernel) (by rw [hR1, hR2]; exact ⟨Nat.le_of_ble_eq_true rfl, Nat.le_of_ble_eq_true rfl⟩)) (preV_rd hPo hK (va_recv hK.1 hPo (ci := 3) (q0 := 0) rfl rfl)) rfl rfl hl.1 rfl (lv_room (Nat.le_of_ble_eq_true rfl)) dX3_shareBy_48 ⟨by rw [hR3]; omega, by rw [hR4]; omega⟩) ?_
        refine n_lsub hx hb (by omega) dX3_shareBy_51 ?_
        refine lv_ldc2 (v := 24) hx hb hown (hts _ w_ct_X3_45) dX3_shareBy_52 ?_
        refine tp_l (y := lN 24) (by decide) ?_
        refine n_ldiv hx hb (by omega) (by omega) (by omega) dX3_shareBy_55 ?_
        subst hQQ
        exact W.lret hx hb hr (fun t9 ht _ => rdL (rfl) ht) (fun q h => absurd h List.not_mem_nil) dX3_shareBy_56
      · exact absurd c2 hne
    · exact absurd c1 hne

set_option maxHeartbeats 4000000 in
set_option maxRecDepth 100000 in
theorem k_shareAtO (l : Launch) (g : GG) (oa : Nat → Nat) (rt sm : Nat → Nat) (b : BinT) (hn : bN b ≤ 32) (hpl : ∀ i, i < bN b → bPl b i < 20000) (ham : ∀ i, i < bN b → shB b i ≤ 1500) (hs : ∀ d, d < 418 → sm d ≤ 20000000) (hm : ∀ d, d < 417 → sm d ≤ sm (d + 1)) (h : Nat) (hh : h < 10000) : Rl l yX3_shareAt wsX3_shareAt 3 68 [.ref (oa 0), .ref (bA b 0), .int (nI (h))] g (wO g oa rt sm ++ wB g b) (lN (shA b sm h)) := by
  refine Met.ofW (cc := cX3_shareAt) (maxL := 3) (ret := (some .long)) (by decide) rfl ?_
  intro p e s m args below meth c s₁ BB hml hv
  obtain ⟨hargs, hP, hK⟩ := hv
  have hx := BB.exec
  have hb := BB.bytes
  have hr := BB.returns
  have hts : ∀ w ∈ BIG, w.before args s = true := fun w h => atoms_spec (ws := wsX3_shareAt) BB.pre w (List.mem_cons_of_mem _ h)
  have hown : s.vm.findClass RX3 = some m.cls := findClass_of_methodNamed BB.named
  have hlocks := BB.notSynchronized
  obtain ⟨RR, hRR⟩ : ∃ RR, RR = (headSpec wsX3_shareAt ⟨3, 0, 0, 68⟩).room := ⟨_, rfl⟩
  have hR1 : RR.frames = 3 := by rw [hRR]; rfl
  have hR2 : RR.locals = 68 := by rw [hRR]; rfl
  have hR3 : RR.cells = 0 := by rw [hRR]; rfl
  have hR4 : RR.slots = 0 := by rw [hRR]; rfl
  have hl := lv_entry ([.ref (oa 0), .ref (bA b 0), .int (nI (h))]) (n := 3) (Nat.le_of_ble_eq_true rfl)
  have hent : entryFrame m args 3 = F0 m 0 ((lg_sl ([.ref (oa 0), .ref (bA b 0), .int (nI (h))]) ++ List.replicate (3 - (lg_sl ([.ref (oa 0), .ref (bA b 0), .int (nI (h))])).length) Slot.unset).toArray) [] := by rw [hargs, lg_entry_eq]
  rw [hent]
  generalize (lg_sl ([.ref (oa 0), .ref (bA b 0), .int (nI (h))]) ++ List.replicate (3 - (lg_sl ([.ref (oa 0), .ref (bA b 0), .int (nI (h))])).length) Slot.unset).toArray = ls at hl ⊢
  have hl : lv_has ls 3 [(0, .ref (oa 0)), (1, .ref (bA b 0)), (2, .int (nI (h)))] := hl
  refine q_ab (R := RR) hRR ?_
  generalize hQQ : MQ below _ args s _ _ _ = QQ
  have hPb := P_right hP
  have hpl2 : ∀ i, i < bN b → bPl b i < 2 ^ 31 := fun i hi => Nat.lt_trans (hpl i hi) (by decide)
  refine lv_aload_n hx hb dX3_shareAt_0 rfl (lv_at hl 0 rfl) ?_
  refine lv_aload_n hx hb dX3_shareAt_1 rfl (lv_at hl 1 rfl) ?_
  refine lv_aload_n hx hb dX3_shareAt_2 rfl (lv_at hl 1 rfl) ?_
  refine lv_iload_n hx hb dX3_shareAt_3 rfl (lv_at hl 2 rfl) ?_
  refine cR_i (W.runS (As := [.int (nI (h))]) (rest := [.ref (bA b 0), .ref (bA b 0), .ref (oa 0)]) ⟨hx, hb, hml, hown, hts⟩ (k_placeOfEmptying l g h) (va_cwS 1 hts (gS w_ml_X3_24 w_sm_X0_placeOfEmptying w_ini_X0 w_co_X0_placeOfEmptying) rfl rfl rfl (by decide +kernel) (by rw [hR1, hR2]; exact ⟨Nat.le_of_ble_eq_true rfl, Nat.le_of_ble_eq_true rfl⟩)) (preS_rd va_P.nil hK) rfl rfl hl.1 rfl (lv_room (Nat.le_of_ble_eq_true rfl)) dX3_shareAt_4 ⟨by rw [hR3]; omega, by rw [hR4]; omega⟩) ?_
  refine cR_i (W.runV (As := [.int (nI (2 * h + 1))]) (rest := [.ref (bA b 0), .ref (oa 0)]) ⟨hx, hb, hml, hown, hts⟩ (k_latestUpTo l g b (2 * h + 1) hn hpl2 (by omega)) (cwV 1 hts (gV w_ml_X3_29 w_im_X0_latestUpTo w_sel_X0_latestUpTo w_ini_X0 w_co_X0_latestUpTo) rfl rfl rfl (by decide +kernel) (by rw [hR1, hR2]; exact ⟨Nat.le_of_ble_eq_true rfl, Nat.le_of_ble_eq_true rfl⟩)) (preV_rd hPb hK (va_recv hK.1 hPb (ci := 0) (q0 := 0) rfl rfl)) rfl rfl hl.1 rfl (lv_room (Nat.le_of_ble_eq_true rfl)) dX3_shareAt_7 ⟨by rw [hR3]; omega, by rw [hR4]; omega⟩) ?_
  refine W.eq (g2 := F0 m 10 ls [.int (gI (ltB b (2 * h + 1))), .ref (bA b 0), .ref (oa 0)]) rfl ?_
  refine lv_iload_n hx hb dX3_shareAt_10 rfl (lv_at hl 2 rfl) ?_
  refine cR_l (W.runV (As := [.ref (bA b 0), .int (gI (ltB b (2 * h + 1))), .int (nI (h))]) (rest := []) ⟨hx, hb, hml, hown, hts⟩ (k_shareBy l g oa rt sm b hn hpl ham hs hm (ltB b (2 * h + 1)) h hh (ltB_ok (Nat.le_refl _))) (cwV 3 hts (gV w_ml_X3_32 w_im_X3_shareBy w_sel_X3_shareBy w_ini_X3 w_co_X3_shareBy) rfl rfl rfl (by decide +kernel) (by rw [hR1, hR2]; exact ⟨Nat.le_of_ble_eq_true rfl, Nat.le_of_ble_eq_true rfl⟩)) (preV_rd hP hK (va_recv hK.1 hP (ci := 3) (q0 := 0) rfl rfl)) rfl rfl hl.1 rfl (lv_room (Nat.le_of_ble_eq_true rfl)) dX3_shareAt_11 ⟨by rw [hR3]; omega, by rw [hR4]; omega⟩) ?_
  subst hQQ
  exact W.lret hx hb hr (fun t9 ht _ => rdL (rfl) ht) (fun q h => absurd h List.not_mem_nil) dX3_shareAt_14

set_option maxHeartbeats 4000000 in
set_option maxRecDepth 100000 in
theorem k_shareBefore (l : Launch) (g : GG) (oa : Nat → Nat) (rt sm : Nat → Nat) (b : BinT) (hn : bN b ≤ 32) (hpl : ∀ i, i < bN b → bPl b i < 20000) (ham : ∀ i, i < bN b → shB b i ≤ 1500) (hs : ∀ d, d < 418 → sm d ≤ 20000000) (hm : ∀ d, d < 417 → sm d ≤ sm (d + 1)) (i : Nat) (hi : i < bN b) (h1 : 1 ≤ bPl b i) : Rl l yX3_shareBefore wsX3_shareBefore 3 68 [.ref (oa 0), .ref (bA b 0), .int (nI (i))] g (wO g oa rt sm ++ wB g b) (lN (shE b sm i)) := by
  refine Met.ofW (cc := cX3_shareBefore) (maxL := 3) (ret := (some .long)) (by decide) rfl ?_
  intro p e s m args below meth c s₁ BB hml hv
  obtain ⟨hargs, hP, hK⟩ := hv
  have hx := BB.exec
  have hb := BB.bytes
  have hr := BB.returns
  have hts : ∀ w ∈ BIG, w.before args s = true := fun w h => atoms_spec (ws := wsX3_shareBefore) BB.pre w (List.mem_cons_of_mem _ h)
  have hown : s.vm.findClass RX3 = some m.cls := findClass_of_methodNamed BB.named
  have hlocks := BB.notSynchronized
  obtain ⟨RR, hRR⟩ : ∃ RR, RR = (headSpec wsX3_shareBefore ⟨3, 0, 0, 68⟩).room := ⟨_, rfl⟩
  have hR1 : RR.frames = 3 := by rw [hRR]; rfl
  have hR2 : RR.locals = 68 := by rw [hRR]; rfl
  have hR3 : RR.cells = 0 := by rw [hRR]; rfl
  have hR4 : RR.slots = 0 := by rw [hRR]; rfl
  have hl := lv_entry ([.ref (oa 0), .ref (bA b 0), .int (nI (i))]) (n := 3) (Nat.le_of_ble_eq_true rfl)
  have hent : entryFrame m args 3 = F0 m 0 ((lg_sl ([.ref (oa 0), .ref (bA b 0), .int (nI (i))]) ++ List.replicate (3 - (lg_sl ([.ref (oa 0), .ref (bA b 0), .int (nI (i))])).length) Slot.unset).toArray) [] := by rw [hargs, lg_entry_eq]
  rw [hent]
  generalize (lg_sl ([.ref (oa 0), .ref (bA b 0), .int (nI (i))]) ++ List.replicate (3 - (lg_sl ([.ref (oa 0), .ref (bA b 0), .int (nI (i))])).length) Slot.unset).toArray = ls at hl ⊢
  have hl : lv_has ls 3 [(0, .ref (oa 0)), (1, .ref (bA b 0)), (2, .int (nI (i)))] := hl
  refine q_ab (R := RR) hRR ?_
  generalize hQQ : MQ below _ args s _ _ _ = QQ
  have hPb := P_right hP
  have hpl2 : ∀ i, i < bN b → bPl b i < 2 ^ 31 := fun i hi => Nat.lt_trans (hpl i hi) (by decide)
  have hpi := hpl i hi
  have hhi : hrB b i < 10000 := by unfold hrB; omega
  refine lv_aload_n hx hb dX3_shareBefore_0 rfl (lv_at hl 0 rfl) ?_
  refine lv_aload_n hx hb dX3_shareBefore_1 rfl (lv_at hl 1 rfl) ?_
  refine lv_aload_n hx hb dX3_shareBefore_2 rfl (lv_at hl 1 rfl) ?_
  refine lv_aload_n hx hb dX3_shareBefore_3 rfl (lv_at hl 1 rfl) ?_
  refine lv_iload_n hx hb dX3_shareBefore_4 rfl (lv_at hl 2 rfl) ?_
  refine cR_i (W.runV (As := [.int (nI (i))]) (rest := [.ref (bA b 0), .ref (bA b 0), .ref (oa 0)]) ⟨hx, hb, hml, hown, hts⟩ (k_placeAt l g b i (by omega)) (cwV 1 hts (gV w_ml_X3_36 w_im_X0_placeAt w_sel_X0_placeAt w_ini_X0 w_co_X0_placeAt) rfl rfl rfl (by decide +kernel) (by rw [hR1, hR2]; exact ⟨Nat.le_of_ble_eq_true rfl, Nat.le_of_ble_eq_true rfl⟩)) (preV_rd hPb hK (va_recv hK.1 hPb (ci := 0) (q0 := 0) rfl rfl)) rfl rfl hl.1 rfl (lv_room (Nat.le_of_ble_eq_true rfl)) dX3_shareBefore_5 ⟨by rw [hR3]; omega, by rw [hR4]; omega⟩) ?_
  refine lv_iconst (v := nI (1)) hx hb dX3_shareBefore_8 (by decide) ?_
  refine n_isub hx hb (by omega) dX3_shareBefore_9 ?_
  refine cR_i (W.runV (As := [.int (nI ((bPl b i) - 1))]) (rest := [.ref (bA b 0), .ref (oa 0)]) ⟨hx, hb, hml, hown, hts⟩ (k_latestUpTo l g b (bPl b i - 1) hn hpl2 (by omega)) (cwV 1 hts (gV w_ml_X3_29 w_im_X0_latestUpTo w_sel_X0_latestUpTo w_ini_X0 w_co_X0_latestUpTo) rfl rfl rfl (by decide +kernel) (by rw [hR1, hR2]; exact ⟨Nat.le_of_ble_eq_true rfl, Nat.le_of_ble_eq_true rfl⟩)) (preV_rd hPb hK (va_recv hK.1 hPb (ci := 0) (q0 := 0) rfl rfl)) rfl rfl hl.1 rfl (lv_room (Nat.le_of_ble_eq_true rfl)) dX3_shareBefore_10 ⟨by rw [hR3]; omega, by rw [hR4]; omega⟩) ?_
  refine W.eq (g2 := F0 m 13 ls [.int (gI (ltB b (bPl b i - 1))), .ref (bA b 0), .ref (oa 0)]) rfl ?_
  refine lv_aload_n hx hb dX3_shareBefore_13 rfl (lv_at hl 1 rfl) ?_
  refine lv_iload_n hx hb dX3_shareBefore_14 rfl (lv_at hl 2 rfl) ?_
  refine cR_i (W.runV (As := [.int (nI (i))]) (rest := [.int (gI (ltB b (bPl b i - 1))), .ref (bA b 0), .ref (oa 0)]) ⟨hx, hb, hml, hown, hts⟩ (k_hourAt l g b i (by omega) (by omega)) (cwV 1 hts (gV w_ml_X3_39 w_im_X0_hourAt w_sel_X0_hourAt w_ini_X0 w_co_X0_hourAt) rfl rfl rfl (by decide +kernel) (by rw [hR1, hR2]; exact ⟨Nat.le_of_ble_eq_true rfl, Nat.le_of_ble_eq_true rfl⟩)) (preV_rd hPb hK (va_recv hK.1 hPb (ci := 0) (q0 := 0) rfl rfl)) rfl rfl hl.1 rfl (lv_room (Nat.le_of_ble_eq_true rfl)) dX3_shareBefore_15 ⟨by rw [hR3]; omega, by rw [hR4]; omega⟩) ?_
  refine cR_l (W.runV (As := [.ref (bA b 0), .int (gI (ltB b (bPl b i - 1))), .int (nI (hrB b i))]) (rest := []) ⟨hx, hb, hml, hown, hts⟩ (k_shareBy l g oa rt sm b hn hpl ham hs hm (ltB b (bPl b i - 1)) (hrB b i) hhi (ltB_ok (by unfold hrB; omega))) (cwV 3 hts (gV w_ml_X3_32 w_im_X3_shareBy w_sel_X3_shareBy w_ini_X3 w_co_X3_shareBy) rfl rfl rfl (by decide +kernel) (by rw [hR1, hR2]; exact ⟨Nat.le_of_ble_eq_true rfl, Nat.le_of_ble_eq_true rfl⟩)) (preV_rd hP hK (va_recv hK.1 hP (ci := 3) (q0 := 0) rfl rfl)) rfl rfl hl.1 rfl (lv_room (Nat.le_of_ble_eq_true rfl)) dX3_shareBefore_18 ⟨by rw [hR3]; omega, by rw [hR4]; omega⟩) ?_
  subst hQQ
  exact W.lret hx hb hr (fun t9 ht _ => rdL (rfl) ht) (fun q h => absurd h List.not_mem_nil) dX3_shareBefore_21
end
section
set_option maxHeartbeats 4000000 in
set_option maxRecDepth 100000 in
theorem k_mark (l : Launch) (g : GG) (ca : Nat → Nat) (hol : Nat → Bool) (d : Nat) (x : Bool) (hd : d < 417) (sz : Nat) : Wv l yX1_mark wsX1_mark 0 0 0 0 [.ref (ca 0), .int (nI (d)), .int (bI (x))] g (wC g ca hol) sz (wC g ca (va_up hol d x)) := by
  refine Met.ofW (cc := cX1_mark) (maxL := 3) (ret := none) (by decide) rfl ?_
  intro p e s m args below meth c s₁ BB hml hv
  obtain ⟨hargs, hsz, hP, hK, hD0⟩ := hv
  have hx := BB.exec
  have hb := BB.bytes
  have hr := BB.returns
  have hts : ∀ w ∈ BIG, w.before args s = true := fun w h => atoms_spec (ws := wsX1_mark) BB.pre w (List.mem_cons_of_mem _ h)
  have hown : s.vm.findClass RX1 = some m.cls := findClass_of_methodNamed BB.named
  have hlocks := BB.notSynchronized
  obtain ⟨RR, hRR⟩ : ∃ RR, RR = (headSpec wsX1_mark ⟨0, 0, 0, 0⟩).room := ⟨_, rfl⟩
  have hR1 : RR.frames = 0 := by rw [hRR]; rfl
  have hR2 : RR.locals = 0 := by rw [hRR]; rfl
  have hR3 : RR.cells = 0 := by rw [hRR]; rfl
  have hR4 : RR.slots = 0 := by rw [hRR]; rfl
  have hl := lv_entry ([.ref (ca 0), .int (nI (d)), .int (bI (x))]) (n := 3) (Nat.le_of_ble_eq_true rfl)
  have hent : entryFrame m args 3 = F0 m 0 ((lg_sl ([.ref (ca 0), .int (nI (d)), .int (bI (x))]) ++ List.replicate (3 - (lg_sl ([.ref (ca 0), .int (nI (d)), .int (bI (x))])).length) Slot.unset).toArray) [] := by rw [hargs, lg_entry_eq]
  rw [hent]
  generalize (lg_sl ([.ref (ca 0), .int (nI (d)), .int (bI (x))]) ++ List.replicate (3 - (lg_sl ([.ref (ca 0), .int (nI (d)), .int (bI (x))])).length) Slot.unset).toArray = ls at hl ⊢
  have hl : lv_has ls 3 [(0, .ref (ca 0)), (1, .int (nI (d))), (2, .int (bI (x)))] := hl
  subst hsz
  have hD := hD0.self (sz := s.heap.size)
  generalize hAe : va_A (wC g ca hol) s.heap.size = A at hD ⊢
  have hA : ∀ q : Nat, s.heap.size ≤ q → A q := fun q h => by rw [← hAe]; exact Or.inr h
  have hS : va_S A s.heap s.heap [] := va_S.rf
  refine q_ab (R := RR) hRR ?_
  generalize hQQ : MQ below _ args s _ _ _ = QQ
  refine lv_aload_n hx hb dX1_mark_0 rfl (lv_at hl 0 rfl) ?_
  refine va_get (D := g.1) (ci := 1) (v := .ref (ca 1)) (C := RX1) (T := TX1) (N := 1) hx hb hts hiX1 hown hK.1 hP 0 rfl rfl 0 (by decide) (hts _ w_fl_X1_9) (fun _ h9 => h9) rfl dX1_mark_1 ?_
  refine lv_iload_n hx hb dX1_mark_4 rfl (lv_at hl 1 rfl) ?_
  refine lv_iload_n hx hb dX1_mark_5 rfl (lv_at hl 2 rfl) ?_
  refine n_zastE (f := hol) (x := x) (k := d) hx hb hK.1 hP hD hS 1 1 rfl rfl (by omega) (by decide) dX1_mark_6 (fun H locs hP hD hS => ?_)
  have hP : va_P g.1 vwCl (wC g ca (va_up hol d x)) H := hP
  have hD : va_D A (wC g ca (va_up hol d x)) := hD
  subst hQQ
  exact W.vret hx hb hr (fun t9 ht _ => ⟨⟨(), rfl, trivial, hpT ht hP⟩, hS.F ht⟩) hS.2.2 dX1_mark_7

set_option maxHeartbeats 4000000 in
set_option maxRecDepth 100000 in
theorem k_setRate (l : Launch) (g : GG) (oa : Nat → Nat) (rt sm : Nat → Nat) (d x : Nat) (hd : d < 7) (sz : Nat) : Wv l yX3_setRate wsX3_setRate 0 0 0 0 [.ref (oa 0), .int (nI (d)), .int (nI (x))] g (wO g oa rt sm) sz (wO g oa (va_up rt d x) sm) := by
  refine Met.ofW (cc := cX3_setRate) (maxL := 3) (ret := none) (by decide) rfl ?_
  intro p e s m args below meth c s₁ BB hml hv
  obtain ⟨hargs, hsz, hP, hK, hD0⟩ := hv
  have hx := BB.exec
  have hb := BB.bytes
  have hr := BB.returns
  have hts : ∀ w ∈ BIG, w.before args s = true := fun w h => atoms_spec (ws := wsX3_setRate) BB.pre w (List.mem_cons_of_mem _ h)
  have hown : s.vm.findClass RX3 = some m.cls := findClass_of_methodNamed BB.named
  have hlocks := BB.notSynchronized
  obtain ⟨RR, hRR⟩ : ∃ RR, RR = (headSpec wsX3_setRate ⟨0, 0, 0, 0⟩).room := ⟨_, rfl⟩
  have hR1 : RR.frames = 0 := by rw [hRR]; rfl
  have hR2 : RR.locals = 0 := by rw [hRR]; rfl
  have hR3 : RR.cells = 0 := by rw [hRR]; rfl
  have hR4 : RR.slots = 0 := by rw [hRR]; rfl
  have hl := lv_entry ([.ref (oa 0), .int (nI (d)), .int (nI (x))]) (n := 3) (Nat.le_of_ble_eq_true rfl)
  have hent : entryFrame m args 3 = F0 m 0 ((lg_sl ([.ref (oa 0), .int (nI (d)), .int (nI (x))]) ++ List.replicate (3 - (lg_sl ([.ref (oa 0), .int (nI (d)), .int (nI (x))])).length) Slot.unset).toArray) [] := by rw [hargs, lg_entry_eq]
  rw [hent]
  generalize (lg_sl ([.ref (oa 0), .int (nI (d)), .int (nI (x))]) ++ List.replicate (3 - (lg_sl ([.ref (oa 0), .int (nI (d)), .int (nI (x))])).length) Slot.unset).toArray = ls at hl ⊢
  have hl : lv_has ls 3 [(0, .ref (oa 0)), (1, .int (nI (d))), (2, .int (nI (x)))] := hl
  subst hsz
  have hD := hD0.self (sz := s.heap.size)
  generalize hAe : va_A (wO g oa rt sm) s.heap.size = A at hD ⊢
  have hA : ∀ q : Nat, s.heap.size ≤ q → A q := fun q h => by rw [← hAe]; exact Or.inr h
  have hS : va_S A s.heap s.heap [] := va_S.rf
  refine q_ab (R := RR) hRR ?_
  generalize hQQ : MQ below _ args s _ _ _ = QQ
  refine lv_aload_n hx hb dX3_setRate_0 rfl (lv_at hl 0 rfl) ?_
  refine va_get (D := g.1) (ci := 3) (v := .ref (oa 1)) (C := RX3) (T := TX3) (N := 2) hx hb hts hiX3 hown hK.1 hP 0 rfl rfl 0 (by decide) (hts _ w_fl_X3_9) (fun _ h9 => h9) rfl dX3_setRate_1 ?_
  refine lv_iload_n hx hb dX3_setRate_4 rfl (lv_at hl 1 rfl) ?_
  refine lv_iload_n hx hb dX3_setRate_5 rfl (lv_at hl 2 rfl) ?_
  refine n_iastE (enc := nI) (f := rt) (x := x) (k := d) hx hb hK.1 hP hD hS 1 0 rfl rfl (by omega) (by decide) dX3_setRate_6 (fun H locs hP hD hS => ?_)
  have hP : va_P g.1 vwCl (wO g oa (va_up rt d x) sm) H := hP
  have hD : va_D A (wO g oa (va_up rt d x) sm) := hD
  subst hQQ
  exact W.vret hx hb hr (fun t9 ht _ => ⟨⟨(), rfl, trivial, hpT ht hP⟩, hS.F ht⟩) hS.2.2 dX3_setRate_7

set_option maxHeartbeats 4000000 in
set_option maxRecDepth 100000 in
theorem k_sumUp (l : Launch) (g : GG) (oa ca : Nat → Nat) (rt sm : Nat → Nat) (hol : Nat → Bool) (sz : Nat) : Wv l yX3_sumUp wsX3_sumUp 1 21 0 0 [.ref (oa 0), .ref (ca 0)] g (wO g oa rt sm ++ wC g ca hol) sz (wO g oa rt (smU rt hol sm 417) ++ wC g ca hol) := by
  refine Met.ofW (cc := cX3_sumUp) (maxL := 3) (ret := none) (by decide) rfl ?_
  intro p e s m args below meth c s₁ BB hml hv
  obtain ⟨hargs, hsz, hP, hK, hD0⟩ := hv
  have hx := BB.exec
  have hb := BB.bytes
  have hr := BB.returns
  have hts : ∀ w ∈ BIG, w.before args s = true := fun w h => atoms_spec (ws := wsX3_sumUp) BB.pre w (List.mem_cons_of_mem _ h)
  have hown : s.vm.findClass RX3 = some m.cls := findClass_of_methodNamed BB.named
  have hlocks := BB.notSynchronized
  obtain ⟨RR, hRR⟩ : ∃ RR, RR = (headSpec wsX3_sumUp ⟨1, 0, 0, 21⟩).room := ⟨_, rfl⟩
  have hR1 : RR.frames = 1 := by rw [hRR]; rfl
  have hR2 : RR.locals = 21 := by rw [hRR]; rfl
  have hR3 : RR.cells = 0 := by rw [hRR]; rfl
  have hR4 : RR.slots = 0 := by rw [hRR]; rfl
  have hl := lv_entry ([.ref (oa 0), .ref (ca 0)]) (n := 3) (Nat.le_of_ble_eq_true rfl)
  have hent : entryFrame m args 3 = F0 m 0 ((lg_sl ([.ref (oa 0), .ref (ca 0)]) ++ List.replicate (3 - (lg_sl ([.ref (oa 0), .ref (ca 0)])).length) Slot.unset).toArray) [] := by rw [hargs, lg_entry_eq]
  rw [hent]
  generalize (lg_sl ([.ref (oa 0), .ref (ca 0)]) ++ List.replicate (3 - (lg_sl ([.ref (oa 0), .ref (ca 0)])).length) Slot.unset).toArray = ls at hl ⊢
  have hl : lv_has ls 3 [(0, .ref (oa 0)), (1, .ref (ca 0))] := hl
  subst hsz
  have hD := hD0.self (sz := s.heap.size)
  generalize hAe : va_A (wO g oa rt sm ++ wC g ca hol) s.heap.size = A at hD ⊢
  have hA : ∀ q : Nat, s.heap.size ≤ q → A q := fun q h => by rw [← hAe]; exact Or.inr h
  have hS : va_S A s.heap s.heap [] := va_S.rf
  refine q_ab (R := RR) hRR ?_
  generalize hQQ : MQ below _ args s _ _ _ = QQ
  refine lv_iconst (v := nI (0)) hx hb dX3_sumUp_0 (by decide) ?_
  refine lv_istore_n (lv' := [(2, .int (nI (0))), (0, .ref (oa 0)), (1, .ref (ca 0))]) hx hb dX3_sumUp_1 rfl hl (by decide) rfl (fun ls hl => ?_)
  have loop : ∀ (k : Nat) (j : Nat) (H : Heap) (locs : List Loc) (ls : Array Slot), (j ≤ 417) → (417 < j + k) → va_P g.1 vwCl (wO g oa rt (smU rt hol sm j) ++ wC g ca hol) H → va_D A (wO g oa rt (smU rt hol sm j) ++ wC g ca hol) → va_S A s.heap H locs → lv_has ls 3 [(0, .ref (oa 0)), (1, .ref (ca 0)), (2, .int (nI (j)))] → W p l e RR s m args below meth c H locs 0 0 QQ (F0 m 2 ls []) := by
    intro k
    induction k with
    | zero => intro j H locs ls hj hk hP hD hS hl; exact absurd hk (by omega)
    | succ k ih =>
      intro j H locs ls hj hk hP hD hS hl
      refine lv_iload_n hx hb dX3_sumUp_2 rfl (lv_at hl 2 rfl) ?_
      refine lv_sipush (v := nI (417)) hx hb dX3_sumUp_3 (by decide) ?_
      refine bn_ge (tgt := 40) hx hb (by omega) (by omega) dX3_sumUp_6 (by decide) (fun c1 => ?_) (fun c1 => ?_)
      · have hj : j = 417 := by omega
        subst hj
        subst hQQ
        exact W.vret hx hb hr (fun t9 ht _ => ⟨⟨(), rfl, trivial, hpT ht hP⟩, hS.F ht⟩) hS.2.2 dX3_sumUp_40
      · refine lv_aload_n hx hb dX3_sumUp_9 rfl (lv_at hl 0 rfl) ?_
        refine va_get (D := g.1) (ci := 3) (v := .ref (oa 2)) (C := RX3) (T := TX3) (N := 2) hx hb hts hiX3 hown hK.1 hP 0 rfl rfl 1 (by decide) (hts _ w_fl_X3_15) (fun _ h9 => h9) rfl dX3_sumUp_10 ?_
        refine lv_iload_n hx hb dX3_sumUp_13 rfl (lv_at hl 2 rfl) ?_
        refine lv_iconst (v := nI (1)) hx hb dX3_sumUp_14 (by decide) ?_
        refine n_iadd hx hb dX3_sumUp_15 ?_
        refine lv_aload_n hx hb dX3_sumUp_16 rfl (lv_at hl 0 rfl) ?_
        refine va_get (D := g.1) (ci := 3) (v := .ref (oa 2)) (C := RX3) (T := TX3) (N := 2) hx hb hts hiX3 hown hK.1 hP 0 rfl rfl 1 (by decide) (hts _ w_fl_X3_15) (fun _ h9 => h9) rfl dX3_sumUp_17 ?_
        refine lv_iload_n hx hb dX3_sumUp_20 rfl (lv_at hl 2 rfl) ?_
        refine n_iald (k := j) (v := nI (smU rt hol sm j j)) hx hb hK.1 hP 2 0 rfl rfl (by omega) (by decide) (rfl) dX3_sumUp_21 ?_
        refine lv_aload_n hx hb dX3_sumUp_22 rfl (lv_at hl 0 rfl) ?_
        refine va_get (D := g.1) (ci := 3) (v := .ref (oa 1)) (C := RX3) (T := TX3) (N := 2) hx hb hts hiX3 hown hK.1 hP 0 rfl rfl 0 (by decide) (hts _ w_fl_X3_9) (fun _ h9 => h9) rfl dX3_sumUp_23 ?_
        refine lv_aload_n hx hb dX3_sumUp_26 rfl (lv_at hl 1 rfl) ?_
        refine lv_iload_n hx hb dX3_sumUp_27 rfl (lv_at hl 2 rfl) ?_
        refine cR_i (W.runV (As := [.int (nI (j))]) (rest := [.ref (oa 1), .int (nI (smU rt hol sm j j)), .int (nI (j + 1)), .ref (oa 2)]) ⟨hx, hb, hml, hown, hts⟩ (k_weekdayOf l g ca hol j c1) (cwV 1 hts (gV w_ml_X3_18 w_im_X1_weekdayOf w_sel_X1_weekdayOf w_ini_X1 w_co_X1_weekdayOf) rfl rfl rfl (by decide +kernel) (by rw [hR1, hR2]; exact ⟨Nat.le_of_ble_eq_true rfl, Nat.le_of_ble_eq_true rfl⟩)) (preV_rd (P_right hP) hK (va_recv hK.1 (P_right hP) (ci := 1) (q0 := 0) rfl rfl)) rfl rfl hl.1 rfl (lv_room (Nat.le_of_ble_eq_true rfl)) dX3_sumUp_28 ⟨by rw [hR3]; omega, by rw [hR4]; omega⟩) ?_
        have hwy : wdy hol j < 7 := wdy_lt
        refine n_iald (k := wdy hol j) (v := nI (rt (wdy hol j))) hx hb hK.1 hP 1 0 rfl rfl (by omega) (by decide) (rfl) dX3_sumUp_31 ?_
        refine n_iadd hx hb dX3_sumUp_32 ?_
        refine n_iastE (enc := nI) (f := smU rt hol sm j) (x := smU rt hol sm j j + rt (wdy hol j)) (k := j + 1) hx hb hK.1 hP hD hS 2 0 rfl rfl (by omega) (by decide) dX3_sumUp_33 (fun H locs hP hD hS => ?_)
        have hP : va_P g.1 vwCl (wO g oa rt (va_up (smU rt hol sm j) (j + 1) (smU rt hol sm j j + rt (wdy hol j))) ++ wC g ca hol) H := hP
        have hD : va_D A (wO g oa rt (va_up (smU rt hol sm j) (j + 1) (smU rt hol sm j j + rt (wdy hol j))) ++ wC g ca hol) := hD
        rw [show va_up (smU rt hol sm j) (j + 1) (smU rt hol sm j j + rt (wdy hol j)) = smU rt hol sm (j + 1) from rfl] at hP hD
        refine lv_iinc (v := nI (j + 1)) (lv' := [(2, .int (nI (j + 1))), (0, .ref (oa 0)), (1, .ref (ca 0))]) hx hb dX3_sumUp_34 hl (k := 2) rfl (nI_1 _) (by decide) rfl (fun ls hl => ?_)
        refine lv_goto (tgt := 2) hx hb dX3_sumUp_37 (by decide) ?_
        exact ih (j + 1) H locs ls (by omega) (by omega) hP hD hS (lv_sub hl [1, 2, 0] rfl)
  exact loop 418 0 _ _ ls (by omega) (by omega) hP hD hS (lv_sub hl [1, 2, 0] rfl)

set_option maxHeartbeats 4000000 in
set_option maxRecDepth 100000 in
theorem k_setTo (l : Launch) (g : GG) (fa : Nat → Nat) (wt : Nat → Nat) (x y : Nat) (hx9 : x ≤ 9) (hy9 : y ≤ 9) (sz : Nat) : Wv l yX2_setTo wsX2_setTo 0 0 0 0 [.ref (fa 0), .int (nI (x)), .int (nI (y))] g (wF g fa wt) sz (wF g fa (wtU x y wt 8)) := by
  refine Met.ofW (cc := cX2_setTo) (maxL := 6) (ret := none) (by decide) rfl ?_
  intro p e s m args below meth c s₁ BB hml hv
  obtain ⟨hargs, hsz, hP, hK, hD0⟩ := hv
  have hx := BB.exec
  have hb := BB.bytes
  have hr := BB.returns
  have hts : ∀ w ∈ BIG, w.before args s = true := fun w h => atoms_spec (ws := wsX2_setTo) BB.pre w (List.mem_cons_of_mem _ h)
  have hown : s.vm.findClass RX2 = some m.cls := findClass_of_methodNamed BB.named
  have hlocks := BB.notSynchronized
  obtain ⟨RR, hRR⟩ : ∃ RR, RR = (headSpec wsX2_setTo ⟨0, 0, 0, 0⟩).room := ⟨_, rfl⟩
  have hR1 : RR.frames = 0 := by rw [hRR]; rfl
  have hR2 : RR.locals = 0 := by rw [hRR]; rfl
  have hR3 : RR.cells = 0 := by rw [hRR]; rfl
  have hR4 : RR.slots = 0 := by rw [hRR]; rfl
  have hl := lv_entry ([.ref (fa 0), .int (nI (x)), .int (nI (y))]) (n := 6) (Nat.le_of_ble_eq_true rfl)
  have hent : entryFrame m args 6 = F0 m 0 ((lg_sl ([.ref (fa 0), .int (nI (x)), .int (nI (y))]) ++ List.replicate (6 - (lg_sl ([.ref (fa 0), .int (nI (x)), .int (nI (y))])).length) Slot.unset).toArray) [] := by rw [hargs, lg_entry_eq]
  rw [hent]
  generalize (lg_sl ([.ref (fa 0), .int (nI (x)), .int (nI (y))]) ++ List.replicate (6 - (lg_sl ([.ref (fa 0), .int (nI (x)), .int (nI (y))])).length) Slot.unset).toArray = ls at hl ⊢
  have hl : lv_has ls 6 [(0, .ref (fa 0)), (1, .int (nI (x))), (2, .int (nI (y)))] := hl
  subst hsz
  have hD := hD0.self (sz := s.heap.size)
  generalize hAe : va_A (wF g fa wt) s.heap.size = A at hD ⊢
  have hA : ∀ q : Nat, s.heap.size ≤ q → A q := fun q h => by rw [← hAe]; exact Or.inr h
  have hS : va_S A s.heap s.heap [] := va_S.rf
  refine q_ab (R := RR) hRR ?_
  generalize hQQ : MQ below _ args s _ _ _ = QQ
  refine lv_iconst (v := nI (0)) hx hb dX2_setTo_0 (by decide) ?_
  refine lv_istore_n (lv' := [(3, .int (nI (0))), (0, .ref (fa 0)), (1, .int (nI (x))), (2, .int (nI (y)))]) hx hb dX2_setTo_1 rfl hl (by decide) rfl (fun ls hl => ?_)
  have loop : ∀ (k : Nat) (j : Nat) (H : Heap) (locs : List Loc) (ls : Array Slot), (j ≤ 8) → (8 < j + k) → va_P g.1 vwCl (wF g fa (wtU x y wt j)) H → va_D A (wF g fa (wtU x y wt j)) → va_S A s.heap H locs → lv_has ls 6 [(0, .ref (fa 0)), (1, .int (nI (x))), (2, .int (nI (y))), (3, .int (nI (j)))] → W p l e RR s m args below meth c H locs 0 0 QQ (F0 m 2 ls []) := by
    intro k
    induction k with
    | zero => intro j H locs ls hj hk hP hD hS hl; exact absurd hk (by omega)
    | succ k ih =>
      intro j H locs ls hj hk hP hD hS hl
      refine lv_iload_n hx hb dX2_setTo_2 rfl (lv_at hl 3 rfl) ?_
      refine lv_bipush (v := nI (8)) hx hb dX2_setTo_3 (by decide) ?_
      refine bn_ge (tgt := 57) hx hb (by omega) (by omega) dX2_setTo_5 (by decide) (fun c1 => ?_) (fun c1 => ?_)
      · have hj : j = 8 := by omega
        subst hj
        subst hQQ
        exact W.vret hx hb hr (fun t9 ht _ => ⟨⟨(), rfl, trivial, hpT ht hP⟩, hS.F ht⟩) hS.2.2 dX2_setTo_57
      · refine lv_iconst (v := nI (1)) hx hb dX2_setTo_8 (by decide) ?_
        refine lv_istore (lv' := [(4, .int (nI (1))), (0, .ref (fa 0)), (1, .int (nI (x))), (2, .int (nI (y))), (3, .int (nI (j)))]) hx hb dX2_setTo_9 hl (by decide) rfl (fun ls hl => ?_)
        refine lv_iconst (v := nI (0)) hx hb dX2_setTo_11 (by decide) ?_
        refine lv_istore (lv' := [(5, .int (nI (0))), (4, .int (nI (1))), (0, .ref (fa 0)), (1, .int (nI (x))), (2, .int (nI (y))), (3, .int (nI (j)))]) hx hb dX2_setTo_12 hl (by decide) rfl (fun ls hl => ?_)
        have inner : ∀ (k2 i : Nat) (ls : Array Slot), i ≤ 7 → 7 < i + k2 → lv_has ls 6 [(0, .ref (fa 0)), (1, .int (nI (x))), (2, .int (nI (y))), (3, .int (nI (j))), (4, .int (nI (wtP x y j i))), (5, .int (nI (i)))] → W p l e RR s m args below meth c H locs 0 0 QQ (F0 m 14 ls []) := by
          intro k2
          induction k2 with
          | zero => intro i ls hi hk2 hl; exact absurd hk2 (by omega)
          | succ k2 ih2 =>
            intro i ls hi hk2 hl
            refine lv_iload hx hb dX2_setTo_14 (lv_at hl 5 rfl) ?_
            refine lv_bipush (v := nI (7)) hx hb dX2_setTo_16 (by decide) ?_
            refine bn_ge (tgt := 43) hx hb (by omega) (by omega) dX2_setTo_18 (by decide) (fun c2 => ?_) (fun c2 => ?_)
            · have hi7 : i = 7 := by omega
              subst hi7
              refine lv_aload_n hx hb dX2_setTo_43 rfl (lv_at hl 0 rfl) ?_
              refine va_get (D := g.1) (ci := 2) (v := .ref (fa 1)) (C := RX2) (T := TX2) (N := 1) hx hb hts hiX2 hown hK.1 hP 0 rfl rfl 0 (by decide) (hts _ w_fl_X2_9) (fun _ h9 => h9) rfl dX2_setTo_44 ?_
              refine lv_iload_n hx hb dX2_setTo_47 rfl (lv_at hl 3 rfl) ?_
              refine lv_iload hx hb dX2_setTo_48 (lv_at hl 4 rfl) ?_
              refine n_iastE (enc := nI) (f := wtU x y wt j) (x := wtP x y j 7) (k := j) hx hb hK.1 hP hD hS 1 0 rfl rfl (by omega) (by decide) dX2_setTo_50 (fun H locs hP hD hS => ?_)
              have hP : va_P g.1 vwCl (wF g fa (wtU x y wt (j + 1))) H := hP
              have hD : va_D A (wF g fa (wtU x y wt (j + 1))) := hD
              refine lv_iinc (v := nI (j + 1)) (lv' := [(3, .int (nI (j + 1))), (0, .ref (fa 0)), (1, .int (nI (x))), (2, .int (nI (y))), (4, .int (nI (wtP x y j 7))), (5, .int (nI (7)))]) hx hb dX2_setTo_51 hl (k := 3) rfl (nI_1 _) (by decide) rfl (fun ls hl => ?_)
              refine lv_goto (tgt := 2) hx hb dX2_setTo_54 (by decide) ?_
              exact ih (j + 1) H locs ls (by omega) (by omega) hP hD hS (lv_sub hl [1, 2, 3, 0] rfl)
            · refine lv_iload hx hb dX2_setTo_21 (lv_at hl 4 rfl) ?_
              refine lv_iload hx hb dX2_setTo_23 (lv_at hl 5 rfl) ?_
              refine lv_iload_n hx hb dX2_setTo_25 rfl (lv_at hl 3 rfl) ?_
              refine bn_ge (tgt := 33) hx hb (by omega) (by omega) dX2_setTo_26 (by decide) (fun c3 => ?_) (fun c3 => ?_)
              · refine lv_iload_n hx hb dX2_setTo_33 rfl (lv_at hl 2 rfl) ?_
                refine n_imul hx hb dX2_setTo_34 ?_
                refine tp_i (y := nI (wtP x y j (i + 1))) (by rw [wtP, if_neg (by omega)]) ?_
                refine lv_istore (lv' := [(4, .int (nI (wtP x y j (i + 1)))), (0, .ref (fa 0)), (1, .int (nI (x))), (2, .int (nI (y))), (3, .int (nI (j))), (5, .int (nI (i)))]) hx hb dX2_setTo_35 hl (by decide) rfl (fun ls hl => ?_)
                refine lv_iinc (v := nI (i + 1)) (lv' := [(5, .int (nI (i + 1))), (4, .int (nI (wtP x y j (i + 1)))), (0, .ref (fa 0)), (1, .int (nI (x))), (2, .int (nI (y))), (3, .int (nI (j)))]) hx hb dX2_setTo_37 hl (k := 5) rfl (nI_1 _) (by decide) rfl (fun ls hl => ?_)
                refine lv_goto (tgt := 14) hx hb dX2_setTo_40 (by decide) ?_
                exact ih2 (i + 1) ls (by omega) (by omega) (lv_sub hl [2, 3, 4, 5, 1, 0] rfl)
              · refine lv_iload_n hx hb dX2_setTo_29 rfl (lv_at hl 1 rfl) ?_
                refine lv_goto (tgt := 34) hx hb dX2_setTo_30 (by decide) ?_
                refine n_imul hx hb dX2_setTo_34 ?_
                refine tp_i (y := nI (wtP x y j (i + 1))) (by rw [wtP, if_pos c3]) ?_
                refine lv_istore (lv' := [(4, .int (nI (wtP x y j (i + 1)))), (0, .ref (fa 0)), (1, .int (nI (x))), (2, .int (nI (y))), (3, .int (nI (j))), (5, .int (nI (i)))]) hx hb dX2_setTo_35 hl (by decide) rfl (fun ls hl => ?_)
                refine lv_iinc (v := nI (i + 1)) (lv' := [(5, .int (nI (i + 1))), (4, .int (nI (wtP x y j (i + 1)))), (0, .ref (fa 0)), (1, .int (nI (x))), (2, .int (nI (y))), (3, .int (nI (j)))]) hx hb dX2_setTo_37 hl (k := 5) rfl (nI_1 _) (by decide) rfl (fun ls hl => ?_)
                refine lv_goto (tgt := 14) hx hb dX2_setTo_40 (by decide) ?_
                exact ih2 (i + 1) ls (by omega) (by omega) (lv_sub hl [2, 3, 4, 5, 1, 0] rfl)
        exact inner 8 0 ls (by omega) (by omega) (lv_sub hl [2, 3, 4, 5, 1, 0] rfl)
  exact loop 9 0 _ _ ls (by omega) (by omega) hP hD hS (lv_sub hl [1, 2, 3, 0] rfl)
end
section
set_option maxHeartbeats 4000000 in
set_option maxRecDepth 100000 in
theorem k_open (l : Launch) (g : GG) (b : BinT) (i q : Nat) (hn : bN b < 32) (hi : i ≤ bN b) (sz : Nat) : Wv l yX0_open wsX0_open 0 0 0 0 [.ref (bA b 0), .int (nI (i)), .int (nI (q))] g (wB g b) sz (wB g (opB b i q)) := by
  refine Met.ofW (cc := cX0_open) (maxL := 4) (ret := none) (by decide) rfl ?_
  intro p e s m args below meth c s₁ BB hml hv
  obtain ⟨hargs, hsz, hP, hK, hD0⟩ := hv
  have hx := BB.exec
  have hb := BB.bytes
  have hr := BB.returns
  have hts : ∀ w ∈ BIG, w.before args s = true := fun w h => atoms_spec (ws := wsX0_open) BB.pre w (List.mem_cons_of_mem _ h)
  have hown : s.vm.findClass RX0 = some m.cls := findClass_of_methodNamed BB.named
  have hlocks := BB.notSynchronized
  obtain ⟨RR, hRR⟩ : ∃ RR, RR = (headSpec wsX0_open ⟨0, 0, 0, 0⟩).room := ⟨_, rfl⟩
  have hR1 : RR.frames = 0 := by rw [hRR]; rfl
  have hR2 : RR.locals = 0 := by rw [hRR]; rfl
  have hR3 : RR.cells = 0 := by rw [hRR]; rfl
  have hR4 : RR.slots = 0 := by rw [hRR]; rfl
  have hl := lv_entry ([.ref (bA b 0), .int (nI (i)), .int (nI (q))]) (n := 4) (Nat.le_of_ble_eq_true rfl)
  have hent : entryFrame m args 4 = F0 m 0 ((lg_sl ([.ref (bA b 0), .int (nI (i)), .int (nI (q))]) ++ List.replicate (4 - (lg_sl ([.ref (bA b 0), .int (nI (i)), .int (nI (q))])).length) Slot.unset).toArray) [] := by rw [hargs, lg_entry_eq]
  rw [hent]
  generalize (lg_sl ([.ref (bA b 0), .int (nI (i)), .int (nI (q))]) ++ List.replicate (4 - (lg_sl ([.ref (bA b 0), .int (nI (i)), .int (nI (q))])).length) Slot.unset).toArray = ls at hl ⊢
  have hl : lv_has ls 4 [(0, .ref (bA b 0)), (1, .int (nI (i))), (2, .int (nI (q)))] := hl
  subst hsz
  have hD := hD0.self (sz := s.heap.size)
  generalize hAe : va_A (wB g b) s.heap.size = A at hD ⊢
  have hA : ∀ q : Nat, s.heap.size ≤ q → A q := fun q h => by rw [← hAe]; exact Or.inr h
  have hS : va_S A s.heap s.heap [] := va_S.rf
  refine q_ab (R := RR) hRR ?_
  generalize hQQ : MQ below _ args s _ _ _ = QQ
  refine lv_aload_n hx hb dX0_open_0 rfl (lv_at hl 0 rfl) ?_
  refine va_get (D := g.1) (ci := 0) (v := .int (nI (bN b))) (C := RX0) (T := TX0) (N := 8) hx hb hts hiX0 hown hK.1 hP 0 rfl rfl 6 (by decide) (hts _ w_fl_X0_32) (fun _ h9 => h9) rfl dX0_open_1 ?_
  refine lv_istore_n (lv' := [(3, .int (nI (bN b))), (0, .ref (bA b 0)), (1, .int (nI (i))), (2, .int (nI (q)))]) hx hb dX0_open_4 rfl hl (by decide) rfl (fun ls hl => ?_)
  have loop : ∀ (k : Nat) (j : Nat) (H : Heap) (locs : List Loc) (ls : Array Slot), (i ≤ j) → (j ≤ bN b) → (j < i + k) → va_P g.1 vwCl (wB g (bsAm (bsPl b (shf (bPl b) j (bN b))) (shf (bAm b) j (bN b)))) H → va_D A (wB g (bsAm (bsPl b (shf (bPl b) j (bN b))) (shf (bAm b) j (bN b)))) → va_S A s.heap H locs → lv_has ls 4 [(0, .ref (bA b 0)), (1, .int (nI (i))), (2, .int (nI (q))), (3, .int (nI (j)))] → W p l e RR s m args below meth c H locs 0 0 QQ (F0 m 5 ls []) := by
    intro k
    induction k with
    | zero => intro j H locs ls hj hj2 hk hP hD hS hl; exact absurd hk (by omega)
    | succ k ih =>
      intro j H locs ls hj hj2 hk hP hD hS hl
      refine lv_iload_n hx hb dX0_open_5 rfl (lv_at hl 3 rfl) ?_
      refine lv_iload_n hx hb dX0_open_6 rfl (lv_at hl 1 rfl) ?_
      refine bn_le (tgt := 44) hx hb (by omega) (by omega) dX0_open_7 (by decide) (fun c1 => ?_) (fun c1 => ?_)
      · have hji : j = i := by omega
        subst hji
        refine lv_aload_n hx hb dX0_open_44 rfl (lv_at hl 0 rfl) ?_
        refine va_get (D := g.1) (ci := 0) (v := .ref (bA b 1)) (C := RX0) (T := TX0) (N := 8) hx hb hts hiX0 hown hK.1 hP 0 rfl rfl 2 (by decide) (hts _ w_fl_X0_18) (fun _ h9 => h9) rfl dX0_open_45 ?_
        refine lv_iload_n hx hb dX0_open_48 rfl (lv_at hl 1 rfl) ?_
        refine lv_iload_n hx hb dX0_open_49 rfl (lv_at hl 2 rfl) ?_
        refine n_iastE (enc := nI) (f := shf (bPl b) j (bN b)) (x := q) (k := j) hx hb hK.1 hP hD hS 1 0 rfl rfl (by omega) (by decide) dX0_open_50 (fun H locs hP hD hS => ?_)
        have hP : va_P g.1 vwCl (wB g (bsAm (bsPl b (va_up (shf (bPl b) j (bN b)) j q)) (shf (bAm b) j (bN b)))) H := hP
        have hD : va_D A (wB g (bsAm (bsPl b (va_up (shf (bPl b) j (bN b)) j q)) (shf (bAm b) j (bN b)))) := hD
        refine lv_aload_n hx hb dX0_open_51 rfl (lv_at hl 0 rfl) ?_
        refine lv_dup hx hb dX0_open_52 rfl ?_
        refine va_get (D := g.1) (ci := 0) (v := .int (nI (bN (bsAm (bsPl b (va_up (shf (bPl b) j (bN b)) j q)) (shf (bAm b) j (bN b)))))) (C := RX0) (T := TX0) (N := 8) hx hb hts hiX0 hown hK.1 hP 0 rfl rfl 6 (by decide) (hts _ w_fl_X0_32) (fun _ h9 => h9) rfl dX0_open_53 ?_
        refine lv_iconst (v := nI (1)) hx hb dX0_open_56 (by decide) ?_
        refine n_iadd hx hb dX0_open_57 ?_
        refine va_put (D := g.1) (ci := 0) (v := .int (nI (bN b + 1))) (ty := .int) (C := RX0) (T := TX0) (N := 8) hx hb hts hiX0 tyX0 tyX0_ok nmX0 hown hK.1 hP hD hS 0 rfl rfl 6 (by decide) (hts _ w_fl_X0_32) (fun _ h9 => h9) rfl (by decide +kernel) rfl rfl (Nat.le_of_ble_eq_true rfl) dX0_open_58 (fun H locs hP hD hS => ?_)
        have hP : va_P g.1 vwCl (wB g (bsN (bsAm (bsPl b (va_up (shf (bPl b) j (bN b)) j q)) (shf (bAm b) j (bN b))) (bN b + 1))) H := hP
        have hD : va_D A (wB g (bsN (bsAm (bsPl b (va_up (shf (bPl b) j (bN b)) j q)) (shf (bAm b) j (bN b))) (bN b + 1))) := hD
        subst hQQ
        exact W.vret hx hb hr (fun t9 ht _ => ⟨⟨(), rfl, trivial, hpT ht hP⟩, hS.F ht⟩) hS.2.2 dX0_open_61
      · refine lv_aload_n hx hb dX0_open_10 rfl (lv_at hl 0 rfl) ?_
        refine va_get (D := g.1) (ci := 0) (v := .ref (bA b 1)) (C := RX0) (T := TX0) (N := 8) hx hb hts hiX0 hown hK.1 hP 0 rfl rfl 2 (by decide) (hts _ w_fl_X0_18) (fun _ h9 => h9) rfl dX0_open_11 ?_
        refine lv_iload_n hx hb dX0_open_14 rfl (lv_at hl 3 rfl) ?_
        refine lv_aload_n hx hb dX0_open_15 rfl (lv_at hl 0 rfl) ?_
        refine va_get (D := g.1) (ci := 0) (v := .ref (bA b 1)) (C := RX0) (T := TX0) (N := 8) hx hb hts hiX0 hown hK.1 hP 0 rfl rfl 2 (by decide) (hts _ w_fl_X0_18) (fun _ h9 => h9) rfl dX0_open_16 ?_
        refine lv_iload_n hx hb dX0_open_19 rfl (lv_at hl 3 rfl) ?_
        refine lv_iconst (v := nI (1)) hx hb dX0_open_20 (by decide) ?_
        refine n_isub hx hb (by omega) dX0_open_21 ?_
        refine n_iald (k := j - 1) (v := nI (bPl (bsAm (bsPl b (shf (bPl b) j (bN b))) (shf (bAm b) j (bN b))) (j - 1))) hx hb hK.1 hP 1 0 rfl rfl (by omega) (by decide) (rfl) dX0_open_22 ?_
        refine n_iastE (enc := nI) (f := shf (bPl b) j (bN b)) (x := shf (bPl b) j (bN b) (j - 1)) (k := j) hx hb hK.1 hP hD hS 1 0 rfl rfl (by omega) (by decide) dX0_open_23 (fun H locs hP hD hS => ?_)
        have hP : va_P g.1 vwCl (wB g (bsAm (bsPl b (va_up (shf (bPl b) j (bN b)) j (shf (bPl b) j (bN b) (j - 1)))) (shf (bAm b) j (bN b)))) H := hP
        have hD : va_D A (wB g (bsAm (bsPl b (va_up (shf (bPl b) j (bN b)) j (shf (bPl b) j (bN b) (j - 1)))) (shf (bAm b) j (bN b)))) := hD
        refine lv_aload_n hx hb dX0_open_24 rfl (lv_at hl 0 rfl) ?_
        refine va_get (D := g.1) (ci := 0) (v := .ref (bA b 2)) (C := RX0) (T := TX0) (N := 8) hx hb hts hiX0 hown hK.1 hP 0 rfl rfl 3 (by decide) (hts _ w_fl_X0_22) (fun _ h9 => h9) rfl dX0_open_25 ?_
        refine lv_iload_n hx hb dX0_open_28 rfl (lv_at hl 3 rfl) ?_
        refine lv_aload_n hx hb dX0_open_29 rfl (lv_at hl 0 rfl) ?_
        refine va_get (D := g.1) (ci := 0) (v := .ref (bA b 2)) (C := RX0) (T := TX0) (N := 8) hx hb hts hiX0 hown hK.1 hP 0 rfl rfl 3 (by decide) (hts _ w_fl_X0_22) (fun _ h9 => h9) rfl dX0_open_30 ?_
        refine lv_iload_n hx hb dX0_open_33 rfl (lv_at hl 3 rfl) ?_
        refine lv_iconst (v := nI (1)) hx hb dX0_open_34 (by decide) ?_
        refine n_isub hx hb (by omega) dX0_open_35 ?_
        refine n_iald (k := j - 1) (v := nI (bAm (bsAm (bsPl b (va_up (shf (bPl b) j (bN b)) j (shf (bPl b) j (bN b) (j - 1)))) (shf (bAm b) j (bN b))) (j - 1))) hx hb hK.1 hP 2 0 rfl rfl (by omega) (by decide) (rfl) dX0_open_36 ?_
        refine n_iastE (enc := nI) (f := shf (bAm b) j (bN b)) (x := shf (bAm b) j (bN b) (j - 1)) (k := j) hx hb hK.1 hP hD hS 2 0 rfl rfl (by omega) (by decide) dX0_open_37 (fun H locs hP hD hS => ?_)
        have hP : va_P g.1 vwCl (wB g (bsAm (bsPl b (va_up (shf (bPl b) j (bN b)) j (shf (bPl b) j (bN b) (j - 1)))) (va_up (shf (bAm b) j (bN b)) j (shf (bAm b) j (bN b) (j - 1))))) H := hP
        have hD : va_D A (wB g (bsAm (bsPl b (va_up (shf (bPl b) j (bN b)) j (shf (bPl b) j (bN b) (j - 1)))) (va_up (shf (bAm b) j (bN b)) j (shf (bAm b) j (bN b) (j - 1))))) := hD
        rw [shf_s (bPl b) (by omega) hj2, shf_s (bAm b) (by omega) hj2] at hP hD
        refine lv_iinc (v := nI (j - 1)) (lv' := [(3, .int (nI (j - 1))), (0, .ref (bA b 0)), (1, .int (nI (i))), (2, .int (nI (q)))]) hx hb dX0_open_38 hl (k := 3) rfl (n_dec (by omega)) (by decide) rfl (fun ls hl => ?_)
        refine lv_goto (tgt := 5) hx hb dX0_open_41 (by decide) ?_
        exact ih (j - 1) H locs ls (by omega) (by omega) (by omega) hP hD hS (lv_sub hl [1, 2, 3, 0] rfl)
  have e0 : wB g (bsAm (bsPl b (shf (bPl b) (bN b) (bN b))) (shf (bAm b) (bN b) (bN b))) = wB g b := by rw [shf_n, shf_n]; rfl
  exact loop (bN b + 1) (bN b) _ _ ls hi (Nat.le_refl _) (by omega) (by rw [e0]; exact hP) (by rw [e0]; exact hD) hS (lv_sub hl [1, 2, 3, 0] rfl)
end
section
set_option maxHeartbeats 4000000 in
set_option maxRecDepth 100000 in
theorem k_judge (l : Launch) (g : GG) (b : BinT) (hn : bN b ≤ 32) (hpl : ∀ i, i < bN b → bPl b i < 20000) (hso : ∀ i j, i < j → j < bN b → bPl b i < bPl b j) (ham : ∀ i, i < bN b → shB b i ≤ 1500) (sz : Nat) : Wv l yX0_judge wsX0_judge 3 65 0 0 [.ref (bA b 0)] g (wB g b) sz (wB g (jB b (bN b))) := by
  refine Met.ofW (cc := cX0_judge) (maxL := 4) (ret := none) (by decide) rfl ?_
  intro p e s m args below meth c s₁ BB hml hv
  obtain ⟨hargs, hsz, hP, hK, hD0⟩ := hv
  have hx := BB.exec
  have hb := BB.bytes
  have hr := BB.returns
  have hts : ∀ w ∈ BIG, w.before args s = true := fun w h => atoms_spec (ws := wsX0_judge) BB.pre w (List.mem_cons_of_mem _ h)
  have hown : s.vm.findClass RX0 = some m.cls := findClass_of_methodNamed BB.named
  have hlocks := BB.notSynchronized
  obtain ⟨RR, hRR⟩ : ∃ RR, RR = (headSpec wsX0_judge ⟨3, 0, 0, 65⟩).room := ⟨_, rfl⟩
  have hR1 : RR.frames = 3 := by rw [hRR]; rfl
  have hR2 : RR.locals = 65 := by rw [hRR]; rfl
  have hR3 : RR.cells = 0 := by rw [hRR]; rfl
  have hR4 : RR.slots = 0 := by rw [hRR]; rfl
  have hl := lv_entry ([.ref (bA b 0)]) (n := 4) (Nat.le_of_ble_eq_true rfl)
  have hent : entryFrame m args 4 = F0 m 0 ((lg_sl ([.ref (bA b 0)]) ++ List.replicate (4 - (lg_sl ([.ref (bA b 0)])).length) Slot.unset).toArray) [] := by rw [hargs, lg_entry_eq]
  rw [hent]
  generalize (lg_sl ([.ref (bA b 0)]) ++ List.replicate (4 - (lg_sl ([.ref (bA b 0)])).length) Slot.unset).toArray = ls at hl ⊢
  have hl : lv_has ls 4 [(0, .ref (bA b 0))] := hl
  subst hsz
  have hD := hD0.self (sz := s.heap.size)
  generalize hAe : va_A (wB g b) s.heap.size = A at hD ⊢
  have hA : ∀ q : Nat, s.heap.size ≤ q → A q := fun q h => by rw [← hAe]; exact Or.inr h
  have hS : va_S A s.heap s.heap [] := va_S.rf
  refine q_ab (R := RR) hRR ?_
  generalize hQQ : MQ below _ args s _ _ _ = QQ
  refine lv_iconst (v := (-1)) hx hb dX0_judge_0 (by decide) ?_
  refine lv_istore_n (lv' := [(1, .int (-1)), (0, .ref (bA b 0))]) hx hb dX0_judge_1 rfl hl (by decide) rfl (fun ls hl => ?_)
  refine lv_iconst (v := nI (0)) hx hb dX0_judge_2 (by decide) ?_
  refine lv_istore_n (lv' := [(2, .int (nI (0))), (1, .int (-1)), (0, .ref (bA b 0))]) hx hb dX0_judge_3 rfl hl (by decide) rfl (fun ls hl => ?_)
  have loop : ∀ (k : Nat) (j : Nat) (H : Heap) (locs : List Loc) (ls : Array Slot), (j ≤ bN b) → (bN b < j + k) → va_P g.1 vwCl (wB g (jB b j)) H → va_D A (wB g (jB b j)) → va_S A s.heap H locs → lv_has ls 4 [(0, .ref (bA b 0)), (1, .int (gI (bef b j))), (2, .int (nI (j)))] → W p l e RR s m args below meth c H locs 0 0 QQ (F0 m 4 ls []) := by
    intro k
    induction k with
    | zero => intro j H locs ls hj hk hP hD hS hl; exact absurd hk (by omega)
    | succ k ih =>
      intro j H locs ls hj hk hP hD hS hl
      refine lv_iload_n hx hb dX0_judge_4 rfl (lv_at hl 2 rfl) ?_
      refine lv_aload_n hx hb dX0_judge_5 rfl (lv_at hl 0 rfl) ?_
      refine va_get (D := g.1) (ci := 0) (v := .int (nI (bN b))) (C := RX0) (T := TX0) (N := 8) hx hb hts hiX0 hown hK.1 hP 0 rfl rfl 6 (by decide) (hts _ w_fl_X0_32) (fun _ h9 => h9) rfl dX0_judge_6 ?_
      refine bn_ge (tgt := 105) hx hb (by omega) (by omega) dX0_judge_9 (by decide) (fun c1 => ?_) (fun c1 => ?_)
      · have hjn : j = bN b := by omega
        subst hjn
        subst hQQ
        exact W.vret hx hb hr (fun t9 ht _ => ⟨⟨(), rfl, trivial, hpT ht hP⟩, hS.F ht⟩) hS.2.2 dX0_judge_105
      · have hpj := hpl j c1
        have hsj := ham j c1
        refine lv_aload_n hx hb dX0_judge_12 rfl (lv_at hl 0 rfl) ?_
        refine lv_iload_n hx hb dX0_judge_13 rfl (lv_at hl 2 rfl) ?_
        refine cR_i (W.runV (As := [.int (nI (j))]) (rest := []) ⟨hx, hb, hml, hown, hts⟩ (k_isRow l g (jB b j) j (by omega) (Nat.lt_trans hpj (by decide))) (cwV 1 hts (gV w_ml_X0_38 w_im_X0_isRow w_sel_X0_isRow w_ini_X0 w_co_X0_isRow) rfl rfl rfl (by decide +kernel) (by rw [hR1, hR2]; exact ⟨Nat.le_of_ble_eq_true rfl, Nat.le_of_ble_eq_true rfl⟩)) (preV_rd hP hK (va_recv hK.1 hP (ci := 0) (q0 := 0) rfl rfl)) rfl rfl hl.1 rfl (lv_room (Nat.le_of_ble_eq_true rfl)) dX0_judge_14 ⟨by rw [hR3]; omega, by rw [hR4]; omega⟩) ?_
        refine bb_eq (tgt := 29) hx hb dX0_judge_17 (by decide) (fun c2 => ?_) (fun c2 => ?_)
        · have c2 : rowB b j = false := c2
          have hwf : wrgF b (bef b j) j = false := by unfold wrgF; split; rfl; rw [c2]; rfl
          have hgn : gnF b (bef b j) j = none := by unfold gnF; split; rfl; rw [c2]; rfl
          refine lv_iconst (v := bI (false)) hx hb dX0_judge_29 (by decide) ?_
          refine lv_istore_n (lv' := [(3, .int (bI (false))), (0, .ref (bA b 0)), (1, .int (gI (bef b j))), (2, .int (nI (j)))]) hx hb dX0_judge_30 rfl hl (by decide) rfl (fun ls hl => ?_)
          refine lv_aload_n hx hb dX0_judge_31 rfl (lv_at hl 1 rfl) ?_
          refine va_get (D := g.1) (ci := 0) (v := .ref (bA b 3)) (C := RX0) (T := TX0) (N := 8) hx hb hts hiX0 hown hK.1 hP 0 rfl rfl 4 (by decide) (hts _ w_fl_X0_25) (fun _ h9 => h9) rfl dX0_judge_32 ?_
          refine lv_iload_n hx hb dX0_judge_35 rfl (lv_at hl 3 rfl) ?_
          refine lv_iload_n hx hb dX0_judge_36 rfl (lv_at hl 0 rfl) ?_
          refine bb_eq (tgt := 57) hx hb dX0_judge_37 (by decide) (fun c5 => ?_) (fun c5 => ?_)
          · refine lv_iconst (v := bI (false)) hx hb dX0_judge_57 (by decide) ?_
            refine tp_i (y := bI (wrgF b (bef b j) j)) (by rw [hwf]) ?_
            refine n_zastE (f := jW b j) (x := wrgF b (bef b j) j) (k := j) hx hb hK.1 hP hD hS 3 1 rfl rfl (by omega) (by decide) dX0_judge_58 (fun H locs hP hD hS => ?_)
            have hP : va_P g.1 vwCl (wB g (bsGn (bsWr b (va_up (jW b j) j (wrgF b (bef b j) j))) (jG b j))) H := hP
            have hD : va_D A (wB g (bsGn (bsWr b (va_up (jW b j) j (wrgF b (bef b j) j))) (jG b j))) := hD
            rw [jW_s] at hP hD
            refine lv_aload_n hx hb dX0_judge_59 rfl (lv_at hl 1 rfl) ?_
            refine va_get (D := g.1) (ci := 0) (v := .ref (bA b 4)) (C := RX0) (T := TX0) (N := 8) hx hb hts hiX0 hown hK.1 hP 0 rfl rfl 5 (by decide) (hts _ w_fl_X0_29) (fun _ h9 => h9) rfl dX0_judge_60 ?_
            refine lv_iload_n hx hb dX0_judge_63 rfl (lv_at hl 3 rfl) ?_
            refine lv_iload_n hx hb dX0_judge_64 rfl (lv_at hl 0 rfl) ?_
            refine bb_eq (tgt := 86) hx hb dX0_judge_65 (by decide) (fun c6 => ?_) (fun c6 => ?_)
            · refine lv_iconst (v := (-1)) hx hb dX0_judge_86 (by decide) ?_
              refine tp_i (y := gI (gnF b (bef b j) j)) (by rw [hgn]; rfl) ?_
              refine n_iastE (enc := gI) (f := jG b j) (x := gnF b (bef b j) j) (k := j) hx hb hK.1 hP hD hS 4 0 rfl rfl (by omega) (by decide) dX0_judge_87 (fun H locs hP hD hS => ?_)
              have hP : va_P g.1 vwCl (wB g (bsGn (bsWr b (jW b (j + 1))) (va_up (jG b j) j (gnF b (bef b j) j)))) H := hP
              have hD : va_D A (wB g (bsGn (bsWr b (jW b (j + 1))) (va_up (jG b j) j (gnF b (bef b j) j)))) := hD
              rw [jG_s] at hP hD
              have hP : va_P g.1 vwCl (wB g (jB b (j + 1))) H := hP
              have hD : va_D A (wB g (jB b (j + 1))) := hD
              refine lv_aload_n hx hb dX0_judge_88 rfl (lv_at hl 1 rfl) ?_
              refine va_get (D := g.1) (ci := 0) (v := .ref (bA b 3)) (C := RX0) (T := TX0) (N := 8) hx hb hts hiX0 hown hK.1 hP 0 rfl rfl 4 (by decide) (hts _ w_fl_X0_25) (fun _ h9 => h9) rfl dX0_judge_89 ?_
              refine lv_iload_n hx hb dX0_judge_92 rfl (lv_at hl 3 rfl) ?_
              refine n_zald (k := j) (v := bI (jW b (j + 1) j)) hx hb hK.1 hP 3 1 rfl rfl (by omega) (by decide) (rfl) dX0_judge_93 ?_
              refine bb_ne (tgt := 99) hx hb dX0_judge_94 (by decide) (fun c8 => ?_) (fun c8 => ?_)
              · rw [jW_at] at c8
                exact absurd c8 (by rw [hwf]; decide)
              · rw [jW_at] at c8
                refine lv_iload_n hx hb dX0_judge_97 rfl (lv_at hl 3 rfl) ?_
                refine lv_istore_n (lv' := [(1, .int (nI (j))), (3, .int (bI (false))), (0, .ref (bA b 0)), (2, .int (nI (j)))]) hx hb dX0_judge_98 rfl hl (by decide) rfl (fun ls hl => ?_)
                refine lv_iinc (v := nI (j + 1)) (lv' := [(2, .int (nI (j + 1))), (1, .int (nI (j))), (3, .int (bI (false))), (0, .ref (bA b 0))]) hx hb dX0_judge_99 hl (k := 3) rfl (nI_1 _) (by decide) rfl (fun ls hl => ?_)
                refine lv_goto (tgt := 4) hx hb dX0_judge_102 (by decide) ?_
                exact ih (j + 1) H locs ls (by omega) (by omega) hP hD hS (by rw [bef, if_neg (by rw [hwf]; decide)]; exact lv_sub hl [3, 1, 0] rfl)
            · exact absurd c6 (by decide)
          · exact absurd c5 (by decide)
        · have c2 : rowB b j = true := c2
          refine lv_iload_n hx hb dX0_judge_20 rfl (lv_at hl 1 rfl) ?_
          refine lv_iconst (v := (-1)) hx hb dX0_judge_21 (by decide) ?_
          refine lv_icmp_eq (tgt := 29) hx hb dX0_judge_22 (by decide) (fun c3 => ?_) (fun c3 => ?_)
          · have hbn : bef b j = none := (gI_m1 (fun v hv => by have := bef_lt hv; omega)).mp c3
            have hwf : wrgF b (bef b j) j = false := by rw [hbn]; rfl
            have hgn : gnF b (bef b j) j = none := by rw [hbn]; rfl
            refine lv_iconst (v := bI (false)) hx hb dX0_judge_29 (by decide) ?_
            refine lv_istore_n (lv' := [(3, .int (bI (false))), (0, .ref (bA b 0)), (1, .int (gI (bef b j))), (2, .int (nI (j)))]) hx hb dX0_judge_30 rfl hl (by decide) rfl (fun ls hl => ?_)
            refine lv_aload_n hx hb dX0_judge_31 rfl (lv_at hl 1 rfl) ?_
            refine va_get (D := g.1) (ci := 0) (v := .ref (bA b 3)) (C := RX0) (T := TX0) (N := 8) hx hb hts hiX0 hown hK.1 hP 0 rfl rfl 4 (by decide) (hts _ w_fl_X0_25) (fun _ h9 => h9) rfl dX0_judge_32 ?_
            refine lv_iload_n hx hb dX0_judge_35 rfl (lv_at hl 3 rfl) ?_
            refine lv_iload_n hx hb dX0_judge_36 rfl (lv_at hl 0 rfl) ?_
            refine bb_eq (tgt := 57) hx hb dX0_judge_37 (by decide) (fun c5 => ?_) (fun c5 => ?_)
            · refine lv_iconst (v := bI (false)) hx hb dX0_judge_57 (by decide) ?_
              refine tp_i (y := bI (wrgF b (bef b j) j)) (by rw [hwf]) ?_
              refine n_zastE (f := jW b j) (x := wrgF b (bef b j) j) (k := j) hx hb hK.1 hP hD hS 3 1 rfl rfl (by omega) (by decide) dX0_judge_58 (fun H locs hP hD hS => ?_)
              have hP : va_P g.1 vwCl (wB g (bsGn (bsWr b (va_up (jW b j) j (wrgF b (bef b j) j))) (jG b j))) H := hP
              have hD : va_D A (wB g (bsGn (bsWr b (va_up (jW b j) j (wrgF b (bef b j) j))) (jG b j))) := hD
              rw [jW_s] at hP hD
              refine lv_aload_n hx hb dX0_judge_59 rfl (lv_at hl 1 rfl) ?_
              refine va_get (D := g.1) (ci := 0) (v := .ref (bA b 4)) (C := RX0) (T := TX0) (N := 8) hx hb hts hiX0 hown hK.1 hP 0 rfl rfl 5 (by decide) (hts _ w_fl_X0_29) (fun _ h9 => h9) rfl dX0_judge_60 ?_
              refine lv_iload_n hx hb dX0_judge_63 rfl (lv_at hl 3 rfl) ?_
              refine lv_iload_n hx hb dX0_judge_64 rfl (lv_at hl 0 rfl) ?_
              refine bb_eq (tgt := 86) hx hb dX0_judge_65 (by decide) (fun c6 => ?_) (fun c6 => ?_)
              · refine lv_iconst (v := (-1)) hx hb dX0_judge_86 (by decide) ?_
                refine tp_i (y := gI (gnF b (bef b j) j)) (by rw [hgn]; rfl) ?_
                refine n_iastE (enc := gI) (f := jG b j) (x := gnF b (bef b j) j) (k := j) hx hb hK.1 hP hD hS 4 0 rfl rfl (by omega) (by decide) dX0_judge_87 (fun H locs hP hD hS => ?_)
                have hP : va_P g.1 vwCl (wB g (bsGn (bsWr b (jW b (j + 1))) (va_up (jG b j) j (gnF b (bef b j) j)))) H := hP
                have hD : va_D A (wB g (bsGn (bsWr b (jW b (j + 1))) (va_up (jG b j) j (gnF b (bef b j) j)))) := hD
                rw [jG_s] at hP hD
                have hP : va_P g.1 vwCl (wB g (jB b (j + 1))) H := hP
                have hD : va_D A (wB g (jB b (j + 1))) := hD
                refine lv_aload_n hx hb dX0_judge_88 rfl (lv_at hl 1 rfl) ?_
                refine va_get (D := g.1) (ci := 0) (v := .ref (bA b 3)) (C := RX0) (T := TX0) (N := 8) hx hb hts hiX0 hown hK.1 hP 0 rfl rfl 4 (by decide) (hts _ w_fl_X0_25) (fun _ h9 => h9) rfl dX0_judge_89 ?_
                refine lv_iload_n hx hb dX0_judge_92 rfl (lv_at hl 3 rfl) ?_
                refine n_zald (k := j) (v := bI (jW b (j + 1) j)) hx hb hK.1 hP 3 1 rfl rfl (by omega) (by decide) (rfl) dX0_judge_93 ?_
                refine bb_ne (tgt := 99) hx hb dX0_judge_94 (by decide) (fun c8 => ?_) (fun c8 => ?_)
                · rw [jW_at] at c8
                  exact absurd c8 (by rw [hwf]; decide)
                · rw [jW_at] at c8
                  refine lv_iload_n hx hb dX0_judge_97 rfl (lv_at hl 3 rfl) ?_
                  refine lv_istore_n (lv' := [(1, .int (nI (j))), (3, .int (bI (false))), (0, .ref (bA b 0)), (2, .int (nI (j)))]) hx hb dX0_judge_98 rfl hl (by decide) rfl (fun ls hl => ?_)
                  refine lv_iinc (v := nI (j + 1)) (lv' := [(2, .int (nI (j + 1))), (1, .int (nI (j))), (3, .int (bI (false))), (0, .ref (bA b 0))]) hx hb dX0_judge_99 hl (k := 3) rfl (nI_1 _) (by decide) rfl (fun ls hl => ?_)
                  refine lv_goto (tgt := 4) hx hb dX0_judge_102 (by decide) ?_
                  exact ih (j + 1) H locs ls (by omega) (by omega) hP hD hS (by rw [bef, if_neg (by rw [hwf]; decide)]; exact lv_sub hl [3, 1, 0] rfl)
              · exact absurd c6 (by decide)
            · exact absurd c5 (by decide)
          · obtain ⟨a, hba⟩ : ∃ a, bef b j = some a := by
              cases hv : bef b j with
              | none => exact absurd (by rw [hv]; rfl) c3
              | some a => exact ⟨a, rfl⟩
            have haj := bef_lt hba
            have hpa := hpl a (by omega)
            have hsa := ham a (by omega)
            have hla := hso a j haj c1
            have hev : bPl b j % 2 = 0 := of_decide_eq_true c2
            have hh : hrB b a < hrB b j := by unfold hrB; omega
            rw [show gI (bef b j) = nI a by rw [hba]; rfl] at hl
            have hl : lv_has ls 4 [(0, .ref (bA b 0)), (1, .int (nI (a))), (2, .int (nI (j)))] := hl
            refine lv_iconst (v := bI (true)) hx hb dX0_judge_25 (by decide) ?_
            refine lv_goto (tgt := 30) hx hb dX0_judge_26 (by decide) ?_
            refine lv_istore_n (lv' := [(3, .int (bI (true))), (0, .ref (bA b 0)), (1, .int (nI (a))), (2, .int (nI (j)))]) hx hb dX0_judge_30 rfl hl (by decide) rfl (fun ls hl => ?_)
            refine lv_aload_n hx hb dX0_judge_31 rfl (lv_at hl 1 rfl) ?_
            refine va_get (D := g.1) (ci := 0) (v := .ref (bA b 3)) (C := RX0) (T := TX0) (N := 8) hx hb hts hiX0 hown hK.1 hP 0 rfl rfl 4 (by decide) (hts _ w_fl_X0_25) (fun _ h9 => h9) rfl dX0_judge_32 ?_
            refine lv_iload_n hx hb dX0_judge_35 rfl (lv_at hl 3 rfl) ?_
            refine lv_iload_n hx hb dX0_judge_36 rfl (lv_at hl 0 rfl) ?_
            refine bb_eq (tgt := 57) hx hb dX0_judge_37 (by decide) (fun c5 => ?_) (fun c5 => ?_)
            · exact absurd c5 (by decide)
            · refine lv_aload_n hx hb dX0_judge_40 rfl (lv_at hl 1 rfl) ?_
              refine lv_iload_n hx hb dX0_judge_41 rfl (lv_at hl 3 rfl) ?_
              refine cR_i (W.runV (As := [.int (nI (j))]) (rest := [.int (nI (j)), .ref (bA b 3)]) ⟨hx, hb, hml, hown, hts⟩ (k_shareAt l g (jB b j) j (by omega) (Nat.lt_trans hpj (by decide))) (cwV 1 hts (gV w_ml_X0_80 w_im_X0_shareAt w_sel_X0_shareAt w_ini_X0 w_co_X0_shareAt) rfl rfl rfl (by decide +kernel) (by rw [hR1, hR2]; exact ⟨Nat.le_of_ble_eq_true rfl, Nat.le_of_ble_eq_true rfl⟩)) (preV_rd hP hK (va_recv hK.1 hP (ci := 0) (q0 := 0) rfl rfl)) rfl rfl hl.1 rfl (lv_room (Nat.le_of_ble_eq_true rfl)) dX0_judge_42 ⟨by rw [hR3]; omega, by rw [hR4]; omega⟩) ?_
              refine lv_aload_n hx hb dX0_judge_45 rfl (lv_at hl 1 rfl) ?_
              refine lv_iload_n hx hb dX0_judge_46 rfl (lv_at hl 2 rfl) ?_
              refine cR_i (W.runV (As := [.int (nI (a))]) (rest := [.int (nI (shB b j)), .int (nI (j)), .ref (bA b 3)]) ⟨hx, hb, hml, hown, hts⟩ (k_shareAt l g (jB b j) a (by omega) (Nat.lt_trans hpa (by decide))) (cwV 1 hts (gV w_ml_X0_80 w_im_X0_shareAt w_sel_X0_shareAt w_ini_X0 w_co_X0_shareAt) rfl rfl rfl (by decide +kernel) (by rw [hR1, hR2]; exact ⟨Nat.le_of_ble_eq_true rfl, Nat.le_of_ble_eq_true rfl⟩)) (preV_rd hP hK (va_recv hK.1 hP (ci := 0) (q0 := 0) rfl rfl)) rfl rfl hl.1 rfl (lv_room (Nat.le_of_ble_eq_true rfl)) dX0_judge_47 ⟨by rw [hR3]; omega, by rw [hR4]; omega⟩) ?_
              refine W.eq (g2 := F0 m 50 ls [.int (nI (shB b a)), .int (nI (shB b j)), .int (nI (j)), .ref (bA b 3)]) rfl ?_
              refine bn_ge (tgt := 57) hx hb (by omega) (by omega) dX0_judge_50 (by decide) (fun c6 => ?_) (fun c6 => ?_)
              · have hwf : wrgF b (bef b j) j = false := by rw [hba, wrgF_some, c2, decide_eq_false (by omega)]; rfl
                have hgn : gnF b (bef b j) j = some ((shB b j - shB b a) * 24 / (hrB b j - hrB b a)) := by rw [hba, gnF_some, c2, decide_eq_false (by omega)]; rfl
                refine lv_iconst (v := bI (false)) hx hb dX0_judge_57 (by decide) ?_
                refine tp_i (y := bI (wrgF b (bef b j) j)) (by rw [hwf]) ?_
                refine n_zastE (f := jW b j) (x := wrgF b (bef b j) j) (k := j) hx hb hK.1 hP hD hS 3 1 rfl rfl (by omega) (by decide) dX0_judge_58 (fun H locs hP hD hS => ?_)
                have hP : va_P g.1 vwCl (wB g (bsGn (bsWr b (va_up (jW b j) j (wrgF b (bef b j) j))) (jG b j))) H := hP
                have hD : va_D A (wB g (bsGn (bsWr b (va_up (jW b j) j (wrgF b (bef b j) j))) (jG b j))) := hD
                rw [jW_s] at hP hD
                refine lv_aload_n hx hb dX0_judge_59 rfl (lv_at hl 1 rfl) ?_
                refine va_get (D := g.1) (ci := 0) (v := .ref (bA b 4)) (C := RX0) (T := TX0) (N := 8) hx hb hts hiX0 hown hK.1 hP 0 rfl rfl 5 (by decide) (hts _ w_fl_X0_29) (fun _ h9 => h9) rfl dX0_judge_60 ?_
                refine lv_iload_n hx hb dX0_judge_63 rfl (lv_at hl 3 rfl) ?_
                refine lv_iload_n hx hb dX0_judge_64 rfl (lv_at hl 0 rfl) ?_
                refine bb_eq (tgt := 86) hx hb dX0_judge_65 (by decide) (fun c7 => ?_) (fun c7 => ?_)
                · exact absurd c7 (by decide)
                · refine lv_aload_n hx hb dX0_judge_68 rfl (lv_at hl 1 rfl) ?_
                  refine va_get (D := g.1) (ci := 0) (v := .ref (bA b 3)) (C := RX0) (T := TX0) (N := 8) hx hb hts hiX0 hown hK.1 hP 0 rfl rfl 4 (by decide) (hts _ w_fl_X0_25) (fun _ h9 => h9) rfl dX0_judge_69 ?_
                  refine lv_iload_n hx hb dX0_judge_72 rfl (lv_at hl 3 rfl) ?_
                  refine n_zald (k := j) (v := bI (jW b (j + 1) j)) hx hb hK.1 hP 3 1 rfl rfl (by omega) (by decide) (rfl) dX0_judge_73 ?_
                  refine bb_ne (tgt := 86) hx hb dX0_judge_74 (by decide) (fun c8 => ?_) (fun c8 => ?_)
                  · rw [jW_at] at c8
                    exact absurd c8 (by rw [hwf]; decide)
                  · refine lv_aload_n hx hb dX0_judge_77 rfl (lv_at hl 1 rfl) ?_
                    refine lv_iload_n hx hb dX0_judge_78 rfl (lv_at hl 2 rfl) ?_
                    refine lv_iload_n hx hb dX0_judge_79 rfl (lv_at hl 3 rfl) ?_
                    refine cR_i (W.runV (As := [.int (nI (a)), .int (nI (j))]) (rest := [.int (nI (j)), .ref (bA b 4)]) ⟨hx, hb, hml, hown, hts⟩ (k_gainFrom l g (bsGn (bsWr b (jW b (j + 1))) (jG b j)) a j (by omega) (by omega) (Nat.lt_trans hpa (by decide)) (Nat.lt_trans hpj (by decide)) hh c6 hsj) (cwV 2 hts (gV w_ml_X0_83 w_im_X0_gainFrom w_sel_X0_gainFrom w_ini_X0 w_co_X0_gainFrom) rfl rfl rfl (by decide +kernel) (by rw [hR1, hR2]; exact ⟨Nat.le_of_ble_eq_true rfl, Nat.le_of_ble_eq_true rfl⟩)) (preV_rd hP hK (va_recv hK.1 hP (ci := 0) (q0 := 0) rfl rfl)) rfl rfl hl.1 rfl (lv_room (Nat.le_of_ble_eq_true rfl)) dX0_judge_80 ⟨by rw [hR3]; omega, by rw [hR4]; omega⟩) ?_
                    refine lv_goto (tgt := 87) hx hb dX0_judge_83 (by decide) ?_
                    refine tp_i (y := gI (gnF b (bef b j) j)) (by rw [hgn]; rfl) ?_
                    refine W.eq (g2 := F0 m 87 ls [.int (gI (gnF b (bef b j) j)), .int (nI (j)), .ref (bA b 4)]) rfl ?_
                    refine n_iastE (enc := gI) (f := jG b j) (x := gnF b (bef b j) j) (k := j) hx hb hK.1 hP hD hS 4 0 rfl rfl (by omega) (by decide) dX0_judge_87 (fun H locs hP hD hS => ?_)
                    have hP : va_P g.1 vwCl (wB g (bsGn (bsWr b (jW b (j + 1))) (va_up (jG b j) j (gnF b (bef b j) j)))) H := hP
                    have hD : va_D A (wB g (bsGn (bsWr b (jW b (j + 1))) (va_up (jG b j) j (gnF b (bef b j) j)))) := hD
                    rw [jG_s] at hP hD
                    have hP : va_P g.1 vwCl (wB g (jB b (j + 1))) H := hP
                    have hD : va_D A (wB g (jB b (j + 1))) := hD
                    refine lv_aload_n hx hb dX0_judge_88 rfl (lv_at hl 1 rfl) ?_
                    refine va_get (D := g.1) (ci := 0) (v := .ref (bA b 3)) (C := RX0) (T := TX0) (N := 8) hx hb hts hiX0 hown hK.1 hP 0 rfl rfl 4 (by decide) (hts _ w_fl_X0_25) (fun _ h9 => h9) rfl dX0_judge_89 ?_
                    refine lv_iload_n hx hb dX0_judge_92 rfl (lv_at hl 3 rfl) ?_
                    refine n_zald (k := j) (v := bI (jW b (j + 1) j)) hx hb hK.1 hP 3 1 rfl rfl (by omega) (by decide) (rfl) dX0_judge_93 ?_
                    refine bb_ne (tgt := 99) hx hb dX0_judge_94 (by decide) (fun c8 => ?_) (fun c8 => ?_)
                    · rw [jW_at] at c8
                      exact absurd c8 (by rw [hwf]; decide)
                    · rw [jW_at] at c8
                      refine lv_iload_n hx hb dX0_judge_97 rfl (lv_at hl 3 rfl) ?_
                      refine lv_istore_n (lv' := [(1, .int (nI (j))), (3, .int (bI (true))), (0, .ref (bA b 0)), (2, .int (nI (j)))]) hx hb dX0_judge_98 rfl hl (by decide) rfl (fun ls hl => ?_)
                      refine lv_iinc (v := nI (j + 1)) (lv' := [(2, .int (nI (j + 1))), (1, .int (nI (j))), (3, .int (bI (true))), (0, .ref (bA b 0))]) hx hb dX0_judge_99 hl (k := 3) rfl (nI_1 _) (by decide) rfl (fun ls hl => ?_)
                      refine lv_goto (tgt := 4) hx hb dX0_judge_102 (by decide) ?_
                      exact ih (j + 1) H locs ls (by omega) (by omega) hP hD hS (by rw [bef, if_neg (by rw [hwf]; decide)]; exact lv_sub hl [3, 1, 0] rfl)
              · have hwt : wrgF b (bef b j) j = true := by rw [hba, wrgF_some, c2, decide_eq_true c6]; rfl
                have hgn : gnF b (bef b j) j = none := by rw [hba, gnF_some, c2, decide_eq_true c6]; rfl
                refine lv_iconst (v := bI (true)) hx hb dX0_judge_53 (by decide) ?_
                refine lv_goto (tgt := 58) hx hb dX0_judge_54 (by decide) ?_
                refine tp_i (y := bI (wrgF b (bef b j) j)) (by rw [hwt]) ?_
                refine n_zastE (f := jW b j) (x := wrgF b (bef b j) j) (k := j) hx hb hK.1 hP hD hS 3 1 rfl rfl (by omega) (by decide) dX0_judge_58 (fun H locs hP hD hS => ?_)
                have hP : va_P g.1 vwCl (wB g (bsGn (bsWr b (va_up (jW b j) j (wrgF b (bef b j) j))) (jG b j))) H := hP
                have hD : va_D A (wB g (bsGn (bsWr b (va_up (jW b j) j (wrgF b (bef b j) j))) (jG b j))) := hD
                rw [jW_s] at hP hD
                refine lv_aload_n hx hb dX0_judge_59 rfl (lv_at hl 1 rfl) ?_
                refine va_get (D := g.1) (ci := 0) (v := .ref (bA b 4)) (C := RX0) (T := TX0) (N := 8) hx hb hts hiX0 hown hK.1 hP 0 rfl rfl 5 (by decide) (hts _ w_fl_X0_29) (fun _ h9 => h9) rfl dX0_judge_60 ?_
                refine lv_iload_n hx hb dX0_judge_63 rfl (lv_at hl 3 rfl) ?_
                refine lv_iload_n hx hb dX0_judge_64 rfl (lv_at hl 0 rfl) ?_
                refine bb_eq (tgt := 86) hx hb dX0_judge_65 (by decide) (fun c7 => ?_) (fun c7 => ?_)
                · exact absurd c7 (by decide)
                · refine lv_aload_n hx hb dX0_judge_68 rfl (lv_at hl 1 rfl) ?_
                  refine va_get (D := g.1) (ci := 0) (v := .ref (bA b 3)) (C := RX0) (T := TX0) (N := 8) hx hb hts hiX0 hown hK.1 hP 0 rfl rfl 4 (by decide) (hts _ w_fl_X0_25) (fun _ h9 => h9) rfl dX0_judge_69 ?_
                  refine lv_iload_n hx hb dX0_judge_72 rfl (lv_at hl 3 rfl) ?_
                  refine n_zald (k := j) (v := bI (jW b (j + 1) j)) hx hb hK.1 hP 3 1 rfl rfl (by omega) (by decide) (rfl) dX0_judge_73 ?_
                  refine bb_ne (tgt := 86) hx hb dX0_judge_74 (by decide) (fun c8 => ?_) (fun c8 => ?_)
                  · refine lv_iconst (v := (-1)) hx hb dX0_judge_86 (by decide) ?_
                    refine tp_i (y := gI (gnF b (bef b j) j)) (by rw [hgn]; rfl) ?_
                    refine n_iastE (enc := gI) (f := jG b j) (x := gnF b (bef b j) j) (k := j) hx hb hK.1 hP hD hS 4 0 rfl rfl (by omega) (by decide) dX0_judge_87 (fun H locs hP hD hS => ?_)
                    have hP : va_P g.1 vwCl (wB g (bsGn (bsWr b (jW b (j + 1))) (va_up (jG b j) j (gnF b (bef b j) j)))) H := hP
                    have hD : va_D A (wB g (bsGn (bsWr b (jW b (j + 1))) (va_up (jG b j) j (gnF b (bef b j) j)))) := hD
                    rw [jG_s] at hP hD
                    have hP : va_P g.1 vwCl (wB g (jB b (j + 1))) H := hP
                    have hD : va_D A (wB g (jB b (j + 1))) := hD
                    refine lv_aload_n hx hb dX0_judge_88 rfl (lv_at hl 1 rfl) ?_
                    refine va_get (D := g.1) (ci := 0) (v := .ref (bA b 3)) (C := RX0) (T := TX0) (N := 8) hx hb hts hiX0 hown hK.1 hP 0 rfl rfl 4 (by decide) (hts _ w_fl_X0_25) (fun _ h9 => h9) rfl dX0_judge_89 ?_
                    refine lv_iload_n hx hb dX0_judge_92 rfl (lv_at hl 3 rfl) ?_
                    refine n_zald (k := j) (v := bI (jW b (j + 1) j)) hx hb hK.1 hP 3 1 rfl rfl (by omega) (by decide) (rfl) dX0_judge_93 ?_
                    refine bb_ne (tgt := 99) hx hb dX0_judge_94 (by decide) (fun c9 => ?_) (fun c9 => ?_)
                    · refine lv_iinc (v := nI (j + 1)) (lv' := [(2, .int (nI (j + 1))), (3, .int (bI (true))), (0, .ref (bA b 0)), (1, .int (nI (a)))]) hx hb dX0_judge_99 hl (k := 3) rfl (nI_1 _) (by decide) rfl (fun ls hl => ?_)
                      refine lv_goto (tgt := 4) hx hb dX0_judge_102 (by decide) ?_
                      exact ih (j + 1) H locs ls (by omega) (by omega) hP hD hS (by rw [bef, if_pos hwt, hba]; exact lv_sub hl [2, 3, 0] rfl)
                    · rw [jW_at] at c9
                      exact absurd c9 (by rw [hwt]; decide)
                  · rw [jW_at] at c8
                    exact absurd c8 (by rw [hwt]; decide)
  have e0 : wB g (jB b 0) = wB g b := by unfold jB; rw [show jW b 0 = bWr b by funext x; unfold jW; rw [if_neg (by omega)], show jG b 0 = bGn b by funext x; unfold jG; rw [if_neg (by omega)]]; rfl
  exact loop (bN b + 1) 0 _ _ ls (Nat.zero_le _) (by omega) (by rw [e0]; exact hP) (by rw [e0]; exact hD) hS (lv_sub hl [2, 1, 0] rfl)
end
section
set_option maxHeartbeats 4000000 in
set_option maxRecDepth 100000 in
theorem k_putRow_t (l : Launch) (g : GG) (b : BinT) (h v q i : Nat) (hh : h < 10000) (hq : q = 2 * h) (hJ : Jok b) (hi1 : i ≤ bN b) (hi2 : ∀ j, j < i → bPl b j < q) (hi3 : i < bN b → q ≤ bPl b i) (hRn : bR b ≤ bN b) (ht : i < bN b) (htq : bPl b i = q) (hJ1 : Jok (amB b i v)) (sz : Nat) : Wi l yX0_putRow wsX0_putRow 4 88 0 0 [.ref (bA b 0), .int (nI (h)), .int (nI (v))] g (wB g b) sz (nI (bR b)) (wB g (jB (amB b i v) (bN (amB b i v)))) := by
  refine Met.ofW (cc := cX0_putRow) (maxL := 5) (ret := (some .int)) (by decide) rfl ?_
  intro p e s m args below meth c s₁ BB hml hv
  obtain ⟨hargs, hsz, hP, hK, hD0⟩ := hv
  have hx := BB.exec
  have hb := BB.bytes
  have hr := BB.returns
  have hts : ∀ w ∈ BIG, w.before args s = true := fun w h => atoms_spec (ws := wsX0_putRow) BB.pre w (List.mem_cons_of_mem _ h)
  have hown : s.vm.findClass RX0 = some m.cls := findClass_of_methodNamed BB.named
  have hlocks := BB.notSynchronized
  obtain ⟨RR, hRR⟩ : ∃ RR, RR = (headSpec wsX0_putRow ⟨4, 0, 0, 88⟩).room := ⟨_, rfl⟩
  have hR1 : RR.frames = 4 := by rw [hRR]; rfl
  have hR2 : RR.locals = 88 := by rw [hRR]; rfl
  have hR3 : RR.cells = 0 := by rw [hRR]; rfl
  have hR4 : RR.slots = 0 := by rw [hRR]; rfl
  have hl := lv_entry ([.ref (bA b 0), .int (nI (h)), .int (nI (v))]) (n := 5) (Nat.le_of_ble_eq_true rfl)
  have hent : entryFrame m args 5 = F0 m 0 ((lg_sl ([.ref (bA b 0), .int (nI (h)), .int (nI (v))]) ++ List.replicate (5 - (lg_sl ([.ref (bA b 0), .int (nI (h)), .int (nI (v))])).length) Slot.unset).toArray) [] := by rw [hargs, lg_entry_eq]
  rw [hent]
  generalize (lg_sl ([.ref (bA b 0), .int (nI (h)), .int (nI (v))]) ++ List.replicate (5 - (lg_sl ([.ref (bA b 0), .int (nI (h)), .int (nI (v))])).length) Slot.unset).toArray = ls at hl ⊢
  have hl : lv_has ls 5 [(0, .ref (bA b 0)), (1, .int (nI (h))), (2, .int (nI (v)))] := hl
  subst hsz
  have hD := hD0.self (sz := s.heap.size)
  generalize hAe : va_A (wB g b) s.heap.size = A at hD ⊢
  have hA : ∀ q : Nat, s.heap.size ≤ q → A q := fun q h => by rw [← hAe]; exact Or.inr h
  have hS : va_S A s.heap s.heap [] := va_S.rf
  refine q_ab (R := RR) hRR ?_
  generalize hQQ : MQ below _ args s _ _ _ = QQ
  obtain ⟨hJn, hJp, hJs, hJa⟩ := id hJ
  have hpl : ∀ i, i < bN b → bPl b i < 2 ^ 31 := fun i hi => Nat.lt_trans (hJp i hi) (by decide)
  refine lv_iload_n hx hb dX0_putRow_0 rfl (lv_at hl 1 rfl) ?_
  refine cR_i (W.runS (As := [.int (nI (h))]) (rest := []) ⟨hx, hb, hml, hown, hts⟩ (k_placeOfRow l g h) (va_cwS 1 hts (gS w_ml_X0_42 w_sm_X0_placeOfRow w_ini_X0 w_co_X0_placeOfRow) rfl rfl rfl (by decide +kernel) (by rw [hR1, hR2]; exact ⟨Nat.le_of_ble_eq_true rfl, Nat.le_of_ble_eq_true rfl⟩)) (preS_rd va_P.nil hK) rfl rfl hl.1 rfl (lv_room (Nat.le_of_ble_eq_true rfl)) dX0_putRow_1 ⟨by rw [hR3]; omega, by rw [hR4]; omega⟩) ?_
  rw [← hq]
  refine lv_istore_n (lv' := [(3, .int (nI (q))), (0, .ref (bA b 0)), (1, .int (nI (h))), (2, .int (nI (v)))]) hx hb dX0_putRow_4 rfl hl (by decide) rfl (fun ls hl => ?_)
  refine lv_aload_n hx hb dX0_putRow_5 rfl (lv_at hl 1 rfl) ?_
  refine lv_iload_n hx hb dX0_putRow_6 rfl (lv_at hl 0 rfl) ?_
  refine cR_i (W.runV (As := [.int (nI (q))]) (rest := []) ⟨hx, hb, hml, hown, hts⟩ (k_indexFor l g b q i hJn hpl (by omega) hi1 hi2 hi3) (cwV 1 hts (gV w_ml_X0_46 w_im_X0_indexFor w_sel_X0_indexFor w_ini_X0 w_co_X0_indexFor) rfl rfl rfl (by decide +kernel) (by rw [hR1, hR2]; exact ⟨Nat.le_of_ble_eq_true rfl, Nat.le_of_ble_eq_true rfl⟩)) (preV_rd hP hK (va_recv hK.1 hP (ci := 0) (q0 := 0) rfl rfl)) rfl rfl hl.1 rfl (lv_room (Nat.le_of_ble_eq_true rfl)) dX0_putRow_7 ⟨by rw [hR3]; omega, by rw [hR4]; omega⟩) ?_
  refine lv_istore (lv' := [(4, .int (nI (i))), (3, .int (nI (q))), (0, .ref (bA b 0)), (1, .int (nI (h))), (2, .int (nI (v)))]) hx hb dX0_putRow_10 hl (by decide) rfl (fun ls hl => ?_)
  refine lv_aload_n hx hb dX0_putRow_12 rfl (lv_at hl 2 rfl) ?_
  refine lv_iload hx hb dX0_putRow_13 (lv_at hl 0 rfl) ?_
  refine lv_iload_n hx hb dX0_putRow_15 rfl (lv_at hl 1 rfl) ?_
  refine cR_i (W.runV (As := [.int (nI (i)), .int (nI (q))]) (rest := []) ⟨hx, hb, hml, hown, hts⟩ (k_isTaken l g b i q (by omega) hJn hpl (by omega)) (cwV 2 hts (gV w_ml_X0_49 w_im_X0_isTaken w_sel_X0_isTaken w_ini_X0 w_co_X0_isTaken) rfl rfl rfl (by decide +kernel) (by rw [hR1, hR2]; exact ⟨Nat.le_of_ble_eq_true rfl, Nat.le_of_ble_eq_true rfl⟩)) (preV_rd hP hK (va_recv hK.1 hP (ci := 0) (q0 := 0) rfl rfl)) rfl rfl hl.1 rfl (lv_room (Nat.le_of_ble_eq_true rfl)) dX0_putRow_16 ⟨by rw [hR3]; omega, by rw [hR4]; omega⟩) ?_
  refine bb_ne (tgt := 50) hx hb dX0_putRow_19 (by decide) (fun c1 => ?_) (fun c1 => ?_)
  · refine lv_aload_n hx hb dX0_putRow_50 rfl (lv_at hl 2 rfl) ?_
    refine va_get (D := g.1) (ci := 0) (v := .ref (bA b 2)) (C := RX0) (T := TX0) (N := 8) hx hb hts hiX0 hown hK.1 hP 0 rfl rfl 3 (by decide) (hts _ w_fl_X0_22) (fun _ h9 => h9) rfl dX0_putRow_51 ?_
    refine lv_iload hx hb dX0_putRow_54 (lv_at hl 0 rfl) ?_
    refine lv_iload_n hx hb dX0_putRow_56 rfl (lv_at hl 4 rfl) ?_
    refine n_iastE (enc := nI) (f := bAm b) (x := v) (k := i) hx hb hK.1 hP hD hS 2 0 rfl rfl (by omega) (by decide) dX0_putRow_57 (fun H locs hP hD hS => ?_)
    have hP : va_P g.1 vwCl (wB g (amB b i v)) H := hP
    have hD : va_D A (wB g (amB b i v)) := hD
    refine lv_aload_n hx hb dX0_putRow_58 rfl (lv_at hl 2 rfl) ?_
    obtain ⟨hKn, hKp, hKs, hKa⟩ := hJ1
    have hP3 : va_P g.1 vwCl ([] ++ (wB g (amB b i v) ++ [])) _ := hP
    have hD3 : va_D A ([] ++ (wB g (amB b i v) ++ [])) := hD
    refine cW_v (w1 := wB g (jB (amB b i v) (bN (amB b i v)))) (va_runV (As := []) (rest := []) ⟨hx, hb, hml, hown, hts⟩ (k_judge l g (amB b i v) hKn hKp hKs hKa _) (cwV 0 hts (gV w_ml_X0_57 w_im_X0_judge w_sel_X0_judge w_ini_X0 w_co_X0_judge) rfl rfl rfl (by decide +kernel) (by rw [hR1, hR2]; exact ⟨Nat.le_of_ble_eq_true rfl, Nat.le_of_ble_eq_true rfl⟩)) (preV_wr (P_mid hP3) hK (D_mid hD3) (va_recv hK.1 (P_mid hP3) (ci := 0) (q0 := 0) rfl rfl)) rfl rfl hl.1 rfl (lv_room (Nat.le_of_ble_eq_true rfl)) dX0_putRow_59 ⟨by rw [hR3]; omega, by rw [hR4]; omega⟩) hP3 hD3 hS hA rfl (fun H locs hP hD hS => ?_)
    have hP : va_P g.1 vwCl (wB g (jB (amB b i v) (bN (amB b i v)))) H := hP
    have hD : va_D A (wB g (jB (amB b i v) (bN (amB b i v)))) := hD
    refine lv_aload_n hx hb dX0_putRow_62 rfl (lv_at hl 2 rfl) ?_
    refine va_get (D := g.1) (ci := 0) (v := .int (nI (bR (jB (amB b i v) (bN (amB b i v)))))) (C := RX0) (T := TX0) (N := 8) hx hb hts hiX0 hown hK.1 hP 0 rfl rfl 7 (by decide) (hts _ w_fl_X0_35) (fun _ h9 => h9) rfl dX0_putRow_63 ?_
    subst hQQ
    exact W.iret hx hb hr (fun t9 ht _ => ⟨⟨_, (), rfl, rfl, hpT ht hP⟩, hS.F ht⟩) hS.2.2 dX0_putRow_66
  · exact absurd c1 (by rw [decide_eq_true ⟨ht, htq⟩]; decide)

set_option maxHeartbeats 4000000 in
set_option maxRecDepth 100000 in
theorem k_putRow_f (l : Launch) (g : GG) (b : BinT) (h v q i : Nat) (hh : h < 10000) (hq : q = 2 * h) (hJ : Jok b) (hi1 : i ≤ bN b) (hi2 : ∀ j, j < i → bPl b j < q) (hi3 : i < bN b → q ≤ bPl b i) (hRn : bR b ≤ bN b) (hnt : ¬ (i < bN b ∧ bPl b i = q)) (hfull : 24 ≤ bR b) (sz : Nat) : Wi l yX0_putRow wsX0_putRow 1 22 0 0 [.ref (bA b 0), .int (nI (h)), .int (nI (v))] g (wB g b) sz (-1) (wB g b) := by
  refine Met.ofW (cc := cX0_putRow) (maxL := 5) (ret := (some .int)) (by decide) rfl ?_
  intro p e s m args below meth c s₁ BB hml hv
  obtain ⟨hargs, hsz, hP, hK, hD0⟩ := hv
  have hx := BB.exec
  have hb := BB.bytes
  have hr := BB.returns
  have hts : ∀ w ∈ BIG, w.before args s = true := fun w h => atoms_spec (ws := wsX0_putRow) BB.pre w (List.mem_cons_of_mem _ h)
  have hown : s.vm.findClass RX0 = some m.cls := findClass_of_methodNamed BB.named
  have hlocks := BB.notSynchronized
  obtain ⟨RR, hRR⟩ : ∃ RR, RR = (headSpec wsX0_putRow ⟨1, 0, 0, 22⟩).room := ⟨_, rfl⟩
  have hR1 : RR.frames = 1 := by rw [hRR]; rfl
  have hR2 : RR.locals = 22 := by rw [hRR]; rfl
  have hR3 : RR.cells = 0 := by rw [hRR]; rfl
  have hR4 : RR.slots = 0 := by rw [hRR]; rfl
  have hl := lv_entry ([.ref (bA b 0), .int (nI (h)), .int (nI (v))]) (n := 5) (Nat.le_of_ble_eq_true rfl)
  have hent : entryFrame m args 5 = F0 m 0 ((lg_sl ([.ref (bA b 0), .int (nI (h)), .int (nI (v))]) ++ List.replicate (5 - (lg_sl ([.ref (bA b 0), .int (nI (h)), .int (nI (v))])).length) Slot.unset).toArray) [] := by rw [hargs, lg_entry_eq]
  rw [hent]
  generalize (lg_sl ([.ref (bA b 0), .int (nI (h)), .int (nI (v))]) ++ List.replicate (5 - (lg_sl ([.ref (bA b 0), .int (nI (h)), .int (nI (v))])).length) Slot.unset).toArray = ls at hl ⊢
  have hl : lv_has ls 5 [(0, .ref (bA b 0)), (1, .int (nI (h))), (2, .int (nI (v)))] := hl
  subst hsz
  have hD := hD0.self (sz := s.heap.size)
  generalize hAe : va_A (wB g b) s.heap.size = A at hD ⊢
  have hA : ∀ q : Nat, s.heap.size ≤ q → A q := fun q h => by rw [← hAe]; exact Or.inr h
  have hS : va_S A s.heap s.heap [] := va_S.rf
  refine q_ab (R := RR) hRR ?_
  generalize hQQ : MQ below _ args s _ _ _ = QQ
  obtain ⟨hJn, hJp, hJs, hJa⟩ := id hJ
  have hpl : ∀ i, i < bN b → bPl b i < 2 ^ 31 := fun i hi => Nat.lt_trans (hJp i hi) (by decide)
  refine lv_iload_n hx hb dX0_putRow_0 rfl (lv_at hl 1 rfl) ?_
  refine cR_i (W.runS (As := [.int (nI (h))]) (rest := []) ⟨hx, hb, hml, hown, hts⟩ (k_placeOfRow l g h) (va_cwS 1 hts (gS w_ml_X0_42 w_sm_X0_placeOfRow w_ini_X0 w_co_X0_placeOfRow) rfl rfl rfl (by decide +kernel) (by rw [hR1, hR2]; exact ⟨Nat.le_of_ble_eq_true rfl, Nat.le_of_ble_eq_true rfl⟩)) (preS_rd va_P.nil hK) rfl rfl hl.1 rfl (lv_room (Nat.le_of_ble_eq_true rfl)) dX0_putRow_1 ⟨by rw [hR3]; omega, by rw [hR4]; omega⟩) ?_
  rw [← hq]
  refine lv_istore_n (lv' := [(3, .int (nI (q))), (0, .ref (bA b 0)), (1, .int (nI (h))), (2, .int (nI (v)))]) hx hb dX0_putRow_4 rfl hl (by decide) rfl (fun ls hl => ?_)
  refine lv_aload_n hx hb dX0_putRow_5 rfl (lv_at hl 1 rfl) ?_
  refine lv_iload_n hx hb dX0_putRow_6 rfl (lv_at hl 0 rfl) ?_
  refine cR_i (W.runV (As := [.int (nI (q))]) (rest := []) ⟨hx, hb, hml, hown, hts⟩ (k_indexFor l g b q i hJn hpl (by omega) hi1 hi2 hi3) (cwV 1 hts (gV w_ml_X0_46 w_im_X0_indexFor w_sel_X0_indexFor w_ini_X0 w_co_X0_indexFor) rfl rfl rfl (by decide +kernel) (by rw [hR1, hR2]; exact ⟨Nat.le_of_ble_eq_true rfl, Nat.le_of_ble_eq_true rfl⟩)) (preV_rd hP hK (va_recv hK.1 hP (ci := 0) (q0 := 0) rfl rfl)) rfl rfl hl.1 rfl (lv_room (Nat.le_of_ble_eq_true rfl)) dX0_putRow_7 ⟨by rw [hR3]; omega, by rw [hR4]; omega⟩) ?_
  refine lv_istore (lv' := [(4, .int (nI (i))), (3, .int (nI (q))), (0, .ref (bA b 0)), (1, .int (nI (h))), (2, .int (nI (v)))]) hx hb dX0_putRow_10 hl (by decide) rfl (fun ls hl => ?_)
  refine lv_aload_n hx hb dX0_putRow_12 rfl (lv_at hl 2 rfl) ?_
  refine lv_iload hx hb dX0_putRow_13 (lv_at hl 0 rfl) ?_
  refine lv_iload_n hx hb dX0_putRow_15 rfl (lv_at hl 1 rfl) ?_
  refine cR_i (W.runV (As := [.int (nI (i)), .int (nI (q))]) (rest := []) ⟨hx, hb, hml, hown, hts⟩ (k_isTaken l g b i q (by omega) hJn hpl (by omega)) (cwV 2 hts (gV w_ml_X0_49 w_im_X0_isTaken w_sel_X0_isTaken w_ini_X0 w_co_X0_isTaken) rfl rfl rfl (by decide +kernel) (by rw [hR1, hR2]; exact ⟨Nat.le_of_ble_eq_true rfl, Nat.le_of_ble_eq_true rfl⟩)) (preV_rd hP hK (va_recv hK.1 hP (ci := 0) (q0 := 0) rfl rfl)) rfl rfl hl.1 rfl (lv_room (Nat.le_of_ble_eq_true rfl)) dX0_putRow_16 ⟨by rw [hR3]; omega, by rw [hR4]; omega⟩) ?_
  refine bb_ne (tgt := 50) hx hb dX0_putRow_19 (by decide) (fun c1 => ?_) (fun c1 => ?_)
  · exact absurd c1 (by rw [decide_eq_false hnt]; decide)
  · refine lv_aload_n hx hb dX0_putRow_22 rfl (lv_at hl 2 rfl) ?_
    refine va_get (D := g.1) (ci := 0) (v := .int (nI (bR b))) (C := RX0) (T := TX0) (N := 8) hx hb hts hiX0 hown hK.1 hP 0 rfl rfl 7 (by decide) (hts _ w_fl_X0_35) (fun _ h9 => h9) rfl dX0_putRow_23 ?_
    refine lv_bipush (v := nI (24)) hx hb dX0_putRow_26 (by decide) ?_
    refine bn_lt (tgt := 33) hx hb (by omega) (by omega) dX0_putRow_28 (by decide) (fun c2 => ?_) (fun c2 => ?_)
    · exact absurd c2 (by omega)
    · refine lv_iconst (v := (-1)) hx hb dX0_putRow_31 (by decide) ?_
      subst hQQ
      exact W.iret hx hb hr (fun t9 ht _ => ⟨⟨_, (), rfl, rfl, hpT ht hP⟩, hS.F ht⟩) hS.2.2 dX0_putRow_32

set_option maxHeartbeats 4000000 in
set_option maxRecDepth 100000 in
theorem k_putRow_n (l : Launch) (g : GG) (b : BinT) (h v q i : Nat) (hh : h < 10000) (hq : q = 2 * h) (hJ : Jok b) (hi1 : i ≤ bN b) (hi2 : ∀ j, j < i → bPl b j < q) (hi3 : i < bN b → q ≤ bPl b i) (hRn : bR b ≤ bN b) (hnt : ¬ (i < bN b ∧ bPl b i = q)) (hfull : bR b < 24) (hn31 : bN b < 32) (hJ1 : Jok (amB (bsR (opB b i q) (bR b + 1)) i v)) (sz : Nat) : Wi l yX0_putRow wsX0_putRow 4 88 0 0 [.ref (bA b 0), .int (nI (h)), .int (nI (v))] g (wB g b) sz (nI (bR b + 1)) (wB g (jB (amB (bsR (opB b i q) (bR b + 1)) i v) (bN (amB (bsR (opB b i q) (bR b + 1)) i v)))) := by
  refine Met.ofW (cc := cX0_putRow) (maxL := 5) (ret := (some .int)) (by decide) rfl ?_
  intro p e s m args below meth c s₁ BB hml hv
  obtain ⟨hargs, hsz, hP, hK, hD0⟩ := hv
  have hx := BB.exec
  have hb := BB.bytes
  have hr := BB.returns
  have hts : ∀ w ∈ BIG, w.before args s = true := fun w h => atoms_spec (ws := wsX0_putRow) BB.pre w (List.mem_cons_of_mem _ h)
  have hown : s.vm.findClass RX0 = some m.cls := findClass_of_methodNamed BB.named
  have hlocks := BB.notSynchronized
  obtain ⟨RR, hRR⟩ : ∃ RR, RR = (headSpec wsX0_putRow ⟨4, 0, 0, 88⟩).room := ⟨_, rfl⟩
  have hR1 : RR.frames = 4 := by rw [hRR]; rfl
  have hR2 : RR.locals = 88 := by rw [hRR]; rfl
  have hR3 : RR.cells = 0 := by rw [hRR]; rfl
  have hR4 : RR.slots = 0 := by rw [hRR]; rfl
  have hl := lv_entry ([.ref (bA b 0), .int (nI (h)), .int (nI (v))]) (n := 5) (Nat.le_of_ble_eq_true rfl)
  have hent : entryFrame m args 5 = F0 m 0 ((lg_sl ([.ref (bA b 0), .int (nI (h)), .int (nI (v))]) ++ List.replicate (5 - (lg_sl ([.ref (bA b 0), .int (nI (h)), .int (nI (v))])).length) Slot.unset).toArray) [] := by rw [hargs, lg_entry_eq]
  rw [hent]
  generalize (lg_sl ([.ref (bA b 0), .int (nI (h)), .int (nI (v))]) ++ List.replicate (5 - (lg_sl ([.ref (bA b 0), .int (nI (h)), .int (nI (v))])).length) Slot.unset).toArray = ls at hl ⊢
  have hl : lv_has ls 5 [(0, .ref (bA b 0)), (1, .int (nI (h))), (2, .int (nI (v)))] := hl
  subst hsz
  have hD := hD0.self (sz := s.heap.size)
  generalize hAe : va_A (wB g b) s.heap.size = A at hD ⊢
  have hA : ∀ q : Nat, s.heap.size ≤ q → A q := fun q h => by rw [← hAe]; exact Or.inr h
  have hS : va_S A s.heap s.heap [] := va_S.rf
  refine q_ab (R := RR) hRR ?_
  generalize hQQ : MQ below _ args s _ _ _ = QQ
  obtain ⟨hJn, hJp, hJs, hJa⟩ := id hJ
  have hpl : ∀ i, i < bN b → bPl b i < 2 ^ 31 := fun i hi => Nat.lt_trans (hJp i hi) (by decide)
  refine lv_iload_n hx hb dX0_putRow_0 rfl (lv_at hl 1 rfl) ?_
  refine cR_i (W.runS (As := [.int (nI (h))]) (rest := []) ⟨hx, hb, hml, hown, hts⟩ (k_placeOfRow l g h) (va_cwS 1 hts (gS w_ml_X0_42 w_sm_X0_placeOfRow w_ini_X0 w_co_X0_placeOfRow) rfl rfl rfl (by decide +kernel) (by rw [hR1, hR2]; exact ⟨Nat.le_of_ble_eq_true rfl, Nat.le_of_ble_eq_true rfl⟩)) (preS_rd va_P.nil hK) rfl rfl hl.1 rfl (lv_room (Nat.le_of_ble_eq_true rfl)) dX0_putRow_1 ⟨by rw [hR3]; omega, by rw [hR4]; omega⟩) ?_
  rw [← hq]
  refine lv_istore_n (lv' := [(3, .int (nI (q))), (0, .ref (bA b 0)), (1, .int (nI (h))), (2, .int (nI (v)))]) hx hb dX0_putRow_4 rfl hl (by decide) rfl (fun ls hl => ?_)
  refine lv_aload_n hx hb dX0_putRow_5 rfl (lv_at hl 1 rfl) ?_
  refine lv_iload_n hx hb dX0_putRow_6 rfl (lv_at hl 0 rfl) ?_
  refine cR_i (W.runV (As := [.int (nI (q))]) (rest := []) ⟨hx, hb, hml, hown, hts⟩ (k_indexFor l g b q i hJn hpl (by omega) hi1 hi2 hi3) (cwV 1 hts (gV w_ml_X0_46 w_im_X0_indexFor w_sel_X0_indexFor w_ini_X0 w_co_X0_indexFor) rfl rfl rfl (by decide +kernel) (by rw [hR1, hR2]; exact ⟨Nat.le_of_ble_eq_true rfl, Nat.le_of_ble_eq_true rfl⟩)) (preV_rd hP hK (va_recv hK.1 hP (ci := 0) (q0 := 0) rfl rfl)) rfl rfl hl.1 rfl (lv_room (Nat.le_of_ble_eq_true rfl)) dX0_putRow_7 ⟨by rw [hR3]; omega, by rw [hR4]; omega⟩) ?_
  refine lv_istore (lv' := [(4, .int (nI (i))), (3, .int (nI (q))), (0, .ref (bA b 0)), (1, .int (nI (h))), (2, .int (nI (v)))]) hx hb dX0_putRow_10 hl (by decide) rfl (fun ls hl => ?_)
  refine lv_aload_n hx hb dX0_putRow_12 rfl (lv_at hl 2 rfl) ?_
  refine lv_iload hx hb dX0_putRow_13 (lv_at hl 0 rfl) ?_
  refine lv_iload_n hx hb dX0_putRow_15 rfl (lv_at hl 1 rfl) ?_
  refine cR_i (W.runV (As := [.int (nI (i)), .int (nI (q))]) (rest := []) ⟨hx, hb, hml, hown, hts⟩ (k_isTaken l g b i q (by omega) hJn hpl (by omega)) (cwV 2 hts (gV w_ml_X0_49 w_im_X0_isTaken w_sel_X0_isTaken w_ini_X0 w_co_X0_isTaken) rfl rfl rfl (by decide +kernel) (by rw [hR1, hR2]; exact ⟨Nat.le_of_ble_eq_true rfl, Nat.le_of_ble_eq_true rfl⟩)) (preV_rd hP hK (va_recv hK.1 hP (ci := 0) (q0 := 0) rfl rfl)) rfl rfl hl.1 rfl (lv_room (Nat.le_of_ble_eq_true rfl)) dX0_putRow_16 ⟨by rw [hR3]; omega, by rw [hR4]; omega⟩) ?_
  refine bb_ne (tgt := 50) hx hb dX0_putRow_19 (by decide) (fun c1 => ?_) (fun c1 => ?_)
  · exact absurd c1 (by rw [decide_eq_false hnt]; decide)
  · refine lv_aload_n hx hb dX0_putRow_22 rfl (lv_at hl 2 rfl) ?_
    refine va_get (D := g.1) (ci := 0) (v := .int (nI (bR b))) (C := RX0) (T := TX0) (N := 8) hx hb hts hiX0 hown hK.1 hP 0 rfl rfl 7 (by decide) (hts _ w_fl_X0_35) (fun _ h9 => h9) rfl dX0_putRow_23 ?_
    refine lv_bipush (v := nI (24)) hx hb dX0_putRow_26 (by decide) ?_
    refine bn_lt (tgt := 33) hx hb (by omega) (by omega) dX0_putRow_28 (by decide) (fun c2 => ?_) (fun c2 => ?_)
    · refine lv_aload_n hx hb dX0_putRow_33 rfl (lv_at hl 2 rfl) ?_
      refine lv_iload hx hb dX0_putRow_34 (lv_at hl 0 rfl) ?_
      refine lv_iload_n hx hb dX0_putRow_36 rfl (lv_at hl 1 rfl) ?_
      have hP3 : va_P g.1 vwCl ([] ++ (wB g b ++ [])) _ := hP
      have hD3 : va_D A ([] ++ (wB g b ++ [])) := hD
      refine cW_v (w1 := wB g (opB b i q)) (va_runV (As := [.int (nI (i)), .int (nI (q))]) (rest := []) ⟨hx, hb, hml, hown, hts⟩ (k_open l g b i q hn31 hi1 _) (cwV 2 hts (gV w_ml_X0_53 w_im_X0_open w_sel_X0_open w_ini_X0 w_co_X0_open) rfl rfl rfl (by decide +kernel) (by rw [hR1, hR2]; exact ⟨Nat.le_of_ble_eq_true rfl, Nat.le_of_ble_eq_true rfl⟩)) (preV_wr (P_mid hP3) hK (D_mid hD3) (va_recv hK.1 (P_mid hP3) (ci := 0) (q0 := 0) rfl rfl)) rfl rfl hl.1 rfl (lv_room (Nat.le_of_ble_eq_true rfl)) dX0_putRow_37 ⟨by rw [hR3]; omega, by rw [hR4]; omega⟩) hP3 hD3 hS hA rfl (fun H locs hP hD hS => ?_)
      have hP : va_P g.1 vwCl (wB g (opB b i q)) H := hP
      have hD : va_D A (wB g (opB b i q)) := hD
      refine lv_aload_n hx hb dX0_putRow_40 rfl (lv_at hl 2 rfl) ?_
      refine lv_dup hx hb dX0_putRow_41 rfl ?_
      refine va_get (D := g.1) (ci := 0) (v := .int (nI (bR (opB b i q)))) (C := RX0) (T := TX0) (N := 8) hx hb hts hiX0 hown hK.1 hP 0 rfl rfl 7 (by decide) (hts _ w_fl_X0_35) (fun _ h9 => h9) rfl dX0_putRow_42 ?_
      refine lv_iconst (v := nI (1)) hx hb dX0_putRow_45 (by decide) ?_
      refine n_iadd hx hb dX0_putRow_46 ?_
      refine va_put (D := g.1) (ci := 0) (v := .int (nI (bR b + 1))) (ty := .int) (C := RX0) (T := TX0) (N := 8) hx hb hts hiX0 tyX0 tyX0_ok nmX0 hown hK.1 hP hD hS 0 rfl rfl 7 (by decide) (hts _ w_fl_X0_35) (fun _ h9 => h9) rfl (by decide +kernel) rfl rfl (Nat.le_of_ble_eq_true rfl) dX0_putRow_47 (fun H locs hP hD hS => ?_)
      have hP : va_P g.1 vwCl (wB g (bsR (opB b i q) (bR b + 1))) H := hP
      have hD : va_D A (wB g (bsR (opB b i q) (bR b + 1))) := hD
      refine lv_aload_n hx hb dX0_putRow_50 rfl (lv_at hl 2 rfl) ?_
      refine va_get (D := g.1) (ci := 0) (v := .ref (bA b 2)) (C := RX0) (T := TX0) (N := 8) hx hb hts hiX0 hown hK.1 hP 0 rfl rfl 3 (by decide) (hts _ w_fl_X0_22) (fun _ h9 => h9) rfl dX0_putRow_51 ?_
      refine lv_iload hx hb dX0_putRow_54 (lv_at hl 0 rfl) ?_
      refine lv_iload_n hx hb dX0_putRow_56 rfl (lv_at hl 4 rfl) ?_
      refine n_iastE (enc := nI) (f := bAm (bsR (opB b i q) (bR b + 1))) (x := v) (k := i) hx hb hK.1 hP hD hS 2 0 rfl rfl (by omega) (by decide) dX0_putRow_57 (fun H locs hP hD hS => ?_)
      have hP : va_P g.1 vwCl (wB g (amB (bsR (opB b i q) (bR b + 1)) i v)) H := hP
      have hD : va_D A (wB g (amB (bsR (opB b i q) (bR b + 1)) i v)) := hD
      refine lv_aload_n hx hb dX0_putRow_58 rfl (lv_at hl 2 rfl) ?_
      obtain ⟨hKn, hKp, hKs, hKa⟩ := hJ1
      have hP3 : va_P g.1 vwCl ([] ++ (wB g (amB (bsR (opB b i q) (bR b + 1)) i v) ++ [])) _ := hP
      have hD3 : va_D A ([] ++ (wB g (amB (bsR (opB b i q) (bR b + 1)) i v) ++ [])) := hD
      refine cW_v (w1 := wB g (jB (amB (bsR (opB b i q) (bR b + 1)) i v) (bN (amB (bsR (opB b i q) (bR b + 1)) i v)))) (va_runV (As := []) (rest := []) ⟨hx, hb, hml, hown, hts⟩ (k_judge l g (amB (bsR (opB b i q) (bR b + 1)) i v) hKn hKp hKs hKa _) (cwV 0 hts (gV w_ml_X0_57 w_im_X0_judge w_sel_X0_judge w_ini_X0 w_co_X0_judge) rfl rfl rfl (by decide +kernel) (by rw [hR1, hR2]; exact ⟨Nat.le_of_ble_eq_true rfl, Nat.le_of_ble_eq_true rfl⟩)) (preV_wr (P_mid hP3) hK (D_mid hD3) (va_recv hK.1 (P_mid hP3) (ci := 0) (q0 := 0) rfl rfl)) rfl rfl hl.1 rfl (lv_room (Nat.le_of_ble_eq_true rfl)) dX0_putRow_59 ⟨by rw [hR3]; omega, by rw [hR4]; omega⟩) hP3 hD3 hS hA rfl (fun H locs hP hD hS => ?_)
      have hP : va_P g.1 vwCl (wB g (jB (amB (bsR (opB b i q) (bR b + 1)) i v) (bN (amB (bsR (opB b i q) (bR b + 1)) i v)))) H := hP
      have hD : va_D A (wB g (jB (amB (bsR (opB b i q) (bR b + 1)) i v) (bN (amB (bsR (opB b i q) (bR b + 1)) i v)))) := hD
      refine lv_aload_n hx hb dX0_putRow_62 rfl (lv_at hl 2 rfl) ?_
      refine va_get (D := g.1) (ci := 0) (v := .int (nI (bR (jB (amB (bsR (opB b i q) (bR b + 1)) i v) (bN (amB (bsR (opB b i q) (bR b + 1)) i v)))))) (C := RX0) (T := TX0) (N := 8) hx hb hts hiX0 hown hK.1 hP 0 rfl rfl 7 (by decide) (hts _ w_fl_X0_35) (fun _ h9 => h9) rfl dX0_putRow_63 ?_
      subst hQQ
      exact W.iret hx hb hr (fun t9 ht _ => ⟨⟨_, (), rfl, rfl, hpT ht hP⟩, hS.F ht⟩) hS.2.2 dX0_putRow_66
    · exact absurd c2 (by omega)
end
section
set_option maxHeartbeats 4000000 in
set_option maxRecDepth 100000 in
theorem k_putEmptying_t (l : Launch) (g : GG) (b : BinT) (h v q i : Nat) (hh : h < 10000) (hq : q = 2 * h + 1) (hJ : Jok b) (hi1 : i ≤ bN b) (hi2 : ∀ j, j < i → bPl b j < q) (hi3 : i < bN b → q ≤ bPl b i) (hRn : bR b ≤ bN b) (ht : i < bN b) (htq : bPl b i = q) (hJ1 : Jok (amB b i v)) (sz : Nat) : Wi l yX0_putEmptying wsX0_putEmptying 4 88 0 0 [.ref (bA b 0), .int (nI (h)), .int (nI (v))] g (wB g b) sz (nI (bN b - bR b)) (wB g (jB (amB b i v) (bN (amB b i v)))) := by
  refine Met.ofW (cc := cX0_putEmptying) (maxL := 5) (ret := (some .int)) (by decide) rfl ?_
  intro p e s m args below meth c s₁ BB hml hv
  obtain ⟨hargs, hsz, hP, hK, hD0⟩ := hv
  have hx := BB.exec
  have hb := BB.bytes
  have hr := BB.returns
  have hts : ∀ w ∈ BIG, w.before args s = true := fun w h => atoms_spec (ws := wsX0_putEmptying) BB.pre w (List.mem_cons_of_mem _ h)
  have hown : s.vm.findClass RX0 = some m.cls := findClass_of_methodNamed BB.named
  have hlocks := BB.notSynchronized
  obtain ⟨RR, hRR⟩ : ∃ RR, RR = (headSpec wsX0_putEmptying ⟨4, 0, 0, 88⟩).room := ⟨_, rfl⟩
  have hR1 : RR.frames = 4 := by rw [hRR]; rfl
  have hR2 : RR.locals = 88 := by rw [hRR]; rfl
  have hR3 : RR.cells = 0 := by rw [hRR]; rfl
  have hR4 : RR.slots = 0 := by rw [hRR]; rfl
  have hl := lv_entry ([.ref (bA b 0), .int (nI (h)), .int (nI (v))]) (n := 5) (Nat.le_of_ble_eq_true rfl)
  have hent : entryFrame m args 5 = F0 m 0 ((lg_sl ([.ref (bA b 0), .int (nI (h)), .int (nI (v))]) ++ List.replicate (5 - (lg_sl ([.ref (bA b 0), .int (nI (h)), .int (nI (v))])).length) Slot.unset).toArray) [] := by rw [hargs, lg_entry_eq]
  rw [hent]
  generalize (lg_sl ([.ref (bA b 0), .int (nI (h)), .int (nI (v))]) ++ List.replicate (5 - (lg_sl ([.ref (bA b 0), .int (nI (h)), .int (nI (v))])).length) Slot.unset).toArray = ls at hl ⊢
  have hl : lv_has ls 5 [(0, .ref (bA b 0)), (1, .int (nI (h))), (2, .int (nI (v)))] := hl
  subst hsz
  have hD := hD0.self (sz := s.heap.size)
  generalize hAe : va_A (wB g b) s.heap.size = A at hD ⊢
  have hA : ∀ q : Nat, s.heap.size ≤ q → A q := fun q h => by rw [← hAe]; exact Or.inr h
  have hS : va_S A s.heap s.heap [] := va_S.rf
  refine q_ab (R := RR) hRR ?_
  generalize hQQ : MQ below _ args s _ _ _ = QQ
  obtain ⟨hJn, hJp, hJs, hJa⟩ := id hJ
  have hpl : ∀ i, i < bN b → bPl b i < 2 ^ 31 := fun i hi => Nat.lt_trans (hJp i hi) (by decide)
  refine lv_iload_n hx hb dX0_putEmptying_0 rfl (lv_at hl 1 rfl) ?_
  refine cR_i (W.runS (As := [.int (nI (h))]) (rest := []) ⟨hx, hb, hml, hown, hts⟩ (k_placeOfEmptying l g h) (va_cwS 1 hts (gS w_ml_X0_60 w_sm_X0_placeOfEmptying w_ini_X0 w_co_X0_placeOfEmptying) rfl rfl rfl (by decide +kernel) (by rw [hR1, hR2]; exact ⟨Nat.le_of_ble_eq_true rfl, Nat.le_of_ble_eq_true rfl⟩)) (preS_rd va_P.nil hK) rfl rfl hl.1 rfl (lv_room (Nat.le_of_ble_eq_true rfl)) dX0_putEmptying_1 ⟨by rw [hR3]; omega, by rw [hR4]; omega⟩) ?_
  rw [← hq]
  refine lv_istore_n (lv' := [(3, .int (nI (q))), (0, .ref (bA b 0)), (1, .int (nI (h))), (2, .int (nI (v)))]) hx hb dX0_putEmptying_4 rfl hl (by decide) rfl (fun ls hl => ?_)
  refine lv_aload_n hx hb dX0_putEmptying_5 rfl (lv_at hl 1 rfl) ?_
  refine lv_iload_n hx hb dX0_putEmptying_6 rfl (lv_at hl 0 rfl) ?_
  refine cR_i (W.runV (As := [.int (nI (q))]) (rest := []) ⟨hx, hb, hml, hown, hts⟩ (k_indexFor l g b q i hJn hpl (by omega) hi1 hi2 hi3) (cwV 1 hts (gV w_ml_X0_46 w_im_X0_indexFor w_sel_X0_indexFor w_ini_X0 w_co_X0_indexFor) rfl rfl rfl (by decide +kernel) (by rw [hR1, hR2]; exact ⟨Nat.le_of_ble_eq_true rfl, Nat.le_of_ble_eq_true rfl⟩)) (preV_rd hP hK (va_recv hK.1 hP (ci := 0) (q0 := 0) rfl rfl)) rfl rfl hl.1 rfl (lv_room (Nat.le_of_ble_eq_true rfl)) dX0_putEmptying_7 ⟨by rw [hR3]; omega, by rw [hR4]; omega⟩) ?_
  refine lv_istore (lv' := [(4, .int (nI (i))), (3, .int (nI (q))), (0, .ref (bA b 0)), (1, .int (nI (h))), (2, .int (nI (v)))]) hx hb dX0_putEmptying_10 hl (by decide) rfl (fun ls hl => ?_)
  refine lv_aload_n hx hb dX0_putEmptying_12 rfl (lv_at hl 2 rfl) ?_
  refine lv_iload hx hb dX0_putEmptying_13 (lv_at hl 0 rfl) ?_
  refine lv_iload_n hx hb dX0_putEmptying_15 rfl (lv_at hl 1 rfl) ?_
  refine cR_i (W.runV (As := [.int (nI (i)), .int (nI (q))]) (rest := []) ⟨hx, hb, hml, hown, hts⟩ (k_isTaken l g b i q (by omega) hJn hpl (by omega)) (cwV 2 hts (gV w_ml_X0_49 w_im_X0_isTaken w_sel_X0_isTaken w_ini_X0 w_co_X0_isTaken) rfl rfl rfl (by decide +kernel) (by rw [hR1, hR2]; exact ⟨Nat.le_of_ble_eq_true rfl, Nat.le_of_ble_eq_true rfl⟩)) (preV_rd hP hK (va_recv hK.1 hP (ci := 0) (q0 := 0) rfl rfl)) rfl rfl hl.1 rfl (lv_room (Nat.le_of_ble_eq_true rfl)) dX0_putEmptying_16 ⟨by rw [hR3]; omega, by rw [hR4]; omega⟩) ?_
  refine bb_ne (tgt := 45) hx hb dX0_putEmptying_19 (by decide) (fun c1 => ?_) (fun c1 => ?_)
  · refine lv_aload_n hx hb dX0_putEmptying_45 rfl (lv_at hl 2 rfl) ?_
    refine va_get (D := g.1) (ci := 0) (v := .ref (bA b 2)) (C := RX0) (T := TX0) (N := 8) hx hb hts hiX0 hown hK.1 hP 0 rfl rfl 3 (by decide) (hts _ w_fl_X0_22) (fun _ h9 => h9) rfl dX0_putEmptying_46 ?_
    refine lv_iload hx hb dX0_putEmptying_49 (lv_at hl 0 rfl) ?_
    refine lv_iload_n hx hb dX0_putEmptying_51 rfl (lv_at hl 4 rfl) ?_
    refine n_iastE (enc := nI) (f := bAm b) (x := v) (k := i) hx hb hK.1 hP hD hS 2 0 rfl rfl (by omega) (by decide) dX0_putEmptying_52 (fun H locs hP hD hS => ?_)
    have hP : va_P g.1 vwCl (wB g (amB b i v)) H := hP
    have hD : va_D A (wB g (amB b i v)) := hD
    refine lv_aload_n hx hb dX0_putEmptying_53 rfl (lv_at hl 2 rfl) ?_
    obtain ⟨hKn, hKp, hKs, hKa⟩ := hJ1
    have hP3 : va_P g.1 vwCl ([] ++ (wB g (amB b i v) ++ [])) _ := hP
    have hD3 : va_D A ([] ++ (wB g (amB b i v) ++ [])) := hD
    refine cW_v (w1 := wB g (jB (amB b i v) (bN (amB b i v)))) (va_runV (As := []) (rest := []) ⟨hx, hb, hml, hown, hts⟩ (k_judge l g (amB b i v) hKn hKp hKs hKa _) (cwV 0 hts (gV w_ml_X0_57 w_im_X0_judge w_sel_X0_judge w_ini_X0 w_co_X0_judge) rfl rfl rfl (by decide +kernel) (by rw [hR1, hR2]; exact ⟨Nat.le_of_ble_eq_true rfl, Nat.le_of_ble_eq_true rfl⟩)) (preV_wr (P_mid hP3) hK (D_mid hD3) (va_recv hK.1 (P_mid hP3) (ci := 0) (q0 := 0) rfl rfl)) rfl rfl hl.1 rfl (lv_room (Nat.le_of_ble_eq_true rfl)) dX0_putEmptying_54 ⟨by rw [hR3]; omega, by rw [hR4]; omega⟩) hP3 hD3 hS hA rfl (fun H locs hP hD hS => ?_)
    have hP : va_P g.1 vwCl (wB g (jB (amB b i v) (bN (amB b i v)))) H := hP
    have hD : va_D A (wB g (jB (amB b i v) (bN (amB b i v)))) := hD
    refine lv_aload_n hx hb dX0_putEmptying_57 rfl (lv_at hl 2 rfl) ?_
    refine va_get (D := g.1) (ci := 0) (v := .int (nI (bN (jB (amB b i v) (bN (amB b i v)))))) (C := RX0) (T := TX0) (N := 8) hx hb hts hiX0 hown hK.1 hP 0 rfl rfl 6 (by decide) (hts _ w_fl_X0_32) (fun _ h9 => h9) rfl dX0_putEmptying_58 ?_
    refine lv_aload_n hx hb dX0_putEmptying_61 rfl (lv_at hl 2 rfl) ?_
    refine va_get (D := g.1) (ci := 0) (v := .int (nI (bR (jB (amB b i v) (bN (amB b i v)))))) (C := RX0) (T := TX0) (N := 8) hx hb hts hiX0 hown hK.1 hP 0 rfl rfl 7 (by decide) (hts _ w_fl_X0_35) (fun _ h9 => h9) rfl dX0_putEmptying_62 ?_
    refine n_isub hx hb (by first | omega | (show bR b ≤ bN b; omega) | (show bR b ≤ bN b + 1; omega)) dX0_putEmptying_65 ?_
    subst hQQ
    exact W.iret hx hb hr (fun t9 ht _ => ⟨⟨_, (), rfl, rfl, hpT ht hP⟩, hS.F ht⟩) hS.2.2 dX0_putEmptying_66
  · exact absurd c1 (by rw [decide_eq_true ⟨ht, htq⟩]; decide)

set_option maxHeartbeats 4000000 in
set_option maxRecDepth 100000 in
theorem k_putEmptying_f (l : Launch) (g : GG) (b : BinT) (h v q i : Nat) (hh : h < 10000) (hq : q = 2 * h + 1) (hJ : Jok b) (hi1 : i ≤ bN b) (hi2 : ∀ j, j < i → bPl b j < q) (hi3 : i < bN b → q ≤ bPl b i) (hRn : bR b ≤ bN b) (hnt : ¬ (i < bN b ∧ bPl b i = q)) (hfull : 8 ≤ bN b - bR b) (sz : Nat) : Wi l yX0_putEmptying wsX0_putEmptying 1 22 0 0 [.ref (bA b 0), .int (nI (h)), .int (nI (v))] g (wB g b) sz (-1) (wB g b) := by
  refine Met.ofW (cc := cX0_putEmptying) (maxL := 5) (ret := (some .int)) (by decide) rfl ?_
  intro p e s m args below meth c s₁ BB hml hv
  obtain ⟨hargs, hsz, hP, hK, hD0⟩ := hv
  have hx := BB.exec
  have hb := BB.bytes
  have hr := BB.returns
  have hts : ∀ w ∈ BIG, w.before args s = true := fun w h => atoms_spec (ws := wsX0_putEmptying) BB.pre w (List.mem_cons_of_mem _ h)
  have hown : s.vm.findClass RX0 = some m.cls := findClass_of_methodNamed BB.named
  have hlocks := BB.notSynchronized
  obtain ⟨RR, hRR⟩ : ∃ RR, RR = (headSpec wsX0_putEmptying ⟨1, 0, 0, 22⟩).room := ⟨_, rfl⟩
  have hR1 : RR.frames = 1 := by rw [hRR]; rfl
  have hR2 : RR.locals = 22 := by rw [hRR]; rfl
  have hR3 : RR.cells = 0 := by rw [hRR]; rfl
  have hR4 : RR.slots = 0 := by rw [hRR]; rfl
  have hl := lv_entry ([.ref (bA b 0), .int (nI (h)), .int (nI (v))]) (n := 5) (Nat.le_of_ble_eq_true rfl)
  have hent : entryFrame m args 5 = F0 m 0 ((lg_sl ([.ref (bA b 0), .int (nI (h)), .int (nI (v))]) ++ List.replicate (5 - (lg_sl ([.ref (bA b 0), .int (nI (h)), .int (nI (v))])).length) Slot.unset).toArray) [] := by rw [hargs, lg_entry_eq]
  rw [hent]
  generalize (lg_sl ([.ref (bA b 0), .int (nI (h)), .int (nI (v))]) ++ List.replicate (5 - (lg_sl ([.ref (bA b 0), .int (nI (h)), .int (nI (v))])).length) Slot.unset).toArray = ls at hl ⊢
  have hl : lv_has ls 5 [(0, .ref (bA b 0)), (1, .int (nI (h))), (2, .int (nI (v)))] := hl
  subst hsz
  have hD := hD0.self (sz := s.heap.size)
  generalize hAe : va_A (wB g b) s.heap.size = A at hD ⊢
  have hA : ∀ q : Nat, s.heap.size ≤ q → A q := fun q h => by rw [← hAe]; exact Or.inr h
  have hS : va_S A s.heap s.heap [] := va_S.rf
  refine q_ab (R := RR) hRR ?_
  generalize hQQ : MQ below _ args s _ _ _ = QQ
  obtain ⟨hJn, hJp, hJs, hJa⟩ := id hJ
  have hpl : ∀ i, i < bN b → bPl b i < 2 ^ 31 := fun i hi => Nat.lt_trans (hJp i hi) (by decide)
  refine lv_iload_n hx hb dX0_putEmptying_0 rfl (lv_at hl 1 rfl) ?_
  refine cR_i (W.runS (As := [.int (nI (h))]) (rest := []) ⟨hx, hb, hml, hown, hts⟩ (k_placeOfEmptying l g h) (va_cwS 1 hts (gS w_ml_X0_60 w_sm_X0_placeOfEmptying w_ini_X0 w_co_X0_placeOfEmptying) rfl rfl rfl (by decide +kernel) (by rw [hR1, hR2]; exact ⟨Nat.le_of_ble_eq_true rfl, Nat.le_of_ble_eq_true rfl⟩)) (preS_rd va_P.nil hK) rfl rfl hl.1 rfl (lv_room (Nat.le_of_ble_eq_true rfl)) dX0_putEmptying_1 ⟨by rw [hR3]; omega, by rw [hR4]; omega⟩) ?_
  rw [← hq]
  refine lv_istore_n (lv' := [(3, .int (nI (q))), (0, .ref (bA b 0)), (1, .int (nI (h))), (2, .int (nI (v)))]) hx hb dX0_putEmptying_4 rfl hl (by decide) rfl (fun ls hl => ?_)
  refine lv_aload_n hx hb dX0_putEmptying_5 rfl (lv_at hl 1 rfl) ?_
  refine lv_iload_n hx hb dX0_putEmptying_6 rfl (lv_at hl 0 rfl) ?_
  refine cR_i (W.runV (As := [.int (nI (q))]) (rest := []) ⟨hx, hb, hml, hown, hts⟩ (k_indexFor l g b q i hJn hpl (by omega) hi1 hi2 hi3) (cwV 1 hts (gV w_ml_X0_46 w_im_X0_indexFor w_sel_X0_indexFor w_ini_X0 w_co_X0_indexFor) rfl rfl rfl (by decide +kernel) (by rw [hR1, hR2]; exact ⟨Nat.le_of_ble_eq_true rfl, Nat.le_of_ble_eq_true rfl⟩)) (preV_rd hP hK (va_recv hK.1 hP (ci := 0) (q0 := 0) rfl rfl)) rfl rfl hl.1 rfl (lv_room (Nat.le_of_ble_eq_true rfl)) dX0_putEmptying_7 ⟨by rw [hR3]; omega, by rw [hR4]; omega⟩) ?_
  refine lv_istore (lv' := [(4, .int (nI (i))), (3, .int (nI (q))), (0, .ref (bA b 0)), (1, .int (nI (h))), (2, .int (nI (v)))]) hx hb dX0_putEmptying_10 hl (by decide) rfl (fun ls hl => ?_)
  refine lv_aload_n hx hb dX0_putEmptying_12 rfl (lv_at hl 2 rfl) ?_
  refine lv_iload hx hb dX0_putEmptying_13 (lv_at hl 0 rfl) ?_
  refine lv_iload_n hx hb dX0_putEmptying_15 rfl (lv_at hl 1 rfl) ?_
  refine cR_i (W.runV (As := [.int (nI (i)), .int (nI (q))]) (rest := []) ⟨hx, hb, hml, hown, hts⟩ (k_isTaken l g b i q (by omega) hJn hpl (by omega)) (cwV 2 hts (gV w_ml_X0_49 w_im_X0_isTaken w_sel_X0_isTaken w_ini_X0 w_co_X0_isTaken) rfl rfl rfl (by decide +kernel) (by rw [hR1, hR2]; exact ⟨Nat.le_of_ble_eq_true rfl, Nat.le_of_ble_eq_true rfl⟩)) (preV_rd hP hK (va_recv hK.1 hP (ci := 0) (q0 := 0) rfl rfl)) rfl rfl hl.1 rfl (lv_room (Nat.le_of_ble_eq_true rfl)) dX0_putEmptying_16 ⟨by rw [hR3]; omega, by rw [hR4]; omega⟩) ?_
  refine bb_ne (tgt := 45) hx hb dX0_putEmptying_19 (by decide) (fun c1 => ?_) (fun c1 => ?_)
  · exact absurd c1 (by rw [decide_eq_false hnt]; decide)
  · refine lv_aload_n hx hb dX0_putEmptying_22 rfl (lv_at hl 2 rfl) ?_
    refine va_get (D := g.1) (ci := 0) (v := .int (nI (bN b))) (C := RX0) (T := TX0) (N := 8) hx hb hts hiX0 hown hK.1 hP 0 rfl rfl 6 (by decide) (hts _ w_fl_X0_32) (fun _ h9 => h9) rfl dX0_putEmptying_23 ?_
    refine lv_aload_n hx hb dX0_putEmptying_26 rfl (lv_at hl 2 rfl) ?_
    refine va_get (D := g.1) (ci := 0) (v := .int (nI (bR b))) (C := RX0) (T := TX0) (N := 8) hx hb hts hiX0 hown hK.1 hP 0 rfl rfl 7 (by decide) (hts _ w_fl_X0_35) (fun _ h9 => h9) rfl dX0_putEmptying_27 ?_
    refine n_isub hx hb (by omega) dX0_putEmptying_30 ?_
    refine lv_bipush (v := nI (8)) hx hb dX0_putEmptying_31 (by decide) ?_
    refine bn_lt (tgt := 38) hx hb (by omega) (by omega) dX0_putEmptying_33 (by decide) (fun c2 => ?_) (fun c2 => ?_)
    · exact absurd c2 (by omega)
    · refine lv_iconst (v := (-1)) hx hb dX0_putEmptying_36 (by decide) ?_
      subst hQQ
      exact W.iret hx hb hr (fun t9 ht _ => ⟨⟨_, (), rfl, rfl, hpT ht hP⟩, hS.F ht⟩) hS.2.2 dX0_putEmptying_37

set_option maxHeartbeats 4000000 in
set_option maxRecDepth 100000 in
theorem k_putEmptying_n (l : Launch) (g : GG) (b : BinT) (h v q i : Nat) (hh : h < 10000) (hq : q = 2 * h + 1) (hJ : Jok b) (hi1 : i ≤ bN b) (hi2 : ∀ j, j < i → bPl b j < q) (hi3 : i < bN b → q ≤ bPl b i) (hRn : bR b ≤ bN b) (hnt : ¬ (i < bN b ∧ bPl b i = q)) (hfull : bN b - bR b < 8) (hn31 : bN b < 32) (hJ1 : Jok (amB (opB b i q) i v)) (sz : Nat) : Wi l yX0_putEmptying wsX0_putEmptying 4 88 0 0 [.ref (bA b 0), .int (nI (h)), .int (nI (v))] g (wB g b) sz (nI (bN b + 1 - bR b)) (wB g (jB (amB (opB b i q) i v) (bN (amB (opB b i q) i v)))) := by
  refine Met.ofW (cc := cX0_putEmptying) (maxL := 5) (ret := (some .int)) (by decide) rfl ?_
  intro p e s m args below meth c s₁ BB hml hv
  obtain ⟨hargs, hsz, hP, hK, hD0⟩ := hv
  have hx := BB.exec
  have hb := BB.bytes
  have hr := BB.returns
  have hts : ∀ w ∈ BIG, w.before args s = true := fun w h => atoms_spec (ws := wsX0_putEmptying) BB.pre w (List.mem_cons_of_mem _ h)
  have hown : s.vm.findClass RX0 = some m.cls := findClass_of_methodNamed BB.named
  have hlocks := BB.notSynchronized
  obtain ⟨RR, hRR⟩ : ∃ RR, RR = (headSpec wsX0_putEmptying ⟨4, 0, 0, 88⟩).room := ⟨_, rfl⟩
  have hR1 : RR.frames = 4 := by rw [hRR]; rfl
  have hR2 : RR.locals = 88 := by rw [hRR]; rfl
  have hR3 : RR.cells = 0 := by rw [hRR]; rfl
  have hR4 : RR.slots = 0 := by rw [hRR]; rfl
  have hl := lv_entry ([.ref (bA b 0), .int (nI (h)), .int (nI (v))]) (n := 5) (Nat.le_of_ble_eq_true rfl)
  have hent : entryFrame m args 5 = F0 m 0 ((lg_sl ([.ref (bA b 0), .int (nI (h)), .int (nI (v))]) ++ List.replicate (5 - (lg_sl ([.ref (bA b 0), .int (nI (h)), .int (nI (v))])).length) Slot.unset).toArray) [] := by rw [hargs, lg_entry_eq]
  rw [hent]
  generalize (lg_sl ([.ref (bA b 0), .int (nI (h)), .int (nI (v))]) ++ List.replicate (5 - (lg_sl ([.ref (bA b 0), .int (nI (h)), .int (nI (v))])).length) Slot.unset).toArray = ls at hl ⊢
  have hl : lv_has ls 5 [(0, .ref (bA b 0)), (1, .int (nI (h))), (2, .int (nI (v)))] := hl
  subst hsz
  have hD := hD0.self (sz := s.heap.size)
  generalize hAe : va_A (wB g b) s.heap.size = A at hD ⊢
  have hA : ∀ q : Nat, s.heap.size ≤ q → A q := fun q h => by rw [← hAe]; exact Or.inr h
  have hS : va_S A s.heap s.heap [] := va_S.rf
  refine q_ab (R := RR) hRR ?_
  generalize hQQ : MQ below _ args s _ _ _ = QQ
  obtain ⟨hJn, hJp, hJs, hJa⟩ := id hJ
  have hpl : ∀ i, i < bN b → bPl b i < 2 ^ 31 := fun i hi => Nat.lt_trans (hJp i hi) (by decide)
  refine lv_iload_n hx hb dX0_putEmptying_0 rfl (lv_at hl 1 rfl) ?_
  refine cR_i (W.runS (As := [.int (nI (h))]) (rest := []) ⟨hx, hb, hml, hown, hts⟩ (k_placeOfEmptying l g h) (va_cwS 1 hts (gS w_ml_X0_60 w_sm_X0_placeOfEmptying w_ini_X0 w_co_X0_placeOfEmptying) rfl rfl rfl (by decide +kernel) (by rw [hR1, hR2]; exact ⟨Nat.le_of_ble_eq_true rfl, Nat.le_of_ble_eq_true rfl⟩)) (preS_rd va_P.nil hK) rfl rfl hl.1 rfl (lv_room (Nat.le_of_ble_eq_true rfl)) dX0_putEmptying_1 ⟨by rw [hR3]; omega, by rw [hR4]; omega⟩) ?_
  rw [← hq]
  refine lv_istore_n (lv' := [(3, .int (nI (q))), (0, .ref (bA b 0)), (1, .int (nI (h))), (2, .int (nI (v)))]) hx hb dX0_putEmptying_4 rfl hl (by decide) rfl (fun ls hl => ?_)
  refine lv_aload_n hx hb dX0_putEmptying_5 rfl (lv_at hl 1 rfl) ?_
  refine lv_iload_n hx hb dX0_putEmptying_6 rfl (lv_at hl 0 rfl) ?_
  refine cR_i (W.runV (As := [.int (nI (q))]) (rest := []) ⟨hx, hb, hml, hown, hts⟩ (k_indexFor l g b q i hJn hpl (by omega) hi1 hi2 hi3) (cwV 1 hts (gV w_ml_X0_46 w_im_X0_indexFor w_sel_X0_indexFor w_ini_X0 w_co_X0_indexFor) rfl rfl rfl (by decide +kernel) (by rw [hR1, hR2]; exact ⟨Nat.le_of_ble_eq_true rfl, Nat.le_of_ble_eq_true rfl⟩)) (preV_rd hP hK (va_recv hK.1 hP (ci := 0) (q0 := 0) rfl rfl)) rfl rfl hl.1 rfl (lv_room (Nat.le_of_ble_eq_true rfl)) dX0_putEmptying_7 ⟨by rw [hR3]; omega, by rw [hR4]; omega⟩) ?_
  refine lv_istore (lv' := [(4, .int (nI (i))), (3, .int (nI (q))), (0, .ref (bA b 0)), (1, .int (nI (h))), (2, .int (nI (v)))]) hx hb dX0_putEmptying_10 hl (by decide) rfl (fun ls hl => ?_)
  refine lv_aload_n hx hb dX0_putEmptying_12 rfl (lv_at hl 2 rfl) ?_
  refine lv_iload hx hb dX0_putEmptying_13 (lv_at hl 0 rfl) ?_
  refine lv_iload_n hx hb dX0_putEmptying_15 rfl (lv_at hl 1 rfl) ?_
  refine cR_i (W.runV (As := [.int (nI (i)), .int (nI (q))]) (rest := []) ⟨hx, hb, hml, hown, hts⟩ (k_isTaken l g b i q (by omega) hJn hpl (by omega)) (cwV 2 hts (gV w_ml_X0_49 w_im_X0_isTaken w_sel_X0_isTaken w_ini_X0 w_co_X0_isTaken) rfl rfl rfl (by decide +kernel) (by rw [hR1, hR2]; exact ⟨Nat.le_of_ble_eq_true rfl, Nat.le_of_ble_eq_true rfl⟩)) (preV_rd hP hK (va_recv hK.1 hP (ci := 0) (q0 := 0) rfl rfl)) rfl rfl hl.1 rfl (lv_room (Nat.le_of_ble_eq_true rfl)) dX0_putEmptying_16 ⟨by rw [hR3]; omega, by rw [hR4]; omega⟩) ?_
  refine bb_ne (tgt := 45) hx hb dX0_putEmptying_19 (by decide) (fun c1 => ?_) (fun c1 => ?_)
  · exact absurd c1 (by rw [decide_eq_false hnt]; decide)
  · refine lv_aload_n hx hb dX0_putEmptying_22 rfl (lv_at hl 2 rfl) ?_
    refine va_get (D := g.1) (ci := 0) (v := .int (nI (bN b))) (C := RX0) (T := TX0) (N := 8) hx hb hts hiX0 hown hK.1 hP 0 rfl rfl 6 (by decide) (hts _ w_fl_X0_32) (fun _ h9 => h9) rfl dX0_putEmptying_23 ?_
    refine lv_aload_n hx hb dX0_putEmptying_26 rfl (lv_at hl 2 rfl) ?_
    refine va_get (D := g.1) (ci := 0) (v := .int (nI (bR b))) (C := RX0) (T := TX0) (N := 8) hx hb hts hiX0 hown hK.1 hP 0 rfl rfl 7 (by decide) (hts _ w_fl_X0_35) (fun _ h9 => h9) rfl dX0_putEmptying_27 ?_
    refine n_isub hx hb (by omega) dX0_putEmptying_30 ?_
    refine lv_bipush (v := nI (8)) hx hb dX0_putEmptying_31 (by decide) ?_
    refine bn_lt (tgt := 38) hx hb (by omega) (by omega) dX0_putEmptying_33 (by decide) (fun c2 => ?_) (fun c2 => ?_)
    · refine lv_aload_n hx hb dX0_putEmptying_38 rfl (lv_at hl 2 rfl) ?_
      refine lv_iload hx hb dX0_putEmptying_39 (lv_at hl 0 rfl) ?_
      refine lv_iload_n hx hb dX0_putEmptying_41 rfl (lv_at hl 1 rfl) ?_
      have hP3 : va_P g.1 vwCl ([] ++ (wB g b ++ [])) _ := hP
      have hD3 : va_D A ([] ++ (wB g b ++ [])) := hD
      refine cW_v (w1 := wB g (opB b i q)) (va_runV (As := [.int (nI (i)), .int (nI (q))]) (rest := []) ⟨hx, hb, hml, hown, hts⟩ (k_open l g b i q hn31 hi1 _) (cwV 2 hts (gV w_ml_X0_53 w_im_X0_open w_sel_X0_open w_ini_X0 w_co_X0_open) rfl rfl rfl (by decide +kernel) (by rw [hR1, hR2]; exact ⟨Nat.le_of_ble_eq_true rfl, Nat.le_of_ble_eq_true rfl⟩)) (preV_wr (P_mid hP3) hK (D_mid hD3) (va_recv hK.1 (P_mid hP3) (ci := 0) (q0 := 0) rfl rfl)) rfl rfl hl.1 rfl (lv_room (Nat.le_of_ble_eq_true rfl)) dX0_putEmptying_42 ⟨by rw [hR3]; omega, by rw [hR4]; omega⟩) hP3 hD3 hS hA rfl (fun H locs hP hD hS => ?_)
      have hP : va_P g.1 vwCl (wB g (opB b i q)) H := hP
      have hD : va_D A (wB g (opB b i q)) := hD
      refine lv_aload_n hx hb dX0_putEmptying_45 rfl (lv_at hl 2 rfl) ?_
      refine va_get (D := g.1) (ci := 0) (v := .ref (bA b 2)) (C := RX0) (T := TX0) (N := 8) hx hb hts hiX0 hown hK.1 hP 0 rfl rfl 3 (by decide) (hts _ w_fl_X0_22) (fun _ h9 => h9) rfl dX0_putEmptying_46 ?_
      refine lv_iload hx hb dX0_putEmptying_49 (lv_at hl 0 rfl) ?_
      refine lv_iload_n hx hb dX0_putEmptying_51 rfl (lv_at hl 4 rfl) ?_
      refine n_iastE (enc := nI) (f := bAm (opB b i q)) (x := v) (k := i) hx hb hK.1 hP hD hS 2 0 rfl rfl (by omega) (by decide) dX0_putEmptying_52 (fun H locs hP hD hS => ?_)
      have hP : va_P g.1 vwCl (wB g (amB (opB b i q) i v)) H := hP
      have hD : va_D A (wB g (amB (opB b i q) i v)) := hD
      refine lv_aload_n hx hb dX0_putEmptying_53 rfl (lv_at hl 2 rfl) ?_
      obtain ⟨hKn, hKp, hKs, hKa⟩ := hJ1
      have hP3 : va_P g.1 vwCl ([] ++ (wB g (amB (opB b i q) i v) ++ [])) _ := hP
      have hD3 : va_D A ([] ++ (wB g (amB (opB b i q) i v) ++ [])) := hD
      refine cW_v (w1 := wB g (jB (amB (opB b i q) i v) (bN (amB (opB b i q) i v)))) (va_runV (As := []) (rest := []) ⟨hx, hb, hml, hown, hts⟩ (k_judge l g (amB (opB b i q) i v) hKn hKp hKs hKa _) (cwV 0 hts (gV w_ml_X0_57 w_im_X0_judge w_sel_X0_judge w_ini_X0 w_co_X0_judge) rfl rfl rfl (by decide +kernel) (by rw [hR1, hR2]; exact ⟨Nat.le_of_ble_eq_true rfl, Nat.le_of_ble_eq_true rfl⟩)) (preV_wr (P_mid hP3) hK (D_mid hD3) (va_recv hK.1 (P_mid hP3) (ci := 0) (q0 := 0) rfl rfl)) rfl rfl hl.1 rfl (lv_room (Nat.le_of_ble_eq_true rfl)) dX0_putEmptying_54 ⟨by rw [hR3]; omega, by rw [hR4]; omega⟩) hP3 hD3 hS hA rfl (fun H locs hP hD hS => ?_)
      have hP : va_P g.1 vwCl (wB g (jB (amB (opB b i q) i v) (bN (amB (opB b i q) i v)))) H := hP
      have hD : va_D A (wB g (jB (amB (opB b i q) i v) (bN (amB (opB b i q) i v)))) := hD
      refine lv_aload_n hx hb dX0_putEmptying_57 rfl (lv_at hl 2 rfl) ?_
      refine va_get (D := g.1) (ci := 0) (v := .int (nI (bN (jB (amB (opB b i q) i v) (bN (amB (opB b i q) i v)))))) (C := RX0) (T := TX0) (N := 8) hx hb hts hiX0 hown hK.1 hP 0 rfl rfl 6 (by decide) (hts _ w_fl_X0_32) (fun _ h9 => h9) rfl dX0_putEmptying_58 ?_
      refine lv_aload_n hx hb dX0_putEmptying_61 rfl (lv_at hl 2 rfl) ?_
      refine va_get (D := g.1) (ci := 0) (v := .int (nI (bR (jB (amB (opB b i q) i v) (bN (amB (opB b i q) i v)))))) (C := RX0) (T := TX0) (N := 8) hx hb hts hiX0 hown hK.1 hP 0 rfl rfl 7 (by decide) (hts _ w_fl_X0_35) (fun _ h9 => h9) rfl dX0_putEmptying_62 ?_
      refine n_isub hx hb (by first | omega | (show bR b ≤ bN b; omega) | (show bR b ≤ bN b + 1; omega)) dX0_putEmptying_65 ?_
      subst hQQ
      exact W.iret hx hb hr (fun t9 ht _ => ⟨⟨_, (), rfl, rfl, hpT ht hP⟩, hS.F ht⟩) hS.2.2 dX0_putEmptying_66
    · exact absurd c2 (by omega)
end
section
set_option maxHeartbeats 4000000 in
set_option maxRecDepth 100000 in
theorem k_binOf_n (l : Launch) (g : GG) (x : FT) (k : Int32) (h8 : (xB x).length ≤ 8) (hk : binAt (xB x) k = none) : Rq l yX4_binOf wsX4_binOf 1 22 [.ref (xA x 0), .int (k)] g (wX g x) (none) := by
  refine Met.ofW (cc := cX4_binOf) (maxL := 2) (ret := (some (.object "FillForecast$Bin"))) (by decide) rfl ?_
  intro p e s m args below meth c s₁ BB hml hv
  obtain ⟨hargs, hP, hK⟩ := hv
  have hx := BB.exec
  have hb := BB.bytes
  have hr := BB.returns
  have hts : ∀ w ∈ BIG, w.before args s = true := fun w h => atoms_spec (ws := wsX4_binOf) BB.pre w (List.mem_cons_of_mem _ h)
  have hown : s.vm.findClass RX4 = some m.cls := findClass_of_methodNamed BB.named
  have hlocks := BB.notSynchronized
  obtain ⟨RR, hRR⟩ : ∃ RR, RR = (headSpec wsX4_binOf ⟨1, 0, 0, 22⟩).room := ⟨_, rfl⟩
  have hR1 : RR.frames = 1 := by rw [hRR]; rfl
  have hR2 : RR.locals = 22 := by rw [hRR]; rfl
  have hR3 : RR.cells = 0 := by rw [hRR]; rfl
  have hR4 : RR.slots = 0 := by rw [hRR]; rfl
  have hl := lv_entry ([.ref (xA x 0), .int (k)]) (n := 2) (Nat.le_of_ble_eq_true rfl)
  have hent : entryFrame m args 2 = F0 m 0 ((lg_sl ([.ref (xA x 0), .int (k)]) ++ List.replicate (2 - (lg_sl ([.ref (xA x 0), .int (k)])).length) Slot.unset).toArray) [] := by rw [hargs, lg_entry_eq]
  rw [hent]
  generalize (lg_sl ([.ref (xA x 0), .int (k)]) ++ List.replicate (2 - (lg_sl ([.ref (xA x 0), .int (k)])).length) Slot.unset).toArray = ls at hl ⊢
  have hl : lv_has ls 2 [(0, .ref (xA x 0)), (1, .int (k))] := hl
  refine q_ab (R := RR) hRR ?_
  generalize hQQ : MQ below _ args s _ _ _ = QQ
  refine lv_iload_n hx hb dX4_binOf_0 rfl (lv_at hl 1 rfl) ?_
  refine lv_iconst (v := nI (0)) hx hb dX4_binOf_1 (by decide) ?_
  refine lv_aload_n hx hb dX4_binOf_2 rfl (lv_at hl 0 rfl) ?_
  refine va_get (D := g.1) (ci := 4) (v := .int (nI ((xB x).length))) (C := RX4) (T := TX4) (N := 8) hx hb hts hiX4 hown hK.1 hP 0 rfl rfl 4 (by decide) (hts _ w_fl_X4_36) (fun _ h9 => h9) rfl dX4_binOf_3 ?_
  refine lv_iconst (v := nI (1)) hx hb dX4_binOf_6 (by decide) ?_
  refine lv_isub hx hb dX4_binOf_7 ?_
  refine cR_i (W.runS (As := [.int (k), .int (nI (0)), .int (nI ((xB x).length) - nI (1))]) (rest := []) ⟨hx, hb, hml, hown, hts⟩ (k_isWithin l g k (nI 0) (nI (xB x).length - nI 1)) (va_cwS 3 hts (gS w_ml_X4_49 w_sm_X4_isWithin w_ini_X4 w_co_X4_isWithin) rfl rfl rfl (by decide +kernel) (by rw [hR1, hR2]; exact ⟨Nat.le_of_ble_eq_true rfl, Nat.le_of_ble_eq_true rfl⟩)) (preS_rd va_P.nil hK) rfl rfl hl.1 rfl (lv_room (Nat.le_of_ble_eq_true rfl)) dX4_binOf_8 ⟨by rw [hR3]; omega, by rw [hR4]; omega⟩) ?_
  refine bb_eq (tgt := 23) hx hb dX4_binOf_11 (by decide) (fun c1 => ?_) (fun c1 => ?_)
  · refine lv_null hx hb dX4_binOf_23 ?_
    subst hQQ
    exact W.aret hx hb hr (Or.inl ⟨_, rfl⟩) (Or.inl rfl) (fun t9 ht _ => ⟨rfl, ht⟩) (fun q h => absurd h List.not_mem_nil) dX4_binOf_24
  · exact absurd c1 (by rw [binAt_n h8 hk]; decide)

set_option maxHeartbeats 4000000 in
set_option maxRecDepth 100000 in
theorem k_binOf_s (l : Launch) (g : GG) (x : FT) (k : Int32) (b : BinT) (h8 : (xB x).length ≤ 8) (hk : binAt (xB x) k = some b) : Rq l yX4_binOf wsX4_binOf 1 22 [.ref (xA x 0), .int (k)] g (wX g x) (some (bA b 0)) := by
  refine Met.ofW (cc := cX4_binOf) (maxL := 2) (ret := (some (.object "FillForecast$Bin"))) (by decide) rfl ?_
  intro p e s m args below meth c s₁ BB hml hv
  obtain ⟨hargs, hP, hK⟩ := hv
  have hx := BB.exec
  have hb := BB.bytes
  have hr := BB.returns
  have hts : ∀ w ∈ BIG, w.before args s = true := fun w h => atoms_spec (ws := wsX4_binOf) BB.pre w (List.mem_cons_of_mem _ h)
  have hown : s.vm.findClass RX4 = some m.cls := findClass_of_methodNamed BB.named
  have hlocks := BB.notSynchronized
  obtain ⟨RR, hRR⟩ : ∃ RR, RR = (headSpec wsX4_binOf ⟨1, 0, 0, 22⟩).room := ⟨_, rfl⟩
  have hR1 : RR.frames = 1 := by rw [hRR]; rfl
  have hR2 : RR.locals = 22 := by rw [hRR]; rfl
  have hR3 : RR.cells = 0 := by rw [hRR]; rfl
  have hR4 : RR.slots = 0 := by rw [hRR]; rfl
  have hl := lv_entry ([.ref (xA x 0), .int (k)]) (n := 2) (Nat.le_of_ble_eq_true rfl)
  have hent : entryFrame m args 2 = F0 m 0 ((lg_sl ([.ref (xA x 0), .int (k)]) ++ List.replicate (2 - (lg_sl ([.ref (xA x 0), .int (k)])).length) Slot.unset).toArray) [] := by rw [hargs, lg_entry_eq]
  rw [hent]
  generalize (lg_sl ([.ref (xA x 0), .int (k)]) ++ List.replicate (2 - (lg_sl ([.ref (xA x 0), .int (k)])).length) Slot.unset).toArray = ls at hl ⊢
  have hl : lv_has ls 2 [(0, .ref (xA x 0)), (1, .int (k))] := hl
  refine q_ab (R := RR) hRR ?_
  generalize hQQ : MQ below _ args s _ _ _ = QQ
  obtain ⟨j, hj, ek, hj2, hd⟩ := binAt_s h8 hk
  refine lv_iload_n hx hb dX4_binOf_0 rfl (lv_at hl 1 rfl) ?_
  refine lv_iconst (v := nI (0)) hx hb dX4_binOf_1 (by decide) ?_
  refine lv_aload_n hx hb dX4_binOf_2 rfl (lv_at hl 0 rfl) ?_
  refine va_get (D := g.1) (ci := 4) (v := .int (nI ((xB x).length))) (C := RX4) (T := TX4) (N := 8) hx hb hts hiX4 hown hK.1 hP 0 rfl rfl 4 (by decide) (hts _ w_fl_X4_36) (fun _ h9 => h9) rfl dX4_binOf_3 ?_
  refine lv_iconst (v := nI (1)) hx hb dX4_binOf_6 (by decide) ?_
  refine lv_isub hx hb dX4_binOf_7 ?_
  refine cR_i (W.runS (As := [.int (k), .int (nI (0)), .int (nI ((xB x).length) - nI (1))]) (rest := []) ⟨hx, hb, hml, hown, hts⟩ (k_isWithin l g k (nI 0) (nI (xB x).length - nI 1)) (va_cwS 3 hts (gS w_ml_X4_49 w_sm_X4_isWithin w_ini_X4 w_co_X4_isWithin) rfl rfl rfl (by decide +kernel) (by rw [hR1, hR2]; exact ⟨Nat.le_of_ble_eq_true rfl, Nat.le_of_ble_eq_true rfl⟩)) (preS_rd va_P.nil hK) rfl rfl hl.1 rfl (lv_room (Nat.le_of_ble_eq_true rfl)) dX4_binOf_8 ⟨by rw [hR3]; omega, by rw [hR4]; omega⟩) ?_
  refine bb_eq (tgt := 23) hx hb dX4_binOf_11 (by decide) (fun c1 => ?_) (fun c1 => ?_)
  · exact absurd c1 (by rw [hd]; decide)
  · refine lv_aload_n hx hb dX4_binOf_14 rfl (lv_at hl 0 rfl) ?_
    refine va_get (D := g.1) (ci := 4) (v := .ref (xA x 1)) (C := RX4) (T := TX4) (N := 8) hx hb hts hiX4 hown hK.1 hP 0 rfl rfl 3 (by decide) (hts _ w_fl_X4_32) (fun _ h9 => h9) rfl dX4_binOf_15 ?_
    refine lv_iload_n hx hb dX4_binOf_18 rfl (lv_at hl 1 rfl) ?_
    refine tp_i ek ?_
    refine n_aldr (k := j) (r := bA b 0) hx hb hK.1 hP 1 2 rfl rfl (by omega) (by decide) (by unfold bRef; rw [hj2]; rfl) dX4_binOf_19 ?_
    refine lv_goto (tgt := 24) hx hb dX4_binOf_20 (by decide) ?_
    subst hQQ
    exact W.aret hx hb hr (Or.inl ⟨_, rfl⟩) (Or.inr ⟨_, rfl⟩) (fun t9 ht _ => ⟨rfl, ht⟩) (fun q h => absurd h List.not_mem_nil) dX4_binOf_24

set_option maxHeartbeats 4000000 in
set_option maxRecDepth 100000 in
theorem k_streetRateOn (l : Launch) (g : GG) (x : FT) (st wd : Nat) (hx9 : Xok x) (hst : st < 4) (hwd : wd < 7) : Rd l yX4_streetRateOn wsX4_streetRateOn 2 52 [.ref (xA x 0), .int (nI (st)), .int (nI (wd))] g (wX g x) (nI (stV x st wd)) := by
  refine Met.ofW (cc := cX4_streetRateOn) (maxL := 8) (ret := (some .int)) (by decide) rfl ?_
  intro p e s m args below meth c s₁ BB hml hv
  obtain ⟨hargs, hP, hK⟩ := hv
  have hx := BB.exec
  have hb := BB.bytes
  have hr := BB.returns
  have hts : ∀ w ∈ BIG, w.before args s = true := fun w h => atoms_spec (ws := wsX4_streetRateOn) BB.pre w (List.mem_cons_of_mem _ h)
  have hown : s.vm.findClass RX4 = some m.cls := findClass_of_methodNamed BB.named
  have hlocks := BB.notSynchronized
  obtain ⟨RR, hRR⟩ : ∃ RR, RR = (headSpec wsX4_streetRateOn ⟨2, 0, 0, 52⟩).room := ⟨_, rfl⟩
  have hR1 : RR.frames = 2 := by rw [hRR]; rfl
  have hR2 : RR.locals = 52 := by rw [hRR]; rfl
  have hR3 : RR.cells = 0 := by rw [hRR]; rfl
  have hR4 : RR.slots = 0 := by rw [hRR]; rfl
  have hl := lv_entry ([.ref (xA x 0), .int (nI (st)), .int (nI (wd))]) (n := 8) (Nat.le_of_ble_eq_true rfl)
  have hent : entryFrame m args 8 = F0 m 0 ((lg_sl ([.ref (xA x 0), .int (nI (st)), .int (nI (wd))]) ++ List.replicate (8 - (lg_sl ([.ref (xA x 0), .int (nI (st)), .int (nI (wd))])).length) Slot.unset).toArray) [] := by rw [hargs, lg_entry_eq]
  rw [hent]
  generalize (lg_sl ([.ref (xA x 0), .int (nI (st)), .int (nI (wd))]) ++ List.replicate (8 - (lg_sl ([.ref (xA x 0), .int (nI (st)), .int (nI (wd))])).length) Slot.unset).toArray = ls at hl ⊢
  have hl : lv_has ls 8 [(0, .ref (xA x 0)), (1, .int (nI (st))), (2, .int (nI (wd)))] := hl
  refine q_ab (R := RR) hRR ?_
  generalize hQQ : MQ below _ args s _ _ _ = QQ
  obtain ⟨h8, hB, hW, -⟩ := id hx9
  refine lv_lconst (v := lN 0) hx hb dX4_streetRateOn_0 (by decide) ?_
  refine lv_lstore_n (lv' := [(3, .long (lN (0))), (0, .ref (xA x 0)), (1, .int (nI (st))), (2, .int (nI (wd)))]) hx hb dX4_streetRateOn_1 rfl hl (by decide) rfl (fun ls hl => ?_)
  refine lv_iconst (v := nI (0)) hx hb dX4_streetRateOn_2 (by decide) ?_
  refine lv_istore (lv' := [(5, .int (nI (0))), (3, .long (lN (0))), (0, .ref (xA x 0)), (1, .int (nI (st))), (2, .int (nI (wd)))]) hx hb dX4_streetRateOn_3 hl (by decide) rfl (fun ls hl => ?_)
  refine lv_iconst (v := nI (0)) hx hb dX4_streetRateOn_5 (by decide) ?_
  refine lv_istore (lv' := [(6, .int (nI (0))), (5, .int (nI (0))), (3, .long (lN (0))), (0, .ref (xA x 0)), (1, .int (nI (st))), (2, .int (nI (wd)))]) hx hb dX4_streetRateOn_6 hl (by decide) rfl (fun ls hl => ?_)
  have loop : ∀ (k : Nat) (j : Nat) (S : Nat) (T : Nat) (ls : Array Slot), (j ≤ (xB x).length) → ((xB x).length < j + k) → (S ≤ j * 36000) → (T ≤ j) → ((S + (stH (xH x) (xW x) st wd ((xB x).drop j)).1, T + (stH (xH x) (xW x) st wd ((xB x).drop j)).2) = stH (xH x) (xW x) st wd (xB x)) → lv_has ls 8 [(0, .ref (xA x 0)), (1, .int (nI (st))), (2, .int (nI (wd))), (3, .long (lN (S))), (5, .int (nI (T))), (6, .int (nI (j)))] → W p l e RR s m args below meth c s.heap [] 0 0 QQ (F0 m 8 ls []) := by
    intro k
    induction k with
    | zero => intro j S T ls hj hk hS1 hT1 he hl; exact absurd hk (by omega)
    | succ k ih =>
      intro j S T ls hj hk hS1 hT1 he hl
      refine lv_iload hx hb dX4_streetRateOn_8 (lv_at hl 5 rfl) ?_
      refine lv_aload_n hx hb dX4_streetRateOn_10 rfl (lv_at hl 0 rfl) ?_
      refine va_get (D := g.1) (ci := 4) (v := .int (nI ((xB x).length))) (C := RX4) (T := TX4) (N := 8) hx hb hts hiX4 hown hK.1 hP 0 rfl rfl 4 (by decide) (hts _ w_fl_X4_36) (fun _ h9 => h9) rfl dX4_streetRateOn_11 ?_
      refine bn_ge (tgt := 77) hx hb (by omega) (by omega) dX4_streetRateOn_14 (by decide) (fun c1 => ?_) (fun c1 => ?_)
      · rw [List.drop_eq_nil_of_le c1] at he
        have he : (S, T) = stH (xH x) (xW x) st wd (xB x) := he
        refine lv_iload hx hb dX4_streetRateOn_77 (lv_at hl 4 rfl) ?_
        refine bz_le (tgt := 91) hx hb (by omega) dX4_streetRateOn_79 (by decide) (fun c2 => ?_) (fun c2 => ?_)
        · refine lv_bipush (v := nI (100)) hx hb dX4_streetRateOn_91 (by decide) ?_
          subst hQQ
          exact W.iret hx hb hr (fun t9 ht _ => rdI (by unfold stV stQ; rw [← he, if_pos c2]) ht) (fun q h => absurd h List.not_mem_nil) dX4_streetRateOn_93
        · refine lv_lload_n hx hb dX4_streetRateOn_82 rfl (lv_at hl 3 rfl) ?_
          refine lv_iload hx hb dX4_streetRateOn_83 (lv_at hl 4 rfl) ?_
          refine n_i2l hx hb (by omega) dX4_streetRateOn_85 ?_
          refine n_ldiv hx hb (by omega) (by omega) (by omega) dX4_streetRateOn_86 ?_
          refine n_l2i hx hb dX4_streetRateOn_87 ?_
          refine lv_goto (tgt := 93) hx hb dX4_streetRateOn_88 (by decide) ?_
          subst hQQ
          exact W.iret hx hb hr (fun t9 ht _ => rdI (by unfold stV stQ; rw [← he, if_neg (by omega)]) ht) (fun q h => absurd h List.not_mem_nil) dX4_streetRateOn_93
      · obtain ⟨b, hb2⟩ : ∃ b, (xB x)[j]? = some b := ⟨_, List.getElem?_eq_getElem c1⟩
        have hbm := List.mem_of_getElem? hb2
        have hBk := hB b hbm
        obtain ⟨⟨hbn, hbp, -, -⟩, -, -, hbs, -⟩ := id hBk
        have hdr : (xB x).drop j = b :: (xB x).drop (j + 1) := by rw [List.drop_eq_getElem_cons c1, (List.getElem?_eq_some_iff.mp hb2).2]
        rw [hdr, stH] at he
        have hrf : bRef (xB x) j = some (bA b 0) := by unfold bRef; rw [hb2]; rfl
        have hPb := wX_B hP hbm
        have hPm := va_P.app hPb (va_P.app (wX_C hP) (wX_F hP))
        refine lv_aload_n hx hb dX4_streetRateOn_17 rfl (lv_at hl 0 rfl) ?_
        refine va_get (D := g.1) (ci := 4) (v := .ref (xA x 1)) (C := RX4) (T := TX4) (N := 8) hx hb hts hiX4 hown hK.1 hP 0 rfl rfl 3 (by decide) (hts _ w_fl_X4_32) (fun _ h9 => h9) rfl dX4_streetRateOn_18 ?_
        refine lv_iload hx hb dX4_streetRateOn_21 (lv_at hl 5 rfl) ?_
        refine n_aldr (k := j) (r := bA b 0) hx hb hK.1 hP 1 2 rfl rfl (by omega) (by decide) (hrf) dX4_streetRateOn_23 ?_
        refine cR_i (W.runV (As := []) (rest := []) ⟨hx, hb, hml, hown, hts⟩ (k_streetNumber l g b) (cwV 0 hts (gV w_ml_X4_136 w_im_X0_streetNumber w_sel_X0_streetNumber w_ini_X0 w_co_X0_streetNumber) rfl rfl rfl (by decide +kernel) (by rw [hR1, hR2]; exact ⟨Nat.le_of_ble_eq_true rfl, Nat.le_of_ble_eq_true rfl⟩)) (preV_rd hPb hK (va_recv hK.1 hPb (ci := 0) (q0 := 0) rfl rfl)) rfl rfl hl.1 rfl (lv_room (Nat.le_of_ble_eq_true rfl)) dX4_streetRateOn_24 ⟨by rw [hR3]; omega, by rw [hR4]; omega⟩) ?_
        refine lv_iload_n hx hb dX4_streetRateOn_27 rfl (lv_at hl 1 rfl) ?_
        refine bn_ne (tgt := 53) hx hb (by omega) (by omega) dX4_streetRateOn_28 (by decide) (fun c2 => ?_) (fun c2 => ?_)
        · rw [if_neg c2] at he
          refine lv_iconst (v := (-1)) hx hb dX4_streetRateOn_53 (by decide) ?_
          refine lv_istore (lv' := [(7, .int (-1)), (0, .ref (xA x 0)), (1, .int (nI (st))), (2, .int (nI (wd))), (3, .long (lN (S))), (5, .int (nI (T))), (6, .int (nI (j)))]) hx hb dX4_streetRateOn_54 hl (by decide) rfl (fun ls hl => ?_)
          refine lv_iload hx hb dX4_streetRateOn_56 (lv_at hl 0 rfl) ?_
          refine lv_iconst (v := (-1)) hx hb dX4_streetRateOn_58 (by decide) ?_
          refine lv_icmp_eq (tgt := 71) hx hb dX4_streetRateOn_59 (by decide) (fun c3 => ?_) (fun c3 => ?_)
          · refine lv_iinc (v := nI (j + 1)) (lv' := [(6, .int (nI (j + 1))), (7, .int (-1)), (0, .ref (xA x 0)), (1, .int (nI (st))), (2, .int (nI (wd))), (3, .long (lN (S))), (5, .int (nI (T)))]) hx hb dX4_streetRateOn_71 hl (k := 6) rfl (nI_1 _) (by decide) rfl (fun ls hl => ?_)
            refine lv_goto (tgt := 8) hx hb dX4_streetRateOn_74 (by decide) ?_
            exact ih (j + 1) (S) (T) ls (by omega) (by omega) (by omega) (by omega) he (lv_sub hl [2, 3, 4, 5, 6, 0] rfl)
          · exact absurd rfl c3
        · rw [if_pos c2] at he
          refine lv_aload_n hx hb dX4_streetRateOn_31 rfl (lv_at hl 0 rfl) ?_
          refine va_get (D := g.1) (ci := 4) (v := .ref (xA x 1)) (C := RX4) (T := TX4) (N := 8) hx hb hts hiX4 hown hK.1 hP 0 rfl rfl 3 (by decide) (hts _ w_fl_X4_32) (fun _ h9 => h9) rfl dX4_streetRateOn_32 ?_
          refine lv_iload hx hb dX4_streetRateOn_35 (lv_at hl 5 rfl) ?_
          refine n_aldr (k := j) (r := bA b 0) hx hb hK.1 hP 1 2 rfl rfl (by omega) (by decide) (hrf) dX4_streetRateOn_37 ?_
          refine lv_iload_n hx hb dX4_streetRateOn_38 rfl (lv_at hl 2 rfl) ?_
          refine lv_aload_n hx hb dX4_streetRateOn_39 rfl (lv_at hl 0 rfl) ?_
          refine va_get (D := g.1) (ci := 4) (v := .ref (xC x 0)) (C := RX4) (T := TX4) (N := 8) hx hb hts hiX4 hown hK.1 hP 0 rfl rfl 0 (by decide) (hts _ w_fl_X4_10) (fun _ h9 => h9) rfl dX4_streetRateOn_40 ?_
          refine lv_aload_n hx hb dX4_streetRateOn_43 rfl (lv_at hl 0 rfl) ?_
          refine va_get (D := g.1) (ci := 4) (v := .ref (xF x 0)) (C := RX4) (T := TX4) (N := 8) hx hb hts hiX4 hown hK.1 hP 0 rfl rfl 1 (by decide) (hts _ w_fl_X4_19) (fun _ h9 => h9) rfl dX4_streetRateOn_44 ?_
          refine cR_i (W.runV (As := [.int (nI (wd)), .ref (xC x 0), .ref (xF x 0)]) (rest := []) ⟨hx, hb, hml, hown, hts⟩ (k_meanOn l g b (xC x) (xF x) (xH x) (xW x) wd hwd hbn hbp hBk.gain hW) (cwV 3 hts (gV w_ml_X4_82 w_im_X0_meanOn w_sel_X0_meanOn w_ini_X0 w_co_X0_meanOn) rfl rfl rfl (by decide +kernel) (by rw [hR1, hR2]; exact ⟨Nat.le_of_ble_eq_true rfl, Nat.le_of_ble_eq_true rfl⟩)) (preV_rd hPm hK (va_recv hK.1 hPm (ci := 0) (q0 := 0) rfl rfl)) rfl rfl hl.1 rfl (lv_room (Nat.le_of_ble_eq_true rfl)) dX4_streetRateOn_47 ⟨by rw [hR3]; omega, by rw [hR4]; omega⟩) ?_
          refine W.eq (g2 := F0 m 50 ls [.int (gI (meanH (xH x) (xW x) b wd))]) rfl ?_
          refine lv_goto (tgt := 54) hx hb dX4_streetRateOn_50 (by decide) ?_
          refine lv_istore (lv' := [(7, .int (gI (meanH (xH x) (xW x) b wd))), (0, .ref (xA x 0)), (1, .int (nI (st))), (2, .int (nI (wd))), (3, .long (lN (S))), (5, .int (nI (T))), (6, .int (nI (j)))]) hx hb dX4_streetRateOn_54 hl (by decide) rfl (fun ls hl => ?_)
          refine lv_iload hx hb dX4_streetRateOn_56 (lv_at hl 0 rfl) ?_
          refine lv_iconst (v := (-1)) hx hb dX4_streetRateOn_58 (by decide) ?_
          refine lv_icmp_eq (tgt := 71) hx hb dX4_streetRateOn_59 (by decide) (fun c3 => ?_) (fun c3 => ?_)
          · have hm : meanH (xH x) (xW x) b wd = none := (gI_m1 (fun v hv => by have := meanX_le hBk hv; omega)).mp c3
            rw [hm] at he
            refine lv_iinc (v := nI (j + 1)) (lv' := [(6, .int (nI (j + 1))), (7, .int (gI (meanH (xH x) (xW x) b wd))), (0, .ref (xA x 0)), (1, .int (nI (st))), (2, .int (nI (wd))), (3, .long (lN (S))), (5, .int (nI (T)))]) hx hb dX4_streetRateOn_71 hl (k := 6) rfl (nI_1 _) (by decide) rfl (fun ls hl => ?_)
            refine lv_goto (tgt := 8) hx hb dX4_streetRateOn_74 (by decide) ?_
            exact ih (j + 1) (S) (T) ls (by omega) (by omega) (by omega) (by omega) he (lv_sub hl [2, 3, 4, 5, 6, 0] rfl)
          · obtain ⟨v, hv⟩ : ∃ v, meanH (xH x) (xW x) b wd = some v := by
              cases hv : meanH (xH x) (xW x) b wd with
              | none => exact absurd (by rw [hv]; rfl) c3
              | some v => exact ⟨v, rfl⟩
            have hv2 := meanX_le hBk hv
            rw [hv] at he
            refine lv_lload_n hx hb dX4_streetRateOn_62 rfl (lv_at hl 4 rfl) ?_
            refine lv_iload hx hb dX4_streetRateOn_63 (lv_at hl 0 rfl) ?_
            refine tp_i (y := nI v) (by rw [hv]; rfl) ?_
            refine n_i2l hx hb (by omega) dX4_streetRateOn_65 ?_
            refine n_ladd hx hb dX4_streetRateOn_66 ?_
            refine lv_lstore_n (lv' := [(3, .long (lN (S + v))), (7, .int (gI (meanH (xH x) (xW x) b wd))), (0, .ref (xA x 0)), (1, .int (nI (st))), (2, .int (nI (wd))), (5, .int (nI (T))), (6, .int (nI (j)))]) hx hb dX4_streetRateOn_67 rfl hl (by decide) rfl (fun ls hl => ?_)
            refine lv_iinc (v := nI (T + 1)) (lv' := [(5, .int (nI (T + 1))), (3, .long (lN (S + v))), (7, .int (gI (meanH (xH x) (xW x) b wd))), (0, .ref (xA x 0)), (1, .int (nI (st))), (2, .int (nI (wd))), (6, .int (nI (j)))]) hx hb dX4_streetRateOn_68 hl (k := 5) rfl (nI_1 _) (by decide) rfl (fun ls hl => ?_)
            refine lv_iinc (v := nI (j + 1)) (lv' := [(6, .int (nI (j + 1))), (5, .int (nI (T + 1))), (3, .long (lN (S + v))), (7, .int (gI (meanH (xH x) (xW x) b wd))), (0, .ref (xA x 0)), (1, .int (nI (st))), (2, .int (nI (wd)))]) hx hb dX4_streetRateOn_71 hl (k := 6) rfl (nI_1 _) (by decide) rfl (fun ls hl => ?_)
            refine lv_goto (tgt := 8) hx hb dX4_streetRateOn_74 (by decide) ?_
            exact ih (j + 1) (S + v) (T + 1) ls (by omega) (by omega) (by omega) (by omega) (by rw [← he]; exact Prod.ext (by show _ + _ = _ + (_ + _); omega) (by show _ + _ = _ + (_ + _); omega)) (lv_sub hl [4, 5, 6, 2, 1, 0] rfl)
  exact loop ((xB x).length + 1) 0 0 0 ls (Nat.zero_le _) (by omega) (by omega) (by omega) (by rw [List.drop_zero, Nat.zero_add, Nat.zero_add]) (lv_sub hl [3, 4, 5, 2, 1, 0] rfl)

set_option maxHeartbeats 4000000 in
set_option maxRecDepth 100000 in
theorem k_rateOn (l : Launch) (g : GG) (x : FT) (b : BinT) (wd : Nat) (hx9 : Xok x) (hbm : b ∈ xB x) (hwd : wd < 7) : Rd l yX4_rateOn wsX4_rateOn 3 79 [.ref (xA x 0), .ref (bA b 0), .int (nI (wd))] g (wX g x) (nI (rateV x b wd)) := by
  refine Met.ofW (cc := cX4_rateOn) (maxL := 4) (ret := (some .int)) (by decide) rfl ?_
  intro p e s m args below meth c s₁ BB hml hv
  obtain ⟨hargs, hP, hK⟩ := hv
  have hx := BB.exec
  have hb := BB.bytes
  have hr := BB.returns
  have hts : ∀ w ∈ BIG, w.before args s = true := fun w h => atoms_spec (ws := wsX4_rateOn) BB.pre w (List.mem_cons_of_mem _ h)
  have hown : s.vm.findClass RX4 = some m.cls := findClass_of_methodNamed BB.named
  have hlocks := BB.notSynchronized
  obtain ⟨RR, hRR⟩ : ∃ RR, RR = (headSpec wsX4_rateOn ⟨3, 0, 0, 79⟩).room := ⟨_, rfl⟩
  have hR1 : RR.frames = 3 := by rw [hRR]; rfl
  have hR2 : RR.locals = 79 := by rw [hRR]; rfl
  have hR3 : RR.cells = 0 := by rw [hRR]; rfl
  have hR4 : RR.slots = 0 := by rw [hRR]; rfl
  have hl := lv_entry ([.ref (xA x 0), .ref (bA b 0), .int (nI (wd))]) (n := 4) (Nat.le_of_ble_eq_true rfl)
  have hent : entryFrame m args 4 = F0 m 0 ((lg_sl ([.ref (xA x 0), .ref (bA b 0), .int (nI (wd))]) ++ List.replicate (4 - (lg_sl ([.ref (xA x 0), .ref (bA b 0), .int (nI (wd))])).length) Slot.unset).toArray) [] := by rw [hargs, lg_entry_eq]
  rw [hent]
  generalize (lg_sl ([.ref (xA x 0), .ref (bA b 0), .int (nI (wd))]) ++ List.replicate (4 - (lg_sl ([.ref (xA x 0), .ref (bA b 0), .int (nI (wd))])).length) Slot.unset).toArray = ls at hl ⊢
  have hl : lv_has ls 4 [(0, .ref (xA x 0)), (1, .ref (bA b 0)), (2, .int (nI (wd)))] := hl
  refine q_ab (R := RR) hRR ?_
  generalize hQQ : MQ below _ args s _ _ _ = QQ
  obtain ⟨h8, hB, hW, -⟩ := id hx9
  have hBk := hB b hbm
  obtain ⟨⟨hbn, hbp, -, -⟩, -, -, hbs, -⟩ := id hBk
  have hPb := wX_B hP hbm
  have hPm := va_P.app hPb (va_P.app (wX_C hP) (wX_F hP))
  refine lv_aload_n hx hb dX4_rateOn_0 rfl (lv_at hl 1 rfl) ?_
  refine lv_iload_n hx hb dX4_rateOn_1 rfl (lv_at hl 2 rfl) ?_
  refine lv_aload_n hx hb dX4_rateOn_2 rfl (lv_at hl 0 rfl) ?_
  refine va_get (D := g.1) (ci := 4) (v := .ref (xC x 0)) (C := RX4) (T := TX4) (N := 8) hx hb hts hiX4 hown hK.1 hP 0 rfl rfl 0 (by decide) (hts _ w_fl_X4_10) (fun _ h9 => h9) rfl dX4_rateOn_3 ?_
  refine lv_aload_n hx hb dX4_rateOn_6 rfl (lv_at hl 0 rfl) ?_
  refine va_get (D := g.1) (ci := 4) (v := .ref (xF x 0)) (C := RX4) (T := TX4) (N := 8) hx hb hts hiX4 hown hK.1 hP 0 rfl rfl 1 (by decide) (hts _ w_fl_X4_19) (fun _ h9 => h9) rfl dX4_rateOn_7 ?_
  refine cR_i (W.runV (As := [.int (nI (wd)), .ref (xC x 0), .ref (xF x 0)]) (rest := []) ⟨hx, hb, hml, hown, hts⟩ (k_meanOn l g b (xC x) (xF x) (xH x) (xW x) wd hwd hbn hbp hBk.gain hW) (cwV 3 hts (gV w_ml_X4_82 w_im_X0_meanOn w_sel_X0_meanOn w_ini_X0 w_co_X0_meanOn) rfl rfl rfl (by decide +kernel) (by rw [hR1, hR2]; exact ⟨Nat.le_of_ble_eq_true rfl, Nat.le_of_ble_eq_true rfl⟩)) (preV_rd hPm hK (va_recv hK.1 hPm (ci := 0) (q0 := 0) rfl rfl)) rfl rfl hl.1 rfl (lv_room (Nat.le_of_ble_eq_true rfl)) dX4_rateOn_10 ⟨by rw [hR3]; omega, by rw [hR4]; omega⟩) ?_
  refine W.eq (g2 := F0 m 13 ls [.int (gI (meanH (xH x) (xW x) b wd))]) rfl ?_
  refine lv_istore_n (lv' := [(3, .int (gI (meanH (xH x) (xW x) b wd))), (0, .ref (xA x 0)), (1, .ref (bA b 0)), (2, .int (nI (wd)))]) hx hb dX4_rateOn_13 rfl hl (by decide) rfl (fun ls hl => ?_)
  refine lv_iload_n hx hb dX4_rateOn_14 rfl (lv_at hl 0 rfl) ?_
  refine lv_iconst (v := (-1)) hx hb dX4_rateOn_15 (by decide) ?_
  refine lv_icmp_eq (tgt := 23) hx hb dX4_rateOn_16 (by decide) (fun c3 => ?_) (fun c3 => ?_)
  · have hm : meanH (xH x) (xW x) b wd = none := (gI_m1 (fun v hv => by have := meanX_le hBk hv; omega)).mp c3
    refine lv_aload_n hx hb dX4_rateOn_23 rfl (lv_at hl 1 rfl) ?_
    refine lv_aload_n hx hb dX4_rateOn_24 rfl (lv_at hl 2 rfl) ?_
    refine cR_i (W.runV (As := []) (rest := [.ref (xA x 0)]) ⟨hx, hb, hml, hown, hts⟩ (k_streetNumber l g b) (cwV 0 hts (gV w_ml_X4_136 w_im_X0_streetNumber w_sel_X0_streetNumber w_ini_X0 w_co_X0_streetNumber) rfl rfl rfl (by decide +kernel) (by rw [hR1, hR2]; exact ⟨Nat.le_of_ble_eq_true rfl, Nat.le_of_ble_eq_true rfl⟩)) (preV_rd hPb hK (va_recv hK.1 hPb (ci := 0) (q0 := 0) rfl rfl)) rfl rfl hl.1 rfl (lv_room (Nat.le_of_ble_eq_true rfl)) dX4_rateOn_25 ⟨by rw [hR3]; omega, by rw [hR4]; omega⟩) ?_
    refine lv_iload_n hx hb dX4_rateOn_28 rfl (lv_at hl 3 rfl) ?_
    refine cR_i (W.runV (As := [.int (nI (bSt b)), .int (nI (wd))]) (rest := []) ⟨hx, hb, hml, hown, hts⟩ (k_streetRateOn l g x (bSt b) wd hx9 hbs hwd) (cwV 2 hts (gV w_ml_X4_139 w_im_X4_streetRateOn w_sel_X4_streetRateOn w_ini_X4 w_co_X4_streetRateOn) rfl rfl rfl (by decide +kernel) (by rw [hR1, hR2]; exact ⟨Nat.le_of_ble_eq_true rfl, Nat.le_of_ble_eq_true rfl⟩)) (preV_rd hP hK (va_recv hK.1 hP (ci := 4) (q0 := 0) rfl rfl)) rfl rfl hl.1 rfl (lv_room (Nat.le_of_ble_eq_true rfl)) dX4_rateOn_29 ⟨by rw [hR3]; omega, by rw [hR4]; omega⟩) ?_
    subst hQQ
    exact W.iret hx hb hr (fun t9 ht _ => rdI (by unfold rateV rateH; rw [hm]) ht) (fun q h => absurd h List.not_mem_nil) dX4_rateOn_32
  · obtain ⟨v, hv⟩ : ∃ v, meanH (xH x) (xW x) b wd = some v := by
      cases hv : meanH (xH x) (xW x) b wd with
      | none => exact absurd (by rw [hv]; rfl) c3
      | some v => exact ⟨v, rfl⟩
    refine lv_iload_n hx hb dX4_rateOn_19 rfl (lv_at hl 0 rfl) ?_
    refine lv_goto (tgt := 32) hx hb dX4_rateOn_20 (by decide) ?_
    subst hQQ
    exact W.iret hx hb hr (fun t9 ht _ => rdI (by unfold rateV rateH; rw [hv]; rfl) ht) (fun q h => absurd h List.not_mem_nil) dX4_rateOn_32
end
section
set_option maxHeartbeats 4000000 in
set_option maxRecDepth 100000 in
theorem k_lookAhead (l : Launch) (g : GG) (x : FT) (b : BinT) (hx9 : Xok x) (hbm : b ∈ xB x) (sz : Nat) : Wv l yX4_lookAhead wsX4_lookAhead 4 102 0 0 [.ref (xA x 0), .ref (bA b 0)] g (wX g x) sz (wX g (lkX x b)) := by
  refine Met.ofW (cc := cX4_lookAhead) (maxL := 3) (ret := none) (by decide) rfl ?_
  intro p e s m args below meth c s₁ BB hml hv
  obtain ⟨hargs, hsz, hP, hK, hD0⟩ := hv
  have hx := BB.exec
  have hb := BB.bytes
  have hr := BB.returns
  have hts : ∀ w ∈ BIG, w.before args s = true := fun w h => atoms_spec (ws := wsX4_lookAhead) BB.pre w (List.mem_cons_of_mem _ h)
  have hown : s.vm.findClass RX4 = some m.cls := findClass_of_methodNamed BB.named
  have hlocks := BB.notSynchronized
  obtain ⟨RR, hRR⟩ : ∃ RR, RR = (headSpec wsX4_lookAhead ⟨4, 0, 0, 102⟩).room := ⟨_, rfl⟩
  have hR1 : RR.frames = 4 := by rw [hRR]; rfl
  have hR2 : RR.locals = 102 := by rw [hRR]; rfl
  have hR3 : RR.cells = 0 := by rw [hRR]; rfl
  have hR4 : RR.slots = 0 := by rw [hRR]; rfl
  have hl := lv_entry ([.ref (xA x 0), .ref (bA b 0)]) (n := 3) (Nat.le_of_ble_eq_true rfl)
  have hent : entryFrame m args 3 = F0 m 0 ((lg_sl ([.ref (xA x 0), .ref (bA b 0)]) ++ List.replicate (3 - (lg_sl ([.ref (xA x 0), .ref (bA b 0)])).length) Slot.unset).toArray) [] := by rw [hargs, lg_entry_eq]
  rw [hent]
  generalize (lg_sl ([.ref (xA x 0), .ref (bA b 0)]) ++ List.replicate (3 - (lg_sl ([.ref (xA x 0), .ref (bA b 0)])).length) Slot.unset).toArray = ls at hl ⊢
  have hl : lv_has ls 3 [(0, .ref (xA x 0)), (1, .ref (bA b 0))] := hl
  subst hsz
  have hD := hD0.self (sz := s.heap.size)
  generalize hAe : va_A (wX g x) s.heap.size = A at hD ⊢
  have hA : ∀ q : Nat, s.heap.size ≤ q → A q := fun q h => by rw [← hAe]; exact Or.inr h
  have hS : va_S A s.heap s.heap [] := va_S.rf
  refine q_ab (R := RR) hRR ?_
  generalize hQQ : MQ below _ args s _ _ _ = QQ
  refine lv_iconst (v := nI (0)) hx hb dX4_lookAhead_0 (by decide) ?_
  refine lv_istore_n (lv' := [(2, .int (nI (0))), (0, .ref (xA x 0)), (1, .ref (bA b 0))]) hx hb dX4_lookAhead_1 rfl hl (by decide) rfl (fun ls hl => ?_)
  have loop : ∀ (k : Nat) (j : Nat) (H : Heap) (locs : List Loc) (ls : Array Slot), (j ≤ 7) → (7 < j + k) → va_P g.1 vwCl (wX g (xsRS x (ptU (rateV x b) (xR x) j) (xS x))) H → va_D A (wX g (xsRS x (ptU (rateV x b) (xR x) j) (xS x))) → va_S A s.heap H locs → lv_has ls 3 [(0, .ref (xA x 0)), (1, .ref (bA b 0)), (2, .int (nI (j)))] → W p l e RR s m args below meth c H locs 0 0 QQ (F0 m 2 ls []) := by
    intro k
    induction k with
    | zero => intro j H locs ls hj hk hP hD hS hl; exact absurd hk (by omega)
    | succ k ih =>
      intro j H locs ls hj hk hP hD hS hl
      refine lv_iload_n hx hb dX4_lookAhead_2 rfl (lv_at hl 2 rfl) ?_
      refine lv_bipush (v := nI (7)) hx hb dX4_lookAhead_3 (by decide) ?_
      refine bn_ge (tgt := 28) hx hb (by omega) (by omega) dX4_lookAhead_5 (by decide) (fun c1 => ?_) (fun c1 => ?_)
      · have hj : j = 7 := by omega
        subst hj
        refine lv_aload_n hx hb dX4_lookAhead_28 rfl (lv_at hl 0 rfl) ?_
        refine va_get (D := g.1) (ci := 4) (v := .ref (xO x 0)) (C := RX4) (T := TX4) (N := 8) hx hb hts hiX4 hown hK.1 hP 0 rfl rfl 2 (by decide) (hts _ w_fl_X4_26) (fun _ h9 => h9) rfl dX4_lookAhead_29 ?_
        refine lv_aload_n hx hb dX4_lookAhead_32 rfl (lv_at hl 0 rfl) ?_
        refine va_get (D := g.1) (ci := 4) (v := .ref (xC x 0)) (C := RX4) (T := TX4) (N := 8) hx hb hts hiX4 hown hK.1 hP 0 rfl rfl 0 (by decide) (hts _ w_fl_X4_10) (fun _ h9 => h9) rfl dX4_lookAhead_33 ?_
        have hP3 : va_P g.1 vwCl ((wXh g (xsRS x (ptU (rateV x b) (xR x) 7) (xS x)) ++ wF g (xF x) (xW x)) ++ ((wO g (xO x) (ptU (rateV x b) (xR x) 7) (xS x) ++ wC g (xC x) (xH x)) ++ bw g (xB x))) _ := hP
        have hD3 : va_D A ((wXh g (xsRS x (ptU (rateV x b) (xR x) 7) (xS x)) ++ wF g (xF x) (xW x)) ++ ((wO g (xO x) (ptU (rateV x b) (xR x) 7) (xS x) ++ wC g (xC x) (xH x)) ++ bw g (xB x))) := hD
        refine cW_v (w1 := (wO g (xO x) (ptU (rateV x b) (xR x) 7) (smU (ptU (rateV x b) (xR x) 7) (xH x) (xS x) 417) ++ wC g (xC x) (xH x))) (va_runV (As := [.ref (xC x 0)]) (rest := []) ⟨hx, hb, hml, hown, hts⟩ (k_sumUp l g (xO x) (xC x) (ptU (rateV x b) (xR x) 7) (xS x) (xH x) _) (cwV 1 hts (gV w_ml_X4_145 w_im_X3_sumUp w_sel_X3_sumUp w_ini_X3 w_co_X3_sumUp) rfl rfl rfl (by decide +kernel) (by rw [hR1, hR2]; exact ⟨Nat.le_of_ble_eq_true rfl, Nat.le_of_ble_eq_true rfl⟩)) (preV_wr (P_mid hP3) hK (D_mid hD3) (va_recv hK.1 (P_mid hP3) (ci := 3) (q0 := 0) rfl rfl)) rfl rfl hl.1 rfl (lv_room (Nat.le_of_ble_eq_true rfl)) dX4_lookAhead_36 ⟨by rw [hR3]; omega, by rw [hR4]; omega⟩) hP3 hD3 hS hA rfl (fun H locs hP hD hS => ?_)
        have hP : va_P g.1 vwCl (wX g (lkX x b)) H := hP
        have hD : va_D A (wX g (lkX x b)) := hD
        subst hQQ
        exact W.vret hx hb hr (fun t9 ht _ => ⟨⟨(), rfl, trivial, hpT ht hP⟩, hS.F ht⟩) hS.2.2 dX4_lookAhead_39
      · refine lv_aload_n hx hb dX4_lookAhead_8 rfl (lv_at hl 0 rfl) ?_
        refine va_get (D := g.1) (ci := 4) (v := .ref (xO x 0)) (C := RX4) (T := TX4) (N := 8) hx hb hts hiX4 hown hK.1 hP 0 rfl rfl 2 (by decide) (hts _ w_fl_X4_26) (fun _ h9 => h9) rfl dX4_lookAhead_9 ?_
        refine lv_iload_n hx hb dX4_lookAhead_12 rfl (lv_at hl 2 rfl) ?_
        refine lv_aload_n hx hb dX4_lookAhead_13 rfl (lv_at hl 0 rfl) ?_
        refine lv_aload_n hx hb dX4_lookAhead_14 rfl (lv_at hl 1 rfl) ?_
        refine lv_iload_n hx hb dX4_lookAhead_15 rfl (lv_at hl 2 rfl) ?_
        refine cR_i (W.runV (As := [.ref (bA b 0), .int (nI (j))]) (rest := [.int (nI (j)), .ref (xO x 0)]) ⟨hx, hb, hml, hown, hts⟩ (k_rateOn l g (xsRS x (ptU (rateV x b) (xR x) j) (xS x)) b j hx9 hbm c1) (cwV 2 hts (gV w_ml_X4_90 w_im_X4_rateOn w_sel_X4_rateOn w_ini_X4 w_co_X4_rateOn) rfl rfl rfl (by decide +kernel) (by rw [hR1, hR2]; exact ⟨Nat.le_of_ble_eq_true rfl, Nat.le_of_ble_eq_true rfl⟩)) (preV_rd hP hK (va_recv hK.1 hP (ci := 4) (q0 := 0) rfl rfl)) rfl rfl hl.1 rfl (lv_room (Nat.le_of_ble_eq_true rfl)) dX4_lookAhead_16 ⟨by rw [hR3]; omega, by rw [hR4]; omega⟩) ?_
        refine W.eq (g2 := F0 m 19 ls [.int (nI (rateV x b j)), .int (nI (j)), .ref (xO x 0)]) rfl ?_
        have hP3 : va_P g.1 vwCl ((wXh g (xsRS x (ptU (rateV x b) (xR x) j) (xS x)) ++ wF g (xF x) (xW x)) ++ (wO g (xO x) (ptU (rateV x b) (xR x) j) (xS x) ++ (wC g (xC x) (xH x) ++ bw g (xB x)))) _ := hP
        have hD3 : va_D A ((wXh g (xsRS x (ptU (rateV x b) (xR x) j) (xS x)) ++ wF g (xF x) (xW x)) ++ (wO g (xO x) (ptU (rateV x b) (xR x) j) (xS x) ++ (wC g (xC x) (xH x) ++ bw g (xB x)))) := hD
        refine cW_v (w1 := wO g (xO x) (va_up (ptU (rateV x b) (xR x) j) j (rateV x b j)) (xS x)) (va_runV (As := [.int (nI (j)), .int (nI (rateV x b j))]) (rest := []) ⟨hx, hb, hml, hown, hts⟩ (k_setRate l g (xO x) (ptU (rateV x b) (xR x) j) (xS x) j (rateV x b j) c1 _) (cwV 2 hts (gV w_ml_X4_142 w_im_X3_setRate w_sel_X3_setRate w_ini_X3 w_co_X3_setRate) rfl rfl rfl (by decide +kernel) (by rw [hR1, hR2]; exact ⟨Nat.le_of_ble_eq_true rfl, Nat.le_of_ble_eq_true rfl⟩)) (preV_wr (P_mid hP3) hK (D_mid hD3) (va_recv hK.1 (P_mid hP3) (ci := 3) (q0 := 0) rfl rfl)) rfl rfl hl.1 rfl (lv_room (Nat.le_of_ble_eq_true rfl)) dX4_lookAhead_19 ⟨by rw [hR3]; omega, by rw [hR4]; omega⟩) hP3 hD3 hS hA rfl (fun H locs hP hD hS => ?_)
        rw [ptU_s] at hP hD
        have hP : va_P g.1 vwCl (wX g (xsRS x (ptU (rateV x b) (xR x) (j + 1)) (xS x))) H := hP
        have hD : va_D A (wX g (xsRS x (ptU (rateV x b) (xR x) (j + 1)) (xS x))) := hD
        refine lv_iinc (v := nI (j + 1)) (lv' := [(2, .int (nI (j + 1))), (0, .ref (xA x 0)), (1, .ref (bA b 0))]) hx hb dX4_lookAhead_22 hl (k := 2) rfl (nI_1 _) (by decide) rfl (fun ls hl => ?_)
        refine lv_goto (tgt := 2) hx hb dX4_lookAhead_25 (by decide) ?_
        exact ih (j + 1) H locs ls (by omega) (by omega) hP hD hS (lv_sub hl [1, 2, 0] rfl)
  have e0 : wX g (xsRS x (ptU (rateV x b) (xR x) 0) (xS x)) = wX g x := by rw [ptU_0]; rfl
  exact loop 8 0 _ _ ls (by omega) (by omega) (by rw [e0]; exact hP) (by rw [e0]; exact hD) hS (lv_sub hl [1, 2, 0] rfl)

set_option maxHeartbeats 4000000 in
set_option maxRecDepth 100000 in
theorem k_centsOn (l : Launch) (g : GG) (x : FT) (b : BinT) (hx9 : Xok x) (hbm : b ∈ xB x) (hs : ∀ d, d < 418 → xS x d ≤ 20000000) (hm : ∀ d, d < 417 → xS x d ≤ xS x (d + 1)) (d : Nat) (hd : d < 417) : Rl l yX4_centsOn wsX4_centsOn 4 90 [.ref (xA x 0), .ref (bA b 0), .int (nI (d))] g (wX g x) (lN (ctV x b d)) := by
  refine Met.ofW (cc := cX4_centsOn) (maxL := 5) (ret := (some .long)) (by decide) rfl ?_
  intro p e s m args below meth c s₁ BB hml hv
  obtain ⟨hargs, hP, hK⟩ := hv
  have hx := BB.exec
  have hb := BB.bytes
  have hr := BB.returns
  have hts : ∀ w ∈ BIG, w.before args s = true := fun w h => atoms_spec (ws := wsX4_centsOn) BB.pre w (List.mem_cons_of_mem _ h)
  have hown : s.vm.findClass RX4 = some m.cls := findClass_of_methodNamed BB.named
  have hlocks := BB.notSynchronized
  obtain ⟨RR, hRR⟩ : ∃ RR, RR = (headSpec wsX4_centsOn ⟨4, 0, 0, 90⟩).room := ⟨_, rfl⟩
  have hR1 : RR.frames = 4 := by rw [hRR]; rfl
  have hR2 : RR.locals = 90 := by rw [hRR]; rfl
  have hR3 : RR.cells = 0 := by rw [hRR]; rfl
  have hR4 : RR.slots = 0 := by rw [hRR]; rfl
  have hl := lv_entry ([.ref (xA x 0), .ref (bA b 0), .int (nI (d))]) (n := 5) (Nat.le_of_ble_eq_true rfl)
  have hent : entryFrame m args 5 = F0 m 0 ((lg_sl ([.ref (xA x 0), .ref (bA b 0), .int (nI (d))]) ++ List.replicate (5 - (lg_sl ([.ref (xA x 0), .ref (bA b 0), .int (nI (d))])).length) Slot.unset).toArray) [] := by rw [hargs, lg_entry_eq]
  rw [hent]
  generalize (lg_sl ([.ref (xA x 0), .ref (bA b 0), .int (nI (d))]) ++ List.replicate (5 - (lg_sl ([.ref (xA x 0), .ref (bA b 0), .int (nI (d))])).length) Slot.unset).toArray = ls at hl ⊢
  have hl : lv_has ls 5 [(0, .ref (xA x 0)), (1, .ref (bA b 0)), (2, .int (nI (d)))] := hl
  refine q_ab (R := RR) hRR ?_
  generalize hQQ : MQ below _ args s _ _ _ = QQ
  obtain ⟨h8, hB, hW, hq9, he9, hl9⟩ := id hx9
  obtain ⟨⟨hbn, hbp, -, hba⟩, -, -, hbs, -⟩ := hB b hbm
  have hPo := va_P.app (wX_O hP) (wX_B hP hbm)
  refine lv_aload_n hx hb dX4_centsOn_0 rfl (lv_at hl 0 rfl) ?_
  refine va_get (D := g.1) (ci := 4) (v := .ref (xO x 0)) (C := RX4) (T := TX4) (N := 8) hx hb hts hiX4 hown hK.1 hP 0 rfl rfl 2 (by decide) (hts _ w_fl_X4_26) (fun _ h9 => h9) rfl dX4_centsOn_1 ?_
  refine lv_aload_n hx hb dX4_centsOn_4 rfl (lv_at hl 1 rfl) ?_
  refine lv_iload_n hx hb dX4_centsOn_5 rfl (lv_at hl 2 rfl) ?_
  refine lv_bipush (v := nI (24)) hx hb dX4_centsOn_6 (by decide) ?_
  refine n_imul hx hb dX4_centsOn_8 ?_
  refine cR_l (W.runV (As := [.ref (bA b 0), .int (nI (d * 24))]) (rest := []) ⟨hx, hb, hml, hown, hts⟩ (k_shareAtO l g (xO x) (xR x) (xS x) b hbn hbp hba hs hm (d * 24) (by omega)) (cwV 2 hts (gV w_ml_X4_103 w_im_X3_shareAt w_sel_X3_shareAt w_ini_X3 w_co_X3_shareAt) rfl rfl rfl (by decide +kernel) (by rw [hR1, hR2]; exact ⟨Nat.le_of_ble_eq_true rfl, Nat.le_of_ble_eq_true rfl⟩)) (preV_rd hPo hK (va_recv hK.1 hPo (ci := 3) (q0 := 0) rfl rfl)) rfl rfl hl.1 rfl (lv_room (Nat.le_of_ble_eq_true rfl)) dX4_centsOn_9 ⟨by rw [hR3]; omega, by rw [hR4]; omega⟩) ?_
  have hlt : shA b (xS x) (d * 24) < 2 ^ 40 := shA_lt hba hs hm (by omega)
  refine lv_lstore_n (lv' := [(3, .long (lN (shA b (xS x) (d * 24)))), (0, .ref (xA x 0)), (1, .ref (bA b 0)), (2, .int (nI (d)))]) hx hb dX4_centsOn_12 rfl hl (by decide) rfl (fun ls hl => ?_)
  refine lv_lload_n hx hb dX4_centsOn_13 rfl (lv_at hl 0 rfl) ?_
  refine lv_ldc2 (v := 1000) hx hb hown (hts _ w_ct_X4_114) dX4_centsOn_14 ?_
  refine tp_l (y := lN 1000) (by decide) ?_
  refine W.lcmp hx hb dX4_centsOn_17 ?_
  refine bl_ge (tgt := 35) hx hb (by omega) (by omega) dX4_centsOn_18 (by decide) (fun c1 => ?_) (fun c1 => ?_)
  · refine lv_lload_n hx hb dX4_centsOn_35 rfl (lv_at hl 0 rfl) ?_
    refine lv_ldc2 (v := 1000) hx hb hown (hts _ w_ct_X4_114) dX4_centsOn_36 ?_
    refine tp_l (y := lN 1000) (by decide) ?_
    refine n_lsub hx hb (by omega) dX4_centsOn_39 ?_
    refine lv_aload_n hx hb dX4_centsOn_40 rfl (lv_at hl 1 rfl) ?_
    refine va_get (D := g.1) (ci := 4) (v := .int (nI (xL x))) (C := RX4) (T := TX4) (N := 8) hx hb hts hiX4 hown hK.1 hP 0 rfl rfl 7 (by decide) (hts _ w_fl_X4_46) (fun _ h9 => h9) rfl dX4_centsOn_41 ?_
    refine n_i2l hx hb (by omega) dX4_centsOn_44 ?_
    refine n_lmul hx hb dX4_centsOn_45 ?_
    subst hQQ
    exact W.lret hx hb hr (fun t9 ht _ => rdL (by unfold ctV; rw [if_neg (by omega)]) ht) (fun q h => absurd h List.not_mem_nil) dX4_centsOn_46
  · refine lv_ldc2 (v := 1000) hx hb hown (hts _ w_ct_X4_114) dX4_centsOn_21 ?_
    refine tp_l (y := lN 1000) (by decide) ?_
    refine lv_lload_n hx hb dX4_centsOn_24 rfl (lv_at hl 0 rfl) ?_
    refine n_lsub hx hb (by omega) dX4_centsOn_25 ?_
    refine lv_aload_n hx hb dX4_centsOn_26 rfl (lv_at hl 1 rfl) ?_
    refine va_get (D := g.1) (ci := 4) (v := .int (nI (xE x))) (C := RX4) (T := TX4) (N := 8) hx hb hts hiX4 hown hK.1 hP 0 rfl rfl 6 (by decide) (hts _ w_fl_X4_43) (fun _ h9 => h9) rfl dX4_centsOn_27 ?_
    refine n_i2l hx hb (by omega) dX4_centsOn_30 ?_
    refine n_lmul hx hb dX4_centsOn_31 ?_
    refine lv_goto (tgt := 46) hx hb dX4_centsOn_32 (by decide) ?_
    subst hQQ
    exact W.lret hx hb hr (fun t9 ht _ => rdL (by unfold ctV; rw [if_pos c1]) ht) (fun q h => absurd h List.not_mem_nil) dX4_centsOn_46
end
section
set_option maxHeartbeats 4000000 in
set_option maxRecDepth 100000 in
theorem k_weight (l : Launch) (g : GG) (x : FT) (hx9 : Xok x) (k : Int32) : Rd l yX4_weight wsX4_weight 1 22 [.ref (xA x 0), .int (k)] g (wX g x) (gI ((inL 0 7 k).map (xW x))) := by
  refine Met.ofW (cc := cX4_weight) (maxL := 2) (ret := (some .int)) (by decide) rfl ?_
  intro p e s m args below meth c s₁ BB hml hv
  obtain ⟨hargs, hP, hK⟩ := hv
  have hx := BB.exec
  have hb := BB.bytes
  have hr := BB.returns
  have hts : ∀ w ∈ BIG, w.before args s = true := fun w h => atoms_spec (ws := wsX4_weight) BB.pre w (List.mem_cons_of_mem _ h)
  have hown : s.vm.findClass RX4 = some m.cls := findClass_of_methodNamed BB.named
  have hlocks := BB.notSynchronized
  obtain ⟨RR, hRR⟩ : ∃ RR, RR = (headSpec wsX4_weight ⟨1, 0, 0, 22⟩).room := ⟨_, rfl⟩
  have hR1 : RR.frames = 1 := by rw [hRR]; rfl
  have hR2 : RR.locals = 22 := by rw [hRR]; rfl
  have hR3 : RR.cells = 0 := by rw [hRR]; rfl
  have hR4 : RR.slots = 0 := by rw [hRR]; rfl
  have hl := lv_entry ([.ref (xA x 0), .int (k)]) (n := 2) (Nat.le_of_ble_eq_true rfl)
  have hent : entryFrame m args 2 = F0 m 0 ((lg_sl ([.ref (xA x 0), .int (k)]) ++ List.replicate (2 - (lg_sl ([.ref (xA x 0), .int (k)])).length) Slot.unset).toArray) [] := by rw [hargs, lg_entry_eq]
  rw [hent]
  generalize (lg_sl ([.ref (xA x 0), .int (k)]) ++ List.replicate (2 - (lg_sl ([.ref (xA x 0), .int (k)])).length) Slot.unset).toArray = ls at hl ⊢
  have hl : lv_has ls 2 [(0, .ref (xA x 0)), (1, .int (k))] := hl
  refine q_ab (R := RR) hRR ?_
  generalize hQQ : MQ below _ args s _ _ _ = QQ
  refine lv_iload_n hx hb dX4_weight_0 rfl (lv_at hl 1 rfl) ?_
  refine lv_iconst (v := nI (0)) hx hb dX4_weight_1 (by decide) ?_
  refine lv_bipush (v := nI (7)) hx hb dX4_weight_2 (by decide) ?_
  refine cR_i (W.runS (As := [.int (k), .int (nI (0)), .int (nI (7))]) (rest := []) ⟨hx, hb, hml, hown, hts⟩ (k_isWithin l g k (nI 0) (nI 7)) (va_cwS 3 hts (gS w_ml_X4_49 w_sm_X4_isWithin w_ini_X4 w_co_X4_isWithin) rfl rfl rfl (by decide +kernel) (by rw [hR1, hR2]; exact ⟨Nat.le_of_ble_eq_true rfl, Nat.le_of_ble_eq_true rfl⟩)) (preS_rd va_P.nil hK) rfl rfl hl.1 rfl (lv_room (Nat.le_of_ble_eq_true rfl)) dX4_weight_4 ⟨by rw [hR3]; omega, by rw [hR4]; omega⟩) ?_
  refine bb_eq (tgt := 21) hx hb dX4_weight_7 (by decide) (fun hhc => ?_) (fun hhc => ?_)
  · cases hh : inL 0 7 k with
    | none =>
      refine lv_iconst (v := (-1)) hx hb dX4_weight_21 (by decide) ?_
      subst hQQ
      exact W.iret hx hb hr (fun t9 ht _ => rdI (by rw [hh]; rfl) ht) (fun q h => absurd h List.not_mem_nil) dX4_weight_22
    | some a => exact absurd hhc (by rw [(inL_s (by decide) (by decide) hh).2.2.2]; decide)
  · cases hh : inL 0 7 k with
    | none => exact absurd hhc (by rw [inL_n hh]; decide)
    | some a =>
      obtain ⟨hhl, hhn, hhe, -⟩ := inL_s (by decide) (by decide) hh
      subst hhe
      refine lv_aload_n hx hb dX4_weight_10 rfl (lv_at hl 0 rfl) ?_
      refine va_get (D := g.1) (ci := 4) (v := .ref (xF x 0)) (C := RX4) (T := TX4) (N := 8) hx hb hts hiX4 hown hK.1 hP 0 rfl rfl 1 (by decide) (hts _ w_fl_X4_19) (fun _ h9 => h9) rfl dX4_weight_11 ?_
      refine lv_iload_n hx hb dX4_weight_14 rfl (lv_at hl 1 rfl) ?_
      refine cR_i (W.runV (As := [.int (nI (a))]) (rest := []) ⟨hx, hb, hml, hown, hts⟩ (k_weightOf l g (xF x) (xW x) a (by omega)) (cwV 1 hts (gV w_ml_X4_94 w_im_X2_weightOf w_sel_X2_weightOf w_ini_X2 w_co_X2_weightOf) rfl rfl rfl (by decide +kernel) (by rw [hR1, hR2]; exact ⟨Nat.le_of_ble_eq_true rfl, Nat.le_of_ble_eq_true rfl⟩)) (preV_rd (wX_F hP) hK (va_recv hK.1 (wX_F hP) (ci := 2) (q0 := 0) rfl rfl)) rfl rfl hl.1 rfl (lv_room (Nat.le_of_ble_eq_true rfl)) dX4_weight_15 ⟨by rw [hR3]; omega, by rw [hR4]; omega⟩) ?_
      refine lv_goto (tgt := 22) hx hb dX4_weight_18 (by decide) ?_
      subst hQQ
      exact W.iret hx hb hr (fun t9 ht _ => rdI (by rw [hh]; rfl) ht) (fun q h => absurd h List.not_mem_nil) dX4_weight_22

set_option maxHeartbeats 4000000 in
set_option maxRecDepth 100000 in
theorem k_mean (l : Launch) (g : GG) (x : FT) (hx9 : Xok x) (k d : Int32) : Rd l yX4_mean wsX4_mean 2 52 [.ref (xA x 0), .int (k), .int (d)] g (wX g x) (gI ((binAt (xB x) k).bind (fun b => (inL 0 6 d).bind (fun a => meanX x b a)))) := by
  refine Met.ofW (cc := cX4_mean) (maxL := 4) (ret := (some .int)) (by decide) rfl ?_
  intro p e s m args below meth c s₁ BB hml hv
  obtain ⟨hargs, hP, hK⟩ := hv
  have hx := BB.exec
  have hb := BB.bytes
  have hr := BB.returns
  have hts : ∀ w ∈ BIG, w.before args s = true := fun w h => atoms_spec (ws := wsX4_mean) BB.pre w (List.mem_cons_of_mem _ h)
  have hown : s.vm.findClass RX4 = some m.cls := findClass_of_methodNamed BB.named
  have hlocks := BB.notSynchronized
  obtain ⟨RR, hRR⟩ : ∃ RR, RR = (headSpec wsX4_mean ⟨2, 0, 0, 52⟩).room := ⟨_, rfl⟩
  have hR1 : RR.frames = 2 := by rw [hRR]; rfl
  have hR2 : RR.locals = 52 := by rw [hRR]; rfl
  have hR3 : RR.cells = 0 := by rw [hRR]; rfl
  have hR4 : RR.slots = 0 := by rw [hRR]; rfl
  have hl := lv_entry ([.ref (xA x 0), .int (k), .int (d)]) (n := 4) (Nat.le_of_ble_eq_true rfl)
  have hent : entryFrame m args 4 = F0 m 0 ((lg_sl ([.ref (xA x 0), .int (k), .int (d)]) ++ List.replicate (4 - (lg_sl ([.ref (xA x 0), .int (k), .int (d)])).length) Slot.unset).toArray) [] := by rw [hargs, lg_entry_eq]
  rw [hent]
  generalize (lg_sl ([.ref (xA x 0), .int (k), .int (d)]) ++ List.replicate (4 - (lg_sl ([.ref (xA x 0), .int (k), .int (d)])).length) Slot.unset).toArray = ls at hl ⊢
  have hl : lv_has ls 4 [(0, .ref (xA x 0)), (1, .int (k)), (2, .int (d))] := hl
  refine q_ab (R := RR) hRR ?_
  generalize hQQ : MQ below _ args s _ _ _ = QQ
  obtain ⟨h8, hB, hW, hq9, he9, hl9⟩ := id hx9
  refine lv_aload_n hx hb dX4_mean_0 rfl (lv_at hl 0 rfl) ?_
  refine lv_iload_n hx hb dX4_mean_1 rfl (lv_at hl 1 rfl) ?_
  cases hbk : binAt (xB x) k with
  | none =>
    refine cR_q (W.runV (As := [.int (k)]) (rest := []) ⟨hx, hb, hml, hown, hts⟩ (k_binOf_n l g x k h8 hbk) (cwV 1 hts (gV w_ml_X4_56 w_im_X4_binOf w_sel_X4_binOf w_ini_X4 w_co_X4_binOf) rfl rfl rfl (by decide +kernel) (by rw [hR1, hR2]; exact ⟨Nat.le_of_ble_eq_true rfl, Nat.le_of_ble_eq_true rfl⟩)) (preV_rd hP hK (va_recv hK.1 hP (ci := 4) (q0 := 0) rfl rfl)) rfl rfl hl.1 rfl (lv_room (Nat.le_of_ble_eq_true rfl)) dX4_mean_2 ⟨by rw [hR3]; omega, by rw [hR4]; omega⟩) ?_
    refine W.eq (g2 := F0 m 5 ls [.null]) rfl ?_
    refine lv_astore_nN (lv' := [(3, .null), (0, .ref (xA x 0)), (1, .int (k)), (2, .int (d))]) hx hb dX4_mean_5 rfl hl (by decide) rfl (fun ls hl => ?_)
    refine lv_aload_nN hx hb dX4_mean_6 rfl (lv_at hl 0 rfl) ?_
    refine lv_ifnullN (tgt := 20) hx hb dX4_mean_7 (by decide) ?_
    refine lv_iconst (v := (-1)) hx hb dX4_mean_20 (by decide) ?_
    subst hQQ
    exact W.iret hx hb hr (fun t9 ht _ => rdI (by rw [hbk]; rfl) ht) (fun q h => absurd h List.not_mem_nil) dX4_mean_21
  | some b =>
    have hbm : b ∈ xB x := by obtain ⟨j, -, -, hj, -⟩ := binAt_s h8 hbk; exact List.mem_of_getElem? hj
    have hBk := hB b hbm
    obtain ⟨⟨hbn, hbp, hbo, hba⟩, hbw, hbg, hbs, hbr, hc1, hc2, hc3, hbam⟩ := id hBk
    have hPb := wX_B hP hbm
    have hPm := va_P.app hPb (va_P.app (wX_C hP) (wX_F hP))
    have hpl2 : ∀ i, i < bN b → bPl b i < 2 ^ 31 := fun i hi => Nat.lt_trans (hbp i hi) (by decide)
    refine cR_q (W.runV (As := [.int (k)]) (rest := []) ⟨hx, hb, hml, hown, hts⟩ (k_binOf_s l g x k b h8 hbk) (cwV 1 hts (gV w_ml_X4_56 w_im_X4_binOf w_sel_X4_binOf w_ini_X4 w_co_X4_binOf) rfl rfl rfl (by decide +kernel) (by rw [hR1, hR2]; exact ⟨Nat.le_of_ble_eq_true rfl, Nat.le_of_ble_eq_true rfl⟩)) (preV_rd hP hK (va_recv hK.1 hP (ci := 4) (q0 := 0) rfl rfl)) rfl rfl hl.1 rfl (lv_room (Nat.le_of_ble_eq_true rfl)) dX4_mean_2 ⟨by rw [hR3]; omega, by rw [hR4]; omega⟩) ?_
    refine W.eq (g2 := F0 m 5 ls [.ref (bA b 0)]) rfl ?_
    refine lv_astore_n (lv' := [(3, .ref (bA b 0)), (0, .ref (xA x 0)), (1, .int (k)), (2, .int (d))]) hx hb dX4_mean_5 rfl hl (by decide) rfl (fun ls hl => ?_)
    refine lv_aload_n hx hb dX4_mean_6 rfl (lv_at hl 0 rfl) ?_
    refine lv_ifnull hx hb dX4_mean_7 ?_
    refine lv_iload_n hx hb dX4_mean_10 rfl (lv_at hl 3 rfl) ?_
    refine lv_iconst (v := nI (0)) hx hb dX4_mean_11 (by decide) ?_
    refine lv_bipush (v := nI (6)) hx hb dX4_mean_12 (by decide) ?_
    refine cR_i (W.runS (As := [.int (d), .int (nI (0)), .int (nI (6))]) (rest := []) ⟨hx, hb, hml, hown, hts⟩ (k_isWithin l g d (nI 0) (nI 6)) (va_cwS 3 hts (gS w_ml_X4_49 w_sm_X4_isWithin w_ini_X4 w_co_X4_isWithin) rfl rfl rfl (by decide +kernel) (by rw [hR1, hR2]; exact ⟨Nat.le_of_ble_eq_true rfl, Nat.le_of_ble_eq_true rfl⟩)) (preS_rd va_P.nil hK) rfl rfl hl.1 rfl (lv_room (Nat.le_of_ble_eq_true rfl)) dX4_mean_14 ⟨by rw [hR3]; omega, by rw [hR4]; omega⟩) ?_
    refine bb_ne (tgt := 22) hx hb dX4_mean_17 (by decide) (fun hhc => ?_) (fun hhc => ?_)
    · cases hh : inL 0 6 d with
      | none => exact absurd hhc (by rw [inL_n hh]; decide)
      | some a =>
        obtain ⟨hhl, hhn, hhe, -⟩ := inL_s (by decide) (by decide) hh
        subst hhe
        refine lv_aload_n hx hb dX4_mean_22 rfl (lv_at hl 0 rfl) ?_
        refine lv_iload_n hx hb dX4_mean_23 rfl (lv_at hl 3 rfl) ?_
        refine lv_aload_n hx hb dX4_mean_24 rfl (lv_at hl 1 rfl) ?_
        refine va_get (D := g.1) (ci := 4) (v := .ref (xC x 0)) (C := RX4) (T := TX4) (N := 8) hx hb hts hiX4 hown hK.1 hP 0 rfl rfl 0 (by decide) (hts _ w_fl_X4_10) (fun _ h9 => h9) rfl dX4_mean_25 ?_
        refine lv_aload_n hx hb dX4_mean_28 rfl (lv_at hl 1 rfl) ?_
        refine va_get (D := g.1) (ci := 4) (v := .ref (xF x 0)) (C := RX4) (T := TX4) (N := 8) hx hb hts hiX4 hown hK.1 hP 0 rfl rfl 1 (by decide) (hts _ w_fl_X4_19) (fun _ h9 => h9) rfl dX4_mean_29 ?_
        refine cR_i (W.runV (As := [.int (nI (a)), .ref (xC x 0), .ref (xF x 0)]) (rest := []) ⟨hx, hb, hml, hown, hts⟩ (k_meanOn l g b (xC x) (xF x) (xH x) (xW x) a (by omega) hbn hbp hBk.gain hW) (cwV 3 hts (gV w_ml_X4_82 w_im_X0_meanOn w_sel_X0_meanOn w_ini_X0 w_co_X0_meanOn) rfl rfl rfl (by decide +kernel) (by rw [hR1, hR2]; exact ⟨Nat.le_of_ble_eq_true rfl, Nat.le_of_ble_eq_true rfl⟩)) (preV_rd hPm hK (va_recv hK.1 hPm (ci := 0) (q0 := 0) rfl rfl)) rfl rfl hl.1 rfl (lv_room (Nat.le_of_ble_eq_true rfl)) dX4_mean_32 ⟨by rw [hR3]; omega, by rw [hR4]; omega⟩) ?_
        subst hQQ
        exact W.iret hx hb hr (fun t9 ht _ => rdI (by rw [hbk]; show _ = gI ((inL 0 6 (nI a)).bind _); rw [hh]; rfl) ht) (fun q h => absurd h List.not_mem_nil) dX4_mean_35
    · cases hh : inL 0 6 d with
      | none =>
        refine lv_iconst (v := (-1)) hx hb dX4_mean_20 (by decide) ?_
        subst hQQ
        exact W.iret hx hb hr (fun t9 ht _ => rdI (by rw [hbk]; show _ = gI ((inL 0 6 d).bind _); rw [hh]; rfl) ht) (fun q h => absurd h List.not_mem_nil) dX4_mean_21
      | some a => exact absurd hhc (by rw [(inL_s (by decide) (by decide) hh).2.2.2]; decide)

set_option maxHeartbeats 4000000 in
set_option maxRecDepth 100000 in
theorem k_rate (l : Launch) (g : GG) (x : FT) (hx9 : Xok x) (k d : Int32) : Rd l yX4_rate wsX4_rate 4 102 [.ref (xA x 0), .int (k), .int (d)] g (wX g x) (gI ((binAt (xB x) k).bind (fun b => (inL 0 416 d).map (fun a => rateV x b (wdy (xH x) a))))) := by
  refine Met.ofW (cc := cX4_rate) (maxL := 4) (ret := (some .int)) (by decide) rfl ?_
  intro p e s m args below meth c s₁ BB hml hv
  obtain ⟨hargs, hP, hK⟩ := hv
  have hx := BB.exec
  have hb := BB.bytes
  have hr := BB.returns
  have hts : ∀ w ∈ BIG, w.before args s = true := fun w h => atoms_spec (ws := wsX4_rate) BB.pre w (List.mem_cons_of_mem _ h)
  have hown : s.vm.findClass RX4 = some m.cls := findClass_of_methodNamed BB.named
  have hlocks := BB.notSynchronized
  obtain ⟨RR, hRR⟩ : ∃ RR, RR = (headSpec wsX4_rate ⟨4, 0, 0, 102⟩).room := ⟨_, rfl⟩
  have hR1 : RR.frames = 4 := by rw [hRR]; rfl
  have hR2 : RR.locals = 102 := by rw [hRR]; rfl
  have hR3 : RR.cells = 0 := by rw [hRR]; rfl
  have hR4 : RR.slots = 0 := by rw [hRR]; rfl
  have hl := lv_entry ([.ref (xA x 0), .int (k), .int (d)]) (n := 4) (Nat.le_of_ble_eq_true rfl)
  have hent : entryFrame m args 4 = F0 m 0 ((lg_sl ([.ref (xA x 0), .int (k), .int (d)]) ++ List.replicate (4 - (lg_sl ([.ref (xA x 0), .int (k), .int (d)])).length) Slot.unset).toArray) [] := by rw [hargs, lg_entry_eq]
  rw [hent]
  generalize (lg_sl ([.ref (xA x 0), .int (k), .int (d)]) ++ List.replicate (4 - (lg_sl ([.ref (xA x 0), .int (k), .int (d)])).length) Slot.unset).toArray = ls at hl ⊢
  have hl : lv_has ls 4 [(0, .ref (xA x 0)), (1, .int (k)), (2, .int (d))] := hl
  refine q_ab (R := RR) hRR ?_
  generalize hQQ : MQ below _ args s _ _ _ = QQ
  obtain ⟨h8, hB, hW, hq9, he9, hl9⟩ := id hx9
  refine lv_aload_n hx hb dX4_rate_0 rfl (lv_at hl 0 rfl) ?_
  refine lv_iload_n hx hb dX4_rate_1 rfl (lv_at hl 1 rfl) ?_
  cases hbk : binAt (xB x) k with
  | none =>
    refine cR_q (W.runV (As := [.int (k)]) (rest := []) ⟨hx, hb, hml, hown, hts⟩ (k_binOf_n l g x k h8 hbk) (cwV 1 hts (gV w_ml_X4_56 w_im_X4_binOf w_sel_X4_binOf w_ini_X4 w_co_X4_binOf) rfl rfl rfl (by decide +kernel) (by rw [hR1, hR2]; exact ⟨Nat.le_of_ble_eq_true rfl, Nat.le_of_ble_eq_true rfl⟩)) (preV_rd hP hK (va_recv hK.1 hP (ci := 4) (q0 := 0) rfl rfl)) rfl rfl hl.1 rfl (lv_room (Nat.le_of_ble_eq_true rfl)) dX4_rate_2 ⟨by rw [hR3]; omega, by rw [hR4]; omega⟩) ?_
    refine W.eq (g2 := F0 m 5 ls [.null]) rfl ?_
    refine lv_astore_nN (lv' := [(3, .null), (0, .ref (xA x 0)), (1, .int (k)), (2, .int (d))]) hx hb dX4_rate_5 rfl hl (by decide) rfl (fun ls hl => ?_)
    refine lv_aload_nN hx hb dX4_rate_6 rfl (lv_at hl 0 rfl) ?_
    refine lv_ifnullN (tgt := 17) hx hb dX4_rate_7 (by decide) ?_
    refine lv_iconst (v := (-1)) hx hb dX4_rate_17 (by decide) ?_
    subst hQQ
    exact W.iret hx hb hr (fun t9 ht _ => rdI (by rw [hbk]; rfl) ht) (fun q h => absurd h List.not_mem_nil) dX4_rate_18
  | some b =>
    have hbm : b ∈ xB x := by obtain ⟨j, -, -, hj, -⟩ := binAt_s h8 hbk; exact List.mem_of_getElem? hj
    have hBk := hB b hbm
    obtain ⟨⟨hbn, hbp, hbo, hba⟩, hbw, hbg, hbs, hbr, hc1, hc2, hc3, hbam⟩ := id hBk
    have hPb := wX_B hP hbm
    have hPm := va_P.app hPb (va_P.app (wX_C hP) (wX_F hP))
    have hpl2 : ∀ i, i < bN b → bPl b i < 2 ^ 31 := fun i hi => Nat.lt_trans (hbp i hi) (by decide)
    refine cR_q (W.runV (As := [.int (k)]) (rest := []) ⟨hx, hb, hml, hown, hts⟩ (k_binOf_s l g x k b h8 hbk) (cwV 1 hts (gV w_ml_X4_56 w_im_X4_binOf w_sel_X4_binOf w_ini_X4 w_co_X4_binOf) rfl rfl rfl (by decide +kernel) (by rw [hR1, hR2]; exact ⟨Nat.le_of_ble_eq_true rfl, Nat.le_of_ble_eq_true rfl⟩)) (preV_rd hP hK (va_recv hK.1 hP (ci := 4) (q0 := 0) rfl rfl)) rfl rfl hl.1 rfl (lv_room (Nat.le_of_ble_eq_true rfl)) dX4_rate_2 ⟨by rw [hR3]; omega, by rw [hR4]; omega⟩) ?_
    refine W.eq (g2 := F0 m 5 ls [.ref (bA b 0)]) rfl ?_
    refine lv_astore_n (lv' := [(3, .ref (bA b 0)), (0, .ref (xA x 0)), (1, .int (k)), (2, .int (d))]) hx hb dX4_rate_5 rfl hl (by decide) rfl (fun ls hl => ?_)
    refine lv_aload_n hx hb dX4_rate_6 rfl (lv_at hl 0 rfl) ?_
    refine lv_ifnull hx hb dX4_rate_7 ?_
    refine lv_iload_n hx hb dX4_rate_10 rfl (lv_at hl 3 rfl) ?_
    refine cR_i (W.runS (As := [.int (d)]) (rest := []) ⟨hx, hb, hml, hown, hts⟩ (k_isDay l g d) (va_cwS 1 hts (gS w_ml_X4_75 w_sm_X4_isDay w_ini_X4 w_co_X4_isDay) rfl rfl rfl (by decide +kernel) (by rw [hR1, hR2]; exact ⟨Nat.le_of_ble_eq_true rfl, Nat.le_of_ble_eq_true rfl⟩)) (preS_rd va_P.nil hK) rfl rfl hl.1 rfl (lv_room (Nat.le_of_ble_eq_true rfl)) dX4_rate_11 ⟨by rw [hR3]; omega, by rw [hR4]; omega⟩) ?_
    refine bb_ne (tgt := 19) hx hb dX4_rate_14 (by decide) (fun hhc => ?_) (fun hhc => ?_)
    · cases hh : inL 0 416 d with
      | none => exact absurd hhc (by rw [inL_n hh]; decide)
      | some a =>
        obtain ⟨hhl, hhn, hhe, -⟩ := inL_s (by decide) (by decide) hh
        subst hhe
        refine lv_aload_n hx hb dX4_rate_19 rfl (lv_at hl 1 rfl) ?_
        refine lv_aload_n hx hb dX4_rate_20 rfl (lv_at hl 0 rfl) ?_
        refine lv_aload_n hx hb dX4_rate_21 rfl (lv_at hl 1 rfl) ?_
        refine va_get (D := g.1) (ci := 4) (v := .ref (xC x 0)) (C := RX4) (T := TX4) (N := 8) hx hb hts hiX4 hown hK.1 hP 0 rfl rfl 0 (by decide) (hts _ w_fl_X4_10) (fun _ h9 => h9) rfl dX4_rate_22 ?_
        refine lv_iload_n hx hb dX4_rate_25 rfl (lv_at hl 3 rfl) ?_
        refine cR_i (W.runV (As := [.int (nI (a))]) (rest := [.ref (bA b 0), .ref (xA x 0)]) ⟨hx, hb, hml, hown, hts⟩ (k_weekdayOf l g (xC x) (xH x) a (by omega)) (cwV 1 hts (gV w_ml_X4_86 w_im_X1_weekdayOf w_sel_X1_weekdayOf w_ini_X1 w_co_X1_weekdayOf) rfl rfl rfl (by decide +kernel) (by rw [hR1, hR2]; exact ⟨Nat.le_of_ble_eq_true rfl, Nat.le_of_ble_eq_true rfl⟩)) (preV_rd (wX_C hP) hK (va_recv hK.1 (wX_C hP) (ci := 1) (q0 := 0) rfl rfl)) rfl rfl hl.1 rfl (lv_room (Nat.le_of_ble_eq_true rfl)) dX4_rate_26 ⟨by rw [hR3]; omega, by rw [hR4]; omega⟩) ?_
        refine cR_i (W.runV (As := [.ref (bA b 0), .int (nI (wdy (xH x) a))]) (rest := []) ⟨hx, hb, hml, hown, hts⟩ (k_rateOn l g x b (wdy (xH x) a) hx9 hbm wdy_lt) (cwV 2 hts (gV w_ml_X4_90 w_im_X4_rateOn w_sel_X4_rateOn w_ini_X4 w_co_X4_rateOn) rfl rfl rfl (by decide +kernel) (by rw [hR1, hR2]; exact ⟨Nat.le_of_ble_eq_true rfl, Nat.le_of_ble_eq_true rfl⟩)) (preV_rd hP hK (va_recv hK.1 hP (ci := 4) (q0 := 0) rfl rfl)) rfl rfl hl.1 rfl (lv_room (Nat.le_of_ble_eq_true rfl)) dX4_rate_29 ⟨by rw [hR3]; omega, by rw [hR4]; omega⟩) ?_
        subst hQQ
        exact W.iret hx hb hr (fun t9 ht _ => rdI (by rw [hbk]; show _ = gI ((inL 0 416 (nI a)).map _); rw [hh]; rfl) ht) (fun q h => absurd h List.not_mem_nil) dX4_rate_32
    · cases hh : inL 0 416 d with
      | none =>
        refine lv_iconst (v := (-1)) hx hb dX4_rate_17 (by decide) ?_
        subst hQQ
        exact W.iret hx hb hr (fun t9 ht _ => rdI (by rw [hbk]; show _ = gI ((inL 0 416 d).map _); rw [hh]; rfl) ht) (fun q h => absurd h List.not_mem_nil) dX4_rate_18
      | some a => exact absurd hhc (by rw [(inL_s (by decide) (by decide) hh).2.2.2]; decide)

set_option maxHeartbeats 4000000 in
set_option maxRecDepth 100000 in
theorem k_wrong (l : Launch) (g : GG) (x : FT) (hx9 : Xok x) (k d : Int32) : Rd l yX4_wrong wsX4_wrong 2 44 [.ref (xA x 0), .int (k), .int (d)] g (wX g x) (gI ((binAt (xB x) k).bind (fun b => (kth (bWr b) d (bN b) 0 0).map (hrB b)))) := by
  refine Met.ofW (cc := cX4_wrong) (maxL := 4) (ret := (some .int)) (by decide) rfl ?_
  intro p e s m args below meth c s₁ BB hml hv
  obtain ⟨hargs, hP, hK⟩ := hv
  have hx := BB.exec
  have hb := BB.bytes
  have hr := BB.returns
  have hts : ∀ w ∈ BIG, w.before args s = true := fun w h => atoms_spec (ws := wsX4_wrong) BB.pre w (List.mem_cons_of_mem _ h)
  have hown : s.vm.findClass RX4 = some m.cls := findClass_of_methodNamed BB.named
  have hlocks := BB.notSynchronized
  obtain ⟨RR, hRR⟩ : ∃ RR, RR = (headSpec wsX4_wrong ⟨2, 0, 0, 44⟩).room := ⟨_, rfl⟩
  have hR1 : RR.frames = 2 := by rw [hRR]; rfl
  have hR2 : RR.locals = 44 := by rw [hRR]; rfl
  have hR3 : RR.cells = 0 := by rw [hRR]; rfl
  have hR4 : RR.slots = 0 := by rw [hRR]; rfl
  have hl := lv_entry ([.ref (xA x 0), .int (k), .int (d)]) (n := 4) (Nat.le_of_ble_eq_true rfl)
  have hent : entryFrame m args 4 = F0 m 0 ((lg_sl ([.ref (xA x 0), .int (k), .int (d)]) ++ List.replicate (4 - (lg_sl ([.ref (xA x 0), .int (k), .int (d)])).length) Slot.unset).toArray) [] := by rw [hargs, lg_entry_eq]
  rw [hent]
  generalize (lg_sl ([.ref (xA x 0), .int (k), .int (d)]) ++ List.replicate (4 - (lg_sl ([.ref (xA x 0), .int (k), .int (d)])).length) Slot.unset).toArray = ls at hl ⊢
  have hl : lv_has ls 4 [(0, .ref (xA x 0)), (1, .int (k)), (2, .int (d))] := hl
  refine q_ab (R := RR) hRR ?_
  generalize hQQ : MQ below _ args s _ _ _ = QQ
  obtain ⟨h8, hB, hW, hq9, he9, hl9⟩ := id hx9
  refine lv_aload_n hx hb dX4_wrong_0 rfl (lv_at hl 0 rfl) ?_
  refine lv_iload_n hx hb dX4_wrong_1 rfl (lv_at hl 1 rfl) ?_
  cases hbk : binAt (xB x) k with
  | none =>
    refine cR_q (W.runV (As := [.int (k)]) (rest := []) ⟨hx, hb, hml, hown, hts⟩ (k_binOf_n l g x k h8 hbk) (cwV 1 hts (gV w_ml_X4_56 w_im_X4_binOf w_sel_X4_binOf w_ini_X4 w_co_X4_binOf) rfl rfl rfl (by decide +kernel) (by rw [hR1, hR2]; exact ⟨Nat.le_of_ble_eq_true rfl, Nat.le_of_ble_eq_true rfl⟩)) (preV_rd hP hK (va_recv hK.1 hP (ci := 4) (q0 := 0) rfl rfl)) rfl rfl hl.1 rfl (lv_room (Nat.le_of_ble_eq_true rfl)) dX4_wrong_2 ⟨by rw [hR3]; omega, by rw [hR4]; omega⟩) ?_
    refine W.eq (g2 := F0 m 5 ls [.null]) rfl ?_
    refine lv_astore_nN (lv' := [(3, .null), (0, .ref (xA x 0)), (1, .int (k)), (2, .int (d))]) hx hb dX4_wrong_5 rfl hl (by decide) rfl (fun ls hl => ?_)
    refine lv_aload_nN hx hb dX4_wrong_6 rfl (lv_at hl 0 rfl) ?_
    refine lv_ifnonnullN hx hb dX4_wrong_7 ?_
    refine lv_iconst (v := (-1)) hx hb dX4_wrong_10 (by decide) ?_
    refine lv_goto (tgt := 19) hx hb dX4_wrong_11 (by decide) ?_
    subst hQQ
    exact W.iret hx hb hr (fun t9 ht _ => rdI (by rw [hbk]; rfl) ht) (fun q h => absurd h List.not_mem_nil) dX4_wrong_19
  | some b =>
    have hbm : b ∈ xB x := by obtain ⟨j, -, -, hj, -⟩ := binAt_s h8 hbk; exact List.mem_of_getElem? hj
    have hBk := hB b hbm
    obtain ⟨⟨hbn, hbp, hbo, hba⟩, hbw, hbg, hbs, hbr, hc1, hc2, hc3, hbam⟩ := id hBk
    have hPb := wX_B hP hbm
    have hPm := va_P.app hPb (va_P.app (wX_C hP) (wX_F hP))
    have hpl2 : ∀ i, i < bN b → bPl b i < 2 ^ 31 := fun i hi => Nat.lt_trans (hbp i hi) (by decide)
    refine cR_q (W.runV (As := [.int (k)]) (rest := []) ⟨hx, hb, hml, hown, hts⟩ (k_binOf_s l g x k b h8 hbk) (cwV 1 hts (gV w_ml_X4_56 w_im_X4_binOf w_sel_X4_binOf w_ini_X4 w_co_X4_binOf) rfl rfl rfl (by decide +kernel) (by rw [hR1, hR2]; exact ⟨Nat.le_of_ble_eq_true rfl, Nat.le_of_ble_eq_true rfl⟩)) (preV_rd hP hK (va_recv hK.1 hP (ci := 4) (q0 := 0) rfl rfl)) rfl rfl hl.1 rfl (lv_room (Nat.le_of_ble_eq_true rfl)) dX4_wrong_2 ⟨by rw [hR3]; omega, by rw [hR4]; omega⟩) ?_
    refine W.eq (g2 := F0 m 5 ls [.ref (bA b 0)]) rfl ?_
    refine lv_astore_n (lv' := [(3, .ref (bA b 0)), (0, .ref (xA x 0)), (1, .int (k)), (2, .int (d))]) hx hb dX4_wrong_5 rfl hl (by decide) rfl (fun ls hl => ?_)
    refine lv_aload_n hx hb dX4_wrong_6 rfl (lv_at hl 0 rfl) ?_
    refine lv_ifnonnull (tgt := 14) hx hb dX4_wrong_7 (by decide) ?_
    refine lv_aload_n hx hb dX4_wrong_14 rfl (lv_at hl 0 rfl) ?_
    refine lv_iload_n hx hb dX4_wrong_15 rfl (lv_at hl 3 rfl) ?_
    refine cR_i (W.runV (As := [.int (d)]) (rest := []) ⟨hx, hb, hml, hown, hts⟩ (k_hourOfWrong l g b d hbn hpl2) (cwV 1 hts (gV w_ml_X4_107 w_im_X0_hourOfWrong w_sel_X0_hourOfWrong w_ini_X0 w_co_X0_hourOfWrong) rfl rfl rfl (by decide +kernel) (by rw [hR1, hR2]; exact ⟨Nat.le_of_ble_eq_true rfl, Nat.le_of_ble_eq_true rfl⟩)) (preV_rd hPb hK (va_recv hK.1 hPb (ci := 0) (q0 := 0) rfl rfl)) rfl rfl hl.1 rfl (lv_room (Nat.le_of_ble_eq_true rfl)) dX4_wrong_16 ⟨by rw [hR3]; omega, by rw [hR4]; omega⟩) ?_
    subst hQQ
    exact W.iret hx hb hr (fun t9 ht _ => rdI (by rw [hbk]; rfl) ht) (fun q h => absurd h List.not_mem_nil) dX4_wrong_19
end
section
set_option maxHeartbeats 4000000 in
set_option maxRecDepth 100000 in
theorem k_silent (l : Launch) (g : GG) (x : FT) (hx9 : Xok x) (t k : Int32) : Rd l yX4_silent wsX4_silent 2 45 [.ref (xA x 0), .int (t), .int (k)] g (wX g x) (gI ((inL 0 9999 t).bind (fun h => kth (fun i => !silB ((xB x).getD i bin0) (nI h - nI (xQ x)) (nI h)) k (xB x).length 0 0))) := by
  refine Met.ofW (cc := cX4_silent) (maxL := 5) (ret := (some .int)) (by decide) rfl ?_
  intro p e s m args below meth c s₁ BB hml hv
  obtain ⟨hargs, hP, hK⟩ := hv
  have hx := BB.exec
  have hb := BB.bytes
  have hr := BB.returns
  have hts : ∀ w ∈ BIG, w.before args s = true := fun w h => atoms_spec (ws := wsX4_silent) BB.pre w (List.mem_cons_of_mem _ h)
  have hown : s.vm.findClass RX4 = some m.cls := findClass_of_methodNamed BB.named
  have hlocks := BB.notSynchronized
  obtain ⟨RR, hRR⟩ : ∃ RR, RR = (headSpec wsX4_silent ⟨2, 0, 0, 45⟩).room := ⟨_, rfl⟩
  have hR1 : RR.frames = 2 := by rw [hRR]; rfl
  have hR2 : RR.locals = 45 := by rw [hRR]; rfl
  have hR3 : RR.cells = 0 := by rw [hRR]; rfl
  have hR4 : RR.slots = 0 := by rw [hRR]; rfl
  have hl := lv_entry ([.ref (xA x 0), .int (t), .int (k)]) (n := 5) (Nat.le_of_ble_eq_true rfl)
  have hent : entryFrame m args 5 = F0 m 0 ((lg_sl ([.ref (xA x 0), .int (t), .int (k)]) ++ List.replicate (5 - (lg_sl ([.ref (xA x 0), .int (t), .int (k)])).length) Slot.unset).toArray) [] := by rw [hargs, lg_entry_eq]
  rw [hent]
  generalize (lg_sl ([.ref (xA x 0), .int (t), .int (k)]) ++ List.replicate (5 - (lg_sl ([.ref (xA x 0), .int (t), .int (k)])).length) Slot.unset).toArray = ls at hl ⊢
  have hl : lv_has ls 5 [(0, .ref (xA x 0)), (1, .int (t)), (2, .int (k))] := hl
  refine q_ab (R := RR) hRR ?_
  generalize hQQ : MQ below _ args s _ _ _ = QQ
  obtain ⟨h8, hB, hW, hq9, he9, hl9⟩ := id hx9
  refine lv_iload_n hx hb dX4_silent_0 rfl (lv_at hl 1 rfl) ?_
  refine cR_i (W.runS (As := [.int (t)]) (rest := []) ⟨hx, hb, hml, hown, hts⟩ (k_isHour l g t) (va_cwS 1 hts (gS w_ml_X4_60 w_sm_X4_isHour w_ini_X4 w_co_X4_isHour) rfl rfl rfl (by decide +kernel) (by rw [hR1, hR2]; exact ⟨Nat.le_of_ble_eq_true rfl, Nat.le_of_ble_eq_true rfl⟩)) (preS_rd va_P.nil hK) rfl rfl hl.1 rfl (lv_room (Nat.le_of_ble_eq_true rfl)) dX4_silent_1 ⟨by rw [hR3]; omega, by rw [hR4]; omega⟩) ?_
  refine bb_ne (tgt := 9) hx hb dX4_silent_4 (by decide) (fun hhc => ?_) (fun hhc => ?_)
  · cases hh : inL 0 9999 t with
    | none => exact absurd hhc (by rw [inL_n hh]; decide)
    | some h =>
      obtain ⟨hhl, hhn, hhe, -⟩ := inL_s (by decide) (by decide) hh
      subst hhe
      refine lv_iconst (v := nI (0)) hx hb dX4_silent_9 (by decide) ?_
      refine lv_istore_n (lv' := [(3, .int (nI (0))), (0, .ref (xA x 0)), (1, .int (nI (h))), (2, .int (k))]) hx hb dX4_silent_10 rfl hl (by decide) rfl (fun ls hl => ?_)
      refine lv_iconst (v := nI (0)) hx hb dX4_silent_11 (by decide) ?_
      refine lv_istore (lv' := [(4, .int (nI (0))), (3, .int (nI (0))), (0, .ref (xA x 0)), (1, .int (nI (h))), (2, .int (k))]) hx hb dX4_silent_12 hl (by decide) rfl (fun ls hl => ?_)
      have loop : ∀ (k9 : Nat) (j : Nat) (f : Nat) (ls : Array Slot), (j ≤ (xB x).length) → (f ≤ j) → ((xB x).length < j + k9) → (kth (fun i => !silB ((xB x).getD i bin0) (nI h - nI (xQ x)) (nI h)) k ((xB x).length - j) j f = kth (fun i => !silB ((xB x).getD i bin0) (nI h - nI (xQ x)) (nI h)) k (xB x).length 0 0) → lv_has ls 5 [(0, .ref (xA x 0)), (1, .int (nI (h))), (2, .int (k)), (3, .int (nI (f))), (4, .int (nI (j)))] → W p l e RR s m args below meth c s.heap [] 0 0 QQ (F0 m 14 ls []) := by
        intro k9
        induction k9 with
        | zero => intro j f ls hj hf hk he hl; exact absurd hk (by omega)
        | succ k9 ih =>
          intro j f ls hj hf hk he hl
          refine lv_iload hx hb dX4_silent_14 (lv_at hl 4 rfl) ?_
          refine lv_aload_n hx hb dX4_silent_16 rfl (lv_at hl 0 rfl) ?_
          refine va_get (D := g.1) (ci := 4) (v := .int (nI ((xB x).length))) (C := RX4) (T := TX4) (N := 8) hx hb hts hiX4 hown hK.1 hP 0 rfl rfl 4 (by decide) (hts _ w_fl_X4_36) (fun _ h9 => h9) rfl dX4_silent_17 ?_
          refine bn_ge (tgt := 60) hx hb (by omega) (by omega) dX4_silent_20 (by decide) (fun c1 => ?_) (fun c1 => ?_)
          · refine lv_iconst (v := (-1)) hx hb dX4_silent_60 (by decide) ?_
            subst hQQ
            exact W.iret hx hb hr (fun t9 ht _ => rdI (by rw [hh]; show _ = gI (kth (fun i => !silB ((xB x).getD i bin0) (nI h - nI (xQ x)) (nI h)) k (xB x).length 0 0); rw [← he, show (xB x).length - j = 0 by omega]; rfl) ht) (fun q h => absurd h List.not_mem_nil) dX4_silent_61
          · rw [show (xB x).length - j = ((xB x).length - (j + 1)) + 1 by omega, kth] at he
            obtain ⟨b, hb2⟩ : ∃ b, (xB x)[j]? = some b := ⟨_, List.getElem?_eq_getElem c1⟩
            have hgd : (xB x).getD j bin0 = b := by rw [List.getD_eq_getElem?_getD, hb2]; rfl
            rw [hgd] at he
            have hbm := List.mem_of_getElem? hb2
            have hBk := hB b hbm
            obtain ⟨⟨hbn, hbp, -, -⟩, -⟩ := id hBk
            have hpl2 : ∀ i, i < bN b → bPl b i < 2 ^ 31 := fun i hi => Nat.lt_trans (hbp i hi) (by decide)
            have hrf : bRef (xB x) j = some (bA b 0) := by unfold bRef; rw [hb2]; rfl
            have hPb := wX_B hP hbm
            refine lv_aload_n hx hb dX4_silent_23 rfl (lv_at hl 0 rfl) ?_
            refine va_get (D := g.1) (ci := 4) (v := .ref (xA x 1)) (C := RX4) (T := TX4) (N := 8) hx hb hts hiX4 hown hK.1 hP 0 rfl rfl 3 (by decide) (hts _ w_fl_X4_32) (fun _ h9 => h9) rfl dX4_silent_24 ?_
            refine lv_iload hx hb dX4_silent_27 (lv_at hl 4 rfl) ?_
            refine n_aldr (k := j) (r := bA b 0) hx hb hK.1 hP 1 2 rfl rfl (by omega) (by decide) (hrf) dX4_silent_29 ?_
            refine lv_iload_n hx hb dX4_silent_30 rfl (lv_at hl 1 rfl) ?_
            refine lv_aload_n hx hb dX4_silent_31 rfl (lv_at hl 0 rfl) ?_
            refine va_get (D := g.1) (ci := 4) (v := .int (nI (xQ x))) (C := RX4) (T := TX4) (N := 8) hx hb hts hiX4 hown hK.1 hP 0 rfl rfl 5 (by decide) (hts _ w_fl_X4_40) (fun _ h9 => h9) rfl dX4_silent_32 ?_
            refine lv_isub hx hb dX4_silent_35 ?_
            refine lv_iload_n hx hb dX4_silent_36 rfl (lv_at hl 1 rfl) ?_
            refine cR_i (W.runV (As := [.int (nI (h) - nI (xQ x)), .int (nI (h))]) (rest := []) ⟨hx, hb, hml, hown, hts⟩ (k_hasRowWithin l g b (nI h - nI (xQ x)) (nI h) hbn hpl2) (cwV 2 hts (gV w_ml_X4_110 w_im_X0_hasRowWithin w_sel_X0_hasRowWithin w_ini_X0 w_co_X0_hasRowWithin) rfl rfl rfl (by decide +kernel) (by rw [hR1, hR2]; exact ⟨Nat.le_of_ble_eq_true rfl, Nat.le_of_ble_eq_true rfl⟩)) (preV_rd hPb hK (va_recv hK.1 hPb (ci := 0) (q0 := 0) rfl rfl)) rfl rfl hl.1 rfl (lv_room (Nat.le_of_ble_eq_true rfl)) dX4_silent_37 ⟨by rw [hR3]; omega, by rw [hR4]; omega⟩) ?_
            refine W.eq (g2 := F0 m 40 ls [.int (bI (silB b (nI h - nI (xQ x)) (nI h)))]) rfl ?_
            refine bb_ne (tgt := 54) hx hb dX4_silent_40 (by decide) (fun c2 => ?_) (fun c2 => ?_)
            · rw [if_neg (by rw [c2]; decide)] at he
              refine lv_iinc (v := nI (j + 1)) (lv' := [(4, .int (nI (j + 1))), (0, .ref (xA x 0)), (1, .int (nI (h))), (2, .int (k)), (3, .int (nI (f)))]) hx hb dX4_silent_54 hl (k := 4) rfl (nI_1 _) (by decide) rfl (fun ls hl => ?_)
              refine lv_goto (tgt := 14) hx hb dX4_silent_57 (by decide) ?_
              exact ih (j + 1) f ls (by omega) (by omega) (by omega) he (lv_sub hl [1, 2, 3, 4, 0] rfl)
            · rw [if_pos (by rw [c2]; rfl)] at he
              refine lv_iload_n hx hb dX4_silent_43 rfl (lv_at hl 3 rfl) ?_
              refine lv_iload_n hx hb dX4_silent_44 rfl (lv_at hl 2 rfl) ?_
              refine lv_icmp_ne (tgt := 51) hx hb dX4_silent_45 (by decide) (fun c3 => ?_) (fun c3 => ?_)
              · rw [if_neg c3] at he
                refine lv_iinc (v := nI (f + 1)) (lv' := [(3, .int (nI (f + 1))), (0, .ref (xA x 0)), (1, .int (nI (h))), (2, .int (k)), (4, .int (nI (j)))]) hx hb dX4_silent_51 hl (k := 3) rfl (nI_1 _) (by decide) rfl (fun ls hl => ?_)
                refine lv_iinc (v := nI (j + 1)) (lv' := [(4, .int (nI (j + 1))), (3, .int (nI (f + 1))), (0, .ref (xA x 0)), (1, .int (nI (h))), (2, .int (k))]) hx hb dX4_silent_54 hl (k := 4) rfl (nI_1 _) (by decide) rfl (fun ls hl => ?_)
                refine lv_goto (tgt := 14) hx hb dX4_silent_57 (by decide) ?_
                exact ih (j + 1) (f + 1) ls (by omega) (by omega) (by omega) he (lv_sub hl [2, 3, 4, 1, 0] rfl)
              · rw [if_pos c3] at he
                refine lv_iload hx hb dX4_silent_48 (lv_at hl 4 rfl) ?_
                subst hQQ
                exact W.iret hx hb hr (fun t9 ht _ => rdI (by rw [hh]; show _ = gI (kth (fun i => !silB ((xB x).getD i bin0) (nI h - nI (xQ x)) (nI h)) k (xB x).length 0 0); rw [← he]; rfl) ht) (fun q h => absurd h List.not_mem_nil) dX4_silent_50
      exact loop ((xB x).length + 1) 0 0 ls (Nat.zero_le _) (Nat.le_refl _) (by omega) rfl (lv_sub hl [2, 3, 4, 1, 0] rfl)
  · cases hh : inL 0 9999 t with
    | none =>
      refine lv_iconst (v := (-1)) hx hb dX4_silent_7 (by decide) ?_
      subst hQQ
      exact W.iret hx hb hr (fun t9 ht _ => rdI (by rw [hh]; rfl) ht) (fun q h => absurd h List.not_mem_nil) dX4_silent_8
    | some h => exact absurd hhc (by rw [(inL_s (by decide) (by decide) hh).2.2.2]; decide)
end
section
set_option maxHeartbeats 4000000 in
set_option maxRecDepth 100000 in
theorem k_quiet (l : Launch) (g : GG) (x : FT) (hx9 : Xok x) (k : Int32) (sz : Nat) : Ai l yX4_quiet wsX4_quiet 1 22 0 0 [.ref (xA x 0), .int (k)] g (x) sz (fun r u => (r, u) = quietS x k) := by
  refine Met.ofW (cc := cX4_quiet) (maxL := 2) (ret := (some .boolean)) (by decide) rfl ?_
  intro p e s m args below meth c s₁ BB hml hv
  obtain ⟨hargs, hsz, hP, hK, hD0⟩ := hv
  have hx := BB.exec
  have hb := BB.bytes
  have hr := BB.returns
  have hts : ∀ w ∈ BIG, w.before args s = true := fun w h => atoms_spec (ws := wsX4_quiet) BB.pre w (List.mem_cons_of_mem _ h)
  have hown : s.vm.findClass RX4 = some m.cls := findClass_of_methodNamed BB.named
  have hlocks := BB.notSynchronized
  obtain ⟨RR, hRR⟩ : ∃ RR, RR = (headSpec wsX4_quiet ⟨1, 0, 0, 22⟩).room := ⟨_, rfl⟩
  have hR1 : RR.frames = 1 := by rw [hRR]; rfl
  have hR2 : RR.locals = 22 := by rw [hRR]; rfl
  have hR3 : RR.cells = 0 := by rw [hRR]; rfl
  have hR4 : RR.slots = 0 := by rw [hRR]; rfl
  have hl := lv_entry ([.ref (xA x 0), .int (k)]) (n := 2) (Nat.le_of_ble_eq_true rfl)
  have hent : entryFrame m args 2 = F0 m 0 ((lg_sl ([.ref (xA x 0), .int (k)]) ++ List.replicate (2 - (lg_sl ([.ref (xA x 0), .int (k)])).length) Slot.unset).toArray) [] := by rw [hargs, lg_entry_eq]
  rw [hent]
  generalize (lg_sl ([.ref (xA x 0), .int (k)]) ++ List.replicate (2 - (lg_sl ([.ref (xA x 0), .int (k)])).length) Slot.unset).toArray = ls at hl ⊢
  have hl : lv_has ls 2 [(0, .ref (xA x 0)), (1, .int (k))] := hl
  subst hsz
  have hD := hD0.self (sz := s.heap.size)
  generalize hAe : va_A (wX g x) s.heap.size = A at hD ⊢
  have hA : ∀ q : Nat, s.heap.size ≤ q → A q := fun q h => by rw [← hAe]; exact Or.inr h
  have hS : va_S A s.heap s.heap [] := va_S.rf
  refine q_ab (R := RR) hRR ?_
  generalize hQQ : MQ below _ args s _ _ _ = QQ
  refine lv_iload_n hx hb dX4_quiet_0 rfl (lv_at hl 1 rfl) ?_
  refine lv_iconst (v := nI (0)) hx hb dX4_quiet_1 (by decide) ?_
  refine lv_sipush (v := nI (1000)) hx hb dX4_quiet_2 (by decide) ?_
  refine cR_i (W.runS (As := [.int (k), .int (nI (0)), .int (nI (1000))]) (rest := []) ⟨hx, hb, hml, hown, hts⟩ (k_isWithin l g k (nI 0) (nI 1000)) (va_cwS 3 hts (gS w_ml_X4_49 w_sm_X4_isWithin w_ini_X4 w_co_X4_isWithin) rfl rfl rfl (by decide +kernel) (by rw [hR1, hR2]; exact ⟨Nat.le_of_ble_eq_true rfl, Nat.le_of_ble_eq_true rfl⟩)) (preS_rd va_P.nil hK) rfl rfl hl.1 rfl (lv_room (Nat.le_of_ble_eq_true rfl)) dX4_quiet_5 ⟨by rw [hR3]; omega, by rw [hR4]; omega⟩) ?_
  refine bb_ne (tgt := 13) hx hb dX4_quiet_8 (by decide) (fun hhc => ?_) (fun hhc => ?_)
  · cases hh : inL 0 1000 k with
    | none => exact absurd hhc (by rw [inL_n hh]; decide)
    | some a =>
      obtain ⟨hhl, hhn, hhe, -⟩ := inL_s (by decide) (by decide) hh
      subst hhe
      refine lv_aload_n hx hb dX4_quiet_13 rfl (lv_at hl 0 rfl) ?_
      refine lv_iload_n hx hb dX4_quiet_14 rfl (lv_at hl 1 rfl) ?_
      refine va_put (D := g.1) (ci := 4) (v := .int (nI (a))) (ty := .int) (C := RX4) (T := TX4) (N := 8) hx hb hts hiX4 tyX4 tyX4_ok nmX4 hown hK.1 hP hD hS 0 rfl rfl 5 (by decide) (hts _ w_fl_X4_40) (fun _ h9 => h9) rfl (by decide +kernel) rfl rfl (Nat.le_of_ble_eq_true rfl) dX4_quiet_15 (fun H locs hP hD hS => ?_)
      have hP : va_P g.1 vwCl (wX g (xsQ x a)) H := hP
      have hD : va_D A (wX g (xsQ x a)) := hD
      refine lv_iconst (v := bI (true)) hx hb dX4_quiet_18 (by decide) ?_
      subst hQQ
      exact W.zret hx hb hr (nar_b _) (fun t9 ht _ => ⟨⟨_, xsQ x a, rfl, by unfold quietS; rw [hh], hpT ht hP, hD⟩, hS.F ht⟩) hS.2.2 dX4_quiet_19
  · cases hh : inL 0 1000 k with
    | none =>
      refine lv_iconst (v := bI (false)) hx hb dX4_quiet_11 (by decide) ?_
      subst hQQ
      exact W.zret hx hb hr (nar_b _) (fun t9 ht _ => ⟨⟨_, x, rfl, by unfold quietS; rw [hh], hpT ht hP, hD⟩, hS.F ht⟩) hS.2.2 dX4_quiet_12
    | some a => exact absurd hhc (by rw [(inL_s (by decide) (by decide) hh).2.2.2]; decide)

set_option maxHeartbeats 4000000 in
set_option maxRecDepth 100000 in
theorem k_cost (l : Launch) (g : GG) (x : FT) (hx9 : Xok x) (k d : Int32) (sz : Nat) : Ai l yX4_cost wsX4_cost 1 22 0 0 [.ref (xA x 0), .int (k), .int (d)] g (x) sz (fun r u => (r, u) = costS x k d) := by
  refine Met.ofW (cc := cX4_cost) (maxL := 3) (ret := (some .boolean)) (by decide) rfl ?_
  intro p e s m args below meth c s₁ BB hml hv
  obtain ⟨hargs, hsz, hP, hK, hD0⟩ := hv
  have hx := BB.exec
  have hb := BB.bytes
  have hr := BB.returns
  have hts : ∀ w ∈ BIG, w.before args s = true := fun w h => atoms_spec (ws := wsX4_cost) BB.pre w (List.mem_cons_of_mem _ h)
  have hown : s.vm.findClass RX4 = some m.cls := findClass_of_methodNamed BB.named
  have hlocks := BB.notSynchronized
  obtain ⟨RR, hRR⟩ : ∃ RR, RR = (headSpec wsX4_cost ⟨1, 0, 0, 22⟩).room := ⟨_, rfl⟩
  have hR1 : RR.frames = 1 := by rw [hRR]; rfl
  have hR2 : RR.locals = 22 := by rw [hRR]; rfl
  have hR3 : RR.cells = 0 := by rw [hRR]; rfl
  have hR4 : RR.slots = 0 := by rw [hRR]; rfl
  have hl := lv_entry ([.ref (xA x 0), .int (k), .int (d)]) (n := 3) (Nat.le_of_ble_eq_true rfl)
  have hent : entryFrame m args 3 = F0 m 0 ((lg_sl ([.ref (xA x 0), .int (k), .int (d)]) ++ List.replicate (3 - (lg_sl ([.ref (xA x 0), .int (k), .int (d)])).length) Slot.unset).toArray) [] := by rw [hargs, lg_entry_eq]
  rw [hent]
  generalize (lg_sl ([.ref (xA x 0), .int (k), .int (d)]) ++ List.replicate (3 - (lg_sl ([.ref (xA x 0), .int (k), .int (d)])).length) Slot.unset).toArray = ls at hl ⊢
  have hl : lv_has ls 3 [(0, .ref (xA x 0)), (1, .int (k)), (2, .int (d))] := hl
  subst hsz
  have hD := hD0.self (sz := s.heap.size)
  generalize hAe : va_A (wX g x) s.heap.size = A at hD ⊢
  have hA : ∀ q : Nat, s.heap.size ≤ q → A q := fun q h => by rw [← hAe]; exact Or.inr h
  have hS : va_S A s.heap s.heap [] := va_S.rf
  refine q_ab (R := RR) hRR ?_
  generalize hQQ : MQ below _ args s _ _ _ = QQ
  refine lv_iload_n hx hb dX4_cost_0 rfl (lv_at hl 1 rfl) ?_
  refine lv_iconst (v := nI (0)) hx hb dX4_cost_1 (by decide) ?_
  refine lv_sipush (v := nI (1000)) hx hb dX4_cost_2 (by decide) ?_
  refine cR_i (W.runS (As := [.int (k), .int (nI (0)), .int (nI (1000))]) (rest := []) ⟨hx, hb, hml, hown, hts⟩ (k_isWithin l g k (nI 0) (nI 1000)) (va_cwS 3 hts (gS w_ml_X4_49 w_sm_X4_isWithin w_ini_X4 w_co_X4_isWithin) rfl rfl rfl (by decide +kernel) (by rw [hR1, hR2]; exact ⟨Nat.le_of_ble_eq_true rfl, Nat.le_of_ble_eq_true rfl⟩)) (preS_rd va_P.nil hK) rfl rfl hl.1 rfl (lv_room (Nat.le_of_ble_eq_true rfl)) dX4_cost_5 ⟨by rw [hR3]; omega, by rw [hR4]; omega⟩) ?_
  refine bb_eq (tgt := 22) hx hb dX4_cost_8 (by decide) (fun hhc => ?_) (fun hhc => ?_)
  · cases hh : inL 0 1000 k with
    | none =>
      refine lv_iconst (v := bI (false)) hx hb dX4_cost_22 (by decide) ?_
      subst hQQ
      exact W.zret hx hb hr (nar_b _) (fun t9 ht _ => ⟨⟨_, x, rfl, by unfold costS; rw [hh], hpT ht hP, hD⟩, hS.F ht⟩) hS.2.2 dX4_cost_23
    | some a => exact absurd hhc (by rw [(inL_s (by decide) (by decide) hh).2.2.2]; decide)
  · cases hh : inL 0 1000 k with
    | none => exact absurd hhc (by rw [inL_n hh]; decide)
    | some a =>
      obtain ⟨hhl, hhn, hhe, -⟩ := inL_s (by decide) (by decide) hh
      subst hhe
      refine lv_iload_n hx hb dX4_cost_11 rfl (lv_at hl 2 rfl) ?_
      refine lv_iconst (v := nI (0)) hx hb dX4_cost_12 (by decide) ?_
      refine lv_sipush (v := nI (1000)) hx hb dX4_cost_13 (by decide) ?_
      refine cR_i (W.runS (As := [.int (d), .int (nI (0)), .int (nI (1000))]) (rest := []) ⟨hx, hb, hml, hown, hts⟩ (k_isWithin l g d (nI 0) (nI 1000)) (va_cwS 3 hts (gS w_ml_X4_49 w_sm_X4_isWithin w_ini_X4 w_co_X4_isWithin) rfl rfl rfl (by decide +kernel) (by rw [hR1, hR2]; exact ⟨Nat.le_of_ble_eq_true rfl, Nat.le_of_ble_eq_true rfl⟩)) (preS_rd va_P.nil hK) rfl rfl hl.1 rfl (lv_room (Nat.le_of_ble_eq_true rfl)) dX4_cost_16 ⟨by rw [hR3]; omega, by rw [hR4]; omega⟩) ?_
      refine bb_ne (tgt := 24) hx hb dX4_cost_19 (by decide) (fun hic => ?_) (fun hic => ?_)
      · cases hi : inL 0 1000 d with
        | none => exact absurd hic (by rw [inL_n hi]; decide)
        | some e =>
          obtain ⟨hil, hin, hie, -⟩ := inL_s (by decide) (by decide) hi
          subst hie
          refine lv_aload_n hx hb dX4_cost_24 rfl (lv_at hl 0 rfl) ?_
          refine lv_iload_n hx hb dX4_cost_25 rfl (lv_at hl 1 rfl) ?_
          refine va_put (D := g.1) (ci := 4) (v := .int (nI (a))) (ty := .int) (C := RX4) (T := TX4) (N := 8) hx hb hts hiX4 tyX4 tyX4_ok nmX4 hown hK.1 hP hD hS 0 rfl rfl 6 (by decide) (hts _ w_fl_X4_43) (fun _ h9 => h9) rfl (by decide +kernel) rfl rfl (Nat.le_of_ble_eq_true rfl) dX4_cost_26 (fun H locs hP hD hS => ?_)
          have hP : va_P g.1 vwCl (wX g (xsE x a)) H := hP
          have hD : va_D A (wX g (xsE x a)) := hD
          refine lv_aload_n hx hb dX4_cost_29 rfl (lv_at hl 0 rfl) ?_
          refine lv_iload_n hx hb dX4_cost_30 rfl (lv_at hl 2 rfl) ?_
          refine va_put (D := g.1) (ci := 4) (v := .int (nI (e))) (ty := .int) (C := RX4) (T := TX4) (N := 8) hx hb hts hiX4 tyX4 tyX4_ok nmX4 hown hK.1 hP hD hS 0 rfl rfl 7 (by decide) (hts _ w_fl_X4_46) (fun _ h9 => h9) rfl (by decide +kernel) rfl rfl (Nat.le_of_ble_eq_true rfl) dX4_cost_31 (fun H locs hP hD hS => ?_)
          have hP : va_P g.1 vwCl (wX g (xsL (xsE x a) e)) H := hP
          have hD : va_D A (wX g (xsL (xsE x a) e)) := hD
          refine lv_iconst (v := bI (true)) hx hb dX4_cost_34 (by decide) ?_
          subst hQQ
          exact W.zret hx hb hr (nar_b _) (fun t9 ht _ => ⟨⟨_, xsL (xsE x a) e, rfl, by unfold costS; rw [hh, hi], hpT ht hP, hD⟩, hS.F ht⟩) hS.2.2 dX4_cost_35
      · cases hi : inL 0 1000 d with
        | none =>
          refine lv_iconst (v := bI (false)) hx hb dX4_cost_22 (by decide) ?_
          subst hQQ
          exact W.zret hx hb hr (nar_b _) (fun t9 ht _ => ⟨⟨_, x, rfl, by unfold costS; rw [hh, hi], hpT ht hP, hD⟩, hS.F ht⟩) hS.2.2 dX4_cost_23
        | some e => exact absurd hic (by rw [(inL_s (by decide) (by decide) hi).2.2.2]; decide)

set_option maxHeartbeats 4000000 in
set_option maxRecDepth 100000 in
theorem k_holiday (l : Launch) (g : GG) (x : FT) (hx9 : Xok x) (k : Int32) (on : Bool) (sz : Nat) : Ai l yX4_holiday wsX4_holiday 2 42 0 0 [.ref (xA x 0), .int (k), .int (bI (on))] g (x) sz (fun r u => (r, u) = holS x k on) := by
  refine Met.ofW (cc := cX4_holiday) (maxL := 3) (ret := (some .boolean)) (by decide) rfl ?_
  intro p e s m args below meth c s₁ BB hml hv
  obtain ⟨hargs, hsz, hP, hK, hD0⟩ := hv
  have hx := BB.exec
  have hb := BB.bytes
  have hr := BB.returns
  have hts : ∀ w ∈ BIG, w.before args s = true := fun w h => atoms_spec (ws := wsX4_holiday) BB.pre w (List.mem_cons_of_mem _ h)
  have hown : s.vm.findClass RX4 = some m.cls := findClass_of_methodNamed BB.named
  have hlocks := BB.notSynchronized
  obtain ⟨RR, hRR⟩ : ∃ RR, RR = (headSpec wsX4_holiday ⟨2, 0, 0, 42⟩).room := ⟨_, rfl⟩
  have hR1 : RR.frames = 2 := by rw [hRR]; rfl
  have hR2 : RR.locals = 42 := by rw [hRR]; rfl
  have hR3 : RR.cells = 0 := by rw [hRR]; rfl
  have hR4 : RR.slots = 0 := by rw [hRR]; rfl
  have hl := lv_entry ([.ref (xA x 0), .int (k), .int (bI (on))]) (n := 3) (Nat.le_of_ble_eq_true rfl)
  have hent : entryFrame m args 3 = F0 m 0 ((lg_sl ([.ref (xA x 0), .int (k), .int (bI (on))]) ++ List.replicate (3 - (lg_sl ([.ref (xA x 0), .int (k), .int (bI (on))])).length) Slot.unset).toArray) [] := by rw [hargs, lg_entry_eq]
  rw [hent]
  generalize (lg_sl ([.ref (xA x 0), .int (k), .int (bI (on))]) ++ List.replicate (3 - (lg_sl ([.ref (xA x 0), .int (k), .int (bI (on))])).length) Slot.unset).toArray = ls at hl ⊢
  have hl : lv_has ls 3 [(0, .ref (xA x 0)), (1, .int (k)), (2, .int (bI (on)))] := hl
  subst hsz
  have hD := hD0.self (sz := s.heap.size)
  generalize hAe : va_A (wX g x) s.heap.size = A at hD ⊢
  have hA : ∀ q : Nat, s.heap.size ≤ q → A q := fun q h => by rw [← hAe]; exact Or.inr h
  have hS : va_S A s.heap s.heap [] := va_S.rf
  refine q_ab (R := RR) hRR ?_
  generalize hQQ : MQ below _ args s _ _ _ = QQ
  refine lv_iload_n hx hb dX4_holiday_0 rfl (lv_at hl 1 rfl) ?_
  refine cR_i (W.runS (As := [.int (k)]) (rest := []) ⟨hx, hb, hml, hown, hts⟩ (k_isDay l g k) (va_cwS 1 hts (gS w_ml_X4_75 w_sm_X4_isDay w_ini_X4 w_co_X4_isDay) rfl rfl rfl (by decide +kernel) (by rw [hR1, hR2]; exact ⟨Nat.le_of_ble_eq_true rfl, Nat.le_of_ble_eq_true rfl⟩)) (preS_rd va_P.nil hK) rfl rfl hl.1 rfl (lv_room (Nat.le_of_ble_eq_true rfl)) dX4_holiday_1 ⟨by rw [hR3]; omega, by rw [hR4]; omega⟩) ?_
  refine bb_ne (tgt := 9) hx hb dX4_holiday_4 (by decide) (fun hhc => ?_) (fun hhc => ?_)
  · cases hh : inL 0 416 k with
    | none => exact absurd hhc (by rw [inL_n hh]; decide)
    | some a =>
      obtain ⟨hhl, hhn, hhe, -⟩ := inL_s (by decide) (by decide) hh
      subst hhe
      refine lv_aload_n hx hb dX4_holiday_9 rfl (lv_at hl 0 rfl) ?_
      refine va_get (D := g.1) (ci := 4) (v := .ref (xC x 0)) (C := RX4) (T := TX4) (N := 8) hx hb hts hiX4 hown hK.1 hP 0 rfl rfl 0 (by decide) (hts _ w_fl_X4_10) (fun _ h9 => h9) rfl dX4_holiday_10 ?_
      refine lv_iload_n hx hb dX4_holiday_13 rfl (lv_at hl 1 rfl) ?_
      refine lv_iload_n hx hb dX4_holiday_14 rfl (lv_at hl 2 rfl) ?_
      have hP3 : va_P g.1 vwCl ((wXh g x ++ (wF g (xF x) (xW x) ++ wO g (xO x) (xR x) (xS x))) ++ (wC g (xC x) (xH x) ++ bw g (xB x))) _ := hP
      have hD3 : va_D A ((wXh g x ++ (wF g (xF x) (xW x) ++ wO g (xO x) (xR x) (xS x))) ++ (wC g (xC x) (xH x) ++ bw g (xB x))) := hD
      refine cW_v (w1 := wC g (xC x) (va_up (xH x) a on)) (va_runV (As := [.int (nI (a)), .int (bI (on))]) (rest := []) ⟨hx, hb, hml, hown, hts⟩ (k_mark l g (xC x) (xH x) a on (by omega) _) (cwV 2 hts (gV w_ml_X4_78 w_im_X1_mark w_sel_X1_mark w_ini_X1 w_co_X1_mark) rfl rfl rfl (by decide +kernel) (by rw [hR1, hR2]; exact ⟨Nat.le_of_ble_eq_true rfl, Nat.le_of_ble_eq_true rfl⟩)) (preV_wr (P_mid hP3) hK (D_mid hD3) (va_recv hK.1 (P_mid hP3) (ci := 1) (q0 := 0) rfl rfl)) rfl rfl hl.1 rfl (lv_room (Nat.le_of_ble_eq_true rfl)) dX4_holiday_15 ⟨by rw [hR3]; omega, by rw [hR4]; omega⟩) hP3 hD3 hS hA rfl (fun H locs hP hD hS => ?_)
      have hP : va_P g.1 vwCl (wX g (xsH x (va_up (xH x) a on))) H := hP
      have hD : va_D A (wX g (xsH x (va_up (xH x) a on))) := hD
      refine lv_iconst (v := bI (true)) hx hb dX4_holiday_18 (by decide) ?_
      subst hQQ
      exact W.zret hx hb hr (nar_b _) (fun t9 ht _ => ⟨⟨_, xsH x (va_up (xH x) a on), rfl, by unfold holS; rw [hh], hpT ht hP, hD⟩, hS.F ht⟩) hS.2.2 dX4_holiday_19
  · cases hh : inL 0 416 k with
    | none =>
      refine lv_iconst (v := bI (false)) hx hb dX4_holiday_7 (by decide) ?_
      subst hQQ
      exact W.zret hx hb hr (nar_b _) (fun t9 ht _ => ⟨⟨_, x, rfl, by unfold holS; rw [hh], hpT ht hP, hD⟩, hS.F ht⟩) hS.2.2 dX4_holiday_8
    | some a => exact absurd hhc (by rw [(inL_s (by decide) (by decide) hh).2.2.2]; decide)

set_option maxHeartbeats 4000000 in
set_option maxRecDepth 100000 in
theorem k_fade (l : Launch) (g : GG) (x : FT) (hx9 : Xok x) (k d : Int32) (sz : Nat) : Ai l yX4_fade wsX4_fade 1 25 0 0 [.ref (xA x 0), .int (k), .int (d)] g (x) sz (fun r u => (r, u) = fadeS x k d) := by
  refine Met.ofW (cc := cX4_fade) (maxL := 3) (ret := (some .boolean)) (by decide) rfl ?_
  intro p e s m args below meth c s₁ BB hml hv
  obtain ⟨hargs, hsz, hP, hK, hD0⟩ := hv
  have hx := BB.exec
  have hb := BB.bytes
  have hr := BB.returns
  have hts : ∀ w ∈ BIG, w.before args s = true := fun w h => atoms_spec (ws := wsX4_fade) BB.pre w (List.mem_cons_of_mem _ h)
  have hown : s.vm.findClass RX4 = some m.cls := findClass_of_methodNamed BB.named
  have hlocks := BB.notSynchronized
  obtain ⟨RR, hRR⟩ : ∃ RR, RR = (headSpec wsX4_fade ⟨1, 0, 0, 25⟩).room := ⟨_, rfl⟩
  have hR1 : RR.frames = 1 := by rw [hRR]; rfl
  have hR2 : RR.locals = 25 := by rw [hRR]; rfl
  have hR3 : RR.cells = 0 := by rw [hRR]; rfl
  have hR4 : RR.slots = 0 := by rw [hRR]; rfl
  have hl := lv_entry ([.ref (xA x 0), .int (k), .int (d)]) (n := 3) (Nat.le_of_ble_eq_true rfl)
  have hent : entryFrame m args 3 = F0 m 0 ((lg_sl ([.ref (xA x 0), .int (k), .int (d)]) ++ List.replicate (3 - (lg_sl ([.ref (xA x 0), .int (k), .int (d)])).length) Slot.unset).toArray) [] := by rw [hargs, lg_entry_eq]
  rw [hent]
  generalize (lg_sl ([.ref (xA x 0), .int (k), .int (d)]) ++ List.replicate (3 - (lg_sl ([.ref (xA x 0), .int (k), .int (d)])).length) Slot.unset).toArray = ls at hl ⊢
  have hl : lv_has ls 3 [(0, .ref (xA x 0)), (1, .int (k)), (2, .int (d))] := hl
  subst hsz
  have hD := hD0.self (sz := s.heap.size)
  generalize hAe : va_A (wX g x) s.heap.size = A at hD ⊢
  have hA : ∀ q : Nat, s.heap.size ≤ q → A q := fun q h => by rw [← hAe]; exact Or.inr h
  have hS : va_S A s.heap s.heap [] := va_S.rf
  refine q_ab (R := RR) hRR ?_
  generalize hQQ : MQ below _ args s _ _ _ = QQ
  refine lv_iload_n hx hb dX4_fade_0 rfl (lv_at hl 1 rfl) ?_
  refine lv_iconst (v := nI (1)) hx hb dX4_fade_1 (by decide) ?_
  refine lv_bipush (v := nI (9)) hx hb dX4_fade_2 (by decide) ?_
  refine cR_i (W.runS (As := [.int (k), .int (nI (1)), .int (nI (9))]) (rest := []) ⟨hx, hb, hml, hown, hts⟩ (k_isWithin l g k (nI 1) (nI 9)) (va_cwS 3 hts (gS w_ml_X4_49 w_sm_X4_isWithin w_ini_X4 w_co_X4_isWithin) rfl rfl rfl (by decide +kernel) (by rw [hR1, hR2]; exact ⟨Nat.le_of_ble_eq_true rfl, Nat.le_of_ble_eq_true rfl⟩)) (preS_rd va_P.nil hK) rfl rfl hl.1 rfl (lv_room (Nat.le_of_ble_eq_true rfl)) dX4_fade_4 ⟨by rw [hR3]; omega, by rw [hR4]; omega⟩) ?_
  refine bb_eq (tgt := 25) hx hb dX4_fade_7 (by decide) (fun hhc => ?_) (fun hhc => ?_)
  · cases hh : inL 1 9 k with
    | none =>
      refine lv_iconst (v := bI (false)) hx hb dX4_fade_25 (by decide) ?_
      subst hQQ
      exact W.zret hx hb hr (nar_b _) (fun t9 ht _ => ⟨⟨_, x, rfl, by unfold fadeS; rw [hh], hpT ht hP, hD⟩, hS.F ht⟩) hS.2.2 dX4_fade_26
    | some a => exact absurd hhc (by rw [(inL_s (by decide) (by decide) hh).2.2.2]; decide)
  · cases hh : inL 1 9 k with
    | none => exact absurd hhc (by rw [inL_n hh]; decide)
    | some a =>
      obtain ⟨hhl, hhn, hhe, -⟩ := inL_s (by decide) (by decide) hh
      subst hhe
      refine lv_iload_n hx hb dX4_fade_10 rfl (lv_at hl 2 rfl) ?_
      refine lv_iconst (v := nI (1)) hx hb dX4_fade_11 (by decide) ?_
      refine lv_bipush (v := nI (9)) hx hb dX4_fade_12 (by decide) ?_
      refine cR_i (W.runS (As := [.int (d), .int (nI (1)), .int (nI (9))]) (rest := []) ⟨hx, hb, hml, hown, hts⟩ (k_isWithin l g d (nI 1) (nI 9)) (va_cwS 3 hts (gS w_ml_X4_49 w_sm_X4_isWithin w_ini_X4 w_co_X4_isWithin) rfl rfl rfl (by decide +kernel) (by rw [hR1, hR2]; exact ⟨Nat.le_of_ble_eq_true rfl, Nat.le_of_ble_eq_true rfl⟩)) (preS_rd va_P.nil hK) rfl rfl hl.1 rfl (lv_room (Nat.le_of_ble_eq_true rfl)) dX4_fade_14 ⟨by rw [hR3]; omega, by rw [hR4]; omega⟩) ?_
      refine bb_eq (tgt := 25) hx hb dX4_fade_17 (by decide) (fun hic => ?_) (fun hic => ?_)
      · cases hi : inL 1 9 d with
        | none =>
          refine lv_iconst (v := bI (false)) hx hb dX4_fade_25 (by decide) ?_
          subst hQQ
          exact W.zret hx hb hr (nar_b _) (fun t9 ht _ => ⟨⟨_, x, rfl, by unfold fadeS; rw [hh, hi], hpT ht hP, hD⟩, hS.F ht⟩) hS.2.2 dX4_fade_26
        | some e => exact absurd hic (by rw [(inL_s (by decide) (by decide) hi).2.2.2]; decide)
      · cases hi : inL 1 9 d with
        | none => exact absurd hic (by rw [inL_n hi]; decide)
        | some e =>
          obtain ⟨hil, hin, hie, -⟩ := inL_s (by decide) (by decide) hi
          subst hie
          refine lv_iload_n hx hb dX4_fade_20 rfl (lv_at hl 1 rfl) ?_
          refine lv_iload_n hx hb dX4_fade_21 rfl (lv_at hl 2 rfl) ?_
          refine bn_le (tgt := 27) hx hb (by omega) (by omega) dX4_fade_22 (by decide) (fun c5 => ?_) (fun c5 => ?_)
          · refine lv_aload_n hx hb dX4_fade_27 rfl (lv_at hl 0 rfl) ?_
            refine va_get (D := g.1) (ci := 4) (v := .ref (xF x 0)) (C := RX4) (T := TX4) (N := 8) hx hb hts hiX4 hown hK.1 hP 0 rfl rfl 1 (by decide) (hts _ w_fl_X4_19) (fun _ h9 => h9) rfl dX4_fade_28 ?_
            refine lv_iload_n hx hb dX4_fade_31 rfl (lv_at hl 1 rfl) ?_
            refine lv_iload_n hx hb dX4_fade_32 rfl (lv_at hl 2 rfl) ?_
            have hP3 : va_P g.1 vwCl (wXh g x ++ (wF g (xF x) (xW x) ++ (wO g (xO x) (xR x) (xS x) ++ (wC g (xC x) (xH x) ++ bw g (xB x))))) _ := hP
            have hD3 : va_D A (wXh g x ++ (wF g (xF x) (xW x) ++ (wO g (xO x) (xR x) (xS x) ++ (wC g (xC x) (xH x) ++ bw g (xB x))))) := hD
            refine cW_v (w1 := wF g (xF x) (wtU a e (xW x) 8)) (va_runV (As := [.int (nI (a)), .int (nI (e))]) (rest := []) ⟨hx, hb, hml, hown, hts⟩ (k_setTo l g (xF x) (xW x) a e (by omega) (by omega) _) (cwV 2 hts (gV w_ml_X4_72 w_im_X2_setTo w_sel_X2_setTo w_ini_X2 w_co_X2_setTo) rfl rfl rfl (by decide +kernel) (by rw [hR1, hR2]; exact ⟨Nat.le_of_ble_eq_true rfl, Nat.le_of_ble_eq_true rfl⟩)) (preV_wr (P_mid hP3) hK (D_mid hD3) (va_recv hK.1 (P_mid hP3) (ci := 2) (q0 := 0) rfl rfl)) rfl rfl hl.1 rfl (lv_room (Nat.le_of_ble_eq_true rfl)) dX4_fade_33 ⟨by rw [hR3]; omega, by rw [hR4]; omega⟩) hP3 hD3 hS hA rfl (fun H locs hP hD hS => ?_)
            have hP : va_P g.1 vwCl (wX g (xsW x (wtU a e (xW x) 8))) H := hP
            have hD : va_D A (wX g (xsW x (wtU a e (xW x) 8))) := hD
            refine lv_iconst (v := bI (true)) hx hb dX4_fade_36 (by decide) ?_
            subst hQQ
            exact W.zret hx hb hr (nar_b _) (fun t9 ht _ => ⟨⟨_, xsW x (wtU a e (xW x) 8), rfl, by unfold fadeS; rw [hh, hi]; show _ = ite _ _ _; rw [if_pos c5], hpT ht hP, hD⟩, hS.F ht⟩) hS.2.2 dX4_fade_37
          · refine lv_iconst (v := bI (false)) hx hb dX4_fade_25 (by decide) ?_
            subst hQQ
            exact W.zret hx hb hr (nar_b _) (fun t9 ht _ => ⟨⟨_, x, rfl, by unfold fadeS; rw [hh, hi]; show _ = ite _ _ _; rw [if_neg (by omega)], hpT ht hP, hD⟩, hS.F ht⟩) hS.2.2 dX4_fade_26
end
section
set_option maxHeartbeats 4000000 in
set_option maxRecDepth 100000 in
theorem k_expected (l : Launch) (g : GG) (x : FT) (hx9 : Xok x) (h0 : xS x 0 = 0) (k t : Int32) (sz : Nat) : Al l yX4_expected wsX4_expected 5 124 0 0 [.ref (xA x 0), .int (k), .int (t)] g (x) sz (fun r u => r = lE (expO x k t) ∧ alX u x) := by
  refine Met.ofW (cc := cX4_expected) (maxL := 4) (ret := (some .long)) (by decide) rfl ?_
  intro p e s m args below meth c s₁ BB hml hv
  obtain ⟨hargs, hsz, hP, hK, hD0⟩ := hv
  have hx := BB.exec
  have hb := BB.bytes
  have hr := BB.returns
  have hts : ∀ w ∈ BIG, w.before args s = true := fun w h => atoms_spec (ws := wsX4_expected) BB.pre w (List.mem_cons_of_mem _ h)
  have hown : s.vm.findClass RX4 = some m.cls := findClass_of_methodNamed BB.named
  have hlocks := BB.notSynchronized
  obtain ⟨RR, hRR⟩ : ∃ RR, RR = (headSpec wsX4_expected ⟨5, 0, 0, 124⟩).room := ⟨_, rfl⟩
  have hR1 : RR.frames = 5 := by rw [hRR]; rfl
  have hR2 : RR.locals = 124 := by rw [hRR]; rfl
  have hR3 : RR.cells = 0 := by rw [hRR]; rfl
  have hR4 : RR.slots = 0 := by rw [hRR]; rfl
  have hl := lv_entry ([.ref (xA x 0), .int (k), .int (t)]) (n := 4) (Nat.le_of_ble_eq_true rfl)
  have hent : entryFrame m args 4 = F0 m 0 ((lg_sl ([.ref (xA x 0), .int (k), .int (t)]) ++ List.replicate (4 - (lg_sl ([.ref (xA x 0), .int (k), .int (t)])).length) Slot.unset).toArray) [] := by rw [hargs, lg_entry_eq]
  rw [hent]
  generalize (lg_sl ([.ref (xA x 0), .int (k), .int (t)]) ++ List.replicate (4 - (lg_sl ([.ref (xA x 0), .int (k), .int (t)])).length) Slot.unset).toArray = ls at hl ⊢
  have hl : lv_has ls 4 [(0, .ref (xA x 0)), (1, .int (k)), (2, .int (t))] := hl
  subst hsz
  have hD := hD0.self (sz := s.heap.size)
  generalize hAe : va_A (wX g x) s.heap.size = A at hD ⊢
  have hA : ∀ q : Nat, s.heap.size ≤ q → A q := fun q h => by rw [← hAe]; exact Or.inr h
  have hS : va_S A s.heap s.heap [] := va_S.rf
  refine q_ab (R := RR) hRR ?_
  generalize hQQ : MQ below _ args s _ _ _ = QQ
  obtain ⟨h8, hB, hW, hq9, he9, hl9⟩ := id hx9
  refine lv_aload_n hx hb dX4_expected_0 rfl (lv_at hl 0 rfl) ?_
  refine lv_iload_n hx hb dX4_expected_1 rfl (lv_at hl 1 rfl) ?_
  cases hbk : binAt (xB x) k with
  | none =>
    refine cR_q (W.runV (As := [.int (k)]) (rest := []) ⟨hx, hb, hml, hown, hts⟩ (k_binOf_n l g x k h8 hbk) (cwV 1 hts (gV w_ml_X4_56 w_im_X4_binOf w_sel_X4_binOf w_ini_X4 w_co_X4_binOf) rfl rfl rfl (by decide +kernel) (by rw [hR1, hR2]; exact ⟨Nat.le_of_ble_eq_true rfl, Nat.le_of_ble_eq_true rfl⟩)) (preV_rd hP hK (va_recv hK.1 hP (ci := 4) (q0 := 0) rfl rfl)) rfl rfl hl.1 rfl (lv_room (Nat.le_of_ble_eq_true rfl)) dX4_expected_2 ⟨by rw [hR3]; omega, by rw [hR4]; omega⟩) ?_
    refine W.eq (g2 := F0 m 5 ls [.null]) rfl ?_
    refine lv_astore_nN (lv' := [(3, .null), (0, .ref (xA x 0)), (1, .int (k)), (2, .int (t))]) hx hb dX4_expected_5 rfl hl (by decide) rfl (fun ls hl => ?_)
    refine lv_aload_nN hx hb dX4_expected_6 rfl (lv_at hl 0 rfl) ?_
    refine lv_ifnullN (tgt := 17) hx hb dX4_expected_7 (by decide) ?_
    refine lv_ldc2 (v := (-1)) hx hb hown (hts _ w_ct_X4_97) dX4_expected_17 ?_
    subst hQQ
    exact W.lret hx hb hr (fun t9 ht _ => ⟨⟨_, x, rfl, ⟨by rw [expO, hbk]; rfl, alX_rf h0⟩, hpT ht hP, hD⟩, hS.F ht⟩) hS.2.2 dX4_expected_20
  | some b =>
    have hbm : b ∈ xB x := by obtain ⟨j, -, -, hj, -⟩ := binAt_s h8 hbk; exact List.mem_of_getElem? hj
    have hBk := hB b hbm
    obtain ⟨⟨hbn, hbp, hbo, hba⟩, hbw, hbg, hbs, hbr, hc1, hc2, hc3, hbam⟩ := id hBk
    have hPb := wX_B hP hbm
    have hPm := va_P.app hPb (va_P.app (wX_C hP) (wX_F hP))
    have hpl2 : ∀ i, i < bN b → bPl b i < 2 ^ 31 := fun i hi => Nat.lt_trans (hbp i hi) (by decide)
    refine cR_q (W.runV (As := [.int (k)]) (rest := []) ⟨hx, hb, hml, hown, hts⟩ (k_binOf_s l g x k b h8 hbk) (cwV 1 hts (gV w_ml_X4_56 w_im_X4_binOf w_sel_X4_binOf w_ini_X4 w_co_X4_binOf) rfl rfl rfl (by decide +kernel) (by rw [hR1, hR2]; exact ⟨Nat.le_of_ble_eq_true rfl, Nat.le_of_ble_eq_true rfl⟩)) (preV_rd hP hK (va_recv hK.1 hP (ci := 4) (q0 := 0) rfl rfl)) rfl rfl hl.1 rfl (lv_room (Nat.le_of_ble_eq_true rfl)) dX4_expected_2 ⟨by rw [hR3]; omega, by rw [hR4]; omega⟩) ?_
    refine W.eq (g2 := F0 m 5 ls [.ref (bA b 0)]) rfl ?_
    refine lv_astore_n (lv' := [(3, .ref (bA b 0)), (0, .ref (xA x 0)), (1, .int (k)), (2, .int (t))]) hx hb dX4_expected_5 rfl hl (by decide) rfl (fun ls hl => ?_)
    refine lv_aload_n hx hb dX4_expected_6 rfl (lv_at hl 0 rfl) ?_
    refine lv_ifnull hx hb dX4_expected_7 ?_
    refine lv_iload_n hx hb dX4_expected_10 rfl (lv_at hl 3 rfl) ?_
    refine cR_i (W.runS (As := [.int (t)]) (rest := []) ⟨hx, hb, hml, hown, hts⟩ (k_isHour l g t) (va_cwS 1 hts (gS w_ml_X4_60 w_sm_X4_isHour w_ini_X4 w_co_X4_isHour) rfl rfl rfl (by decide +kernel) (by rw [hR1, hR2]; exact ⟨Nat.le_of_ble_eq_true rfl, Nat.le_of_ble_eq_true rfl⟩)) (preS_rd va_P.nil hK) rfl rfl hl.1 rfl (lv_room (Nat.le_of_ble_eq_true rfl)) dX4_expected_11 ⟨by rw [hR3]; omega, by rw [hR4]; omega⟩) ?_
    refine bb_ne (tgt := 21) hx hb dX4_expected_14 (by decide) (fun hhc => ?_) (fun hhc => ?_)
    · cases hh : inL 0 9999 t with
      | none => exact absurd hhc (by rw [inL_n hh]; decide)
      | some h =>
        obtain ⟨hhl, hhn, hhe, -⟩ := inL_s (by decide) (by decide) hh
        subst hhe
        refine lv_aload_n hx hb dX4_expected_21 rfl (lv_at hl 1 rfl) ?_
        refine lv_aload_n hx hb dX4_expected_22 rfl (lv_at hl 0 rfl) ?_
        refine cW0_v (wc := wX g x) (w1 := wX g (lkX x b)) (va_runV (As := [.ref (bA b 0)]) (rest := []) ⟨hx, hb, hml, hown, hts⟩ (k_lookAhead l g x b hx9 hbm _) (cwV 1 hts (gV w_ml_X4_99 w_im_X4_lookAhead w_sel_X4_lookAhead w_ini_X4 w_co_X4_lookAhead) rfl rfl rfl (by decide +kernel) (by rw [hR1, hR2]; exact ⟨Nat.le_of_ble_eq_true rfl, Nat.le_of_ble_eq_true rfl⟩)) (preV_wr hP hK hD (va_recv hK.1 hP (ci := 4) (q0 := 0) rfl rfl)) rfl rfl hl.1 rfl (lv_room (Nat.le_of_ble_eq_true rfl)) dX4_expected_23 ⟨by rw [hR3]; omega, by rw [hR4]; omega⟩) hP hD hS hA rfl (fun H locs hP hD hS => ?_)
        obtain ⟨hs, hm⟩ := lkX_le hx9 hbm h0
        have hPo := va_P.app (wX_O hP) (wX_B (x := lkX x b) hP hbm)
        refine lv_aload_n hx hb dX4_expected_26 rfl (lv_at hl 1 rfl) ?_
        refine va_get (D := g.1) (ci := 4) (v := .ref (xO x 0)) (C := RX4) (T := TX4) (N := 8) hx hb hts hiX4 hown hK.1 hP 0 rfl rfl 2 (by decide) (hts _ w_fl_X4_26) (fun _ h9 => h9) rfl dX4_expected_27 ?_
        refine lv_aload_n hx hb dX4_expected_30 rfl (lv_at hl 0 rfl) ?_
        refine lv_iload_n hx hb dX4_expected_31 rfl (lv_at hl 3 rfl) ?_
        refine cR_l (W.runV (As := [.ref (bA b 0), .int (nI (h))]) (rest := []) ⟨hx, hb, hml, hown, hts⟩ (k_shareAtO l g (xO x) (xR (lkX x b)) (xS (lkX x b)) b hbn hbp hba hs hm h (by omega)) (cwV 2 hts (gV w_ml_X4_103 w_im_X3_shareAt w_sel_X3_shareAt w_ini_X3 w_co_X3_shareAt) rfl rfl rfl (by decide +kernel) (by rw [hR1, hR2]; exact ⟨Nat.le_of_ble_eq_true rfl, Nat.le_of_ble_eq_true rfl⟩)) (preV_rd hPo hK (va_recv hK.1 hPo (ci := 3) (q0 := 0) rfl rfl)) rfl rfl hl.1 rfl (lv_room (Nat.le_of_ble_eq_true rfl)) dX4_expected_32 ⟨by rw [hR3]; omega, by rw [hR4]; omega⟩) ?_
        subst hQQ
        exact W.lret hx hb hr (fun t9 ht _ => ⟨⟨_, lkX x b, rfl, ⟨by rw [lkX_shA h0 (by omega), expO, hbk]; show _ = lE ((inL 0 9999 (nI h)).map _); rw [hh]; rfl, alX_lk h0⟩, hpT ht hP, hD⟩, hS.F ht⟩) hS.2.2 dX4_expected_35
    · cases hh : inL 0 9999 t with
      | none =>
        refine lv_ldc2 (v := (-1)) hx hb hown (hts _ w_ct_X4_97) dX4_expected_17 ?_
        subst hQQ
        exact W.lret hx hb hr (fun t9 ht _ => ⟨⟨_, x, rfl, ⟨by rw [expO, hbk]; show _ = lE ((inL 0 9999 t).map _); rw [hh]; rfl, alX_rf h0⟩, hpT ht hP, hD⟩, hS.F ht⟩) hS.2.2 dX4_expected_20
      | some h => exact absurd hhc (by rw [(inL_s (by decide) (by decide) hh).2.2.2]; decide)

set_option maxHeartbeats 4000000 in
set_option maxRecDepth 100000 in
theorem k_costOf (l : Launch) (g : GG) (x : FT) (hx9 : Xok x) (h0 : xS x 0 = 0) (k t : Int32) (sz : Nat) : Al l yX4_costOf wsX4_costOf 5 124 0 0 [.ref (xA x 0), .int (k), .int (t)] g (x) sz (fun r u => r = lE (cosO x k t) ∧ alX u x) := by
  refine Met.ofW (cc := cX4_costOf) (maxL := 4) (ret := (some .long)) (by decide) rfl ?_
  intro p e s m args below meth c s₁ BB hml hv
  obtain ⟨hargs, hsz, hP, hK, hD0⟩ := hv
  have hx := BB.exec
  have hb := BB.bytes
  have hr := BB.returns
  have hts : ∀ w ∈ BIG, w.before args s = true := fun w h => atoms_spec (ws := wsX4_costOf) BB.pre w (List.mem_cons_of_mem _ h)
  have hown : s.vm.findClass RX4 = some m.cls := findClass_of_methodNamed BB.named
  have hlocks := BB.notSynchronized
  obtain ⟨RR, hRR⟩ : ∃ RR, RR = (headSpec wsX4_costOf ⟨5, 0, 0, 124⟩).room := ⟨_, rfl⟩
  have hR1 : RR.frames = 5 := by rw [hRR]; rfl
  have hR2 : RR.locals = 124 := by rw [hRR]; rfl
  have hR3 : RR.cells = 0 := by rw [hRR]; rfl
  have hR4 : RR.slots = 0 := by rw [hRR]; rfl
  have hl := lv_entry ([.ref (xA x 0), .int (k), .int (t)]) (n := 4) (Nat.le_of_ble_eq_true rfl)
  have hent : entryFrame m args 4 = F0 m 0 ((lg_sl ([.ref (xA x 0), .int (k), .int (t)]) ++ List.replicate (4 - (lg_sl ([.ref (xA x 0), .int (k), .int (t)])).length) Slot.unset).toArray) [] := by rw [hargs, lg_entry_eq]
  rw [hent]
  generalize (lg_sl ([.ref (xA x 0), .int (k), .int (t)]) ++ List.replicate (4 - (lg_sl ([.ref (xA x 0), .int (k), .int (t)])).length) Slot.unset).toArray = ls at hl ⊢
  have hl : lv_has ls 4 [(0, .ref (xA x 0)), (1, .int (k)), (2, .int (t))] := hl
  subst hsz
  have hD := hD0.self (sz := s.heap.size)
  generalize hAe : va_A (wX g x) s.heap.size = A at hD ⊢
  have hA : ∀ q : Nat, s.heap.size ≤ q → A q := fun q h => by rw [← hAe]; exact Or.inr h
  have hS : va_S A s.heap s.heap [] := va_S.rf
  refine q_ab (R := RR) hRR ?_
  generalize hQQ : MQ below _ args s _ _ _ = QQ
  obtain ⟨h8, hB, hW, hq9, he9, hl9⟩ := id hx9
  refine lv_aload_n hx hb dX4_costOf_0 rfl (lv_at hl 0 rfl) ?_
  refine lv_iload_n hx hb dX4_costOf_1 rfl (lv_at hl 1 rfl) ?_
  cases hbk : binAt (xB x) k with
  | none =>
    refine cR_q (W.runV (As := [.int (k)]) (rest := []) ⟨hx, hb, hml, hown, hts⟩ (k_binOf_n l g x k h8 hbk) (cwV 1 hts (gV w_ml_X4_56 w_im_X4_binOf w_sel_X4_binOf w_ini_X4 w_co_X4_binOf) rfl rfl rfl (by decide +kernel) (by rw [hR1, hR2]; exact ⟨Nat.le_of_ble_eq_true rfl, Nat.le_of_ble_eq_true rfl⟩)) (preV_rd hP hK (va_recv hK.1 hP (ci := 4) (q0 := 0) rfl rfl)) rfl rfl hl.1 rfl (lv_room (Nat.le_of_ble_eq_true rfl)) dX4_costOf_2 ⟨by rw [hR3]; omega, by rw [hR4]; omega⟩) ?_
    refine W.eq (g2 := F0 m 5 ls [.null]) rfl ?_
    refine lv_astore_nN (lv' := [(3, .null), (0, .ref (xA x 0)), (1, .int (k)), (2, .int (t))]) hx hb dX4_costOf_5 rfl hl (by decide) rfl (fun ls hl => ?_)
    refine lv_aload_nN hx hb dX4_costOf_6 rfl (lv_at hl 0 rfl) ?_
    refine lv_ifnullN (tgt := 17) hx hb dX4_costOf_7 (by decide) ?_
    refine lv_ldc2 (v := (-1)) hx hb hown (hts _ w_ct_X4_97) dX4_costOf_17 ?_
    subst hQQ
    exact W.lret hx hb hr (fun t9 ht _ => ⟨⟨_, x, rfl, ⟨by rw [cosO, hbk]; rfl, alX_rf h0⟩, hpT ht hP, hD⟩, hS.F ht⟩) hS.2.2 dX4_costOf_20
  | some b =>
    have hbm : b ∈ xB x := by obtain ⟨j, -, -, hj, -⟩ := binAt_s h8 hbk; exact List.mem_of_getElem? hj
    have hBk := hB b hbm
    obtain ⟨⟨hbn, hbp, hbo, hba⟩, hbw, hbg, hbs, hbr, hc1, hc2, hc3, hbam⟩ := id hBk
    have hPb := wX_B hP hbm
    have hPm := va_P.app hPb (va_P.app (wX_C hP) (wX_F hP))
    have hpl2 : ∀ i, i < bN b → bPl b i < 2 ^ 31 := fun i hi => Nat.lt_trans (hbp i hi) (by decide)
    refine cR_q (W.runV (As := [.int (k)]) (rest := []) ⟨hx, hb, hml, hown, hts⟩ (k_binOf_s l g x k b h8 hbk) (cwV 1 hts (gV w_ml_X4_56 w_im_X4_binOf w_sel_X4_binOf w_ini_X4 w_co_X4_binOf) rfl rfl rfl (by decide +kernel) (by rw [hR1, hR2]; exact ⟨Nat.le_of_ble_eq_true rfl, Nat.le_of_ble_eq_true rfl⟩)) (preV_rd hP hK (va_recv hK.1 hP (ci := 4) (q0 := 0) rfl rfl)) rfl rfl hl.1 rfl (lv_room (Nat.le_of_ble_eq_true rfl)) dX4_costOf_2 ⟨by rw [hR3]; omega, by rw [hR4]; omega⟩) ?_
    refine W.eq (g2 := F0 m 5 ls [.ref (bA b 0)]) rfl ?_
    refine lv_astore_n (lv' := [(3, .ref (bA b 0)), (0, .ref (xA x 0)), (1, .int (k)), (2, .int (t))]) hx hb dX4_costOf_5 rfl hl (by decide) rfl (fun ls hl => ?_)
    refine lv_aload_n hx hb dX4_costOf_6 rfl (lv_at hl 0 rfl) ?_
    refine lv_ifnull hx hb dX4_costOf_7 ?_
    refine lv_iload_n hx hb dX4_costOf_10 rfl (lv_at hl 3 rfl) ?_
    refine cR_i (W.runS (As := [.int (t)]) (rest := []) ⟨hx, hb, hml, hown, hts⟩ (k_isDay l g t) (va_cwS 1 hts (gS w_ml_X4_75 w_sm_X4_isDay w_ini_X4 w_co_X4_isDay) rfl rfl rfl (by decide +kernel) (by rw [hR1, hR2]; exact ⟨Nat.le_of_ble_eq_true rfl, Nat.le_of_ble_eq_true rfl⟩)) (preS_rd va_P.nil hK) rfl rfl hl.1 rfl (lv_room (Nat.le_of_ble_eq_true rfl)) dX4_costOf_11 ⟨by rw [hR3]; omega, by rw [hR4]; omega⟩) ?_
    refine bb_ne (tgt := 21) hx hb dX4_costOf_14 (by decide) (fun hhc => ?_) (fun hhc => ?_)
    · cases hh : inL 0 416 t with
      | none => exact absurd hhc (by rw [inL_n hh]; decide)
      | some d =>
        obtain ⟨hhl, hhn, hhe, -⟩ := inL_s (by decide) (by decide) hh
        subst hhe
        refine lv_aload_n hx hb dX4_costOf_21 rfl (lv_at hl 1 rfl) ?_
        refine lv_aload_n hx hb dX4_costOf_22 rfl (lv_at hl 0 rfl) ?_
        refine cW0_v (wc := wX g x) (w1 := wX g (lkX x b)) (va_runV (As := [.ref (bA b 0)]) (rest := []) ⟨hx, hb, hml, hown, hts⟩ (k_lookAhead l g x b hx9 hbm _) (cwV 1 hts (gV w_ml_X4_99 w_im_X4_lookAhead w_sel_X4_lookAhead w_ini_X4 w_co_X4_lookAhead) rfl rfl rfl (by decide +kernel) (by rw [hR1, hR2]; exact ⟨Nat.le_of_ble_eq_true rfl, Nat.le_of_ble_eq_true rfl⟩)) (preV_wr hP hK hD (va_recv hK.1 hP (ci := 4) (q0 := 0) rfl rfl)) rfl rfl hl.1 rfl (lv_room (Nat.le_of_ble_eq_true rfl)) dX4_costOf_23 ⟨by rw [hR3]; omega, by rw [hR4]; omega⟩) hP hD hS hA rfl (fun H locs hP hD hS => ?_)
        obtain ⟨hs, hm⟩ := lkX_le hx9 hbm h0
        have hPo := va_P.app (wX_O hP) (wX_B (x := lkX x b) hP hbm)
        refine lv_aload_n hx hb dX4_costOf_26 rfl (lv_at hl 1 rfl) ?_
        refine lv_aload_n hx hb dX4_costOf_27 rfl (lv_at hl 0 rfl) ?_
        refine lv_iload_n hx hb dX4_costOf_28 rfl (lv_at hl 3 rfl) ?_
        refine cR_l (W.runV (As := [.ref (bA b 0), .int (nI (d))]) (rest := []) ⟨hx, hb, hml, hown, hts⟩ (k_centsOn l g (lkX x b) b hx9 hbm hs hm d (by omega)) (cwV 2 hts (gV w_ml_X4_116 w_im_X4_centsOn w_sel_X4_centsOn w_ini_X4 w_co_X4_centsOn) rfl rfl rfl (by decide +kernel) (by rw [hR1, hR2]; exact ⟨Nat.le_of_ble_eq_true rfl, Nat.le_of_ble_eq_true rfl⟩)) (preV_rd hP hK (va_recv hK.1 hP (ci := 4) (q0 := 0) rfl rfl)) rfl rfl hl.1 rfl (lv_room (Nat.le_of_ble_eq_true rfl)) dX4_costOf_29 ⟨by rw [hR3]; omega, by rw [hR4]; omega⟩) ?_
        subst hQQ
        exact W.lret hx hb hr (fun t9 ht _ => ⟨⟨_, lkX x b, rfl, ⟨by rw [ctN_eq h0 (by omega), cosO, hbk]; show _ = lE ((inL 0 416 (nI d)).map _); rw [hh]; rfl, alX_lk h0⟩, hpT ht hP, hD⟩, hS.F ht⟩) hS.2.2 dX4_costOf_32
    · cases hh : inL 0 416 t with
      | none =>
        refine lv_ldc2 (v := (-1)) hx hb hown (hts _ w_ct_X4_97) dX4_costOf_17 ?_
        subst hQQ
        exact W.lret hx hb hr (fun t9 ht _ => ⟨⟨_, x, rfl, ⟨by rw [cosO, hbk]; show _ = lE ((inL 0 416 t).map _); rw [hh]; rfl, alX_rf h0⟩, hpT ht hP, hD⟩, hS.F ht⟩) hS.2.2 dX4_costOf_20
      | some d => exact absurd hhc (by rw [(inL_s (by decide) (by decide) hh).2.2.2]; decide)
end
section
set_option maxHeartbeats 4000000 in
set_option maxRecDepth 100000 in
theorem k_day (l : Launch) (g : GG) (x : FT) (hx9 : Xok x) (h0 : xS x 0 = 0) (k t d : Int32) (sz : Nat) : Ai l yX4_day wsX4_day 5 124 0 0 [.ref (xA x 0), .int (k), .int (t), .int (d)] g (x) sz (fun r u => r = gI (dayO x k t d) ∧ alX u x) := by
  refine Met.ofW (cc := cX4_day) (maxL := 11) (ret := (some .int)) (by decide) rfl ?_
  intro p e s m args below meth c s₁ BB hml hv
  obtain ⟨hargs, hsz, hP, hK, hD0⟩ := hv
  have hx := BB.exec
  have hb := BB.bytes
  have hr := BB.returns
  have hts : ∀ w ∈ BIG, w.before args s = true := fun w h => atoms_spec (ws := wsX4_day) BB.pre w (List.mem_cons_of_mem _ h)
  have hown : s.vm.findClass RX4 = some m.cls := findClass_of_methodNamed BB.named
  have hlocks := BB.notSynchronized
  obtain ⟨RR, hRR⟩ : ∃ RR, RR = (headSpec wsX4_day ⟨5, 0, 0, 124⟩).room := ⟨_, rfl⟩
  have hR1 : RR.frames = 5 := by rw [hRR]; rfl
  have hR2 : RR.locals = 124 := by rw [hRR]; rfl
  have hR3 : RR.cells = 0 := by rw [hRR]; rfl
  have hR4 : RR.slots = 0 := by rw [hRR]; rfl
  have hl := lv_entry ([.ref (xA x 0), .int (k), .int (t), .int (d)]) (n := 11) (Nat.le_of_ble_eq_true rfl)
  have hent : entryFrame m args 11 = F0 m 0 ((lg_sl ([.ref (xA x 0), .int (k), .int (t), .int (d)]) ++ List.replicate (11 - (lg_sl ([.ref (xA x 0), .int (k), .int (t), .int (d)])).length) Slot.unset).toArray) [] := by rw [hargs, lg_entry_eq]
  rw [hent]
  generalize (lg_sl ([.ref (xA x 0), .int (k), .int (t), .int (d)]) ++ List.replicate (11 - (lg_sl ([.ref (xA x 0), .int (k), .int (t), .int (d)])).length) Slot.unset).toArray = ls at hl ⊢
  have hl : lv_has ls 11 [(0, .ref (xA x 0)), (1, .int (k)), (2, .int (t)), (3, .int (d))] := hl
  subst hsz
  have hD := hD0.self (sz := s.heap.size)
  generalize hAe : va_A (wX g x) s.heap.size = A at hD ⊢
  have hA : ∀ q : Nat, s.heap.size ≤ q → A q := fun q h => by rw [← hAe]; exact Or.inr h
  have hS : va_S A s.heap s.heap [] := va_S.rf
  refine q_ab (R := RR) hRR ?_
  generalize hQQ : MQ below _ args s _ _ _ = QQ
  obtain ⟨h8, hB, hW, hq9, he9, hl9⟩ := id hx9
  refine lv_aload_n hx hb dX4_day_0 rfl (lv_at hl 0 rfl) ?_
  refine lv_iload_n hx hb dX4_day_1 rfl (lv_at hl 1 rfl) ?_
  cases hbk : binAt (xB x) k with
  | none =>
    refine cR_q (W.runV (As := [.int (k)]) (rest := []) ⟨hx, hb, hml, hown, hts⟩ (k_binOf_n l g x k h8 hbk) (cwV 1 hts (gV w_ml_X4_56 w_im_X4_binOf w_sel_X4_binOf w_ini_X4 w_co_X4_binOf) rfl rfl rfl (by decide +kernel) (by rw [hR1, hR2]; exact ⟨Nat.le_of_ble_eq_true rfl, Nat.le_of_ble_eq_true rfl⟩)) (preV_rd hP hK (va_recv hK.1 hP (ci := 4) (q0 := 0) rfl rfl)) rfl rfl hl.1 rfl (lv_room (Nat.le_of_ble_eq_true rfl)) dX4_day_2 ⟨by rw [hR3]; omega, by rw [hR4]; omega⟩) ?_
    refine W.eq (g2 := F0 m 5 ls [.null]) rfl ?_
    refine lv_astoreN (lv' := [(4, .null), (0, .ref (xA x 0)), (1, .int (k)), (2, .int (t)), (3, .int (d))]) hx hb dX4_day_5 hl (by decide) rfl (fun ls hl => ?_)
    refine lv_aloadN hx hb dX4_day_7 (lv_at hl 0 rfl) ?_
    refine lv_ifnullN (tgt := 31) hx hb dX4_day_9 (by decide) ?_
    refine lv_iconst (v := (-1)) hx hb dX4_day_31 (by decide) ?_
    subst hQQ
    exact W.iret hx hb hr (fun t9 ht _ => ⟨⟨_, x, rfl, ⟨by rw [dayO, hbk]; rfl, alX_rf h0⟩, hpT ht hP, hD⟩, hS.F ht⟩) hS.2.2 dX4_day_32
  | some b =>
    have hbm : b ∈ xB x := by obtain ⟨j, -, -, hj, -⟩ := binAt_s h8 hbk; exact List.mem_of_getElem? hj
    have hBk := hB b hbm
    obtain ⟨⟨hbn, hbp, hbo, hba⟩, hbw, hbg, hbs, hbr, hc1, hc2, hc3, hbam⟩ := id hBk
    have hPb := wX_B hP hbm
    have hPm := va_P.app hPb (va_P.app (wX_C hP) (wX_F hP))
    have hpl2 : ∀ i, i < bN b → bPl b i < 2 ^ 31 := fun i hi => Nat.lt_trans (hbp i hi) (by decide)
    refine cR_q (W.runV (As := [.int (k)]) (rest := []) ⟨hx, hb, hml, hown, hts⟩ (k_binOf_s l g x k b h8 hbk) (cwV 1 hts (gV w_ml_X4_56 w_im_X4_binOf w_sel_X4_binOf w_ini_X4 w_co_X4_binOf) rfl rfl rfl (by decide +kernel) (by rw [hR1, hR2]; exact ⟨Nat.le_of_ble_eq_true rfl, Nat.le_of_ble_eq_true rfl⟩)) (preV_rd hP hK (va_recv hK.1 hP (ci := 4) (q0 := 0) rfl rfl)) rfl rfl hl.1 rfl (lv_room (Nat.le_of_ble_eq_true rfl)) dX4_day_2 ⟨by rw [hR3]; omega, by rw [hR4]; omega⟩) ?_
    refine W.eq (g2 := F0 m 5 ls [.ref (bA b 0)]) rfl ?_
    refine lv_astore (lv' := [(4, .ref (bA b 0)), (0, .ref (xA x 0)), (1, .int (k)), (2, .int (t)), (3, .int (d))]) hx hb dX4_day_5 hl (by decide) rfl (fun ls hl => ?_)
    refine lv_aload hx hb dX4_day_7 (lv_at hl 0 rfl) ?_
    refine lv_ifnull hx hb dX4_day_9 ?_
    refine lv_iload_n hx hb dX4_day_12 rfl (lv_at hl 3 rfl) ?_
    refine cR_i (W.runS (As := [.int (t)]) (rest := []) ⟨hx, hb, hml, hown, hts⟩ (k_isDay l g t) (va_cwS 1 hts (gS w_ml_X4_75 w_sm_X4_isDay w_ini_X4 w_co_X4_isDay) rfl rfl rfl (by decide +kernel) (by rw [hR1, hR2]; exact ⟨Nat.le_of_ble_eq_true rfl, Nat.le_of_ble_eq_true rfl⟩)) (preS_rd va_P.nil hK) rfl rfl hl.1 rfl (lv_room (Nat.le_of_ble_eq_true rfl)) dX4_day_13 ⟨by rw [hR3]; omega, by rw [hR4]; omega⟩) ?_
    refine bb_eq (tgt := 31) hx hb dX4_day_16 (by decide) (fun hhc => ?_) (fun hhc => ?_)
    · cases hh : inL 0 416 t with
      | none =>
        refine lv_iconst (v := (-1)) hx hb dX4_day_31 (by decide) ?_
        subst hQQ
        exact W.iret hx hb hr (fun t9 ht _ => ⟨⟨_, x, rfl, ⟨by rw [dayO, hbk]; show _ = gI ((inL 0 416 t).bind _); rw [hh]; rfl, alX_rf h0⟩, hpT ht hP, hD⟩, hS.F ht⟩) hS.2.2 dX4_day_32
      | some i => exact absurd hhc (by rw [(inL_s (by decide) (by decide) hh).2.2.2]; decide)
    · cases hh : inL 0 416 t with
      | none => exact absurd hhc (by rw [inL_n hh]; decide)
      | some i =>
        obtain ⟨hhl, hhn, hhe, -⟩ := inL_s (by decide) (by decide) hh
        subst hhe
        refine lv_iload_n hx hb dX4_day_19 rfl (lv_at hl 4 rfl) ?_
        refine cR_i (W.runS (As := [.int (d)]) (rest := []) ⟨hx, hb, hml, hown, hts⟩ (k_isDay l g d) (va_cwS 1 hts (gS w_ml_X4_75 w_sm_X4_isDay w_ini_X4 w_co_X4_isDay) rfl rfl rfl (by decide +kernel) (by rw [hR1, hR2]; exact ⟨Nat.le_of_ble_eq_true rfl, Nat.le_of_ble_eq_true rfl⟩)) (preS_rd va_P.nil hK) rfl rfl hl.1 rfl (lv_room (Nat.le_of_ble_eq_true rfl)) dX4_day_20 ⟨by rw [hR3]; omega, by rw [hR4]; omega⟩) ?_
        refine bb_eq (tgt := 31) hx hb dX4_day_23 (by decide) (fun hic => ?_) (fun hic => ?_)
        · cases hi : inL 0 416 d with
          | none =>
            refine lv_iconst (v := (-1)) hx hb dX4_day_31 (by decide) ?_
            subst hQQ
            exact W.iret hx hb hr (fun t9 ht _ => ⟨⟨_, x, rfl, ⟨by rw [dayO, hbk]; show _ = gI ((inL 0 416 (nI i)).bind _); rw [hh]; show _ = gI ((inL 0 416 d).bind _); rw [hi]; rfl, alX_rf h0⟩, hpT ht hP, hD⟩, hS.F ht⟩) hS.2.2 dX4_day_32
          | some j => exact absurd hic (by rw [(inL_s (by decide) (by decide) hi).2.2.2]; decide)
        · cases hi : inL 0 416 d with
          | none => exact absurd hic (by rw [inL_n hi]; decide)
          | some j =>
            obtain ⟨hil, hin, hie, -⟩ := inL_s (by decide) (by decide) hi
            subst hie
            refine lv_iload_n hx hb dX4_day_26 rfl (lv_at hl 3 rfl) ?_
            refine lv_iload_n hx hb dX4_day_27 rfl (lv_at hl 4 rfl) ?_
            refine bn_le (tgt := 33) hx hb (by omega) (by omega) dX4_day_28 (by decide) (fun c5 => ?_) (fun c5 => ?_)
            · refine lv_aload_n hx hb dX4_day_33 rfl (lv_at hl 1 rfl) ?_
              refine lv_aload hx hb dX4_day_34 (lv_at hl 0 rfl) ?_
              refine cW0_v (wc := wX g x) (w1 := wX g (lkX x b)) (va_runV (As := [.ref (bA b 0)]) (rest := []) ⟨hx, hb, hml, hown, hts⟩ (k_lookAhead l g x b hx9 hbm _) (cwV 1 hts (gV w_ml_X4_99 w_im_X4_lookAhead w_sel_X4_lookAhead w_ini_X4 w_co_X4_lookAhead) rfl rfl rfl (by decide +kernel) (by rw [hR1, hR2]; exact ⟨Nat.le_of_ble_eq_true rfl, Nat.le_of_ble_eq_true rfl⟩)) (preV_wr hP hK hD (va_recv hK.1 hP (ci := 4) (q0 := 0) rfl rfl)) rfl rfl hl.1 rfl (lv_room (Nat.le_of_ble_eq_true rfl)) dX4_day_36 ⟨by rw [hR3]; omega, by rw [hR4]; omega⟩) hP hD hS hA rfl (fun H locs hP hD hS => ?_)
              obtain ⟨hs, hm⟩ := lkX_le hx9 hbm h0
              have hPo := va_P.app (wX_O hP) (wX_B (x := lkX x b) hP hbm)
              refine lv_iload_n hx hb dX4_day_39 rfl (lv_at hl 3 rfl) ?_
              refine lv_istore (lv' := [(5, .int (nI (i))), (4, .ref (bA b 0)), (0, .ref (xA x 0)), (1, .int (k)), (2, .int (nI (i))), (3, .int (nI (j)))]) hx hb dX4_day_40 hl (by decide) rfl (fun ls hl => ?_)
              refine lv_aload_n hx hb dX4_day_42 rfl (lv_at hl 2 rfl) ?_
              refine lv_aload hx hb dX4_day_43 (lv_at hl 1 rfl) ?_
              refine lv_iload_n hx hb dX4_day_45 rfl (lv_at hl 4 rfl) ?_
              refine cR_l (W.runV (As := [.ref (bA b 0), .int (nI (i))]) (rest := []) ⟨hx, hb, hml, hown, hts⟩ (k_centsOn l g (lkX x b) b hx9 hbm hs hm i (by omega)) (cwV 2 hts (gV w_ml_X4_116 w_im_X4_centsOn w_sel_X4_centsOn w_ini_X4 w_co_X4_centsOn) rfl rfl rfl (by decide +kernel) (by rw [hR1, hR2]; exact ⟨Nat.le_of_ble_eq_true rfl, Nat.le_of_ble_eq_true rfl⟩)) (preV_rd hP hK (va_recv hK.1 hP (ci := 4) (q0 := 0) rfl rfl)) rfl rfl hl.1 rfl (lv_room (Nat.le_of_ble_eq_true rfl)) dX4_day_46 ⟨by rw [hR3]; omega, by rw [hR4]; omega⟩) ?_
              refine tp_l (y := lN (ctN x b i)) (by rw [ctN_eq h0 (by omega)]) ?_
              have hct : ∀ d, d < 417 → ctN x b d < 2 ^ 60 := fun d hd => ctN_lt hx9 hbm h0 hd
              refine lv_lstore (lv' := [(6, .long (lN (ctN x b i))), (5, .int (nI (i))), (4, .ref (bA b 0)), (0, .ref (xA x 0)), (1, .int (k)), (2, .int (nI (i))), (3, .int (nI (j)))]) hx hb dX4_day_49 hl (by decide) rfl (fun ls hl => ?_)
              refine lv_iload_n hx hb dX4_day_51 rfl (lv_at hl 5 rfl) ?_
              refine lv_iconst (v := nI (1)) hx hb dX4_day_52 (by decide) ?_
              refine n_iadd hx hb dX4_day_53 ?_
              refine lv_istore (lv' := [(8, .int (nI (i + 1))), (6, .long (lN (ctN x b i))), (5, .int (nI (i))), (4, .ref (bA b 0)), (0, .ref (xA x 0)), (1, .int (k)), (2, .int (nI (i))), (3, .int (nI (j)))]) hx hb dX4_day_54 hl (by decide) rfl (fun ls hl => ?_)
              have loop : ∀ (k9 : Nat) (n : Nat) (ls : Array Slot), (n ≤ j - i) → (j - i < n + k9) → lv_has ls 11 [(0, .ref (xA x 0)), (2, .int (nI (i))), (3, .int (nI (j))), (4, .ref (bA b 0)), (5, .int (nI (bestD (ctN x b) i n))), (6, .long (lN (ctN x b (bestD (ctN x b) i n)))), (8, .int (nI (i + 1 + n)))] → W p l e RR s m args below meth c H locs 0 0 QQ (F0 m 56 ls []) := by
                intro k9
                induction k9 with
                | zero => intro n ls hn hk hl; exact absurd hk (by omega)
                | succ k9 ih =>
                  intro n ls hn hk hl
                  have hbd := bestD_in (f := ctN x b) (a := i) n
                  have hcb := hct (bestD (ctN x b) i n) (by omega)
                  refine lv_iload hx hb dX4_day_56 (lv_at hl 6 rfl) ?_
                  refine lv_iload_n hx hb dX4_day_58 rfl (lv_at hl 2 rfl) ?_
                  refine bn_gt (tgt := 94) hx hb (by omega) (by omega) dX4_day_59 (by decide) (fun c6 => ?_) (fun c6 => ?_)
                  · refine lv_iload hx hb dX4_day_94 (lv_at hl 4 rfl) ?_
                    subst hQQ
                    exact W.iret hx hb hr (fun t9 ht _ => ⟨⟨_, lkX x b, rfl, ⟨by rw [dayO, hbk]; show _ = gI ((inL 0 416 (nI i)).bind _); rw [hh]; show _ = gI ((inL 0 416 (nI j)).bind _); rw [hi]; show _ = gI (ite _ _ _); rw [if_pos c5, show j - i = n by omega]; rfl, alX_lk h0⟩, hpT ht hP, hD⟩, hS.F ht⟩) hS.2.2 dX4_day_96
                  · refine lv_aload_n hx hb dX4_day_62 rfl (lv_at hl 0 rfl) ?_
                    refine lv_aload hx hb dX4_day_63 (lv_at hl 3 rfl) ?_
                    refine lv_iload hx hb dX4_day_65 (lv_at hl 6 rfl) ?_
                    refine cR_l (W.runV (As := [.ref (bA b 0), .int (nI (i + 1 + n))]) (rest := []) ⟨hx, hb, hml, hown, hts⟩ (k_centsOn l g (lkX x b) b hx9 hbm hs hm (i + 1 + n) (by omega)) (cwV 2 hts (gV w_ml_X4_116 w_im_X4_centsOn w_sel_X4_centsOn w_ini_X4 w_co_X4_centsOn) rfl rfl rfl (by decide +kernel) (by rw [hR1, hR2]; exact ⟨Nat.le_of_ble_eq_true rfl, Nat.le_of_ble_eq_true rfl⟩)) (preV_rd hP hK (va_recv hK.1 hP (ci := 4) (q0 := 0) rfl rfl)) rfl rfl hl.1 rfl (lv_room (Nat.le_of_ble_eq_true rfl)) dX4_day_67 ⟨by rw [hR3]; omega, by rw [hR4]; omega⟩) ?_
                    refine tp_l (y := lN (ctN x b (i + 1 + n))) (by rw [ctN_eq h0 (by omega)]) ?_
                    have hcn := hct (i + 1 + n) (by omega)
                    refine lv_lstore (lv' := [(9, .long (lN (ctN x b (i + 1 + n)))), (0, .ref (xA x 0)), (2, .int (nI (i))), (3, .int (nI (j))), (4, .ref (bA b 0)), (5, .int (nI (bestD (ctN x b) i n))), (6, .long (lN (ctN x b (bestD (ctN x b) i n)))), (8, .int (nI (i + 1 + n)))]) hx hb dX4_day_70 hl (by decide) rfl (fun ls hl => ?_)
                    refine lv_lload hx hb dX4_day_72 (lv_at hl 0 rfl) ?_
                    refine lv_lload hx hb dX4_day_74 (lv_at hl 6 rfl) ?_
                    refine W.lcmp hx hb dX4_day_76 ?_
                    refine bl_ge (tgt := 88) hx hb (by omega) (by omega) dX4_day_77 (by decide) (fun c7 => ?_) (fun c7 => ?_)
                    · refine lv_iinc (v := nI (i + 1 + n + 1)) (lv' := [(8, .int (nI (i + 1 + n + 1))), (9, .long (lN (ctN x b (i + 1 + n)))), (0, .ref (xA x 0)), (2, .int (nI (i))), (3, .int (nI (j))), (4, .ref (bA b 0)), (5, .int (nI (bestD (ctN x b) i n))), (6, .long (lN (ctN x b (bestD (ctN x b) i n))))]) hx hb dX4_day_88 hl (k := 7) rfl (nI_1 _) (by decide) rfl (fun ls hl => ?_)
                      refine lv_goto (tgt := 56) hx hb dX4_day_91 (by decide) ?_
                      exact ih (n + 1) ls (by omega) (by omega) (by rw [bestD, if_neg (by omega)]; exact lv_sub hl [2, 3, 4, 5, 6, 7, 0] rfl)
                    · refine lv_iload hx hb dX4_day_80 (lv_at hl 7 rfl) ?_
                      refine lv_istore (lv' := [(5, .int (nI (i + 1 + n))), (9, .long (lN (ctN x b (i + 1 + n)))), (0, .ref (xA x 0)), (2, .int (nI (i))), (3, .int (nI (j))), (4, .ref (bA b 0)), (6, .long (lN (ctN x b (bestD (ctN x b) i n)))), (8, .int (nI (i + 1 + n)))]) hx hb dX4_day_82 hl (by decide) rfl (fun ls hl => ?_)
                      refine lv_lload hx hb dX4_day_84 (lv_at hl 1 rfl) ?_
                      refine lv_lstore (lv' := [(6, .long (lN (ctN x b (i + 1 + n)))), (5, .int (nI (i + 1 + n))), (9, .long (lN (ctN x b (i + 1 + n)))), (0, .ref (xA x 0)), (2, .int (nI (i))), (3, .int (nI (j))), (4, .ref (bA b 0)), (8, .int (nI (i + 1 + n)))]) hx hb dX4_day_86 hl (by decide) rfl (fun ls hl => ?_)
                      refine lv_iinc (v := nI (i + 1 + n + 1)) (lv' := [(8, .int (nI (i + 1 + n + 1))), (6, .long (lN (ctN x b (i + 1 + n)))), (5, .int (nI (i + 1 + n))), (9, .long (lN (ctN x b (i + 1 + n)))), (0, .ref (xA x 0)), (2, .int (nI (i))), (3, .int (nI (j))), (4, .ref (bA b 0))]) hx hb dX4_day_88 hl (k := 7) rfl (nI_1 _) (by decide) rfl (fun ls hl => ?_)
                      refine lv_goto (tgt := 56) hx hb dX4_day_91 (by decide) ?_
                      exact ih (n + 1) ls (by omega) (by omega) (by rw [bestD, if_pos c7]; exact lv_sub hl [4, 5, 6, 7, 2, 1, 0] rfl)
              exact loop (j - i + 1) 0 ls (Nat.zero_le _) (by omega) (lv_sub hl [4, 6, 7, 3, 2, 1, 0] rfl)
            · refine lv_iconst (v := (-1)) hx hb dX4_day_31 (by decide) ?_
              subst hQQ
              exact W.iret hx hb hr (fun t9 ht _ => ⟨⟨_, x, rfl, ⟨by rw [dayO, hbk]; show _ = gI ((inL 0 416 (nI i)).bind _); rw [hh]; show _ = gI ((inL 0 416 (nI j)).bind _); rw [hi]; show _ = gI (ite _ _ _); rw [if_neg (by omega)]; rfl, alX_rf h0⟩, hpT ht hP, hD⟩, hS.F ht⟩) hS.2.2 dX4_day_32
end
section
set_option maxHeartbeats 4000000 in
set_option maxRecDepth 100000 in
theorem k_over (l : Launch) (g : GG) (x : FT) (hx9 : Xok x) (h0 : xS x 0 = 0) (t k : Int32) (sz : Nat) : Ai l yX4_over wsX4_over 5 124 0 0 [.ref (xA x 0), .int (t), .int (k)] g (x) sz (fun r u => r = gI (ovO x t k) ∧ alX u x) := by
  refine Met.ofW (cc := cX4_over) (maxL := 5) (ret := (some .int)) (by decide) rfl ?_
  intro p e s m args below meth c s₁ BB hml hv
  obtain ⟨hargs, hsz, hP, hK, hD0⟩ := hv
  have hx := BB.exec
  have hb := BB.bytes
  have hr := BB.returns
  have hts : ∀ w ∈ BIG, w.before args s = true := fun w h => atoms_spec (ws := wsX4_over) BB.pre w (List.mem_cons_of_mem _ h)
  have hown : s.vm.findClass RX4 = some m.cls := findClass_of_methodNamed BB.named
  have hlocks := BB.notSynchronized
  obtain ⟨RR, hRR⟩ : ∃ RR, RR = (headSpec wsX4_over ⟨5, 0, 0, 124⟩).room := ⟨_, rfl⟩
  have hR1 : RR.frames = 5 := by rw [hRR]; rfl
  have hR2 : RR.locals = 124 := by rw [hRR]; rfl
  have hR3 : RR.cells = 0 := by rw [hRR]; rfl
  have hR4 : RR.slots = 0 := by rw [hRR]; rfl
  have hl := lv_entry ([.ref (xA x 0), .int (t), .int (k)]) (n := 5) (Nat.le_of_ble_eq_true rfl)
  have hent : entryFrame m args 5 = F0 m 0 ((lg_sl ([.ref (xA x 0), .int (t), .int (k)]) ++ List.replicate (5 - (lg_sl ([.ref (xA x 0), .int (t), .int (k)])).length) Slot.unset).toArray) [] := by rw [hargs, lg_entry_eq]
  rw [hent]
  generalize (lg_sl ([.ref (xA x 0), .int (t), .int (k)]) ++ List.replicate (5 - (lg_sl ([.ref (xA x 0), .int (t), .int (k)])).length) Slot.unset).toArray = ls at hl ⊢
  have hl : lv_has ls 5 [(0, .ref (xA x 0)), (1, .int (t)), (2, .int (k))] := hl
  subst hsz
  have hD := hD0.self (sz := s.heap.size)
  generalize hAe : va_A (wX g x) s.heap.size = A at hD ⊢
  have hA : ∀ q : Nat, s.heap.size ≤ q → A q := fun q h => by rw [← hAe]; exact Or.inr h
  have hS : va_S A s.heap s.heap [] := va_S.rf
  refine q_ab (R := RR) hRR ?_
  generalize hQQ : MQ below _ args s _ _ _ = QQ
  obtain ⟨h8, hB, hW, hq9, he9, hl9⟩ := id hx9
  refine lv_iload_n hx hb dX4_over_0 rfl (lv_at hl 1 rfl) ?_
  refine cR_i (W.runS (As := [.int (t)]) (rest := []) ⟨hx, hb, hml, hown, hts⟩ (k_isHour l g t) (va_cwS 1 hts (gS w_ml_X4_60 w_sm_X4_isHour w_ini_X4 w_co_X4_isHour) rfl rfl rfl (by decide +kernel) (by rw [hR1, hR2]; exact ⟨Nat.le_of_ble_eq_true rfl, Nat.le_of_ble_eq_true rfl⟩)) (preS_rd va_P.nil hK) rfl rfl hl.1 rfl (lv_room (Nat.le_of_ble_eq_true rfl)) dX4_over_1 ⟨by rw [hR3]; omega, by rw [hR4]; omega⟩) ?_
  refine bb_ne (tgt := 9) hx hb dX4_over_4 (by decide) (fun hhc => ?_) (fun hhc => ?_)
  · cases hh : inL 0 9999 t with
    | none => exact absurd hhc (by rw [inL_n hh]; decide)
    | some h =>
      obtain ⟨hhl, hhn, hhe, -⟩ := inL_s (by decide) (by decide) hh
      subst hhe
      refine lv_iconst (v := nI (0)) hx hb dX4_over_9 (by decide) ?_
      refine lv_istore_n (lv' := [(3, .int (nI (0))), (0, .ref (xA x 0)), (1, .int (nI (h))), (2, .int (k))]) hx hb dX4_over_10 rfl hl (by decide) rfl (fun ls hl => ?_)
      refine lv_iconst (v := nI (0)) hx hb dX4_over_11 (by decide) ?_
      refine lv_istore (lv' := [(4, .int (nI (0))), (3, .int (nI (0))), (0, .ref (xA x 0)), (1, .int (nI (h))), (2, .int (k))]) hx hb dX4_over_12 hl (by decide) rfl (fun ls hl => ?_)
      have loop : ∀ (k9 : Nat) (j : Nat) (f : Nat) (ra : Nat → Nat) (va : Nat → Nat) (H : Heap) (locs : List Loc) (ls : Array Slot), (j ≤ (xB x).length) → (f ≤ j) → ((xB x).length < j + k9) → (va 0 = 0) → (kth (ovP x h) k ((xB x).length - j) j f = kth (ovP x h) k (xB x).length 0 0) → va_P g.1 vwCl (wX g (xsRS x ra va)) H → va_D A (wX g (xsRS x ra va)) → va_S A s.heap H locs → lv_has ls 5 [(0, .ref (xA x 0)), (1, .int (nI (h))), (2, .int (k)), (3, .int (nI (f))), (4, .int (nI (j)))] → W p l e RR s m args below meth c H locs 0 0 QQ (F0 m 14 ls []) := by
        intro k9
        induction k9 with
        | zero => intro j f ra va H locs ls hj hf hk hva he hP hD hS hl; exact absurd hk (by omega)
        | succ k9 ih =>
          intro j f ra va H locs ls hj hf hk hva he hP hD hS hl
          refine lv_iload hx hb dX4_over_14 (lv_at hl 4 rfl) ?_
          refine lv_aload_n hx hb dX4_over_16 rfl (lv_at hl 0 rfl) ?_
          refine va_get (D := g.1) (ci := 4) (v := .int (nI ((xB x).length))) (C := RX4) (T := TX4) (N := 8) hx hb hts hiX4 hown hK.1 hP 0 rfl rfl 4 (by decide) (hts _ w_fl_X4_36) (fun _ h9 => h9) rfl dX4_over_17 ?_
          refine bn_ge (tgt := 73) hx hb (by omega) (by omega) dX4_over_20 (by decide) (fun c1 => ?_) (fun c1 => ?_)
          · refine lv_iconst (v := (-1)) hx hb dX4_over_73 (by decide) ?_
            subst hQQ
            exact W.iret hx hb hr (fun t9 ht _ => ⟨⟨_, (xsRS x ra va), rfl, ⟨by rw [ovO, hh]; show _ = gI (kth (ovP x h) k (xB x).length 0 0); rw [← he, show (xB x).length - j = 0 by omega]; rfl, ⟨ra, va, rfl, hva⟩⟩, hpT ht hP, hD⟩, hS.F ht⟩) hS.2.2 dX4_over_74
          · rw [show (xB x).length - j = ((xB x).length - (j + 1)) + 1 by omega, kth] at he
            obtain ⟨b, hb2⟩ : ∃ b, (xB x)[j]? = some b := ⟨_, List.getElem?_eq_getElem c1⟩
            have hgd : (xB x).getD j bin0 = b := by rw [List.getD_eq_getElem?_getD, hb2]; rfl
            have hov : ovP x h j = decide (1000 ≤ shA b (rsum x b) h) := by unfold ovP; rw [hgd]
            rw [hov] at he
            have hbm := List.mem_of_getElem? hb2
            have hBk := hB b hbm
            obtain ⟨⟨hbn, hbp, -, hba⟩, -⟩ := id hBk
            have hrf : bRef (xB x) j = some (bA b 0) := by unfold bRef; rw [hb2]; rfl
            refine lv_aload_n hx hb dX4_over_23 rfl (lv_at hl 0 rfl) ?_
            refine lv_aload_n hx hb dX4_over_24 rfl (lv_at hl 0 rfl) ?_
            refine va_get (D := g.1) (ci := 4) (v := .ref (xA x 1)) (C := RX4) (T := TX4) (N := 8) hx hb hts hiX4 hown hK.1 hP 0 rfl rfl 3 (by decide) (hts _ w_fl_X4_32) (fun _ h9 => h9) rfl dX4_over_25 ?_
            refine lv_iload hx hb dX4_over_28 (lv_at hl 4 rfl) ?_
            refine n_aldr (k := j) (r := bA b 0) hx hb hK.1 hP 1 2 rfl rfl (by omega) (by decide) (hrf) dX4_over_30 ?_
            refine cW0_v (wc := wX g (xsRS x ra va)) (w1 := wX g (lkX (xsRS x ra va) b)) (va_runV (As := [.ref (bA b 0)]) (rest := []) ⟨hx, hb, hml, hown, hts⟩ (k_lookAhead l g (xsRS x ra va) b hx9 hbm _) (cwV 1 hts (gV w_ml_X4_99 w_im_X4_lookAhead w_sel_X4_lookAhead w_ini_X4 w_co_X4_lookAhead) rfl rfl rfl (by decide +kernel) (by rw [hR1, hR2]; exact ⟨Nat.le_of_ble_eq_true rfl, Nat.le_of_ble_eq_true rfl⟩)) (preV_wr hP hK hD (va_recv hK.1 hP (ci := 4) (q0 := 0) rfl rfl)) rfl rfl hl.1 rfl (lv_room (Nat.le_of_ble_eq_true rfl)) dX4_over_31 ⟨by rw [hR3]; omega, by rw [hR4]; omega⟩) hP hD hS hA rfl (fun H locs hP hD hS => ?_)
            obtain ⟨hs, hm⟩ := lkX_le (x := (xsRS x ra va)) hx9 hbm hva
            have hPo := va_P.app (wX_O hP) (wX_B (x := lkX (xsRS x ra va) b) hP hbm)
            refine lv_aload_n hx hb dX4_over_34 rfl (lv_at hl 0 rfl) ?_
            refine va_get (D := g.1) (ci := 4) (v := .ref (xO x 0)) (C := RX4) (T := TX4) (N := 8) hx hb hts hiX4 hown hK.1 hP 0 rfl rfl 2 (by decide) (hts _ w_fl_X4_26) (fun _ h9 => h9) rfl dX4_over_35 ?_
            refine lv_aload_n hx hb dX4_over_38 rfl (lv_at hl 0 rfl) ?_
            refine va_get (D := g.1) (ci := 4) (v := .ref (xA x 1)) (C := RX4) (T := TX4) (N := 8) hx hb hts hiX4 hown hK.1 hP 0 rfl rfl 3 (by decide) (hts _ w_fl_X4_32) (fun _ h9 => h9) rfl dX4_over_39 ?_
            refine lv_iload hx hb dX4_over_42 (lv_at hl 4 rfl) ?_
            refine n_aldr (k := j) (r := bA b 0) hx hb hK.1 hP 1 2 rfl rfl (by omega) (by decide) (hrf) dX4_over_44 ?_
            refine lv_iload_n hx hb dX4_over_45 rfl (lv_at hl 1 rfl) ?_
            refine cR_l (W.runV (As := [.ref (bA b 0), .int (nI (h))]) (rest := []) ⟨hx, hb, hml, hown, hts⟩ (k_shareAtO l g (xO x) (xR (lkX (xsRS x ra va) b)) (xS (lkX (xsRS x ra va) b)) b hbn hbp hba hs hm h (by omega)) (cwV 2 hts (gV w_ml_X4_103 w_im_X3_shareAt w_sel_X3_shareAt w_ini_X3 w_co_X3_shareAt) rfl rfl rfl (by decide +kernel) (by rw [hR1, hR2]; exact ⟨Nat.le_of_ble_eq_true rfl, Nat.le_of_ble_eq_true rfl⟩)) (preV_rd hPo hK (va_recv hK.1 hPo (ci := 3) (q0 := 0) rfl rfl)) rfl rfl hl.1 rfl (lv_room (Nat.le_of_ble_eq_true rfl)) dX4_over_46 ⟨by rw [hR3]; omega, by rw [hR4]; omega⟩) ?_
            have hlt := shA_lt (sm := xS (lkX (xsRS x ra va) b)) hba hs hm (show h < 10000 by omega)
            rw [lkX_shA (x := (xsRS x ra va)) hva (by omega)] at hlt
            refine tp_l (y := lN (shA b (rsum x b) h)) (by rw [lkX_shA (x := (xsRS x ra va)) hva (by omega)]; rfl) ?_
            have hlt : shA b (rsum x b) h < 2 ^ 40 := hlt
            refine lv_ldc2 (v := 1000) hx hb hown (hts _ w_ct_X4_114) dX4_over_49 ?_
            refine tp_l (y := lN 1000) (by decide) ?_
            refine W.lcmp hx hb dX4_over_52 ?_
            refine bl_lt (tgt := 67) hx hb (by omega) (by omega) dX4_over_53 (by decide) (fun c2 => ?_) (fun c2 => ?_)
            · rw [if_neg (by rw [decide_eq_false (by omega)]; decide)] at he
              refine lv_iinc (v := nI (j + 1)) (lv' := [(4, .int (nI (j + 1))), (0, .ref (xA x 0)), (1, .int (nI (h))), (2, .int (k)), (3, .int (nI (f)))]) hx hb dX4_over_67 hl (k := 4) rfl (nI_1 _) (by decide) rfl (fun ls hl => ?_)
              refine lv_goto (tgt := 14) hx hb dX4_over_70 (by decide) ?_
              exact ih (j + 1) (f) _ _ H locs ls (by omega) (by omega) (by omega) (by rw [smU_0]; exact hva) he hP hD hS (lv_sub hl [1, 2, 3, 4, 0] rfl)
            · rw [if_pos (decide_eq_true c2)] at he
              refine lv_iload_n hx hb dX4_over_56 rfl (lv_at hl 3 rfl) ?_
              refine lv_iload_n hx hb dX4_over_57 rfl (lv_at hl 2 rfl) ?_
              refine lv_icmp_ne (tgt := 64) hx hb dX4_over_58 (by decide) (fun c3 => ?_) (fun c3 => ?_)
              · rw [if_neg c3] at he
                refine lv_iinc (v := nI (f + 1)) (lv' := [(3, .int (nI (f + 1))), (0, .ref (xA x 0)), (1, .int (nI (h))), (2, .int (k)), (4, .int (nI (j)))]) hx hb dX4_over_64 hl (k := 3) rfl (nI_1 _) (by decide) rfl (fun ls hl => ?_)
                refine lv_iinc (v := nI (j + 1)) (lv' := [(4, .int (nI (j + 1))), (3, .int (nI (f + 1))), (0, .ref (xA x 0)), (1, .int (nI (h))), (2, .int (k))]) hx hb dX4_over_67 hl (k := 4) rfl (nI_1 _) (by decide) rfl (fun ls hl => ?_)
                refine lv_goto (tgt := 14) hx hb dX4_over_70 (by decide) ?_
                exact ih (j + 1) (f + 1) _ _ H locs ls (by omega) (by omega) (by omega) (by rw [smU_0]; exact hva) he hP hD hS (lv_sub hl [2, 3, 4, 1, 0] rfl)
              · rw [if_pos c3] at he
                refine lv_iload hx hb dX4_over_61 (lv_at hl 4 rfl) ?_
                subst hQQ
                exact W.iret hx hb hr (fun t9 ht _ => ⟨⟨_, lkX (xsRS x ra va) b, rfl, ⟨by rw [ovO, hh]; show _ = gI (kth (ovP x h) k (xB x).length 0 0); rw [← he]; rfl, ⟨_, _, rfl, by rw [smU_0]; exact hva⟩⟩, hpT ht hP, hD⟩, hS.F ht⟩) hS.2.2 dX4_over_63
      exact loop ((xB x).length + 1) 0 0 (xR x) (xS x) _ _ ls (Nat.zero_le _) (Nat.le_refl _) (by omega) h0 rfl hP hD hS (lv_sub hl [2, 3, 4, 1, 0] rfl)
  · cases hh : inL 0 9999 t with
    | none =>
      refine lv_iconst (v := (-1)) hx hb dX4_over_7 (by decide) ?_
      subst hQQ
      exact W.iret hx hb hr (fun t9 ht _ => ⟨⟨_, x, rfl, ⟨by rw [ovO, hh]; rfl, alX_rf h0⟩, hpT ht hP, hD⟩, hS.F ht⟩) hS.2.2 dX4_over_8
    | some h => exact absurd hhc (by rw [(inL_s (by decide) (by decide) hh).2.2.2]; decide)

set_option maxHeartbeats 4000000 in
set_option maxRecDepth 100000 in
theorem k_check (l : Launch) (g : GG) (x : FT) (hx9 : Xok x) (h0 : xS x 0 = 0) (k t : Int32) (sz : Nat) : Al l yX4_check wsX4_check 5 124 0 0 [.ref (xA x 0), .int (k), .int (t)] g (x) sz (fun r u => r = chkV x k t ∧ alX u x) := by
  refine Met.ofW (cc := cX4_check) (maxL := 7) (ret := (some .long)) (by decide) rfl ?_
  intro p e s m args below meth c s₁ BB hml hv
  obtain ⟨hargs, hsz, hP, hK, hD0⟩ := hv
  have hx := BB.exec
  have hb := BB.bytes
  have hr := BB.returns
  have hts : ∀ w ∈ BIG, w.before args s = true := fun w h => atoms_spec (ws := wsX4_check) BB.pre w (List.mem_cons_of_mem _ h)
  have hown : s.vm.findClass RX4 = some m.cls := findClass_of_methodNamed BB.named
  have hlocks := BB.notSynchronized
  obtain ⟨RR, hRR⟩ : ∃ RR, RR = (headSpec wsX4_check ⟨5, 0, 0, 124⟩).room := ⟨_, rfl⟩
  have hR1 : RR.frames = 5 := by rw [hRR]; rfl
  have hR2 : RR.locals = 124 := by rw [hRR]; rfl
  have hR3 : RR.cells = 0 := by rw [hRR]; rfl
  have hR4 : RR.slots = 0 := by rw [hRR]; rfl
  have hl := lv_entry ([.ref (xA x 0), .int (k), .int (t)]) (n := 7) (Nat.le_of_ble_eq_true rfl)
  have hent : entryFrame m args 7 = F0 m 0 ((lg_sl ([.ref (xA x 0), .int (k), .int (t)]) ++ List.replicate (7 - (lg_sl ([.ref (xA x 0), .int (k), .int (t)])).length) Slot.unset).toArray) [] := by rw [hargs, lg_entry_eq]
  rw [hent]
  generalize (lg_sl ([.ref (xA x 0), .int (k), .int (t)]) ++ List.replicate (7 - (lg_sl ([.ref (xA x 0), .int (k), .int (t)])).length) Slot.unset).toArray = ls at hl ⊢
  have hl : lv_has ls 7 [(0, .ref (xA x 0)), (1, .int (k)), (2, .int (t))] := hl
  subst hsz
  have hD := hD0.self (sz := s.heap.size)
  generalize hAe : va_A (wX g x) s.heap.size = A at hD ⊢
  have hA : ∀ q : Nat, s.heap.size ≤ q → A q := fun q h => by rw [← hAe]; exact Or.inr h
  have hS : va_S A s.heap s.heap [] := va_S.rf
  refine q_ab (R := RR) hRR ?_
  generalize hQQ : MQ below _ args s _ _ _ = QQ
  obtain ⟨h8, hB, hW, hq9, he9, hl9⟩ := id hx9
  refine lv_aload_n hx hb dX4_check_0 rfl (lv_at hl 0 rfl) ?_
  refine lv_iload_n hx hb dX4_check_1 rfl (lv_at hl 1 rfl) ?_
  cases hbk : binAt (xB x) k with
  | none =>
    refine cR_q (W.runV (As := [.int (k)]) (rest := []) ⟨hx, hb, hml, hown, hts⟩ (k_binOf_n l g x k h8 hbk) (cwV 1 hts (gV w_ml_X4_56 w_im_X4_binOf w_sel_X4_binOf w_ini_X4 w_co_X4_binOf) rfl rfl rfl (by decide +kernel) (by rw [hR1, hR2]; exact ⟨Nat.le_of_ble_eq_true rfl, Nat.le_of_ble_eq_true rfl⟩)) (preV_rd hP hK (va_recv hK.1 hP (ci := 4) (q0 := 0) rfl rfl)) rfl rfl hl.1 rfl (lv_room (Nat.le_of_ble_eq_true rfl)) dX4_check_2 ⟨by rw [hR3]; omega, by rw [hR4]; omega⟩) ?_
    refine W.eq (g2 := F0 m 5 ls [.null]) rfl ?_
    refine lv_astore_nN (lv' := [(3, .null), (0, .ref (xA x 0)), (1, .int (k)), (2, .int (t))]) hx hb dX4_check_5 rfl hl (by decide) rfl (fun ls hl => ?_)
    refine lv_aload_nN hx hb dX4_check_6 rfl (lv_at hl 0 rfl) ?_
    refine lv_ifnonnullN hx hb dX4_check_7 ?_
    refine lv_iconst (v := (-1)) hx hb dX4_check_10 (by decide) ?_
    refine lv_goto (tgt := 19) hx hb dX4_check_11 (by decide) ?_
    refine lv_istore (lv' := [(4, .int (-1)), (3, .null), (0, .ref (xA x 0)), (1, .int (k)), (2, .int (t))]) hx hb dX4_check_19 hl (by decide) rfl (fun ls hl => ?_)
    refine lv_aload_nN hx hb dX4_check_21 rfl (lv_at hl 1 rfl) ?_
    refine lv_ifnullN (tgt := 31) hx hb dX4_check_22 (by decide) ?_
    refine lv_ldc2 (v := (-9223372036854775808)) hx hb hown (hts _ w_ct_X4_124) dX4_check_31 ?_
    subst hQQ
    exact W.lret hx hb hr (fun t9 ht _ => ⟨⟨_, x, rfl, ⟨by unfold chkV; rw [hbk]; rfl, alX_rf h0⟩, hpT ht hP, hD⟩, hS.F ht⟩) hS.2.2 dX4_check_34
  | some b =>
    have hbm : b ∈ xB x := by obtain ⟨j, -, -, hj, -⟩ := binAt_s h8 hbk; exact List.mem_of_getElem? hj
    have hBk := hB b hbm
    obtain ⟨⟨hbn, hbp, hbo, hba⟩, hbw, hbg, hbs, hbr, hc1, hc2, hc3, hbam⟩ := id hBk
    have hPb := wX_B hP hbm
    have hPm := va_P.app hPb (va_P.app (wX_C hP) (wX_F hP))
    have hpl2 : ∀ i, i < bN b → bPl b i < 2 ^ 31 := fun i hi => Nat.lt_trans (hbp i hi) (by decide)
    refine cR_q (W.runV (As := [.int (k)]) (rest := []) ⟨hx, hb, hml, hown, hts⟩ (k_binOf_s l g x k b h8 hbk) (cwV 1 hts (gV w_ml_X4_56 w_im_X4_binOf w_sel_X4_binOf w_ini_X4 w_co_X4_binOf) rfl rfl rfl (by decide +kernel) (by rw [hR1, hR2]; exact ⟨Nat.le_of_ble_eq_true rfl, Nat.le_of_ble_eq_true rfl⟩)) (preV_rd hP hK (va_recv hK.1 hP (ci := 4) (q0 := 0) rfl rfl)) rfl rfl hl.1 rfl (lv_room (Nat.le_of_ble_eq_true rfl)) dX4_check_2 ⟨by rw [hR3]; omega, by rw [hR4]; omega⟩) ?_
    refine W.eq (g2 := F0 m 5 ls [.ref (bA b 0)]) rfl ?_
    refine lv_astore_n (lv' := [(3, .ref (bA b 0)), (0, .ref (xA x 0)), (1, .int (k)), (2, .int (t))]) hx hb dX4_check_5 rfl hl (by decide) rfl (fun ls hl => ?_)
    refine lv_aload_n hx hb dX4_check_6 rfl (lv_at hl 0 rfl) ?_
    refine lv_ifnonnull (tgt := 14) hx hb dX4_check_7 (by decide) ?_
    refine lv_aload_n hx hb dX4_check_14 rfl (lv_at hl 0 rfl) ?_
    refine lv_iload_n hx hb dX4_check_15 rfl (lv_at hl 3 rfl) ?_
    refine cR_i (W.runV (As := [.int (t)]) (rest := []) ⟨hx, hb, hml, hown, hts⟩ (k_indexOfEmptying l g b t hbn hpl2) (cwV 1 hts (gV w_ml_X4_119 w_im_X0_indexOfEmptying w_sel_X0_indexOfEmptying w_ini_X0 w_co_X0_indexOfEmptying) rfl rfl rfl (by decide +kernel) (by rw [hR1, hR2]; exact ⟨Nat.le_of_ble_eq_true rfl, Nat.le_of_ble_eq_true rfl⟩)) (preV_rd hPb hK (va_recv hK.1 hPb (ci := 0) (q0 := 0) rfl rfl)) rfl rfl hl.1 rfl (lv_room (Nat.le_of_ble_eq_true rfl)) dX4_check_16 ⟨by rw [hR3]; omega, by rw [hR4]; omega⟩) ?_
    refine lv_istore (lv' := [(4, .int (gI (kth (fun i => !rowB b i) t (bN b) 0 0))), (3, .ref (bA b 0)), (0, .ref (xA x 0)), (1, .int (k)), (2, .int (t))]) hx hb dX4_check_19 hl (by decide) rfl (fun ls hl => ?_)
    refine lv_aload_n hx hb dX4_check_21 rfl (lv_at hl 1 rfl) ?_
    refine lv_ifnull hx hb dX4_check_22 ?_
    refine lv_iload hx hb dX4_check_25 (lv_at hl 0 rfl) ?_
    refine lv_iconst (v := (-1)) hx hb dX4_check_27 (by decide) ?_
    cases hkt : kth (fun i => !rowB b i) t (bN b) 0 0 with
    | none =>
      rw [hkt] at hl
      have hl : lv_has ls 7 [(4, .int (-1)), (3, .ref (bA b 0)), (0, .ref (xA x 0)), (1, .int (k)), (2, .int (t))] := hl
      refine lv_icmp_ne (tgt := 35) hx hb dX4_check_28 (by decide) (fun c3 => ?_) (fun c3 => ?_)
      · exact absurd rfl c3
      · refine lv_ldc2 (v := (-9223372036854775808)) hx hb hown (hts _ w_ct_X4_124) dX4_check_31 ?_
        subst hQQ
        exact W.lret hx hb hr (fun t9 ht _ => ⟨⟨_, x, rfl, ⟨by unfold chkV; rw [hbk]; show _ = (match (kth (fun i => !rowB b i) t (bN b) 0 0).map (fun i => (b, i)) with | none => (-9223372036854775808 : Int64) | some q => lN (bAm q.1 q.2) - lN (shE q.1 (rsum x q.1) q.2 * bRm q.1 / 1000)); rw [hkt]; rfl, alX_rf h0⟩, hpT ht hP, hD⟩, hS.F ht⟩) hS.2.2 dX4_check_34
    | some i =>
      rw [hkt] at hl
      obtain ⟨⟨-, hin⟩, hrw⟩ := kth_in hkt
      have hin : i < bN b := by omega
      have hpi := hbp i hin
      have hrw2 : rowB b i = false := by simpa using hrw
      have hodd : bPl b i % 2 ≠ 0 := of_decide_eq_false hrw2
      have hne : nI i ≠ -1 := nI_m1 (by omega)
      have hhi : hrB b i < 10000 := by unfold hrB; omega
      have hl : lv_has ls 7 [(4, .int (nI (i))), (3, .ref (bA b 0)), (0, .ref (xA x 0)), (1, .int (k)), (2, .int (t))] := hl
      refine lv_icmp_ne (tgt := 35) hx hb dX4_check_28 (by decide) (fun c3 => ?_) (fun c3 => ?_)
      · refine lv_aload_n hx hb dX4_check_35 rfl (lv_at hl 2 rfl) ?_
        refine lv_aload_n hx hb dX4_check_36 rfl (lv_at hl 1 rfl) ?_
        refine cW0_v (wc := wX g x) (w1 := wX g (lkX x b)) (va_runV (As := [.ref (bA b 0)]) (rest := []) ⟨hx, hb, hml, hown, hts⟩ (k_lookAhead l g x b hx9 hbm _) (cwV 1 hts (gV w_ml_X4_99 w_im_X4_lookAhead w_sel_X4_lookAhead w_ini_X4 w_co_X4_lookAhead) rfl rfl rfl (by decide +kernel) (by rw [hR1, hR2]; exact ⟨Nat.le_of_ble_eq_true rfl, Nat.le_of_ble_eq_true rfl⟩)) (preV_wr hP hK hD (va_recv hK.1 hP (ci := 4) (q0 := 0) rfl rfl)) rfl rfl hl.1 rfl (lv_room (Nat.le_of_ble_eq_true rfl)) dX4_check_37 ⟨by rw [hR3]; omega, by rw [hR4]; omega⟩) hP hD hS hA rfl (fun H locs hP hD hS => ?_)
        obtain ⟨hs, hm⟩ := lkX_le hx9 hbm h0
        have hPo := va_P.app (wX_O hP) (wX_B (x := lkX x b) hP hbm)
        refine lv_aload_n hx hb dX4_check_40 rfl (lv_at hl 2 rfl) ?_
        refine va_get (D := g.1) (ci := 4) (v := .ref (xO x 0)) (C := RX4) (T := TX4) (N := 8) hx hb hts hiX4 hown hK.1 hP 0 rfl rfl 2 (by decide) (hts _ w_fl_X4_26) (fun _ h9 => h9) rfl dX4_check_41 ?_
        refine lv_aload_n hx hb dX4_check_44 rfl (lv_at hl 1 rfl) ?_
        refine lv_iload hx hb dX4_check_45 (lv_at hl 0 rfl) ?_
        refine cR_l (W.runV (As := [.ref (bA b 0), .int (nI (i))]) (rest := []) ⟨hx, hb, hml, hown, hts⟩ (k_shareBefore l g (xO x) (xR (lkX x b)) (xS (lkX x b)) b hbn hbp hba hs hm i hin (by omega)) (cwV 2 hts (gV w_ml_X4_126 w_im_X3_shareBefore w_sel_X3_shareBefore w_ini_X3 w_co_X3_shareBefore) rfl rfl rfl (by decide +kernel) (by rw [hR1, hR2]; exact ⟨Nat.le_of_ble_eq_true rfl, Nat.le_of_ble_eq_true rfl⟩)) (preV_rd hPo hK (va_recv hK.1 hPo (ci := 3) (q0 := 0) rfl rfl)) rfl rfl hl.1 rfl (lv_room (Nat.le_of_ble_eq_true rfl)) dX4_check_47 ⟨by rw [hR3]; omega, by rw [hR4]; omega⟩) ?_
        have hlt := shE_lt (sm := xS (lkX x b)) (i := i) hba hs hm hhi
        refine tp_l (y := lN (shE b (rsum x b) i)) (by rw [lkX_shE h0 hhi]) ?_
        rw [lkX_shE h0 hhi] at hlt
        obtain ⟨hrm1, hrm2⟩ := hbr
        have hPb2 := wX_B (x := lkX x b) hP hbm
        have hmul : shE b (rsum x b) i * bRm b < 2 ^ 60 := Nat.lt_of_le_of_lt (Nat.mul_le_mul (Nat.le_of_lt hlt) hrm2) (by decide)
        refine lv_lstore (lv' := [(5, .long (lN (shE b (rsum x b) i))), (4, .int (nI (i))), (3, .ref (bA b 0)), (0, .ref (xA x 0)), (1, .int (k)), (2, .int (t))]) hx hb dX4_check_50 hl (by decide) rfl (fun ls hl => ?_)
        refine lv_aload_n hx hb dX4_check_52 rfl (lv_at hl 2 rfl) ?_
        refine lv_iload hx hb dX4_check_53 (lv_at hl 1 rfl) ?_
        refine cR_i (W.runV (As := [.int (nI (i))]) (rest := []) ⟨hx, hb, hml, hown, hts⟩ (k_amountAt l g b i (by omega)) (cwV 1 hts (gV w_ml_X4_129 w_im_X0_amountAt w_sel_X0_amountAt w_ini_X0 w_co_X0_amountAt) rfl rfl rfl (by decide +kernel) (by rw [hR1, hR2]; exact ⟨Nat.le_of_ble_eq_true rfl, Nat.le_of_ble_eq_true rfl⟩)) (preV_rd hPb2 hK (va_recv hK.1 hPb2 (ci := 0) (q0 := 0) rfl rfl)) rfl rfl hl.1 rfl (lv_room (Nat.le_of_ble_eq_true rfl)) dX4_check_55 ⟨by rw [hR3]; omega, by rw [hR4]; omega⟩) ?_
        have ham := hbam i hin
        refine n_i2l hx hb (by omega) dX4_check_58 ?_
        refine lv_lload hx hb dX4_check_59 (lv_at hl 0 rfl) ?_
        refine lv_aload_n hx hb dX4_check_61 rfl (lv_at hl 2 rfl) ?_
        refine cR_i (W.runV (As := []) (rest := [.long (lN (shE b (rsum x b) i)), .long (lN (bAm b i))]) ⟨hx, hb, hml, hown, hts⟩ (k_roomInKilograms l g b) (cwV 0 hts (gV w_ml_X4_132 w_im_X0_roomInKilograms w_sel_X0_roomInKilograms w_ini_X0 w_co_X0_roomInKilograms) rfl rfl rfl (by decide +kernel) (by rw [hR1, hR2]; exact ⟨Nat.le_of_ble_eq_true rfl, Nat.le_of_ble_eq_true rfl⟩)) (preV_rd hPb2 hK (va_recv hK.1 hPb2 (ci := 0) (q0 := 0) rfl rfl)) rfl rfl hl.1 rfl (lv_room (Nat.le_of_ble_eq_true rfl)) dX4_check_62 ⟨by rw [hR3]; omega, by rw [hR4]; omega⟩) ?_
        refine n_i2l hx hb (by omega) dX4_check_65 ?_
        refine n_lmul hx hb dX4_check_66 ?_
        refine lv_ldc2 (v := 1000) hx hb hown (hts _ w_ct_X4_114) dX4_check_67 ?_
        refine tp_l (y := lN 1000) (by decide) ?_
        refine n_ldiv hx hb (by omega) (by omega) (by omega) dX4_check_70 ?_
        refine lv_lsub hx hb dX4_check_71 ?_
        subst hQQ
        exact W.lret hx hb hr (fun t9 ht _ => ⟨⟨_, lkX x b, rfl, ⟨by unfold chkV; rw [hbk]; show _ = (match (kth (fun i => !rowB b i) t (bN b) 0 0).map (fun i => (b, i)) with | none => (-9223372036854775808 : Int64) | some q => lN (bAm q.1 q.2) - lN (shE q.1 (rsum x q.1) q.2 * bRm q.1 / 1000)); rw [hkt]; rfl, alX_lk h0⟩, hpT ht hP, hD⟩, hS.F ht⟩) hS.2.2 dX4_check_72
      · exact absurd c3 hne
end
section
/-! bins in their row: one of them changed, one more -/
def wXl (g : GG) (x : FT) (j : Nat) : va_W := wXh g x ++ (wF g (xF x) (xW x) ++ (wO g (xO x) (xR x) (xS x) ++ (wC g (xC x) (xH x) ++ bw g ((xB x).take j))))
theorem list_split {α : Type} {l : List α} {j : Nat} {b : α} (h : l[j]? = some b) : l = l.take j ++ b :: l.drop (j + 1) := by
  obtain ⟨hj, e⟩ := List.getElem?_eq_some_iff.mp h
  exact (List.take_append_drop j l).symm.trans (by rw [List.drop_eq_getElem_cons hj, e])
theorem bw_split {g : GG} {l : List BinT} {j : Nat} {b : BinT} (h : l[j]? = some b) : bw g l = bw g (l.take j) ++ (wB g b ++ bw g (l.drop (j + 1))) := by
  unfold bw
  conv => lhs; rw [list_split h]
  rw [List.flatMap_append, List.flatMap_cons]
theorem wX_split {g : GG} {x : FT} {j : Nat} {b : BinT} (h : (xB x)[j]? = some b) : wX g x = wXl g x j ++ (wB g b ++ bw g ((xB x).drop (j + 1))) := by
  unfold wX wXl
  rw [bw_split h]
  simp only [List.append_assoc]
theorem bRef_set {l : List BinT} {j : Nat} {b c : BinT} (h : l[j]? = some b) (ha : bA c = bA b) : bRef (l.set j c) = bRef l := by
  funext k
  unfold bRef
  rw [List.getElem?_set]
  obtain ⟨hj, -⟩ := List.getElem?_eq_some_iff.mp h
  by_cases e : j = k
  · subst e
    rw [if_pos rfl, if_pos hj, h]
    show some (bA c 0) = some (bA b 0)
    rw [ha]
  · rw [if_neg e]
theorem wXh_set {g : GG} {x : FT} {j : Nat} {b c : BinT} (h : (xB x)[j]? = some b) (ha : bA c = bA b) : wXh g (xsB x ((xB x).set j c)) = wXh g x := by
  unfold wXh
  rw [show xB (xsB x ((xB x).set j c)) = (xB x).set j c from rfl, bRef_set h ha, List.length_set]
  rfl
theorem wX_set {g : GG} {x : FT} {j : Nat} {b c : BinT} (h : (xB x)[j]? = some b) (ha : bA c = bA b) : wX g (xsB x ((xB x).set j c)) = wXl g x j ++ (wB g c ++ bw g ((xB x).drop (j + 1))) := by
  have h2 : ((xB x).set j c)[j]? = some c := by
    obtain ⟨hj, -⟩ := List.getElem?_eq_some_iff.mp h
    rw [List.getElem?_set_self hj]
  rw [wX_split (x := xsB x ((xB x).set j c)) (b := c) h2]
  unfold wXl
  rw [wXh_set h ha]
  show _ ++ (wB g c ++ bw g (((xB x).set j c).drop (j + 1))) = _
  rw [List.drop_set_of_lt (by omega)]
  show (_ ++ (_ ++ (_ ++ (_ ++ bw g (((xB x).set j c).take j))))) ++ _ = _
  rw [List.take_set_of_le (Nat.le_refl j)]
  rfl
/-- what a point put answers and leaves -/
def mxV (row : Bool) : Nat := if row = true then 1500 else 100000
def rowS (row : Bool) (x : FT) (k t d : Int32) : Int32 × FT := match binAt (xB x) k with
  | none => (-1, x)
  | some b => match inL 0 9999 t with
    | none => (-1, x)
    | some h => match inL 0 (mxV row) d with
      | none => (-1, x)
      | some v => ((putB row b (plQ row h) v).1, xsB x ((xB x).set k.toNatClampNeg (putB row b (plQ row h) v).2))
theorem rowS_0 {row : Bool} {x : FT} {k t d : Int32} (h : binAt (xB x) k = none) : rowS row x k t d = (-1, x) := by
  unfold rowS
  rw [h]
theorem rowS_1 {row : Bool} {x : FT} {k t d : Int32} (h : inL 0 9999 t = none) : rowS row x k t d = (-1, x) := by
  unfold rowS
  rw [h]
  split <;> rfl
theorem rowS_2 {row : Bool} {x : FT} {k t d : Int32} (h : inL 0 (mxV row) d = none) : rowS row x k t d = (-1, x) := by
  unfold rowS
  rw [h]
  split
  · rfl
  · split <;> rfl
theorem rowS_3 {row : Bool} {x : FT} {j h v : Nat} {t d : Int32} {b : BinT} (hj : j < 2 ^ 31) (h1 : binAt (xB x) (nI j) = some b) (h2 : inL 0 9999 t = some h) (h3 : inL 0 (mxV row) d = some v) : rowS row x (nI j) t d = ((putB row b (plQ row h) v).1, xsB x ((xB x).set j (putB row b (plQ row h) v).2)) := by
  unfold rowS
  rw [h1]
  dsimp only
  rw [h2]
  dsimp only
  rw [h3]
  dsimp only
  rw [nI_clamp hj]
theorem putB_t {row : Bool} {b : BinT} {q v : Nat} (h : ixB b q < bN b ∧ bPl b (ixB b q) = q) : putB row b q v = (nI (cntB row b), jB (amB b (ixB b q) v) (bN b)) := by
  unfold putB
  rw [if_pos h]
theorem putB_f {row : Bool} {b : BinT} {q v : Nat} (h : ¬ (ixB b q < bN b ∧ bPl b (ixB b q) = q)) (h2 : fullB row b = true) : putB row b q v = (-1, b) := by
  unfold putB
  rw [if_neg h, if_pos h2]
theorem putB_n {row : Bool} {b : BinT} {q v : Nat} (h : ¬ (ixB b q < bN b ∧ bPl b (ixB b q) = q)) (h2 : ¬ fullB row b = true) : putB row b q v = (nI (cntB row b + 1), jB (amB (opR row b (ixB b q) q) (ixB b q) v) (bN b + 1)) := by
  unfold putB
  rw [if_neg h, if_neg h2]
theorem jB_Jok {b : BinT} (h : Jok b) : Jok (jB b (bN b)) := h
/-- a bin with a point put is a bin as they are kept -/
theorem putB_ok {row : Bool} {b : BinT} {h v : Nat} (hb : Bok b) (hh : h < 10000) (hv : v ≤ mxV row) : Bok (putB row b (plQ row h) v).2 ∧ bA (putB row b (plQ row h) v).2 = bA b := by
  obtain ⟨hJ, hw, hg, hs, hr, c1, c2, c3, ham⟩ := id hb
  obtain ⟨i1, i2, i3⟩ := ixB_ok (b := b) (q := plQ row h) hJ.2.2.1
  have hq : plQ row h < 20000 := by unfold plQ; split <;> omega
  have hq2 : plQ row h % 2 = 0 → v ≤ 1500 := by
    intro e
    unfold plQ at e
    unfold mxV at hv
    split at e
    · rename_i r
      rw [if_pos r] at hv
      exact hv
    · omega
  have hv2 : v ≤ 100000 := by unfold mxV at hv; split at hv <;> omega
  by_cases ht : ixB b (plQ row h) < bN b ∧ bPl b (ixB b (plQ row h)) = plQ row h
  · rw [putB_t ht]
    refine ⟨⟨jB_Jok (b := amB b (ixB b (plQ row h)) v) (Jok_am hJ (fun e => hq2 (by rw [← ht.2]; exact e))), (jB_ok (b := amB b (ixB b (plQ row h)) v)).1, (jB_ok (b := amB b (ixB b (plQ row h)) v)).2, hs, hr, c1, c2, c3, fun i hi => ?_⟩, rfl⟩
    show va_up (bAm b) (ixB b (plQ row h)) v i ≤ 100000
    unfold va_up
    split
    · exact hv2
    · exact ham i hi
  · by_cases hf : fullB row b = true
    · rw [putB_f ht hf]
      exact ⟨hb, rfl⟩
    · rw [putB_n ht hf]
      have hn : bN b < 32 := by
        unfold fullB at hf
        split at hf
        · have := of_decide_eq_false (Bool.eq_false_iff.mpr hf)
          omega
        · have := of_decide_eq_false (Bool.eq_false_iff.mpr hf)
          omega
      have hJ2 : Jok (amB (opB b (ixB b (plQ row h)) (plQ row h)) (ixB b (plQ row h)) v) := Jok_op hJ hn hq i1 i2 (fun e => by
        have := i3 e
        rcases Nat.lt_or_ge (plQ row h) (bPl b (ixB b (plQ row h))) with z | z
        · exact z
        · exact absurd ⟨e, by omega⟩ ht) hq2
      have eam : ∀ j, j < bN b + 1 → bAm (amB (opB b (ixB b (plQ row h)) (plQ row h)) (ixB b (plQ row h)) v) j ≤ 100000 := by
        intro j hj
        show va_up (shf (bAm b) (ixB b (plQ row h)) (bN b)) (ixB b (plQ row h)) v j ≤ 100000
        unfold va_up shf
        split
        · exact hv2
        · split
          · exact ham _ (by omega)
          · exact ham _ (by omega)
      cases row with
      | true =>
        have hf2 : ¬ 24 ≤ bR b := fun z => hf (decide_eq_true z)
        refine ⟨⟨hJ2, (jB_ok (b := amB (opR true b (ixB b (plQ true h)) (plQ true h)) (ixB b (plQ true h)) v)).1, (jB_ok (b := amB (opR true b (ixB b (plQ true h)) (plQ true h)) (ixB b (plQ true h)) v)).2, hs, hr, show bR b + 1 ≤ bN b + 1 by omega, show bR b + 1 ≤ 24 by omega, show bN b + 1 - (bR b + 1) ≤ 8 by omega, eam⟩, rfl⟩
      | false =>
        have hf2 : ¬ 8 ≤ bN b - bR b := fun z => hf (decide_eq_true z)
        refine ⟨⟨hJ2, (jB_ok (b := amB (opR false b (ixB b (plQ false h)) (plQ false h)) (ixB b (plQ false h)) v)).1, (jB_ok (b := amB (opR false b (ixB b (plQ false h)) (plQ false h)) (ixB b (plQ false h)) v)).2, hs, hr, show bR b ≤ bN b + 1 by omega, c2, show bN b + 1 - bR b ≤ 8 by omega, eam⟩, rfl⟩
end
section
set_option maxHeartbeats 4000000 in
set_option maxRecDepth 100000 in
theorem k_row (l : Launch) (g : GG) (x : FT) (hx9 : Xok x) (k t d : Int32) (sz : Nat) : Ai l yX4_row wsX4_row 5 112 0 0 [.ref (xA x 0), .int (k), .int (t), .int (d)] g (x) sz (fun r u => (r, u) = rowS true x k t d) := by
  refine Met.ofW (cc := cX4_row) (maxL := 5) (ret := (some .int)) (by decide) rfl ?_
  intro p e s m args below meth c s₁ BB hml hv
  obtain ⟨hargs, hsz, hP, hK, hD0⟩ := hv
  have hx := BB.exec
  have hb := BB.bytes
  have hr := BB.returns
  have hts : ∀ w ∈ BIG, w.before args s = true := fun w h => atoms_spec (ws := wsX4_row) BB.pre w (List.mem_cons_of_mem _ h)
  have hown : s.vm.findClass RX4 = some m.cls := findClass_of_methodNamed BB.named
  have hlocks := BB.notSynchronized
  obtain ⟨RR, hRR⟩ : ∃ RR, RR = (headSpec wsX4_row ⟨5, 0, 0, 112⟩).room := ⟨_, rfl⟩
  have hR1 : RR.frames = 5 := by rw [hRR]; rfl
  have hR2 : RR.locals = 112 := by rw [hRR]; rfl
  have hR3 : RR.cells = 0 := by rw [hRR]; rfl
  have hR4 : RR.slots = 0 := by rw [hRR]; rfl
  have hl := lv_entry ([.ref (xA x 0), .int (k), .int (t), .int (d)]) (n := 5) (Nat.le_of_ble_eq_true rfl)
  have hent : entryFrame m args 5 = F0 m 0 ((lg_sl ([.ref (xA x 0), .int (k), .int (t), .int (d)]) ++ List.replicate (5 - (lg_sl ([.ref (xA x 0), .int (k), .int (t), .int (d)])).length) Slot.unset).toArray) [] := by rw [hargs, lg_entry_eq]
  rw [hent]
  generalize (lg_sl ([.ref (xA x 0), .int (k), .int (t), .int (d)]) ++ List.replicate (5 - (lg_sl ([.ref (xA x 0), .int (k), .int (t), .int (d)])).length) Slot.unset).toArray = ls at hl ⊢
  have hl : lv_has ls 5 [(0, .ref (xA x 0)), (1, .int (k)), (2, .int (t)), (3, .int (d))] := hl
  subst hsz
  have hD := hD0.self (sz := s.heap.size)
  generalize hAe : va_A (wX g x) s.heap.size = A at hD ⊢
  have hA : ∀ q : Nat, s.heap.size ≤ q → A q := fun q h => by rw [← hAe]; exact Or.inr h
  have hS : va_S A s.heap s.heap [] := va_S.rf
  refine q_ab (R := RR) hRR ?_
  generalize hQQ : MQ below _ args s _ _ _ = QQ
  obtain ⟨h8, hB, hW, hq9, he9, hl9⟩ := id hx9
  refine lv_aload_n hx hb dX4_row_0 rfl (lv_at hl 0 rfl) ?_
  refine lv_iload_n hx hb dX4_row_1 rfl (lv_at hl 1 rfl) ?_
  cases hbk : binAt (xB x) k with
  | none =>
    refine cR_q (W.runV (As := [.int (k)]) (rest := []) ⟨hx, hb, hml, hown, hts⟩ (k_binOf_n l g x k h8 hbk) (cwV 1 hts (gV w_ml_X4_56 w_im_X4_binOf w_sel_X4_binOf w_ini_X4 w_co_X4_binOf) rfl rfl rfl (by decide +kernel) (by rw [hR1, hR2]; exact ⟨Nat.le_of_ble_eq_true rfl, Nat.le_of_ble_eq_true rfl⟩)) (preV_rd hP hK (va_recv hK.1 hP (ci := 4) (q0 := 0) rfl rfl)) rfl rfl hl.1 rfl (lv_room (Nat.le_of_ble_eq_true rfl)) dX4_row_2 ⟨by rw [hR3]; omega, by rw [hR4]; omega⟩) ?_
    refine W.eq (g2 := F0 m 5 ls [.null]) rfl ?_
    refine lv_astoreN (lv' := [(4, .null), (0, .ref (xA x 0)), (1, .int (k)), (2, .int (t)), (3, .int (d))]) hx hb dX4_row_5 hl (by decide) rfl (fun ls hl => ?_)
    refine lv_aloadN hx hb dX4_row_7 (lv_at hl 0 rfl) ?_
    refine lv_ifnullN (tgt := 30) hx hb dX4_row_9 (by decide) ?_
    refine lv_iconst (v := (-1)) hx hb dX4_row_30 (by decide) ?_
    subst hQQ
    exact W.iret hx hb hr (fun t9 ht _ => ⟨⟨_, x, rfl, by rw [rowS_0 hbk], hpT ht hP, hD⟩, hS.F ht⟩) hS.2.2 dX4_row_31
  | some b =>
    have hbm : b ∈ xB x := by obtain ⟨j, -, -, hj, -⟩ := binAt_s h8 hbk; exact List.mem_of_getElem? hj
    have hBk := hB b hbm
    obtain ⟨⟨hbn, hbp, hbo, hba⟩, hbw, hbg, hbs, hbr, hc1, hc2, hc3, hbam⟩ := id hBk
    have hPb := wX_B hP hbm
    have hPm := va_P.app hPb (va_P.app (wX_C hP) (wX_F hP))
    have hpl2 : ∀ i, i < bN b → bPl b i < 2 ^ 31 := fun i hi => Nat.lt_trans (hbp i hi) (by decide)
    refine cR_q (W.runV (As := [.int (k)]) (rest := []) ⟨hx, hb, hml, hown, hts⟩ (k_binOf_s l g x k b h8 hbk) (cwV 1 hts (gV w_ml_X4_56 w_im_X4_binOf w_sel_X4_binOf w_ini_X4 w_co_X4_binOf) rfl rfl rfl (by decide +kernel) (by rw [hR1, hR2]; exact ⟨Nat.le_of_ble_eq_true rfl, Nat.le_of_ble_eq_true rfl⟩)) (preV_rd hP hK (va_recv hK.1 hP (ci := 4) (q0 := 0) rfl rfl)) rfl rfl hl.1 rfl (lv_room (Nat.le_of_ble_eq_true rfl)) dX4_row_2 ⟨by rw [hR3]; omega, by rw [hR4]; omega⟩) ?_
    refine W.eq (g2 := F0 m 5 ls [.ref (bA b 0)]) rfl ?_
    refine lv_astore (lv' := [(4, .ref (bA b 0)), (0, .ref (xA x 0)), (1, .int (k)), (2, .int (t)), (3, .int (d))]) hx hb dX4_row_5 hl (by decide) rfl (fun ls hl => ?_)
    refine lv_aload hx hb dX4_row_7 (lv_at hl 0 rfl) ?_
    refine lv_ifnull hx hb dX4_row_9 ?_
    refine lv_iload_n hx hb dX4_row_12 rfl (lv_at hl 3 rfl) ?_
    refine cR_i (W.runS (As := [.int (t)]) (rest := []) ⟨hx, hb, hml, hown, hts⟩ (k_isHour l g t) (va_cwS 1 hts (gS w_ml_X4_60 w_sm_X4_isHour w_ini_X4 w_co_X4_isHour) rfl rfl rfl (by decide +kernel) (by rw [hR1, hR2]; exact ⟨Nat.le_of_ble_eq_true rfl, Nat.le_of_ble_eq_true rfl⟩)) (preS_rd va_P.nil hK) rfl rfl hl.1 rfl (lv_room (Nat.le_of_ble_eq_true rfl)) dX4_row_13 ⟨by rw [hR3]; omega, by rw [hR4]; omega⟩) ?_
    refine bb_eq (tgt := 30) hx hb dX4_row_16 (by decide) (fun hhc => ?_) (fun hhc => ?_)
    · cases hh : inL 0 9999 t with
      | none =>
        refine lv_iconst (v := (-1)) hx hb dX4_row_30 (by decide) ?_
        subst hQQ
        exact W.iret hx hb hr (fun t9 ht _ => ⟨⟨_, x, rfl, by rw [rowS_1 hh], hpT ht hP, hD⟩, hS.F ht⟩) hS.2.2 dX4_row_31
      | some h => exact absurd hhc (by rw [(inL_s (by decide) (by decide) hh).2.2.2]; decide)
    · cases hh : inL 0 9999 t with
      | none => exact absurd hhc (by rw [inL_n hh]; decide)
      | some h =>
        obtain ⟨hhl, hhn, hhe, -⟩ := inL_s (by decide) (by decide) hh
        subst hhe
        refine lv_iload_n hx hb dX4_row_19 rfl (lv_at hl 4 rfl) ?_
        refine lv_iconst (v := nI (0)) hx hb dX4_row_20 (by decide) ?_
        refine lv_sipush (v := nI (1500)) hx hb dX4_row_21 (by decide) ?_
        refine cR_i (W.runS (As := [.int (d), .int (nI (0)), .int (nI (1500))]) (rest := []) ⟨hx, hb, hml, hown, hts⟩ (k_isWithin l g d (nI 0) (nI 1500)) (va_cwS 3 hts (gS w_ml_X4_49 w_sm_X4_isWithin w_ini_X4 w_co_X4_isWithin) rfl rfl rfl (by decide +kernel) (by rw [hR1, hR2]; exact ⟨Nat.le_of_ble_eq_true rfl, Nat.le_of_ble_eq_true rfl⟩)) (preS_rd va_P.nil hK) rfl rfl hl.1 rfl (lv_room (Nat.le_of_ble_eq_true rfl)) dX4_row_24 ⟨by rw [hR3]; omega, by rw [hR4]; omega⟩) ?_
        refine bb_ne (tgt := 32) hx hb dX4_row_27 (by decide) (fun hic => ?_) (fun hic => ?_)
        · cases hi : inL 0 1500 d with
          | none => exact absurd hic (by rw [inL_n hi]; decide)
          | some v =>
            obtain ⟨hil, hin, hie, -⟩ := inL_s (by decide) (by decide) hi
            subst hie
            obtain ⟨j, hj, ek, hj2, -⟩ := binAt_s h8 hbk
            subst ek
            obtain ⟨i1, i2, i3⟩ := ixB_ok (b := b) (q := 2 * h) hbo
            have hJb : Jok b := ⟨hbn, hbp, hbo, hba⟩
            have hs3 : rowS true x (nI j) (nI h) (nI v) = ((putB true b (2 * h) v).1, xsB x ((xB x).set j (putB true b (2 * h) v).2)) := rowS_3 (row := true) (x := x) (by omega) hbk hh hi
            refine lv_aload hx hb dX4_row_32 (lv_at hl 0 rfl) ?_
            refine lv_iload_n hx hb dX4_row_34 rfl (lv_at hl 3 rfl) ?_
            refine lv_iload_n hx hb dX4_row_35 rfl (lv_at hl 4 rfl) ?_
            rw [wX_split hj2] at hP hD
            by_cases c7 : ixB b (2 * h) < bN b ∧ bPl b (ixB b (2 * h)) = 2 * h
            · have hP3 : va_P g.1 vwCl (wXl g x j ++ (wB g b ++ bw g ((xB x).drop (j + 1)))) _ := hP
              have hD3 : va_D A (wXl g x j ++ (wB g b ++ bw g ((xB x).drop (j + 1)))) := hD
              refine cW_i (w1 := wB g (jB (amB b (ixB b (2 * h)) v) (bN (amB b (ixB b (2 * h)) v)))) (va_runV (As := [.int (nI (h)), .int (nI (v))]) (rest := []) ⟨hx, hb, hml, hown, hts⟩ (k_putRow_t l g b h v (2 * h) (ixB b (2 * h)) (by omega) rfl hJb i1 i2 i3 hc1 c7.1 c7.2 (Jok_am hJb (fun e => hin)) _) (cwV 2 hts (gV w_ml_X4_64 w_im_X0_putRow w_sel_X0_putRow w_ini_X0 w_co_X0_putRow) rfl rfl rfl (by decide +kernel) (by rw [hR1, hR2]; exact ⟨Nat.le_of_ble_eq_true rfl, Nat.le_of_ble_eq_true rfl⟩)) (preV_wr (P_mid hP3) hK (D_mid hD3) (va_recv hK.1 (P_mid hP3) (ci := 0) (q0 := 0) rfl rfl)) rfl rfl hl.1 rfl (lv_room (Nat.le_of_ble_eq_true rfl)) dX4_row_36 ⟨by rw [hR3]; omega, by rw [hR4]; omega⟩) hP3 hD3 hS hA rfl (fun H locs hP hD hS => ?_)
              rw [← wX_set (c := (jB (amB b (ixB b (2 * h)) v) (bN (amB b (ixB b (2 * h)) v)))) hj2 rfl] at hP hD
              subst hQQ
              exact W.iret hx hb hr (fun t9 ht _ => ⟨⟨_, xsB x ((xB x).set j (jB (amB b (ixB b (2 * h)) v) (bN (amB b (ixB b (2 * h)) v)))), rfl, by rw [hs3, putB_t c7]; rfl, hpT ht hP, hD⟩, hS.F ht⟩) hS.2.2 dX4_row_39
            · by_cases c8 : fullB true b = true
              · have hP3 : va_P g.1 vwCl (wXl g x j ++ (wB g b ++ bw g ((xB x).drop (j + 1)))) _ := hP
                have hD3 : va_D A (wXl g x j ++ (wB g b ++ bw g ((xB x).drop (j + 1)))) := hD
                refine cW_i (w1 := wB g b) (va_runV (As := [.int (nI (h)), .int (nI (v))]) (rest := []) ⟨hx, hb, hml, hown, hts⟩ (k_putRow_f l g b h v (2 * h) (ixB b (2 * h)) (by omega) rfl hJb i1 i2 i3 hc1 c7 (of_decide_eq_true c8) _) (cwV 2 hts (gV w_ml_X4_64 w_im_X0_putRow w_sel_X0_putRow w_ini_X0 w_co_X0_putRow) rfl rfl rfl (by decide +kernel) (by rw [hR1, hR2]; exact ⟨Nat.le_of_ble_eq_true rfl, Nat.le_of_ble_eq_true rfl⟩)) (preV_wr (P_mid hP3) hK (D_mid hD3) (va_recv hK.1 (P_mid hP3) (ci := 0) (q0 := 0) rfl rfl)) rfl rfl hl.1 rfl (lv_room (Nat.le_of_ble_eq_true rfl)) dX4_row_36 ⟨by rw [hR3]; omega, by rw [hR4]; omega⟩) hP3 hD3 hS hA rfl (fun H locs hP hD hS => ?_)
                rw [← wX_set (c := b) hj2 rfl] at hP hD
                subst hQQ
                exact W.iret hx hb hr (fun t9 ht _ => ⟨⟨_, xsB x ((xB x).set j b), rfl, by rw [hs3, putB_f c7 c8], hpT ht hP, hD⟩, hS.F ht⟩) hS.2.2 dX4_row_39
              · have c9 : bR b < 24 := by have := of_decide_eq_false (Bool.eq_false_iff.mpr c8); omega
                have hJ2 : Jok (amB (opB b (ixB b (2 * h)) (2 * h)) (ixB b (2 * h)) v) := Jok_op hJb (by omega) (by omega) i1 i2 (fun e => by
                  have := i3 e
                  rcases Nat.lt_or_ge (2 * h) (bPl b (ixB b (2 * h))) with z | z
                  · exact z
                  · exact absurd ⟨e, by omega⟩ c7) (fun e => by omega)
                have hP3 : va_P g.1 vwCl (wXl g x j ++ (wB g b ++ bw g ((xB x).drop (j + 1)))) _ := hP
                have hD3 : va_D A (wXl g x j ++ (wB g b ++ bw g ((xB x).drop (j + 1)))) := hD
                refine cW_i (w1 := wB g (jB (amB (bsR (opB b (ixB b (2 * h)) (2 * h)) (bR b + 1)) (ixB b (2 * h)) v) (bN (amB (bsR (opB b (ixB b (2 * h)) (2 * h)) (bR b + 1)) (ixB b (2 * h)) v)))) (va_runV (As := [.int (nI (h)), .int (nI (v))]) (rest := []) ⟨hx, hb, hml, hown, hts⟩ (k_putRow_n l g b h v (2 * h) (ixB b (2 * h)) (by omega) rfl hJb i1 i2 i3 hc1 c7 c9 (by omega) hJ2 _) (cwV 2 hts (gV w_ml_X4_64 w_im_X0_putRow w_sel_X0_putRow w_ini_X0 w_co_X0_putRow) rfl rfl rfl (by decide +kernel) (by rw [hR1, hR2]; exact ⟨Nat.le_of_ble_eq_true rfl, Nat.le_of_ble_eq_true rfl⟩)) (preV_wr (P_mid hP3) hK (D_mid hD3) (va_recv hK.1 (P_mid hP3) (ci := 0) (q0 := 0) rfl rfl)) rfl rfl hl.1 rfl (lv_room (Nat.le_of_ble_eq_true rfl)) dX4_row_36 ⟨by rw [hR3]; omega, by rw [hR4]; omega⟩) hP3 hD3 hS hA rfl (fun H locs hP hD hS => ?_)
                rw [← wX_set (c := (jB (amB (bsR (opB b (ixB b (2 * h)) (2 * h)) (bR b + 1)) (ixB b (2 * h)) v) (bN (amB (bsR (opB b (ixB b (2 * h)) (2 * h)) (bR b + 1)) (ixB b (2 * h)) v)))) hj2 rfl] at hP hD
                subst hQQ
                exact W.iret hx hb hr (fun t9 ht _ => ⟨⟨_, xsB x ((xB x).set j (jB (amB (bsR (opB b (ixB b (2 * h)) (2 * h)) (bR b + 1)) (ixB b (2 * h)) v) (bN (amB (bsR (opB b (ixB b (2 * h)) (2 * h)) (bR b + 1)) (ixB b (2 * h)) v)))), rfl, by rw [hs3, putB_n c7 c8]; rfl, hpT ht hP, hD⟩, hS.F ht⟩) hS.2.2 dX4_row_39
        · cases hi : inL 0 1500 d with
          | none =>
            refine lv_iconst (v := (-1)) hx hb dX4_row_30 (by decide) ?_
            subst hQQ
            exact W.iret hx hb hr (fun t9 ht _ => ⟨⟨_, x, rfl, by rw [rowS_2 (row := true) hi], hpT ht hP, hD⟩, hS.F ht⟩) hS.2.2 dX4_row_31
          | some v => exact absurd hic (by rw [(inL_s (by decide) (by decide) hi).2.2.2]; decide)

set_option maxHeartbeats 4000000 in
set_option maxRecDepth 100000 in
theorem k_emptied (l : Launch) (g : GG) (x : FT) (hx9 : Xok x) (k t d : Int32) (sz : Nat) : Ai l yX4_emptied wsX4_emptied 5 112 0 0 [.ref (xA x 0), .int (k), .int (t), .int (d)] g (x) sz (fun r u => (r, u) = rowS false x k t d) := by
  refine Met.ofW (cc := cX4_emptied) (maxL := 5) (ret := (some .int)) (by decide) rfl ?_
  intro p e s m args below meth c s₁ BB hml hv
  obtain ⟨hargs, hsz, hP, hK, hD0⟩ := hv
  have hx := BB.exec
  have hb := BB.bytes
  have hr := BB.returns
  have hts : ∀ w ∈ BIG, w.before args s = true := fun w h => atoms_spec (ws := wsX4_emptied) BB.pre w (List.mem_cons_of_mem _ h)
  have hown : s.vm.findClass RX4 = some m.cls := findClass_of_methodNamed BB.named
  have hlocks := BB.notSynchronized
  obtain ⟨RR, hRR⟩ : ∃ RR, RR = (headSpec wsX4_emptied ⟨5, 0, 0, 112⟩).room := ⟨_, rfl⟩
  have hR1 : RR.frames = 5 := by rw [hRR]; rfl
  have hR2 : RR.locals = 112 := by rw [hRR]; rfl
  have hR3 : RR.cells = 0 := by rw [hRR]; rfl
  have hR4 : RR.slots = 0 := by rw [hRR]; rfl
  have hl := lv_entry ([.ref (xA x 0), .int (k), .int (t), .int (d)]) (n := 5) (Nat.le_of_ble_eq_true rfl)
  have hent : entryFrame m args 5 = F0 m 0 ((lg_sl ([.ref (xA x 0), .int (k), .int (t), .int (d)]) ++ List.replicate (5 - (lg_sl ([.ref (xA x 0), .int (k), .int (t), .int (d)])).length) Slot.unset).toArray) [] := by rw [hargs, lg_entry_eq]
  rw [hent]
  generalize (lg_sl ([.ref (xA x 0), .int (k), .int (t), .int (d)]) ++ List.replicate (5 - (lg_sl ([.ref (xA x 0), .int (k), .int (t), .int (d)])).length) Slot.unset).toArray = ls at hl ⊢
  have hl : lv_has ls 5 [(0, .ref (xA x 0)), (1, .int (k)), (2, .int (t)), (3, .int (d))] := hl
  subst hsz
  have hD := hD0.self (sz := s.heap.size)
  generalize hAe : va_A (wX g x) s.heap.size = A at hD ⊢
  have hA : ∀ q : Nat, s.heap.size ≤ q → A q := fun q h => by rw [← hAe]; exact Or.inr h
  have hS : va_S A s.heap s.heap [] := va_S.rf
  refine q_ab (R := RR) hRR ?_
  generalize hQQ : MQ below _ args s _ _ _ = QQ
  obtain ⟨h8, hB, hW, hq9, he9, hl9⟩ := id hx9
  refine lv_aload_n hx hb dX4_emptied_0 rfl (lv_at hl 0 rfl) ?_
  refine lv_iload_n hx hb dX4_emptied_1 rfl (lv_at hl 1 rfl) ?_
  cases hbk : binAt (xB x) k with
  | none =>
    refine cR_q (W.runV (As := [.int (k)]) (rest := []) ⟨hx, hb, hml, hown, hts⟩ (k_binOf_n l g x k h8 hbk) (cwV 1 hts (gV w_ml_X4_56 w_im_X4_binOf w_sel_X4_binOf w_ini_X4 w_co_X4_binOf) rfl rfl rfl (by decide +kernel) (by rw [hR1, hR2]; exact ⟨Nat.le_of_ble_eq_true rfl, Nat.le_of_ble_eq_true rfl⟩)) (preV_rd hP hK (va_recv hK.1 hP (ci := 4) (q0 := 0) rfl rfl)) rfl rfl hl.1 rfl (lv_room (Nat.le_of_ble_eq_true rfl)) dX4_emptied_2 ⟨by rw [hR3]; omega, by rw [hR4]; omega⟩) ?_
    refine W.eq (g2 := F0 m 5 ls [.null]) rfl ?_
    refine lv_astoreN (lv' := [(4, .null), (0, .ref (xA x 0)), (1, .int (k)), (2, .int (t)), (3, .int (d))]) hx hb dX4_emptied_5 hl (by decide) rfl (fun ls hl => ?_)
    refine lv_aloadN hx hb dX4_emptied_7 (lv_at hl 0 rfl) ?_
    refine lv_ifnullN (tgt := 29) hx hb dX4_emptied_9 (by decide) ?_
    refine lv_iconst (v := (-1)) hx hb dX4_emptied_29 (by decide) ?_
    subst hQQ
    exact W.iret hx hb hr (fun t9 ht _ => ⟨⟨_, x, rfl, by rw [rowS_0 hbk], hpT ht hP, hD⟩, hS.F ht⟩) hS.2.2 dX4_emptied_30
  | some b =>
    have hbm : b ∈ xB x := by obtain ⟨j, -, -, hj, -⟩ := binAt_s h8 hbk; exact List.mem_of_getElem? hj
    have hBk := hB b hbm
    obtain ⟨⟨hbn, hbp, hbo, hba⟩, hbw, hbg, hbs, hbr, hc1, hc2, hc3, hbam⟩ := id hBk
    have hPb := wX_B hP hbm
    have hPm := va_P.app hPb (va_P.app (wX_C hP) (wX_F hP))
    have hpl2 : ∀ i, i < bN b → bPl b i < 2 ^ 31 := fun i hi => Nat.lt_trans (hbp i hi) (by decide)
    refine cR_q (W.runV (As := [.int (k)]) (rest := []) ⟨hx, hb, hml, hown, hts⟩ (k_binOf_s l g x k b h8 hbk) (cwV 1 hts (gV w_ml_X4_56 w_im_X4_binOf w_sel_X4_binOf w_ini_X4 w_co_X4_binOf) rfl rfl rfl (by decide +kernel) (by rw [hR1, hR2]; exact ⟨Nat.le_of_ble_eq_true rfl, Nat.le_of_ble_eq_true rfl⟩)) (preV_rd hP hK (va_recv hK.1 hP (ci := 4) (q0 := 0) rfl rfl)) rfl rfl hl.1 rfl (lv_room (Nat.le_of_ble_eq_true rfl)) dX4_emptied_2 ⟨by rw [hR3]; omega, by rw [hR4]; omega⟩) ?_
    refine W.eq (g2 := F0 m 5 ls [.ref (bA b 0)]) rfl ?_
    refine lv_astore (lv' := [(4, .ref (bA b 0)), (0, .ref (xA x 0)), (1, .int (k)), (2, .int (t)), (3, .int (d))]) hx hb dX4_emptied_5 hl (by decide) rfl (fun ls hl => ?_)
    refine lv_aload hx hb dX4_emptied_7 (lv_at hl 0 rfl) ?_
    refine lv_ifnull hx hb dX4_emptied_9 ?_
    refine lv_iload_n hx hb dX4_emptied_12 rfl (lv_at hl 3 rfl) ?_
    refine cR_i (W.runS (As := [.int (t)]) (rest := []) ⟨hx, hb, hml, hown, hts⟩ (k_isHour l g t) (va_cwS 1 hts (gS w_ml_X4_60 w_sm_X4_isHour w_ini_X4 w_co_X4_isHour) rfl rfl rfl (by decide +kernel) (by rw [hR1, hR2]; exact ⟨Nat.le_of_ble_eq_true rfl, Nat.le_of_ble_eq_true rfl⟩)) (preS_rd va_P.nil hK) rfl rfl hl.1 rfl (lv_room (Nat.le_of_ble_eq_true rfl)) dX4_emptied_13 ⟨by rw [hR3]; omega, by rw [hR4]; omega⟩) ?_
    refine bb_eq (tgt := 29) hx hb dX4_emptied_16 (by decide) (fun hhc => ?_) (fun hhc => ?_)
    · cases hh : inL 0 9999 t with
      | none =>
        refine lv_iconst (v := (-1)) hx hb dX4_emptied_29 (by decide) ?_
        subst hQQ
        exact W.iret hx hb hr (fun t9 ht _ => ⟨⟨_, x, rfl, by rw [rowS_1 hh], hpT ht hP, hD⟩, hS.F ht⟩) hS.2.2 dX4_emptied_30
      | some h => exact absurd hhc (by rw [(inL_s (by decide) (by decide) hh).2.2.2]; decide)
    · cases hh : inL 0 9999 t with
      | none => exact absurd hhc (by rw [inL_n hh]; decide)
      | some h =>
        obtain ⟨hhl, hhn, hhe, -⟩ := inL_s (by decide) (by decide) hh
        subst hhe
        refine lv_iload_n hx hb dX4_emptied_19 rfl (lv_at hl 4 rfl) ?_
        refine lv_iconst (v := nI (0)) hx hb dX4_emptied_20 (by decide) ?_
        refine lv_ldc (v := 100000) hx hb hown (hts _ w_ct_X4_68) dX4_emptied_21 ?_
        refine tp_i (y := nI 100000) (by decide) ?_
        refine cR_i (W.runS (As := [.int (d), .int (nI (0)), .int (nI (100000))]) (rest := []) ⟨hx, hb, hml, hown, hts⟩ (k_isWithin l g d (nI 0) (nI 100000)) (va_cwS 3 hts (gS w_ml_X4_49 w_sm_X4_isWithin w_ini_X4 w_co_X4_isWithin) rfl rfl rfl (by decide +kernel) (by rw [hR1, hR2]; exact ⟨Nat.le_of_ble_eq_true rfl, Nat.le_of_ble_eq_true rfl⟩)) (preS_rd va_P.nil hK) rfl rfl hl.1 rfl (lv_room (Nat.le_of_ble_eq_true rfl)) dX4_emptied_23 ⟨by rw [hR3]; omega, by rw [hR4]; omega⟩) ?_
        refine bb_ne (tgt := 31) hx hb dX4_emptied_26 (by decide) (fun hic => ?_) (fun hic => ?_)
        · cases hi : inL 0 100000 d with
          | none => exact absurd hic (by rw [inL_n hi]; decide)
          | some v =>
            obtain ⟨hil, hin, hie, -⟩ := inL_s (by decide) (by decide) hi
            subst hie
            obtain ⟨j, hj, ek, hj2, -⟩ := binAt_s h8 hbk
            subst ek
            obtain ⟨i1, i2, i3⟩ := ixB_ok (b := b) (q := 2 * h + 1) hbo
            have hJb : Jok b := ⟨hbn, hbp, hbo, hba⟩
            have hs3 : rowS false x (nI j) (nI h) (nI v) = ((putB false b (2 * h + 1) v).1, xsB x ((xB x).set j (putB false b (2 * h + 1) v).2)) := rowS_3 (row := false) (x := x) (by omega) hbk hh hi
            refine lv_aload hx hb dX4_emptied_31 (lv_at hl 0 rfl) ?_
            refine lv_iload_n hx hb dX4_emptied_33 rfl (lv_at hl 3 rfl) ?_
            refine lv_iload_n hx hb dX4_emptied_34 rfl (lv_at hl 4 rfl) ?_
            rw [wX_split hj2] at hP hD
            by_cases c7 : ixB b (2 * h + 1) < bN b ∧ bPl b (ixB b (2 * h + 1)) = 2 * h + 1
            · have hP3 : va_P g.1 vwCl (wXl g x j ++ (wB g b ++ bw g ((xB x).drop (j + 1)))) _ := hP
              have hD3 : va_D A (wXl g x j ++ (wB g b ++ bw g ((xB x).drop (j + 1)))) := hD
              refine cW_i (w1 := wB g (jB (amB b (ixB b (2 * h + 1)) v) (bN (amB b (ixB b (2 * h + 1)) v)))) (va_runV (As := [.int (nI (h)), .int (nI (v))]) (rest := []) ⟨hx, hb, hml, hown, hts⟩ (k_putEmptying_t l g b h v (2 * h + 1) (ixB b (2 * h + 1)) (by omega) rfl hJb i1 i2 i3 hc1 c7.1 c7.2 (Jok_am hJb (fun e => by rw [show bPl b (ixB b (2 * h + 1)) = 2 * h + 1 from c7.2] at e; omega)) _) (cwV 2 hts (gV w_ml_X4_69 w_im_X0_putEmptying w_sel_X0_putEmptying w_ini_X0 w_co_X0_putEmptying) rfl rfl rfl (by decide +kernel) (by rw [hR1, hR2]; exact ⟨Nat.le_of_ble_eq_true rfl, Nat.le_of_ble_eq_true rfl⟩)) (preV_wr (P_mid hP3) hK (D_mid hD3) (va_recv hK.1 (P_mid hP3) (ci := 0) (q0 := 0) rfl rfl)) rfl rfl hl.1 rfl (lv_room (Nat.le_of_ble_eq_true rfl)) dX4_emptied_35 ⟨by rw [hR3]; omega, by rw [hR4]; omega⟩) hP3 hD3 hS hA rfl (fun H locs hP hD hS => ?_)
              rw [← wX_set (c := (jB (amB b (ixB b (2 * h + 1)) v) (bN (amB b (ixB b (2 * h + 1)) v)))) hj2 rfl] at hP hD
              subst hQQ
              exact W.iret hx hb hr (fun t9 ht _ => ⟨⟨_, xsB x ((xB x).set j (jB (amB b (ixB b (2 * h + 1)) v) (bN (amB b (ixB b (2 * h + 1)) v)))), rfl, by rw [hs3, putB_t c7]; rfl, hpT ht hP, hD⟩, hS.F ht⟩) hS.2.2 dX4_emptied_38
            · by_cases c8 : fullB false b = true
              · have hP3 : va_P g.1 vwCl (wXl g x j ++ (wB g b ++ bw g ((xB x).drop (j + 1)))) _ := hP
                have hD3 : va_D A (wXl g x j ++ (wB g b ++ bw g ((xB x).drop (j + 1)))) := hD
                refine cW_i (w1 := wB g b) (va_runV (As := [.int (nI (h)), .int (nI (v))]) (rest := []) ⟨hx, hb, hml, hown, hts⟩ (k_putEmptying_f l g b h v (2 * h + 1) (ixB b (2 * h + 1)) (by omega) rfl hJb i1 i2 i3 hc1 c7 (of_decide_eq_true c8) _) (cwV 2 hts (gV w_ml_X4_69 w_im_X0_putEmptying w_sel_X0_putEmptying w_ini_X0 w_co_X0_putEmptying) rfl rfl rfl (by decide +kernel) (by rw [hR1, hR2]; exact ⟨Nat.le_of_ble_eq_true rfl, Nat.le_of_ble_eq_true rfl⟩)) (preV_wr (P_mid hP3) hK (D_mid hD3) (va_recv hK.1 (P_mid hP3) (ci := 0) (q0 := 0) rfl rfl)) rfl rfl hl.1 rfl (lv_room (Nat.le_of_ble_eq_true rfl)) dX4_emptied_35 ⟨by rw [hR3]; omega, by rw [hR4]; omega⟩) hP3 hD3 hS hA rfl (fun H locs hP hD hS => ?_)
                rw [← wX_set (c := b) hj2 rfl] at hP hD
                subst hQQ
                exact W.iret hx hb hr (fun t9 ht _ => ⟨⟨_, xsB x ((xB x).set j b), rfl, by rw [hs3, putB_f c7 c8], hpT ht hP, hD⟩, hS.F ht⟩) hS.2.2 dX4_emptied_38
              · have c9 : bN b - bR b < 8 := by have := of_decide_eq_false (Bool.eq_false_iff.mpr c8); omega
                have hJ2 : Jok (amB (opB b (ixB b (2 * h + 1)) (2 * h + 1)) (ixB b (2 * h + 1)) v) := Jok_op hJb (by omega) (by omega) i1 i2 (fun e => by
                  have := i3 e
                  rcases Nat.lt_or_ge (2 * h + 1) (bPl b (ixB b (2 * h + 1))) with z | z
                  · exact z
                  · exact absurd ⟨e, by omega⟩ c7) (fun e => by omega)
                have hP3 : va_P g.1 vwCl (wXl g x j ++ (wB g b ++ bw g ((xB x).drop (j + 1)))) _ := hP
                have hD3 : va_D A (wXl g x j ++ (wB g b ++ bw g ((xB x).drop (j + 1)))) := hD
                refine cW_i (w1 := wB g (jB (amB (opB b (ixB b (2 * h + 1)) (2 * h + 1)) (ixB b (2 * h + 1)) v) (bN (amB (opB b (ixB b (2 * h + 1)) (2 * h + 1)) (ixB b (2 * h + 1)) v)))) (va_runV (As := [.int (nI (h)), .int (nI (v))]) (rest := []) ⟨hx, hb, hml, hown, hts⟩ (k_putEmptying_n l g b h v (2 * h + 1) (ixB b (2 * h + 1)) (by omega) rfl hJb i1 i2 i3 hc1 c7 c9 (by omega) hJ2 _) (cwV 2 hts (gV w_ml_X4_69 w_im_X0_putEmptying w_sel_X0_putEmptying w_ini_X0 w_co_X0_putEmptying) rfl rfl rfl (by decide +kernel) (by rw [hR1, hR2]; exact ⟨Nat.le_of_ble_eq_true rfl, Nat.le_of_ble_eq_true rfl⟩)) (preV_wr (P_mid hP3) hK (D_mid hD3) (va_recv hK.1 (P_mid hP3) (ci := 0) (q0 := 0) rfl rfl)) rfl rfl hl.1 rfl (lv_room (Nat.le_of_ble_eq_true rfl)) dX4_emptied_35 ⟨by rw [hR3]; omega, by rw [hR4]; omega⟩) hP3 hD3 hS hA rfl (fun H locs hP hD hS => ?_)
                rw [← wX_set (c := (jB (amB (opB b (ixB b (2 * h + 1)) (2 * h + 1)) (ixB b (2 * h + 1)) v) (bN (amB (opB b (ixB b (2 * h + 1)) (2 * h + 1)) (ixB b (2 * h + 1)) v)))) hj2 rfl] at hP hD
                subst hQQ
                exact W.iret hx hb hr (fun t9 ht _ => ⟨⟨_, xsB x ((xB x).set j (jB (amB (opB b (ixB b (2 * h + 1)) (2 * h + 1)) (ixB b (2 * h + 1)) v) (bN (amB (opB b (ixB b (2 * h + 1)) (2 * h + 1)) (ixB b (2 * h + 1)) v)))), rfl, by rw [hs3, putB_n c7 c8, show bN b + 1 - bR b = cntB false b + 1 from (by show bN b + 1 - bR b = bN b - bR b + 1; omega)]; rfl, hpT ht hP, hD⟩, hS.F ht⟩) hS.2.2 dX4_emptied_38
        · cases hi : inL 0 100000 d with
          | none =>
            refine lv_iconst (v := (-1)) hx hb dX4_emptied_29 (by decide) ?_
            subst hQQ
            exact W.iret hx hb hr (fun t9 ht _ => ⟨⟨_, x, rfl, by rw [rowS_2 (row := false) hi], hpT ht hP, hD⟩, hS.F ht⟩) hS.2.2 dX4_emptied_30
          | some v => exact absurd hic (by rw [(inL_s (by decide) (by decide) hi).2.2.2]; decide)
end
section
/-! making: rows of numbers, objects by their constructors -/
theorem ra_i {U : State} {c : ClassId} (h : va_RA U c .int) : U.vm.findClass ("[" ++ FieldType.int.toString) = some c := h
theorem ra_z {U : State} {c : ClassId} (h : va_RA U c .boolean) : U.vm.findClass ("[" ++ FieldType.boolean.toString) = some c := h
theorem ra_l {U : State} {c : ClassId} (h : va_RA U c .long) : U.vm.findClass ("[" ++ FieldType.long.toString) = some c := h
theorem ra_o {C : String} {U : State} {c : ClassId} (h : va_RA U c (.object C)) : U.vm.findClass ("[" ++ (FieldType.object C).toString) = some c := by
  obtain ⟨_, _, _, _, _, h⟩ := h
  exact h
section MAKE
variable {p : Program} {l : Launch} {e : Env} {R : Room} {s : State} {m : MethodId} {args : Array Value} {below : List Frame} {meth : Method} {c : Code} {H : Heap} {locs : List Loc} {cells slots : Nat} {Q : State → Prop}
variable {cc : ByteArray} {pc : Nat} {ls : Array Slot} {rest st0 : List Value} {D : va_G} {cl : List vw_C} {tys : List (ClassId × FieldType)} {ws : va_W} {A : Nat → Prop} {H0 : Heap} {a : Array Value}
theorem n_newa (hexec : p.tables.exec = Jvm.exec) (hb : c.code = cc) {atype : ArrayType} {ty : FieldType} (hty : newarray.typeOf atype = ty) (harr : (Cond.arrayClass (newarray.typeOf atype)).before args s = true) (hK : va_K D cl tys s) (hP : va_P D cl ws H) (hD : va_D A ws) (hS : va_S A H0 H locs) (hA : ∀ q, H0.size ≤ q → A q)
    {N : Nat} {a0 : vp_A} (t0 : Nat) {c0 : ClassId} (ht : tys[t0]? = some (c0, ty)) (hra : ∀ {U : State} {c : ClassId}, va_RA U c ty → U.vm.findClass ("[" ++ ty.toString) = some c) (ha : ∀ cA : ClassId, vp_cell cA a0 = arrV cA N (fun _ => defaultValue ty)) (hN : N < 2 ^ 31) (hbytes : N * componentBytes ty ≤ 536870912) (hcells : cells + 1 ≤ R.cells) (hslots : slots + N ≤ R.slots) (hdg : decode cc pc = .ok (.newarray atype, 2))
    (kk : ∀ (q : Nat) (H1 : Heap), va_P D cl (ws ++ [(q, .inl (c0, a0))]) H1 → va_D A (ws ++ [(q, .inl (c0, a0))]) → va_S A H0 H1 locs → W p l e R s m args below meth c H1 locs (cells + 1) (slots + N) Q (F0 m (pc + 2) ls (.ref q :: rest))) : W p l e R s m args below meth c H locs cells slots Q (F0 m pc ls (.int (nI N) :: rest)) :=
  va_newa hexec hb harr hty hK hP hD hS hA ha (nI_pos hN) (nI_clamp hN) hbytes hcells hslots hdg (fun q cA H1 hK1 hP1 hD1 hS1 => by
    have e : cA = c0 := by
      have h1 := hra (hK.2 t0 _ ht).2
      have h2 := hra (hK1.2 tys.length (cA, ty) (by rw [List.getElem?_append_right (Nat.le_refl _), Nat.sub_self]; rfl)).2
      exact Option.some.inj (h2.symm.trans h1)
    subst e
    exact kk q H1 hP1 hD1 hS1)
theorem n_newq (hexec : p.tables.exec = Jvm.exec) (hb : c.code = cc) {own C : String} {index : Nat} (hown : s.vm.findClass own = some m.cls) (hclink : (Cond.classLink own index C).before args s = true) (hover : va_AO C s) (hK : va_K D cl tys s) (hP : va_P D cl ws H) (hD : va_D A ws) (hS : va_S A H0 H locs) (hA : ∀ q, H0.size ≤ q → A q)
    {N : Nat} (t0 : Nat) {c0 : ClassId} (ht : tys[t0]? = some (c0, .object C)) (hN : N < 2 ^ 31) (hbytes : N * 4 ≤ 536870912) (hcells : cells + 1 ≤ R.cells) (hslots : slots + N ≤ R.slots) (hdg : decode cc pc = .ok (.anewarray index, 3))
    (kk : ∀ (q : Nat) (H1 : Heap), va_P D cl (ws ++ [(q, .inl (c0, N, .inr (.inr (.inr (.inr (fun _ => none))))))]) H1 → va_D A (ws ++ [(q, .inl (c0, N, .inr (.inr (.inr (.inr (fun _ => none))))))]) → va_S A H0 H1 locs → W p l e R s m args below meth c H1 locs (cells + 1) (slots + N) Q (F0 m (pc + 3) ls (.ref q :: rest))) : W p l e R s m args below meth c H locs cells slots Q (F0 m pc ls (.int (nI N) :: rest)) :=
  va_newq hexec hb hown hclink hover hK hP hD hS hA (nI_pos hN) (nI_clamp hN) hbytes hcells hslots hdg (fun q cA H1 hK1 hP1 hD1 hS1 => by
    have e : cA = c0 := by
      have h1 := ra_o (hK.2 t0 _ ht).2
      have h2 := ra_o (hK1.2 tys.length (cA, .object C) (by rw [List.getElem?_append_right (Nat.le_refl _), Nat.sub_self]; rfl)).2
      exact Option.some.inj (h2.symm.trans h1)
    subst e
    exact kk q H1 hP1 hD1 hS1)
theorem cN_v {A0 : Nat → Prop} {wl wc wr : va_W} {w1 : (Nat → Nat) → va_W} {q mc ms : Nat} (hr : va_Run p l e R s m args below meth c H locs cells slots mc ms (F0 m pc ls st0) rest (va_Qv (fun u : Nat → Nat => u 0 = q) (fun u t => va_P D cl (w1 u) t.heap ∧ va_D (va_A wc H.size) (w1 u)) (va_A wc H.size) a) (va_A wc H.size)) (hP : va_P D cl (wl ++ (wc ++ wr)) H) (hD : va_D A0 (wl ++ (wc ++ wr))) (hS : va_S A0 H0 H locs) (hA : ∀ q, H0.size ≤ q → A0 q)
    (kk : ∀ (u : Nat → Nat) (H1 : Heap) (locs1 : List Loc), u 0 = q → va_P D cl (wl ++ (w1 u ++ wr)) H1 → va_D A0 (wl ++ (w1 u ++ wr)) → va_S A0 H0 H1 locs1 → W p l e R s m args below meth c H1 locs1 (cells + mc) (slots + ms) Q (F0 m (pc + 3) ls rest)) : W p l e R s m args below meth c H locs cells slots Q (F0 m pc ls st0) :=
  va_callv hr hS (fun q _ h => F_mid hD hS hA q h) (F_mid hD hS hA) (fun u t H1 locs1 ht hvm hu hB hz hk hS1 => by
    obtain ⟨hP2, hD2⟩ := jn3 hP hD hk (F_mid hD hS hA) (by rw [← ht]; exact hB.1) hB.2
    exact kk u H1 locs1 hu hP2 hD2 hS1)
end MAKE
theorem D_perm {A : Nat → Prop} {w1 w2 : va_W} (h : va_D A w1) (hp : w2.Perm w1) : va_D A w2 := by
  rw [D_mem] at h ⊢
  exact ⟨(hp.map _).nodup_iff.mpr h.1, fun q hq => h.2 q (hp.mem_iff.mp hq)⟩
theorem P_perm {D : va_G} {cl : List vw_C} {H : Heap} {w1 w2 : va_W} (h : va_P D cl w1 H) (hp : w2.Perm w1) : va_P D cl w2 H := P_sub h (fun _ hq => hp.mem_iff.mp hq)
abbrev Nv (l : Launch) (y : MethodName) (ws : List Cond) (fr lo mc ms : Nat) (as : List Value) (g : GG) (w : va_W) (sz q : Nat) (w1 : (Nat → Nat) → va_W) : Prop := Met l y ws ⟨fr, mc, ms, lo⟩ (PreW as g w sz) (va_Qv (fun u : Nat → Nat => u 0 = q) (fun u t => va_P g.1 vwCl (w1 u) t.heap ∧ va_D (va_A w sz) (w1 u)) (va_A w sz)) mc ms (va_A w sz)
def ad (l : List Nat) : Nat → Nat := fun k => l.getD k 0
def newB (u : Nat → Nat) (st rm : Nat) : BinT := (u, (st, rm, 0, 0), fun _ => 0, fun _ => 0, fun _ => false, fun _ => some 0)
def newX (u ca fa oa : Nat → Nat) : FT := ((u, ca, fa, oa), fun _ => false, wtU 1 2 (fun _ => 0) 8, fun _ => 0, fun _ => 0, (72, 1, 1), [])
/-- one more bin -/
def binS (x : FT) (k d : Int32) (u : Nat → Nat) : Int32 × FT := if 8 ≤ (xB x).length then (-1, x) else match inL 0 3 k with
  | none => (-1, x)
  | some st => match inL 1 10000 d with
    | none => (-1, x)
    | some rm => (nI (xB x).length, xsB x (xB x ++ [newB u st rm]))
abbrev Nx (l : Launch) (y : MethodName) (ws : List Cond) (fr lo mc ms : Nat) (as : List Value) (g : GG) (w : va_W) (sz q : Nat) : Prop := Met l y ws ⟨fr, mc, ms, lo⟩ (PreW as g w sz) (va_Qv (fun u : FT => xA u 0 = q ∧ ∃ ua ca fa oa, u = newX ua ca fa oa) (fun u t => va_P g.1 vwCl (wX g u) t.heap ∧ va_D (va_A w sz) (wX g u)) (va_A w sz)) mc ms (va_A w sz)
/-- the object's own two cells, with another count and another row of bins -/
def wXk (g : GG) (x : FT) (n : Nat) (f : Nat → Option Nat) : va_W := [(xA x 0, .inr (4, [.ref (xC x 0), .ref (xF x 0), .ref (xO x 0), .ref (xA x 1), .int (nI (n)), .int (nI (xQ x)), .int (nI (xE x)), .int (nI (xL x))])), (xA x 1, .inl (g.2 2, 8, .inr (.inr (.inr (.inr f)))))]
theorem wXk_eq {g : GG} {x : FT} : wXk g x (xB x).length (bRef (xB x)) = wXh g x := rfl
theorem bRef_push {l : List BinT} {b : BinT} : va_up (bRef l) l.length (some (bA b 0)) = bRef (l ++ [b]) := by
  funext k
  unfold va_up bRef
  by_cases h : k = l.length
  · subst h
    rw [if_pos rfl, List.getElem?_append_right (Nat.le_refl _), Nat.sub_self]
    rfl
  · rw [if_neg h]
    rcases Nat.lt_or_ge k l.length with z | z
    · rw [List.getElem?_append_left z]
    · rw [List.getElem?_eq_none z, List.getElem?_eq_none (by rw [List.length_append]; show l.length + 1 ≤ k; omega)]
theorem wX_push {g : GG} {x : FT} {b : BinT} : (wX g (xsB x (xB x ++ [b]))).Perm (wB g b ++ (wXk g x ((xB x).length + 1) (va_up (bRef (xB x)) (xB x).length (some (bA b 0))) ++ (wF g (xF x) (xW x) ++ (wO g (xO x) (xR x) (xS x) ++ (wC g (xC x) (xH x) ++ bw g (xB x)))))) := by
  have e1 : bw g (xB x ++ [b]) = bw g (xB x) ++ wB g b := by
    unfold bw
    rw [List.flatMap_append, List.flatMap_cons, List.flatMap_nil, List.append_nil]
  have e2 : wXh g (xsB x (xB x ++ [b])) = wXk g x ((xB x).length + 1) (va_up (bRef (xB x)) (xB x).length (some (bA b 0))) := by
    have hl : (xB x).length + 1 = (xB x ++ [b]).length := by rw [List.length_append]; rfl
    rw [bRef_push, hl]
    rfl
  have e3 : wX g (xsB x (xB x ++ [b])) = (wXk g x ((xB x).length + 1) (va_up (bRef (xB x)) (xB x).length (some (bA b 0))) ++ (wF g (xF x) (xW x) ++ (wO g (xO x) (xR x) (xS x) ++ (wC g (xC x) (xH x) ++ bw g (xB x))))) ++ wB g b := by
    show wXh g (xsB x (xB x ++ [b])) ++ (wF g (xF x) (xW x) ++ (wO g (xO x) (xR x) (xS x) ++ (wC g (xC x) (xH x) ++ bw g (xB x ++ [b])))) = _
    rw [e1, e2]
    simp only [List.append_assoc]
  rw [e3]
  exact List.perm_append_comm
end
section
set_option maxHeartbeats 4000000 in
set_option maxRecDepth 100000 in
theorem k_Cal_init (l : Launch) (g : GG) (q : Nat) (sz : Nat) : Nv l yX1_init wsX1_init 1 12 1 417 [.ref (q)] g ([(q, .inr (1, [.null]))]) sz q (fun u => wC g u (fun _ => false)) := by
  refine Met.ofW (cc := cX1_init) (maxL := 1) (ret := none) (by decide) rfl ?_
  intro p e s m args below meth c s₁ BB hml hv
  obtain ⟨hargs, hsz, hP, hK, hD0⟩ := hv
  have hx := BB.exec
  have hb := BB.bytes
  have hr := BB.returns
  have hts : ∀ w ∈ BIG, w.before args s = true := fun w h => atoms_spec (ws := wsX1_init) BB.pre w (List.mem_cons_of_mem _ h)
  have hown : s.vm.findClass RX1 = some m.cls := findClass_of_methodNamed BB.named
  have hlocks := BB.notSynchronized
  have hin : meth.name = "<init>" := (name_of_methodNamed BB.named BB.method).1
  obtain ⟨RR, hRR⟩ : ∃ RR, RR = (headSpec wsX1_init ⟨1, 1, 417, 12⟩).room := ⟨_, rfl⟩
  have hR1 : RR.frames = 1 := by rw [hRR]; rfl
  have hR2 : RR.locals = 12 := by rw [hRR]; rfl
  have hR3 : RR.cells = 1 := by rw [hRR]; rfl
  have hR4 : RR.slots = 417 := by rw [hRR]; rfl
  have hl := lv_entry ([.ref (q)]) (n := 1) (Nat.le_of_ble_eq_true rfl)
  have hent : entryFrame m args 1 = F0 m 0 ((lg_sl ([.ref (q)]) ++ List.replicate (1 - (lg_sl ([.ref (q)])).length) Slot.unset).toArray) [] := by rw [hargs, lg_entry_eq]
  rw [hent]
  generalize (lg_sl ([.ref (q)]) ++ List.replicate (1 - (lg_sl ([.ref (q)])).length) Slot.unset).toArray = ls at hl ⊢
  have hl : lv_has ls 1 [(0, .ref (q))] := hl
  subst hsz
  have hD := hD0.self (sz := s.heap.size)
  generalize hAe : va_A ([(q, .inr (1, [.null]))]) s.heap.size = A at hD ⊢
  have hA : ∀ q : Nat, s.heap.size ≤ q → A q := fun q h => by rw [← hAe]; exact Or.inr h
  have hS : va_S A s.heap s.heap [] := va_S.rf
  refine q_ab (R := RR) hRR ?_
  generalize hQQ : MQ below _ args s _ _ _ = QQ
  refine lv_aload_n hx hb dX1_init_0 rfl (lv_at hl 0 rfl) ?_
  refine W.objInit hx hb hown (hts _ w_ml_X1_3) (hts _ w_im_objectInit) (hts _ w_co_objectInit) rfl (by rw [hml]; exact hl.1) rfl dX1_init_1 (by rw [hR1]; exact Nat.le_of_ble_eq_true rfl) (by rw [hR2]; exact Nat.le_of_ble_eq_true rfl) ?_
  refine W.eq (g2 := F0 m 4 ls []) rfl ?_
  refine lv_aload_n hx hb dX1_init_4 rfl (lv_at hl 0 rfl) ?_
  refine lv_sipush (v := nI (417)) hx hb dX1_init_5 (by decide) ?_
  refine n_newa (atype := .boolean) (N := 417) (a0 := (417, .inl (fun _ => bI false))) (ty := .boolean) hx hb rfl (hts _ w_ac_boolean) hK.1 hP hD hS hA 1 rfl ra_z (fun _ => rfl) (by decide) (by decide) (by rw [hR3]; omega) (by rw [hR4]; omega) dX1_init_8 (fun a1 H hP hD hS => ?_)
  have hP : va_P g.1 vwCl ([(q, .inr (1, [.null])), (a1, .inl (g.2 1, 417, .inl (fun _ => bI false)))]) H := hP
  have hD : va_D A ([(q, .inr (1, [.null])), (a1, .inl (g.2 1, 417, .inl (fun _ => bI false)))]) := hD
  refine va_putF (D := g.1) (ci := 1) (v := .ref (a1)) (ty := .array .boolean) (C := RX1) (T := TX1) (N := 1) hx hb hts hiX1 tyX1 tyX1_ok nmX1 hown hK.1 hP hD hS 0 rfl rfl 0 (by decide) (hts _ w_fl_X1_9) (fun _ h9 => h9) rfl hin rfl (by decide +kernel) rfl rfl (Nat.le_of_ble_eq_true rfl) dX1_init_10 (fun H locs hP hD hS => ?_)
  have hP : va_P g.1 vwCl ([(q, .inr (1, [.ref (a1)])), (a1, .inl (g.2 1, 417, .inl (fun _ => bI false)))]) H := hP
  have hD : va_D A ([(q, .inr (1, [.ref (a1)])), (a1, .inl (g.2 1, 417, .inl (fun _ => bI false)))]) := hD
  subst hQQ
  exact W.vret hx hb hr (fun t9 ht _ => ⟨⟨ad [q, a1], rfl, rfl, hpT ht hP, hD⟩, hS.F ht⟩) hS.2.2 dX1_init_13

set_option maxHeartbeats 4000000 in
set_option maxRecDepth 100000 in
theorem k_Fad_init (l : Launch) (g : GG) (q : Nat) (sz : Nat) : Nv l yX2_init wsX2_init 1 25 1 8 [.ref (q)] g ([(q, .inr (2, [.null]))]) sz q (fun u => wF g u (wtU 1 2 (fun _ => 0) 8)) := by
  refine Met.ofW (cc := cX2_init) (maxL := 1) (ret := none) (by decide) rfl ?_
  intro p e s m args below meth c s₁ BB hml hv
  obtain ⟨hargs, hsz, hP, hK, hD0⟩ := hv
  have hx := BB.exec
  have hb := BB.bytes
  have hr := BB.returns
  have hts : ∀ w ∈ BIG, w.before args s = true := fun w h => atoms_spec (ws := wsX2_init) BB.pre w (List.mem_cons_of_mem _ h)
  have hown : s.vm.findClass RX2 = some m.cls := findClass_of_methodNamed BB.named
  have hlocks := BB.notSynchronized
  have hin : meth.name = "<init>" := (name_of_methodNamed BB.named BB.method).1
  obtain ⟨RR, hRR⟩ : ∃ RR, RR = (headSpec wsX2_init ⟨1, 1, 8, 25⟩).room := ⟨_, rfl⟩
  have hR1 : RR.frames = 1 := by rw [hRR]; rfl
  have hR2 : RR.locals = 25 := by rw [hRR]; rfl
  have hR3 : RR.cells = 1 := by rw [hRR]; rfl
  have hR4 : RR.slots = 8 := by rw [hRR]; rfl
  have hl := lv_entry ([.ref (q)]) (n := 1) (Nat.le_of_ble_eq_true rfl)
  have hent : entryFrame m args 1 = F0 m 0 ((lg_sl ([.ref (q)]) ++ List.replicate (1 - (lg_sl ([.ref (q)])).length) Slot.unset).toArray) [] := by rw [hargs, lg_entry_eq]
  rw [hent]
  generalize (lg_sl ([.ref (q)]) ++ List.replicate (1 - (lg_sl ([.ref (q)])).length) Slot.unset).toArray = ls at hl ⊢
  have hl : lv_has ls 1 [(0, .ref (q))] := hl
  subst hsz
  have hD := hD0.self (sz := s.heap.size)
  generalize hAe : va_A ([(q, .inr (2, [.null]))]) s.heap.size = A at hD ⊢
  have hA : ∀ q : Nat, s.heap.size ≤ q → A q := fun q h => by rw [← hAe]; exact Or.inr h
  have hS : va_S A s.heap s.heap [] := va_S.rf
  refine q_ab (R := RR) hRR ?_
  generalize hQQ : MQ below _ args s _ _ _ = QQ
  refine lv_aload_n hx hb dX2_init_0 rfl (lv_at hl 0 rfl) ?_
  refine W.objInit hx hb hown (hts _ w_ml_X2_3) (hts _ w_im_objectInit) (hts _ w_co_objectInit) rfl (by rw [hml]; exact hl.1) rfl dX2_init_1 (by rw [hR1]; exact Nat.le_of_ble_eq_true rfl) (by rw [hR2]; exact Nat.le_of_ble_eq_true rfl) ?_
  refine W.eq (g2 := F0 m 4 ls []) rfl ?_
  refine lv_aload_n hx hb dX2_init_4 rfl (lv_at hl 0 rfl) ?_
  refine lv_bipush (v := nI (8)) hx hb dX2_init_5 (by decide) ?_
  refine n_newa (atype := .int) (N := 8) (a0 := (8, .inl (fun _ => nI 0))) (ty := .int) hx hb rfl (hts _ w_ac_int) hK.1 hP hD hS hA 0 rfl ra_i (fun _ => rfl) (by decide) (by decide) (by rw [hR3]; omega) (by rw [hR4]; omega) dX2_init_7 (fun a1 H hP hD hS => ?_)
  have hP : va_P g.1 vwCl ([(q, .inr (2, [.null])), (a1, .inl (g.2 0, 8, .inl (fun _ => nI 0)))]) H := hP
  have hD : va_D A ([(q, .inr (2, [.null])), (a1, .inl (g.2 0, 8, .inl (fun _ => nI 0)))]) := hD
  refine va_putF (D := g.1) (ci := 2) (v := .ref (a1)) (ty := .array .int) (C := RX2) (T := TX2) (N := 1) hx hb hts hiX2 tyX2 tyX2_ok nmX2 hown hK.1 hP hD hS 0 rfl rfl 0 (by decide) (hts _ w_fl_X2_9) (fun _ h9 => h9) rfl hin rfl (by decide +kernel) rfl rfl (Nat.le_of_ble_eq_true rfl) dX2_init_9 (fun H locs hP hD hS => ?_)
  have hP : va_P g.1 vwCl ([(q, .inr (2, [.ref (a1)])), (a1, .inl (g.2 0, 8, .inl (fun _ => nI 0)))]) H := hP
  have hD : va_D A ([(q, .inr (2, [.ref (a1)])), (a1, .inl (g.2 0, 8, .inl (fun _ => nI 0)))]) := hD
  refine lv_aload_n hx hb dX2_init_12 rfl (lv_at hl 0 rfl) ?_
  refine lv_iconst (v := nI (1)) hx hb dX2_init_13 (by decide) ?_
  refine lv_iconst (v := nI (2)) hx hb dX2_init_14 (by decide) ?_
  have hP : va_P g.1 vwCl (wF g (ad [q, a1]) (fun _ => 0)) H := hP
  have hD : va_D A (wF g (ad [q, a1]) (fun _ => 0)) := hD
  refine cW0_v (wc := wF g (ad [q, a1]) (fun _ => 0)) (w1 := wF g (ad [q, a1]) (wtU 1 2 (fun _ => 0) 8)) (va_runV (As := [.int (nI (1)), .int (nI (2))]) (rest := []) ⟨hx, hb, hml, hown, hts⟩ (k_setTo l g (ad [q, a1]) (fun _ => 0) 1 2 (by decide) (by decide) _) (cwV 2 hts (gV w_ml_X2_15 w_im_X2_setTo w_sel_X2_setTo w_ini_X2 w_co_X2_setTo) rfl rfl rfl (by decide +kernel) (by rw [hR1, hR2]; exact ⟨Nat.le_of_ble_eq_true rfl, Nat.le_of_ble_eq_true rfl⟩)) (preV_wr hP hK hD (va_recv hK.1 hP (ci := 2) (q0 := 0) rfl rfl)) rfl rfl hl.1 rfl (lv_room (Nat.le_of_ble_eq_true rfl)) dX2_init_15 ⟨by rw [hR3]; omega, by rw [hR4]; omega⟩) hP hD hS hA rfl (fun H locs hP hD hS => ?_)
  subst hQQ
  exact W.vret hx hb hr (fun t9 ht _ => ⟨⟨ad [q, a1], rfl, rfl, hpT ht hP, hD⟩, hS.F ht⟩) hS.2.2 dX2_init_18

set_option maxHeartbeats 4000000 in
set_option maxRecDepth 100000 in
theorem k_Out_init (l : Launch) (g : GG) (q : Nat) (sz : Nat) : Nv l yX3_init wsX3_init 1 12 2 425 [.ref (q)] g ([(q, .inr (3, [.null, .null]))]) sz q (fun u => wO g u (fun _ => 0) (fun _ => 0)) := by
  refine Met.ofW (cc := cX3_init) (maxL := 1) (ret := none) (by decide) rfl ?_
  intro p e s m args below meth c s₁ BB hml hv
  obtain ⟨hargs, hsz, hP, hK, hD0⟩ := hv
  have hx := BB.exec
  have hb := BB.bytes
  have hr := BB.returns
  have hts : ∀ w ∈ BIG, w.before args s = true := fun w h => atoms_spec (ws := wsX3_init) BB.pre w (List.mem_cons_of_mem _ h)
  have hown : s.vm.findClass RX3 = some m.cls := findClass_of_methodNamed BB.named
  have hlocks := BB.notSynchronized
  have hin : meth.name = "<init>" := (name_of_methodNamed BB.named BB.method).1
  obtain ⟨RR, hRR⟩ : ∃ RR, RR = (headSpec wsX3_init ⟨1, 2, 425, 12⟩).room := ⟨_, rfl⟩
  have hR1 : RR.frames = 1 := by rw [hRR]; rfl
  have hR2 : RR.locals = 12 := by rw [hRR]; rfl
  have hR3 : RR.cells = 2 := by rw [hRR]; rfl
  have hR4 : RR.slots = 425 := by rw [hRR]; rfl
  have hl := lv_entry ([.ref (q)]) (n := 1) (Nat.le_of_ble_eq_true rfl)
  have hent : entryFrame m args 1 = F0 m 0 ((lg_sl ([.ref (q)]) ++ List.replicate (1 - (lg_sl ([.ref (q)])).length) Slot.unset).toArray) [] := by rw [hargs, lg_entry_eq]
  rw [hent]
  generalize (lg_sl ([.ref (q)]) ++ List.replicate (1 - (lg_sl ([.ref (q)])).length) Slot.unset).toArray = ls at hl ⊢
  have hl : lv_has ls 1 [(0, .ref (q))] := hl
  subst hsz
  have hD := hD0.self (sz := s.heap.size)
  generalize hAe : va_A ([(q, .inr (3, [.null, .null]))]) s.heap.size = A at hD ⊢
  have hA : ∀ q : Nat, s.heap.size ≤ q → A q := fun q h => by rw [← hAe]; exact Or.inr h
  have hS : va_S A s.heap s.heap [] := va_S.rf
  refine q_ab (R := RR) hRR ?_
  generalize hQQ : MQ below _ args s _ _ _ = QQ
  refine lv_aload_n hx hb dX3_init_0 rfl (lv_at hl 0 rfl) ?_
  refine W.objInit hx hb hown (hts _ w_ml_X3_3) (hts _ w_im_objectInit) (hts _ w_co_objectInit) rfl (by rw [hml]; exact hl.1) rfl dX3_init_1 (by rw [hR1]; exact Nat.le_of_ble_eq_true rfl) (by rw [hR2]; exact Nat.le_of_ble_eq_true rfl) ?_
  refine W.eq (g2 := F0 m 4 ls []) rfl ?_
  refine lv_aload_n hx hb dX3_init_4 rfl (lv_at hl 0 rfl) ?_
  refine lv_bipush (v := nI (7)) hx hb dX3_init_5 (by decide) ?_
  refine n_newa (atype := .int) (N := 7) (a0 := (7, .inl (fun _ => nI 0))) (ty := .int) hx hb rfl (hts _ w_ac_int) hK.1 hP hD hS hA 0 rfl ra_i (fun _ => rfl) (by decide) (by decide) (by rw [hR3]; omega) (by rw [hR4]; omega) dX3_init_7 (fun a1 H hP hD hS => ?_)
  have hP : va_P g.1 vwCl ([(q, .inr (3, [.null, .null])), (a1, .inl (g.2 0, 7, .inl (fun _ => nI 0)))]) H := hP
  have hD : va_D A ([(q, .inr (3, [.null, .null])), (a1, .inl (g.2 0, 7, .inl (fun _ => nI 0)))]) := hD
  refine va_putF (D := g.1) (ci := 3) (v := .ref (a1)) (ty := .array .int) (C := RX3) (T := TX3) (N := 2) hx hb hts hiX3 tyX3 tyX3_ok nmX3 hown hK.1 hP hD hS 0 rfl rfl 0 (by decide) (hts _ w_fl_X3_9) (fun _ h9 => h9) rfl hin rfl (by decide +kernel) rfl rfl (Nat.le_of_ble_eq_true rfl) dX3_init_9 (fun H locs hP hD hS => ?_)
  have hP : va_P g.1 vwCl ([(q, .inr (3, [.ref (a1), .null])), (a1, .inl (g.2 0, 7, .inl (fun _ => nI 0)))]) H := hP
  have hD : va_D A ([(q, .inr (3, [.ref (a1), .null])), (a1, .inl (g.2 0, 7, .inl (fun _ => nI 0)))]) := hD
  refine lv_aload_n hx hb dX3_init_12 rfl (lv_at hl 0 rfl) ?_
  refine lv_sipush (v := nI (418)) hx hb dX3_init_13 (by decide) ?_
  refine n_newa (atype := .int) (N := 418) (a0 := (418, .inl (fun _ => nI 0))) (ty := .int) hx hb rfl (hts _ w_ac_int) hK.1 hP hD hS hA 0 rfl ra_i (fun _ => rfl) (by decide) (by decide) (by rw [hR3]; omega) (by rw [hR4]; omega) dX3_init_16 (fun a2 H hP hD hS => ?_)
  have hP : va_P g.1 vwCl ([(q, .inr (3, [.ref (a1), .null])), (a1, .inl (g.2 0, 7, .inl (fun _ => nI 0))), (a2, .inl (g.2 0, 418, .inl (fun _ => nI 0)))]) H := hP
  have hD : va_D A ([(q, .inr (3, [.ref (a1), .null])), (a1, .inl (g.2 0, 7, .inl (fun _ => nI 0))), (a2, .inl (g.2 0, 418, .inl (fun _ => nI 0)))]) := hD
  refine va_putF (D := g.1) (ci := 3) (v := .ref (a2)) (ty := .array .int) (C := RX3) (T := TX3) (N := 2) hx hb hts hiX3 tyX3 tyX3_ok nmX3 hown hK.1 hP hD hS 0 rfl rfl 1 (by decide) (hts _ w_fl_X3_15) (fun _ h9 => h9) rfl hin rfl (by decide +kernel) rfl rfl (Nat.le_of_ble_eq_true rfl) dX3_init_18 (fun H locs hP hD hS => ?_)
  have hP : va_P g.1 vwCl ([(q, .inr (3, [.ref (a1), .ref (a2)])), (a1, .inl (g.2 0, 7, .inl (fun _ => nI 0))), (a2, .inl (g.2 0, 418, .inl (fun _ => nI 0)))]) H := hP
  have hD : va_D A ([(q, .inr (3, [.ref (a1), .ref (a2)])), (a1, .inl (g.2 0, 7, .inl (fun _ => nI 0))), (a2, .inl (g.2 0, 418, .inl (fun _ => nI 0)))]) := hD
  subst hQQ
  exact W.vret hx hb hr (fun t9 ht _ => ⟨⟨ad [q, a1, a2], rfl, rfl, hpT ht hP, hD⟩, hS.F ht⟩) hS.2.2 dX3_init_21
end
section
set_option maxHeartbeats 4000000 in
set_option maxRecDepth 100000 in
theorem k_Bin_init (l : Launch) (g : GG) (q st rm : Nat) (sz : Nat) : Nv l yX0_init wsX0_init 1 12 4 128 [.ref (q), .int (nI (st)), .int (nI (rm))] g ([(q, .inr (0, [.int 0, .int 0, .null, .null, .null, .null, .int 0, .int 0]))]) sz q (fun u => wB g (newB u st rm)) := by
  refine Met.ofW (cc := cX0_init) (maxL := 3) (ret := none) (by decide) rfl ?_
  intro p e s m args below meth c s₁ BB hml hv
  obtain ⟨hargs, hsz, hP, hK, hD0⟩ := hv
  have hx := BB.exec
  have hb := BB.bytes
  have hr := BB.returns
  have hts : ∀ w ∈ BIG, w.before args s = true := fun w h => atoms_spec (ws := wsX0_init) BB.pre w (List.mem_cons_of_mem _ h)
  have hown : s.vm.findClass RX0 = some m.cls := findClass_of_methodNamed BB.named
  have hlocks := BB.notSynchronized
  have hin : meth.name = "<init>" := (name_of_methodNamed BB.named BB.method).1
  obtain ⟨RR, hRR⟩ : ∃ RR, RR = (headSpec wsX0_init ⟨1, 4, 128, 12⟩).room := ⟨_, rfl⟩
  have hR1 : RR.frames = 1 := by rw [hRR]; rfl
  have hR2 : RR.locals = 12 := by rw [hRR]; rfl
  have hR3 : RR.cells = 4 := by rw [hRR]; rfl
  have hR4 : RR.slots = 128 := by rw [hRR]; rfl
  have hl := lv_entry ([.ref (q), .int (nI (st)), .int (nI (rm))]) (n := 3) (Nat.le_of_ble_eq_true rfl)
  have hent : entryFrame m args 3 = F0 m 0 ((lg_sl ([.ref (q), .int (nI (st)), .int (nI (rm))]) ++ List.replicate (3 - (lg_sl ([.ref (q), .int (nI (st)), .int (nI (rm))])).length) Slot.unset).toArray) [] := by rw [hargs, lg_entry_eq]
  rw [hent]
  generalize (lg_sl ([.ref (q), .int (nI (st)), .int (nI (rm))]) ++ List.replicate (3 - (lg_sl ([.ref (q), .int (nI (st)), .int (nI (rm))])).length) Slot.unset).toArray = ls at hl ⊢
  have hl : lv_has ls 3 [(0, .ref (q)), (1, .int (nI (st))), (2, .int (nI (rm)))] := hl
  subst hsz
  have hD := hD0.self (sz := s.heap.size)
  generalize hAe : va_A ([(q, .inr (0, [.int 0, .int 0, .null, .null, .null, .null, .int 0, .int 0]))]) s.heap.size = A at hD ⊢
  have hA : ∀ q : Nat, s.heap.size ≤ q → A q := fun q h => by rw [← hAe]; exact Or.inr h
  have hS : va_S A s.heap s.heap [] := va_S.rf
  refine q_ab (R := RR) hRR ?_
  generalize hQQ : MQ below _ args s _ _ _ = QQ
  refine lv_aload_n hx hb dX0_init_0 rfl (lv_at hl 0 rfl) ?_
  refine W.objInit hx hb hown (hts _ w_ml_X0_5) (hts _ w_im_objectInit) (hts _ w_co_objectInit) rfl (by rw [hml]; exact hl.1) rfl dX0_init_1 (by rw [hR1]; exact Nat.le_of_ble_eq_true rfl) (by rw [hR2]; exact Nat.le_of_ble_eq_true rfl) ?_
  refine W.eq (g2 := F0 m 4 ls []) rfl ?_
  refine lv_aload_n hx hb dX0_init_4 rfl (lv_at hl 0 rfl) ?_
  refine lv_iload_n hx hb dX0_init_5 rfl (lv_at hl 1 rfl) ?_
  refine va_putF (D := g.1) (ci := 0) (v := .int (nI (st))) (ty := .int) (C := RX0) (T := TX0) (N := 8) hx hb hts hiX0 tyX0 tyX0_ok nmX0 hown hK.1 hP hD hS 0 rfl rfl 0 (by decide) (hts _ w_fl_X0_11) (fun _ h9 => h9) rfl hin rfl (by decide +kernel) rfl rfl (Nat.le_of_ble_eq_true rfl) dX0_init_6 (fun H locs hP hD hS => ?_)
  have hP : va_P g.1 vwCl ([(q, .inr (0, [.int (nI (st)), .int 0, .null, .null, .null, .null, .int 0, .int 0]))]) H := hP
  have hD : va_D A ([(q, .inr (0, [.int (nI (st)), .int 0, .null, .null, .null, .null, .int 0, .int 0]))]) := hD
  refine lv_aload_n hx hb dX0_init_9 rfl (lv_at hl 0 rfl) ?_
  refine lv_iload_n hx hb dX0_init_10 rfl (lv_at hl 2 rfl) ?_
  refine va_putF (D := g.1) (ci := 0) (v := .int (nI (rm))) (ty := .int) (C := RX0) (T := TX0) (N := 8) hx hb hts hiX0 tyX0 tyX0_ok nmX0 hown hK.1 hP hD hS 0 rfl rfl 1 (by decide) (hts _ w_fl_X0_15) (fun _ h9 => h9) rfl hin rfl (by decide +kernel) rfl rfl (Nat.le_of_ble_eq_true rfl) dX0_init_11 (fun H locs hP hD hS => ?_)
  have hP : va_P g.1 vwCl ([(q, .inr (0, [.int (nI (st)), .int (nI (rm)), .null, .null, .null, .null, .int 0, .int 0]))]) H := hP
  have hD : va_D A ([(q, .inr (0, [.int (nI (st)), .int (nI (rm)), .null, .null, .null, .null, .int 0, .int 0]))]) := hD
  refine lv_aload_n hx hb dX0_init_14 rfl (lv_at hl 0 rfl) ?_
  refine lv_bipush (v := nI (32)) hx hb dX0_init_15 (by decide) ?_
  refine n_newa (atype := .int) (N := 32) (a0 := (32, .inl (fun _ => nI 0))) (ty := .int) hx hb rfl (hts _ w_ac_int) hK.1 hP hD hS hA 0 rfl ra_i (fun _ => rfl) (by decide) (by decide) (by rw [hR3]; omega) (by rw [hR4]; omega) dX0_init_17 (fun a1 H hP hD hS => ?_)
  have hP : va_P g.1 vwCl ([(q, .inr (0, [.int (nI (st)), .int (nI (rm)), .null, .null, .null, .null, .int 0, .int 0])), (a1, .inl (g.2 0, 32, .inl (fun _ => nI 0)))]) H := hP
  have hD : va_D A ([(q, .inr (0, [.int (nI (st)), .int (nI (rm)), .null, .null, .null, .null, .int 0, .int 0])), (a1, .inl (g.2 0, 32, .inl (fun _ => nI 0)))]) := hD
  refine va_putF (D := g.1) (ci := 0) (v := .ref (a1)) (ty := .array .int) (C := RX0) (T := TX0) (N := 8) hx hb hts hiX0 tyX0 tyX0_ok nmX0 hown hK.1 hP hD hS 0 rfl rfl 2 (by decide) (hts _ w_fl_X0_18) (fun _ h9 => h9) rfl hin rfl (by decide +kernel) rfl rfl (Nat.le_of_ble_eq_true rfl) dX0_init_19 (fun H locs hP hD hS => ?_)
  have hP : va_P g.1 vwCl ([(q, .inr (0, [.int (nI (st)), .int (nI (rm)), .ref (a1), .null, .null, .null, .int 0, .int 0])), (a1, .inl (g.2 0, 32, .inl (fun _ => nI 0)))]) H := hP
  have hD : va_D A ([(q, .inr (0, [.int (nI (st)), .int (nI (rm)), .ref (a1), .null, .null, .null, .int 0, .int 0])), (a1, .inl (g.2 0, 32, .inl (fun _ => nI 0)))]) := hD
  refine lv_aload_n hx hb dX0_init_22 rfl (lv_at hl 0 rfl) ?_
  refine lv_bipush (v := nI (32)) hx hb dX0_init_23 (by decide) ?_
  refine n_newa (atype := .int) (N := 32) (a0 := (32, .inl (fun _ => nI 0))) (ty := .int) hx hb rfl (hts _ w_ac_int) hK.1 hP hD hS hA 0 rfl ra_i (fun _ => rfl) (by decide) (by decide) (by rw [hR3]; omega) (by rw [hR4]; omega) dX0_init_25 (fun a2 H hP hD hS => ?_)
  have hP : va_P g.1 vwCl ([(q, .inr (0, [.int (nI (st)), .int (nI (rm)), .ref (a1), .null, .null, .null, .int 0, .int 0])), (a1, .inl (g.2 0, 32, .inl (fun _ => nI 0))), (a2, .inl (g.2 0, 32, .inl (fun _ => nI 0)))]) H := hP
  have hD : va_D A ([(q, .inr (0, [.int (nI (st)), .int (nI (rm)), .ref (a1), .null, .null, .null, .int 0, .int 0])), (a1, .inl (g.2 0, 32, .inl (fun _ => nI 0))), (a2, .inl (g.2 0, 32, .inl (fun _ => nI 0)))]) := hD
  refine va_putF (D := g.1) (ci := 0) (v := .ref (a2)) (ty := .array .int) (C := RX0) (T := TX0) (N := 8) hx hb hts hiX0 tyX0 tyX0_ok nmX0 hown hK.1 hP hD hS 0 rfl rfl 3 (by decide) (hts _ w_fl_X0_22) (fun _ h9 => h9) rfl hin rfl (by decide +kernel) rfl rfl (Nat.le_of_ble_eq_true rfl) dX0_init_27 (fun H locs hP hD hS => ?_)
  have hP : va_P g.1 vwCl ([(q, .inr (0, [.int (nI (st)), .int (nI (rm)), .ref (a1), .ref (a2), .null, .null, .int 0, .int 0])), (a1, .inl (g.2 0, 32, .inl (fun _ => nI 0))), (a2, .inl (g.2 0, 32, .inl (fun _ => nI 0)))]) H := hP
  have hD : va_D A ([(q, .inr (0, [.int (nI (st)), .int (nI (rm)), .ref (a1), .ref (a2), .null, .null, .int 0, .int 0])), (a1, .inl (g.2 0, 32, .inl (fun _ => nI 0))), (a2, .inl (g.2 0, 32, .inl (fun _ => nI 0)))]) := hD
  refine lv_aload_n hx hb dX0_init_30 rfl (lv_at hl 0 rfl) ?_
  refine lv_bipush (v := nI (32)) hx hb dX0_init_31 (by decide) ?_
  refine n_newa (atype := .boolean) (N := 32) (a0 := (32, .inl (fun _ => bI false))) (ty := .boolean) hx hb rfl (hts _ w_ac_boolean) hK.1 hP hD hS hA 1 rfl ra_z (fun _ => rfl) (by decide) (by decide) (by rw [hR3]; omega) (by rw [hR4]; omega) dX0_init_33 (fun a3 H hP hD hS => ?_)
  have hP : va_P g.1 vwCl ([(q, .inr (0, [.int (nI (st)), .int (nI (rm)), .ref (a1), .ref (a2), .null, .null, .int 0, .int 0])), (a1, .inl (g.2 0, 32, .inl (fun _ => nI 0))), (a2, .inl (g.2 0, 32, .inl (fun _ => nI 0))), (a3, .inl (g.2 1, 32, .inl (fun _ => bI false)))]) H := hP
  have hD : va_D A ([(q, .inr (0, [.int (nI (st)), .int (nI (rm)), .ref (a1), .ref (a2), .null, .null, .int 0, .int 0])), (a1, .inl (g.2 0, 32, .inl (fun _ => nI 0))), (a2, .inl (g.2 0, 32, .inl (fun _ => nI 0))), (a3, .inl (g.2 1, 32, .inl (fun _ => bI false)))]) := hD
  refine va_putF (D := g.1) (ci := 0) (v := .ref (a3)) (ty := .array .boolean) (C := RX0) (T := TX0) (N := 8) hx hb hts hiX0 tyX0 tyX0_ok nmX0 hown hK.1 hP hD hS 0 rfl rfl 4 (by decide) (hts _ w_fl_X0_25) (fun _ h9 => h9) rfl hin rfl (by decide +kernel) rfl rfl (Nat.le_of_ble_eq_true rfl) dX0_init_35 (fun H locs hP hD hS => ?_)
  have hP : va_P g.1 vwCl ([(q, .inr (0, [.int (nI (st)), .int (nI (rm)), .ref (a1), .ref (a2), .ref (a3), .null, .int 0, .int 0])), (a1, .inl (g.2 0, 32, .inl (fun _ => nI 0))), (a2, .inl (g.2 0, 32, .inl (fun _ => nI 0))), (a3, .inl (g.2 1, 32, .inl (fun _ => bI false)))]) H := hP
  have hD : va_D A ([(q, .inr (0, [.int (nI (st)), .int (nI (rm)), .ref (a1), .ref (a2), .ref (a3), .null, .int 0, .int 0])), (a1, .inl (g.2 0, 32, .inl (fun _ => nI 0))), (a2, .inl (g.2 0, 32, .inl (fun _ => nI 0))), (a3, .inl (g.2 1, 32, .inl (fun _ => bI false)))]) := hD
  refine lv_aload_n hx hb dX0_init_38 rfl (lv_at hl 0 rfl) ?_
  refine lv_bipush (v := nI (32)) hx hb dX0_init_39 (by decide) ?_
  refine n_newa (atype := .int) (N := 32) (a0 := (32, .inl (fun _ => gI (some 0)))) (ty := .int) hx hb rfl (hts _ w_ac_int) hK.1 hP hD hS hA 0 rfl ra_i (fun _ => rfl) (by decide) (by decide) (by rw [hR3]; omega) (by rw [hR4]; omega) dX0_init_41 (fun a4 H hP hD hS => ?_)
  have hP : va_P g.1 vwCl ([(q, .inr (0, [.int (nI (st)), .int (nI (rm)), .ref (a1), .ref (a2), .ref (a3), .null, .int 0, .int 0])), (a1, .inl (g.2 0, 32, .inl (fun _ => nI 0))), (a2, .inl (g.2 0, 32, .inl (fun _ => nI 0))), (a3, .inl (g.2 1, 32, .inl (fun _ => bI false))), (a4, .inl (g.2 0, 32, .inl (fun _ => gI (some 0))))]) H := hP
  have hD : va_D A ([(q, .inr (0, [.int (nI (st)), .int (nI (rm)), .ref (a1), .ref (a2), .ref (a3), .null, .int 0, .int 0])), (a1, .inl (g.2 0, 32, .inl (fun _ => nI 0))), (a2, .inl (g.2 0, 32, .inl (fun _ => nI 0))), (a3, .inl (g.2 1, 32, .inl (fun _ => bI false))), (a4, .inl (g.2 0, 32, .inl (fun _ => gI (some 0))))]) := hD
  refine va_putF (D := g.1) (ci := 0) (v := .ref (a4)) (ty := .array .int) (C := RX0) (T := TX0) (N := 8) hx hb hts hiX0 tyX0 tyX0_ok nmX0 hown hK.1 hP hD hS 0 rfl rfl 5 (by decide) (hts _ w_fl_X0_29) (fun _ h9 => h9) rfl hin rfl (by decide +kernel) rfl rfl (Nat.le_of_ble_eq_true rfl) dX0_init_43 (fun H locs hP hD hS => ?_)
  have hP : va_P g.1 vwCl ([(q, .inr (0, [.int (nI (st)), .int (nI (rm)), .ref (a1), .ref (a2), .ref (a3), .ref (a4), .int 0, .int 0])), (a1, .inl (g.2 0, 32, .inl (fun _ => nI 0))), (a2, .inl (g.2 0, 32, .inl (fun _ => nI 0))), (a3, .inl (g.2 1, 32, .inl (fun _ => bI false))), (a4, .inl (g.2 0, 32, .inl (fun _ => gI (some 0))))]) H := hP
  have hD : va_D A ([(q, .inr (0, [.int (nI (st)), .int (nI (rm)), .ref (a1), .ref (a2), .ref (a3), .ref (a4), .int 0, .int 0])), (a1, .inl (g.2 0, 32, .inl (fun _ => nI 0))), (a2, .inl (g.2 0, 32, .inl (fun _ => nI 0))), (a3, .inl (g.2 1, 32, .inl (fun _ => bI false))), (a4, .inl (g.2 0, 32, .inl (fun _ => gI (some 0))))]) := hD
  refine lv_aload_n hx hb dX0_init_46 rfl (lv_at hl 0 rfl) ?_
  refine lv_iconst (v := nI (0)) hx hb dX0_init_47 (by decide) ?_
  refine va_put (D := g.1) (ci := 0) (v := .int (nI (0))) (ty := .int) (C := RX0) (T := TX0) (N := 8) hx hb hts hiX0 tyX0 tyX0_ok nmX0 hown hK.1 hP hD hS 0 rfl rfl 6 (by decide) (hts _ w_fl_X0_32) (fun _ h9 => h9) rfl (by decide +kernel) rfl rfl (Nat.le_of_ble_eq_true rfl) dX0_init_48 (fun H locs hP hD hS => ?_)
  have hP : va_P g.1 vwCl ([(q, .inr (0, [.int (nI (st)), .int (nI (rm)), .ref (a1), .ref (a2), .ref (a3), .ref (a4), .int (nI (0)), .int 0])), (a1, .inl (g.2 0, 32, .inl (fun _ => nI 0))), (a2, .inl (g.2 0, 32, .inl (fun _ => nI 0))), (a3, .inl (g.2 1, 32, .inl (fun _ => bI false))), (a4, .inl (g.2 0, 32, .inl (fun _ => gI (some 0))))]) H := hP
  have hD : va_D A ([(q, .inr (0, [.int (nI (st)), .int (nI (rm)), .ref (a1), .ref (a2), .ref (a3), .ref (a4), .int (nI (0)), .int 0])), (a1, .inl (g.2 0, 32, .inl (fun _ => nI 0))), (a2, .inl (g.2 0, 32, .inl (fun _ => nI 0))), (a3, .inl (g.2 1, 32, .inl (fun _ => bI false))), (a4, .inl (g.2 0, 32, .inl (fun _ => gI (some 0))))]) := hD
  refine lv_aload_n hx hb dX0_init_51 rfl (lv_at hl 0 rfl) ?_
  refine lv_iconst (v := nI (0)) hx hb dX0_init_52 (by decide) ?_
  refine va_put (D := g.1) (ci := 0) (v := .int (nI (0))) (ty := .int) (C := RX0) (T := TX0) (N := 8) hx hb hts hiX0 tyX0 tyX0_ok nmX0 hown hK.1 hP hD hS 0 rfl rfl 7 (by decide) (hts _ w_fl_X0_35) (fun _ h9 => h9) rfl (by decide +kernel) rfl rfl (Nat.le_of_ble_eq_true rfl) dX0_init_53 (fun H locs hP hD hS => ?_)
  have hP : va_P g.1 vwCl ([(q, .inr (0, [.int (nI (st)), .int (nI (rm)), .ref (a1), .ref (a2), .ref (a3), .ref (a4), .int (nI (0)), .int (nI (0))])), (a1, .inl (g.2 0, 32, .inl (fun _ => nI 0))), (a2, .inl (g.2 0, 32, .inl (fun _ => nI 0))), (a3, .inl (g.2 1, 32, .inl (fun _ => bI false))), (a4, .inl (g.2 0, 32, .inl (fun _ => gI (some 0))))]) H := hP
  have hD : va_D A ([(q, .inr (0, [.int (nI (st)), .int (nI (rm)), .ref (a1), .ref (a2), .ref (a3), .ref (a4), .int (nI (0)), .int (nI (0))])), (a1, .inl (g.2 0, 32, .inl (fun _ => nI 0))), (a2, .inl (g.2 0, 32, .inl (fun _ => nI 0))), (a3, .inl (g.2 1, 32, .inl (fun _ => bI false))), (a4, .inl (g.2 0, 32, .inl (fun _ => gI (some 0))))]) := hD
  subst hQQ
  exact W.vret hx hb hr (fun t9 ht _ => ⟨⟨ad [q, a1, a2, a3, a4], rfl, rfl, hpT ht hP, hD⟩, hS.F ht⟩) hS.2.2 dX0_init_56
end
section
set_option maxHeartbeats 4000000 in
set_option maxRecDepth 100000 in
theorem k_X_init (l : Launch) (g : GG) (q : Nat) (sz : Nat) : Nx l yX4_init wsX4_init 2 45 8 862 [.ref (q)] g ([(q, .inr (4, [.null, .null, .null, .null, .int 0, .int 0, .int 0, .int 0]))]) sz q := by
  refine Met.ofW (cc := cX4_init) (maxL := 1) (ret := none) (by decide) rfl ?_
  intro p e s m args below meth c s₁ BB hml hv
  obtain ⟨hargs, hsz, hP, hK, hD0⟩ := hv
  have hx := BB.exec
  have hb := BB.bytes
  have hr := BB.returns
  have hts : ∀ w ∈ BIG, w.before args s = true := fun w h => atoms_spec (ws := wsX4_init) BB.pre w (List.mem_cons_of_mem _ h)
  have hown : s.vm.findClass RX4 = some m.cls := findClass_of_methodNamed BB.named
  have hlocks := BB.notSynchronized
  have hin : meth.name = "<init>" := (name_of_methodNamed BB.named BB.method).1
  obtain ⟨RR, hRR⟩ : ∃ RR, RR = (headSpec wsX4_init ⟨2, 8, 862, 45⟩).room := ⟨_, rfl⟩
  have hR1 : RR.frames = 2 := by rw [hRR]; rfl
  have hR2 : RR.locals = 45 := by rw [hRR]; rfl
  have hR3 : RR.cells = 8 := by rw [hRR]; rfl
  have hR4 : RR.slots = 862 := by rw [hRR]; rfl
  have hl := lv_entry ([.ref (q)]) (n := 1) (Nat.le_of_ble_eq_true rfl)
  have hent : entryFrame m args 1 = F0 m 0 ((lg_sl ([.ref (q)]) ++ List.replicate (1 - (lg_sl ([.ref (q)])).length) Slot.unset).toArray) [] := by rw [hargs, lg_entry_eq]
  rw [hent]
  generalize (lg_sl ([.ref (q)]) ++ List.replicate (1 - (lg_sl ([.ref (q)])).length) Slot.unset).toArray = ls at hl ⊢
  have hl : lv_has ls 1 [(0, .ref (q))] := hl
  subst hsz
  have hD := hD0.self (sz := s.heap.size)
  generalize hAe : va_A ([(q, .inr (4, [.null, .null, .null, .null, .int 0, .int 0, .int 0, .int 0]))]) s.heap.size = A at hD ⊢
  have hA : ∀ q : Nat, s.heap.size ≤ q → A q := fun q h => by rw [← hAe]; exact Or.inr h
  have hS : va_S A s.heap s.heap [] := va_S.rf
  refine q_ab (R := RR) hRR ?_
  generalize hQQ : MQ below _ args s _ _ _ = QQ
  refine lv_aload_n hx hb dX4_init_0 rfl (lv_at hl 0 rfl) ?_
  refine W.objInit hx hb hown (hts _ w_ml_X4_1) (hts _ w_im_objectInit) (hts _ w_co_objectInit) rfl (by rw [hml]; exact hl.1) rfl dX4_init_1 (by rw [hR1]; exact Nat.le_of_ble_eq_true rfl) (by rw [hR2]; exact Nat.le_of_ble_eq_true rfl) ?_
  refine W.eq (g2 := F0 m 4 ls []) rfl ?_
  refine lv_aload_n hx hb dX4_init_4 rfl (lv_at hl 0 rfl) ?_
  refine va_new (ci := 1) (fs := [.null]) (C := RX1) (T := TX1) (N := 1) hx hb hts hiX1 tyX1 tyX1_ok hown (hts _ w_cl_X4_7) (hts _ w_ins_X1) (hts _ w_ini_X1) hK.1 hP hD hS hA rfl (fun j hj => by rcases (show j = 0 by omega) with rfl <;> rfl) (by rw [hR3]; omega) (by rw [hR4]; omega) dX4_init_5 (fun qc H hP hD hS => ?_)
  refine lv_dup hx hb dX4_init_8 rfl ?_
  have hP3 : va_P g.1 vwCl (([(q, .inr (4, [.null, .null, .null, .null, .int 0, .int 0, .int 0, .int 0]))] ++ ([] : va_W)) ++ ([(qc, .inr (1, [.null]))] ++ [])) _ := hP
  have hD3 : va_D A (([(q, .inr (4, [.null, .null, .null, .null, .int 0, .int 0, .int 0, .int 0]))] ++ ([] : va_W)) ++ ([(qc, .inr (1, [.null]))] ++ [])) := hD
  refine cN_v (q := qc) (w1 := fun u => wC g u (fun _ => false)) (va_runI (As := []) (rest := [.ref (qc), .ref (q)]) ⟨hx, hb, hml, hown, hts⟩ (k_Cal_init l g qc _) (cwI 0 hts (gI0 w_co_X1_init) rfl rfl rfl (hts _ w_ini_X1) (hts _ w_ml_X4_9) (hts _ w_im_X1_init) rfl (by decide +kernel) (by rw [hR1, hR2]; exact ⟨Nat.le_of_ble_eq_true rfl, Nat.le_of_ble_eq_true rfl⟩)) (preI_wr (P_mid hP3) hK (D_mid hD3)) rfl rfl hl.1 rfl (lv_room (Nat.le_of_ble_eq_true rfl)) dX4_init_9 ⟨by rw [hR3]; omega, by rw [hR4]; omega⟩) hP3 hD3 hS hA (fun uc H locs hu hPn hDn hSn => ?_)
  subst hu
  have hP := hPn
  have hD := hDn
  have hS := hSn
  have hP : va_P g.1 vwCl ([(q, .inr (4, [.null, .null, .null, .null, .int 0, .int 0, .int 0, .int 0]))] ++ wC g uc (fun _ => false)) H := hP
  have hD : va_D A ([(q, .inr (4, [.null, .null, .null, .null, .int 0, .int 0, .int 0, .int 0]))] ++ wC g uc (fun _ => false)) := hD
  refine va_putF (D := g.1) (ci := 4) (v := .ref (uc 0)) (ty := .object "FillForecast$Calendar") (C := RX4) (T := TX4) (N := 8) hx hb hts hiX4 tyX4 tyX4_ok nmX4 hown hK.1 hP hD hS 0 rfl rfl 0 (by decide) (hts _ w_fl_X4_10) (fun _ h9 => h9) rfl hin rfl (by decide +kernel) rfl rfl (Nat.le_of_ble_eq_true rfl) dX4_init_12 (fun H locs hP hD hS => ?_)
  have hP : va_P g.1 vwCl ([(q, .inr (4, [.ref (uc 0), .null, .null, .null, .int 0, .int 0, .int 0, .int 0]))] ++ wC g uc (fun _ => false)) H := hP
  have hD : va_D A ([(q, .inr (4, [.ref (uc 0), .null, .null, .null, .int 0, .int 0, .int 0, .int 0]))] ++ wC g uc (fun _ => false)) := hD
  refine lv_aload_n hx hb dX4_init_15 rfl (lv_at hl 0 rfl) ?_
  refine va_new (ci := 2) (fs := [.null]) (C := RX2) (T := TX2) (N := 1) hx hb hts hiX2 tyX2 tyX2_ok hown (hts _ w_cl_X4_16) (hts _ w_ins_X2) (hts _ w_ini_X2) hK.1 hP hD hS hA rfl (fun j hj => by rcases (show j = 0 by omega) with rfl <;> rfl) (by rw [hR3]; omega) (by rw [hR4]; omega) dX4_init_16 (fun qf H hP hD hS => ?_)
  refine lv_dup hx hb dX4_init_19 rfl ?_
  have hP3 : va_P g.1 vwCl (([(q, .inr (4, [.ref (uc 0), .null, .null, .null, .int 0, .int 0, .int 0, .int 0]))] ++ wC g uc (fun _ => false)) ++ ([(qf, .inr (2, [.null]))] ++ [])) _ := hP
  have hD3 : va_D A (([(q, .inr (4, [.ref (uc 0), .null, .null, .null, .int 0, .int 0, .int 0, .int 0]))] ++ wC g uc (fun _ => false)) ++ ([(qf, .inr (2, [.null]))] ++ [])) := hD
  refine cN_v (q := qf) (w1 := fun u => wF g u (wtU 1 2 (fun _ => 0) 8)) (va_runI (As := []) (rest := [.ref (qf), .ref (q)]) ⟨hx, hb, hml, hown, hts⟩ (k_Fad_init l g qf _) (cwI 0 hts (gI0 w_co_X2_init) rfl rfl rfl (hts _ w_ini_X2) (hts _ w_ml_X4_18) (hts _ w_im_X2_init) rfl (by decide +kernel) (by rw [hR1, hR2]; exact ⟨Nat.le_of_ble_eq_true rfl, Nat.le_of_ble_eq_true rfl⟩)) (preI_wr (P_mid hP3) hK (D_mid hD3)) rfl rfl hl.1 rfl (lv_room (Nat.le_of_ble_eq_true rfl)) dX4_init_20 ⟨by rw [hR3]; omega, by rw [hR4]; omega⟩) hP3 hD3 hS hA (fun uf H locs hu hPn hDn hSn => ?_)
  subst hu
  have hP := hPn
  have hD := hDn
  have hS := hSn
  have hP : va_P g.1 vwCl ([(q, .inr (4, [.ref (uc 0), .null, .null, .null, .int 0, .int 0, .int 0, .int 0]))] ++ (wC g uc (fun _ => false) ++ wF g uf (wtU 1 2 (fun _ => 0) 8))) H := hP
  have hD : va_D A ([(q, .inr (4, [.ref (uc 0), .null, .null, .null, .int 0, .int 0, .int 0, .int 0]))] ++ (wC g uc (fun _ => false) ++ wF g uf (wtU 1 2 (fun _ => 0) 8))) := hD
  refine va_putF (D := g.1) (ci := 4) (v := .ref (uf 0)) (ty := .object "FillForecast$Fading") (C := RX4) (T := TX4) (N := 8) hx hb hts hiX4 tyX4 tyX4_ok nmX4 hown hK.1 hP hD hS 0 rfl rfl 1 (by decide) (hts _ w_fl_X4_19) (fun _ h9 => h9) rfl hin rfl (by decide +kernel) rfl rfl (Nat.le_of_ble_eq_true rfl) dX4_init_23 (fun H locs hP hD hS => ?_)
  have hP : va_P g.1 vwCl ([(q, .inr (4, [.ref (uc 0), .ref (uf 0), .null, .null, .int 0, .int 0, .int 0, .int 0]))] ++ (wC g uc (fun _ => false) ++ wF g uf (wtU 1 2 (fun _ => 0) 8))) H := hP
  have hD : va_D A ([(q, .inr (4, [.ref (uc 0), .ref (uf 0), .null, .null, .int 0, .int 0, .int 0, .int 0]))] ++ (wC g uc (fun _ => false) ++ wF g uf (wtU 1 2 (fun _ => 0) 8))) := hD
  refine lv_aload_n hx hb dX4_init_26 rfl (lv_at hl 0 rfl) ?_
  refine va_new (ci := 3) (fs := [.null, .null]) (C := RX3) (T := TX3) (N := 2) hx hb hts hiX3 tyX3 tyX3_ok hown (hts _ w_cl_X4_23) (hts _ w_ins_X3) (hts _ w_ini_X3) hK.1 hP hD hS hA rfl (fun j hj => by rcases (show j = 0 ∨ j = 1 by omega) with rfl | rfl <;> rfl) (by rw [hR3]; omega) (by rw [hR4]; omega) dX4_init_27 (fun qo H hP hD hS => ?_)
  refine lv_dup hx hb dX4_init_30 rfl ?_
  have hP3 : va_P g.1 vwCl (([(q, .inr (4, [.ref (uc 0), .ref (uf 0), .null, .null, .int 0, .int 0, .int 0, .int 0]))] ++ (wC g uc (fun _ => false) ++ wF g uf (wtU 1 2 (fun _ => 0) 8))) ++ ([(qo, .inr (3, [.null, .null]))] ++ [])) _ := hP
  have hD3 : va_D A (([(q, .inr (4, [.ref (uc 0), .ref (uf 0), .null, .null, .int 0, .int 0, .int 0, .int 0]))] ++ (wC g uc (fun _ => false) ++ wF g uf (wtU 1 2 (fun _ => 0) 8))) ++ ([(qo, .inr (3, [.null, .null]))] ++ [])) := hD
  refine cN_v (q := qo) (w1 := fun u => wO g u (fun _ => 0) (fun _ => 0)) (va_runI (As := []) (rest := [.ref (qo), .ref (q)]) ⟨hx, hb, hml, hown, hts⟩ (k_Out_init l g qo _) (cwI 0 hts (gI0 w_co_X3_init) rfl rfl rfl (hts _ w_ini_X3) (hts _ w_ml_X4_25) (hts _ w_im_X3_init) rfl (by decide +kernel) (by rw [hR1, hR2]; exact ⟨Nat.le_of_ble_eq_true rfl, Nat.le_of_ble_eq_true rfl⟩)) (preI_wr (P_mid hP3) hK (D_mid hD3)) rfl rfl hl.1 rfl (lv_room (Nat.le_of_ble_eq_true rfl)) dX4_init_31 ⟨by rw [hR3]; omega, by rw [hR4]; omega⟩) hP3 hD3 hS hA (fun uo H locs hu hPn hDn hSn => ?_)
  subst hu
  have hP := hPn
  have hD := hDn
  have hS := hSn
  have hP : va_P g.1 vwCl ([(q, .inr (4, [.ref (uc 0), .ref (uf 0), .null, .null, .int 0, .int 0, .int 0, .int 0]))] ++ (wC g uc (fun _ => false) ++ (wF g uf (wtU 1 2 (fun _ => 0) 8) ++ wO g uo (fun _ => 0) (fun _ => 0)))) H := hP
  have hD : va_D A ([(q, .inr (4, [.ref (uc 0), .ref (uf 0), .null, .null, .int 0, .int 0, .int 0, .int 0]))] ++ (wC g uc (fun _ => false) ++ (wF g uf (wtU 1 2 (fun _ => 0) 8) ++ wO g uo (fun _ => 0) (fun _ => 0)))) := hD
  refine va_putF (D := g.1) (ci := 4) (v := .ref (uo 0)) (ty := .object "FillForecast$Outlook") (C := RX4) (T := TX4) (N := 8) hx hb hts hiX4 tyX4 tyX4_ok nmX4 hown hK.1 hP hD hS 0 rfl rfl 2 (by decide) (hts _ w_fl_X4_26) (fun _ h9 => h9) rfl hin rfl (by decide +kernel) rfl rfl (Nat.le_of_ble_eq_true rfl) dX4_init_34 (fun H locs hP hD hS => ?_)
  have hP : va_P g.1 vwCl ([(q, .inr (4, [.ref (uc 0), .ref (uf 0), .ref (uo 0), .null, .int 0, .int 0, .int 0, .int 0]))] ++ (wC g uc (fun _ => false) ++ (wF g uf (wtU 1 2 (fun _ => 0) 8) ++ wO g uo (fun _ => 0) (fun _ => 0)))) H := hP
  have hD : va_D A ([(q, .inr (4, [.ref (uc 0), .ref (uf 0), .ref (uo 0), .null, .int 0, .int 0, .int 0, .int 0]))] ++ (wC g uc (fun _ => false) ++ (wF g uf (wtU 1 2 (fun _ => 0) 8) ++ wO g uo (fun _ => 0) (fun _ => 0)))) := hD
  refine lv_aload_n hx hb dX4_init_37 rfl (lv_at hl 0 rfl) ?_
  refine lv_bipush (v := nI (8)) hx hb dX4_init_38 (by decide) ?_
  refine n_newq (N := 8) (C := "FillForecast$Bin") hx hb hown (hts _ w_cl_X4_30) hK.2.2 hK.1 hP hD hS hA 2 rfl (by decide) (by decide) (by rw [hR3]; omega) (by rw [hR4]; omega) dX4_init_40 (fun a8 H hP hD hS => ?_)
  have hP : va_P g.1 vwCl ([(q, .inr (4, [.ref (uc 0), .ref (uf 0), .ref (uo 0), .null, .int 0, .int 0, .int 0, .int 0]))] ++ (wC g uc (fun _ => false) ++ (wF g uf (wtU 1 2 (fun _ => 0) 8) ++ (wO g uo (fun _ => 0) (fun _ => 0) ++ [(a8, .inl (g.2 2, 8, .inr (.inr (.inr (.inr (fun _ => none))))))])))) H := hP
  have hD : va_D A ([(q, .inr (4, [.ref (uc 0), .ref (uf 0), .ref (uo 0), .null, .int 0, .int 0, .int 0, .int 0]))] ++ (wC g uc (fun _ => false) ++ (wF g uf (wtU 1 2 (fun _ => 0) 8) ++ (wO g uo (fun _ => 0) (fun _ => 0) ++ [(a8, .inl (g.2 2, 8, .inr (.inr (.inr (.inr (fun _ => none))))))])))) := hD
  refine va_putF (D := g.1) (ci := 4) (v := .ref (a8)) (ty := .array (.object "FillForecast$Bin")) (C := RX4) (T := TX4) (N := 8) hx hb hts hiX4 tyX4 tyX4_ok nmX4 hown hK.1 hP hD hS 0 rfl rfl 3 (by decide) (hts _ w_fl_X4_32) (fun _ h9 => h9) rfl hin rfl (by decide +kernel) rfl rfl (Nat.le_of_ble_eq_true rfl) dX4_init_43 (fun H locs hP hD hS => ?_)
  have hP : va_P g.1 vwCl ([(q, .inr (4, [.ref (uc 0), .ref (uf 0), .ref (uo 0), .ref (a8), .int 0, .int 0, .int 0, .int 0]))] ++ (wC g uc (fun _ => false) ++ (wF g uf (wtU 1 2 (fun _ => 0) 8) ++ (wO g uo (fun _ => 0) (fun _ => 0) ++ [(a8, .inl (g.2 2, 8, .inr (.inr (.inr (.inr (fun _ => none))))))])))) H := hP
  have hD : va_D A ([(q, .inr (4, [.ref (uc 0), .ref (uf 0), .ref (uo 0), .ref (a8), .int 0, .int 0, .int 0, .int 0]))] ++ (wC g uc (fun _ => false) ++ (wF g uf (wtU 1 2 (fun _ => 0) 8) ++ (wO g uo (fun _ => 0) (fun _ => 0) ++ [(a8, .inl (g.2 2, 8, .inr (.inr (.inr (.inr (fun _ => none))))))])))) := hD
  refine lv_aload_n hx hb dX4_init_46 rfl (lv_at hl 0 rfl) ?_
  refine lv_iconst (v := nI (0)) hx hb dX4_init_47 (by decide) ?_
  refine va_put (D := g.1) (ci := 4) (v := .int (nI (0))) (ty := .int) (C := RX4) (T := TX4) (N := 8) hx hb hts hiX4 tyX4 tyX4_ok nmX4 hown hK.1 hP hD hS 0 rfl rfl 4 (by decide) (hts _ w_fl_X4_36) (fun _ h9 => h9) rfl (by decide +kernel) rfl rfl (Nat.le_of_ble_eq_true rfl) dX4_init_48 (fun H locs hP hD hS => ?_)
  have hP : va_P g.1 vwCl ([(q, .inr (4, [.ref (uc 0), .ref (uf 0), .ref (uo 0), .ref (a8), .int (nI (0)), .int 0, .int 0, .int 0]))] ++ (wC g uc (fun _ => false) ++ (wF g uf (wtU 1 2 (fun _ => 0) 8) ++ (wO g uo (fun _ => 0) (fun _ => 0) ++ [(a8, .inl (g.2 2, 8, .inr (.inr (.inr (.inr (fun _ => none))))))])))) H := hP
  have hD : va_D A ([(q, .inr (4, [.ref (uc 0), .ref (uf 0), .ref (uo 0), .ref (a8), .int (nI (0)), .int 0, .int 0, .int 0]))] ++ (wC g uc (fun _ => false) ++ (wF g uf (wtU 1 2 (fun _ => 0) 8) ++ (wO g uo (fun _ => 0) (fun _ => 0) ++ [(a8, .inl (g.2 2, 8, .inr (.inr (.inr (.inr (fun _ => none))))))])))) := hD
  refine lv_aload_n hx hb dX4_init_51 rfl (lv_at hl 0 rfl) ?_
  refine lv_bipush (v := nI (72)) hx hb dX4_init_52 (by decide) ?_
  refine va_put (D := g.1) (ci := 4) (v := .int (nI (72))) (ty := .int) (C := RX4) (T := TX4) (N := 8) hx hb hts hiX4 tyX4 tyX4_ok nmX4 hown hK.1 hP hD hS 0 rfl rfl 5 (by decide) (hts _ w_fl_X4_40) (fun _ h9 => h9) rfl (by decide +kernel) rfl rfl (Nat.le_of_ble_eq_true rfl) dX4_init_54 (fun H locs hP hD hS => ?_)
  have hP : va_P g.1 vwCl ([(q, .inr (4, [.ref (uc 0), .ref (uf 0), .ref (uo 0), .ref (a8), .int (nI (0)), .int (nI (72)), .int 0, .int 0]))] ++ (wC g uc (fun _ => false) ++ (wF g uf (wtU 1 2 (fun _ => 0) 8) ++ (wO g uo (fun _ => 0) (fun _ => 0) ++ [(a8, .inl (g.2 2, 8, .inr (.inr (.inr (.inr (fun _ => none))))))])))) H := hP
  have hD : va_D A ([(q, .inr (4, [.ref (uc 0), .ref (uf 0), .ref (uo 0), .ref (a8), .int (nI (0)), .int (nI (72)), .int 0, .int 0]))] ++ (wC g uc (fun _ => false) ++ (wF g uf (wtU 1 2 (fun _ => 0) 8) ++ (wO g uo (fun _ => 0) (fun _ => 0) ++ [(a8, .inl (g.2 2, 8, .inr (.inr (.inr (.inr (fun _ => none))))))])))) := hD
  refine lv_aload_n hx hb dX4_init_57 rfl (lv_at hl 0 rfl) ?_
  refine lv_iconst (v := nI (1)) hx hb dX4_init_58 (by decide) ?_
  refine va_put (D := g.1) (ci := 4) (v := .int (nI (1))) (ty := .int) (C := RX4) (T := TX4) (N := 8) hx hb hts hiX4 tyX4 tyX4_ok nmX4 hown hK.1 hP hD hS 0 rfl rfl 6 (by decide) (hts _ w_fl_X4_43) (fun _ h9 => h9) rfl (by decide +kernel) rfl rfl (Nat.le_of_ble_eq_true rfl) dX4_init_59 (fun H locs hP hD hS => ?_)
  have hP : va_P g.1 vwCl ([(q, .inr (4, [.ref (uc 0), .ref (uf 0), .ref (uo 0), .ref (a8), .int (nI (0)), .int (nI (72)), .int (nI (1)), .int 0]))] ++ (wC g uc (fun _ => false) ++ (wF g uf (wtU 1 2 (fun _ => 0) 8) ++ (wO g uo (fun _ => 0) (fun _ => 0) ++ [(a8, .inl (g.2 2, 8, .inr (.inr (.inr (.inr (fun _ => none))))))])))) H := hP
  have hD : va_D A ([(q, .inr (4, [.ref (uc 0), .ref (uf 0), .ref (uo 0), .ref (a8), .int (nI (0)), .int (nI (72)), .int (nI (1)), .int 0]))] ++ (wC g uc (fun _ => false) ++ (wF g uf (wtU 1 2 (fun _ => 0) 8) ++ (wO g uo (fun _ => 0) (fun _ => 0) ++ [(a8, .inl (g.2 2, 8, .inr (.inr (.inr (.inr (fun _ => none))))))])))) := hD
  refine lv_aload_n hx hb dX4_init_62 rfl (lv_at hl 0 rfl) ?_
  refine lv_iconst (v := nI (1)) hx hb dX4_init_63 (by decide) ?_
  refine va_put (D := g.1) (ci := 4) (v := .int (nI (1))) (ty := .int) (C := RX4) (T := TX4) (N := 8) hx hb hts hiX4 tyX4 tyX4_ok nmX4 hown hK.1 hP hD hS 0 rfl rfl 7 (by decide) (hts _ w_fl_X4_46) (fun _ h9 => h9) rfl (by decide +kernel) rfl rfl (Nat.le_of_ble_eq_true rfl) dX4_init_64 (fun H locs hP hD hS => ?_)
  have hP : va_P g.1 vwCl ([(q, .inr (4, [.ref (uc 0), .ref (uf 0), .ref (uo 0), .ref (a8), .int (nI (0)), .int (nI (72)), .int (nI (1)), .int (nI (1))]))] ++ (wC g uc (fun _ => false) ++ (wF g uf (wtU 1 2 (fun _ => 0) 8) ++ (wO g uo (fun _ => 0) (fun _ => 0) ++ [(a8, .inl (g.2 2, 8, .inr (.inr (.inr (.inr (fun _ => none))))))])))) H := hP
  have hD : va_D A ([(q, .inr (4, [.ref (uc 0), .ref (uf 0), .ref (uo 0), .ref (a8), .int (nI (0)), .int (nI (72)), .int (nI (1)), .int (nI (1))]))] ++ (wC g uc (fun _ => false) ++ (wF g uf (wtU 1 2 (fun _ => 0) 8) ++ (wO g uo (fun _ => 0) (fun _ => 0) ++ [(a8, .inl (g.2 2, 8, .inr (.inr (.inr (.inr (fun _ => none))))))])))) := hD
  have hP : va_P g.1 vwCl (wX g (newX (ad [q, a8]) uc uf uo)) H := hP.sub [0, 8, 3, 4, 5, 6, 7, 1, 2] rfl
  have hD : va_D A (wX g (newX (ad [q, a8]) uc uf uo)) := hD.sub [0, 8, 3, 4, 5, 6, 7, 1, 2] (by decide) rfl
  subst hQQ
  exact W.vret hx hb hr (fun t9 ht _ => ⟨⟨newX (ad [q, a8]) uc uf uo, rfl, ⟨rfl, _, _, _, _, rfl⟩, hpT ht hP, hD⟩, hS.F ht⟩) hS.2.2 dX4_init_67
end
section
set_option maxHeartbeats 4000000 in
set_option maxRecDepth 100000 in
theorem k_bin (l : Launch) (g : GG) (x : FT) (hx9 : Xok x) (k d : Int32) (sz : Nat) : Ai l yX4_bin wsX4_bin 2 34 5 136 [.ref (xA x 0), .int (k), .int (d)] g (x) sz (fun r v => ∃ u, (r, v) = binS x k d u) := by
  refine Met.ofW (cc := cX4_bin) (maxL := 3) (ret := (some .int)) (by decide) rfl ?_
  intro p e s m args below meth c s₁ BB hml hv
  obtain ⟨hargs, hsz, hP, hK, hD0⟩ := hv
  have hx := BB.exec
  have hb := BB.bytes
  have hr := BB.returns
  have hts : ∀ w ∈ BIG, w.before args s = true := fun w h => atoms_spec (ws := wsX4_bin) BB.pre w (List.mem_cons_of_mem _ h)
  have hown : s.vm.findClass RX4 = some m.cls := findClass_of_methodNamed BB.named
  have hlocks := BB.notSynchronized
  obtain ⟨RR, hRR⟩ : ∃ RR, RR = (headSpec wsX4_bin ⟨2, 5, 136, 34⟩).room := ⟨_, rfl⟩
  have hR1 : RR.frames = 2 := by rw [hRR]; rfl
  have hR2 : RR.locals = 34 := by rw [hRR]; rfl
  have hR3 : RR.cells = 5 := by rw [hRR]; rfl
  have hR4 : RR.slots = 136 := by rw [hRR]; rfl
  have hl := lv_entry ([.ref (xA x 0), .int (k), .int (d)]) (n := 3) (Nat.le_of_ble_eq_true rfl)
  have hent : entryFrame m args 3 = F0 m 0 ((lg_sl ([.ref (xA x 0), .int (k), .int (d)]) ++ List.replicate (3 - (lg_sl ([.ref (xA x 0), .int (k), .int (d)])).length) Slot.unset).toArray) [] := by rw [hargs, lg_entry_eq]
  rw [hent]
  generalize (lg_sl ([.ref (xA x 0), .int (k), .int (d)]) ++ List.replicate (3 - (lg_sl ([.ref (xA x 0), .int (k), .int (d)])).length) Slot.unset).toArray = ls at hl ⊢
  have hl : lv_has ls 3 [(0, .ref (xA x 0)), (1, .int (k)), (2, .int (d))] := hl
  subst hsz
  have hD := hD0.self (sz := s.heap.size)
  generalize hAe : va_A (wX g x) s.heap.size = A at hD ⊢
  have hA : ∀ q : Nat, s.heap.size ≤ q → A q := fun q h => by rw [← hAe]; exact Or.inr h
  have hS : va_S A s.heap s.heap [] := va_S.rf
  refine q_ab (R := RR) hRR ?_
  generalize hQQ : MQ below _ args s _ _ _ = QQ
  obtain ⟨h8, hB, hW, hq9, he9, hl9⟩ := id hx9
  refine lv_aload_n hx hb dX4_bin_0 rfl (lv_at hl 0 rfl) ?_
  refine va_get (D := g.1) (ci := 4) (v := .int (nI ((xB x).length))) (C := RX4) (T := TX4) (N := 8) hx hb hts hiX4 hown hK.1 hP 0 rfl rfl 4 (by decide) (hts _ w_fl_X4_36) (fun _ h9 => h9) rfl dX4_bin_1 ?_
  refine lv_bipush (v := nI (8)) hx hb dX4_bin_4 (by decide) ?_
  refine bn_ge (tgt := 29) hx hb (by omega) (by omega) dX4_bin_6 (by decide) (fun c1 => ?_) (fun c1 => ?_)
  · refine lv_iconst (v := (-1)) hx hb dX4_bin_29 (by decide) ?_
    refine W.widen (k := 5) (n := 136) (Nat.zero_le _) (Nat.zero_le _) ?_
    subst hQQ
    exact W.iret hx hb hr (fun t9 ht _ => ⟨⟨_, x, rfl, ⟨fun _ => 0, by unfold binS; rw [if_pos c1]⟩, hpT ht hP, hD⟩, hS.F ht⟩) hS.2.2 dX4_bin_30
  · refine lv_iload_n hx hb dX4_bin_9 rfl (lv_at hl 1 rfl) ?_
    refine lv_iconst (v := nI (0)) hx hb dX4_bin_10 (by decide) ?_
    refine lv_iconst (v := nI (3)) hx hb dX4_bin_11 (by decide) ?_
    refine cR_i (W.runS (As := [.int (k), .int (nI (0)), .int (nI (3))]) (rest := []) ⟨hx, hb, hml, hown, hts⟩ (k_isWithin l g k (nI 0) (nI 3)) (va_cwS 3 hts (gS w_ml_X4_49 w_sm_X4_isWithin w_ini_X4 w_co_X4_isWithin) rfl rfl rfl (by decide +kernel) (by rw [hR1, hR2]; exact ⟨Nat.le_of_ble_eq_true rfl, Nat.le_of_ble_eq_true rfl⟩)) (preS_rd va_P.nil hK) rfl rfl hl.1 rfl (lv_room (Nat.le_of_ble_eq_true rfl)) dX4_bin_12 ⟨by rw [hR3]; omega, by rw [hR4]; omega⟩) ?_
    refine bb_eq (tgt := 29) hx hb dX4_bin_15 (by decide) (fun hhc => ?_) (fun hhc => ?_)
    · cases hh : inL 0 3 k with
      | none =>
        refine lv_iconst (v := (-1)) hx hb dX4_bin_29 (by decide) ?_
        refine W.widen (k := 5) (n := 136) (Nat.zero_le _) (Nat.zero_le _) ?_
        subst hQQ
        exact W.iret hx hb hr (fun t9 ht _ => ⟨⟨_, x, rfl, ⟨fun _ => 0, by unfold binS; rw [if_neg (by omega), hh]⟩, hpT ht hP, hD⟩, hS.F ht⟩) hS.2.2 dX4_bin_30
      | some a => exact absurd hhc (by rw [(inL_s (by decide) (by decide) hh).2.2.2]; decide)
    · cases hh : inL 0 3 k with
      | none => exact absurd hhc (by rw [inL_n hh]; decide)
      | some a =>
        obtain ⟨hhl, hhn, hhe, -⟩ := inL_s (by decide) (by decide) hh
        subst hhe
        refine lv_iload_n hx hb dX4_bin_18 rfl (lv_at hl 2 rfl) ?_
        refine lv_iconst (v := nI (1)) hx hb dX4_bin_19 (by decide) ?_
        refine lv_sipush (v := nI (10000)) hx hb dX4_bin_20 (by decide) ?_
        refine cR_i (W.runS (As := [.int (d), .int (nI (1)), .int (nI (10000))]) (rest := []) ⟨hx, hb, hml, hown, hts⟩ (k_isWithin l g d (nI 1) (nI 10000)) (va_cwS 3 hts (gS w_ml_X4_49 w_sm_X4_isWithin w_ini_X4 w_co_X4_isWithin) rfl rfl rfl (by decide +kernel) (by rw [hR1, hR2]; exact ⟨Nat.le_of_ble_eq_true rfl, Nat.le_of_ble_eq_true rfl⟩)) (preS_rd va_P.nil hK) rfl rfl hl.1 rfl (lv_room (Nat.le_of_ble_eq_true rfl)) dX4_bin_23 ⟨by rw [hR3]; omega, by rw [hR4]; omega⟩) ?_
        refine bb_ne (tgt := 31) hx hb dX4_bin_26 (by decide) (fun hic => ?_) (fun hic => ?_)
        · cases hi : inL 1 10000 d with
          | none => exact absurd hic (by rw [inL_n hi]; decide)
          | some e =>
            obtain ⟨hil, hin, hie, -⟩ := inL_s (by decide) (by decide) hi
            subst hie
            refine lv_aload_n hx hb dX4_bin_31 rfl (lv_at hl 0 rfl) ?_
            refine va_get (D := g.1) (ci := 4) (v := .ref (xA x 1)) (C := RX4) (T := TX4) (N := 8) hx hb hts hiX4 hown hK.1 hP 0 rfl rfl 3 (by decide) (hts _ w_fl_X4_32) (fun _ h9 => h9) rfl dX4_bin_32 ?_
            refine lv_aload_n hx hb dX4_bin_35 rfl (lv_at hl 0 rfl) ?_
            refine va_get (D := g.1) (ci := 4) (v := .int (nI ((xB x).length))) (C := RX4) (T := TX4) (N := 8) hx hb hts hiX4 hown hK.1 hP 0 rfl rfl 4 (by decide) (hts _ w_fl_X4_36) (fun _ h9 => h9) rfl dX4_bin_36 ?_
            refine va_new (ci := 0) (fs := [.int 0, .int 0, .null, .null, .null, .null, .int 0, .int 0]) (C := RX0) (T := TX0) (N := 8) hx hb hts hiX0 tyX0 tyX0_ok hown (hts _ w_cl_X4_30) (hts _ w_ins_X0) (hts _ w_ini_X0) hK.1 hP hD hS hA rfl (fun j hj => by rcases (show j = 0 ∨ j = 1 ∨ j = 2 ∨ j = 3 ∨ j = 4 ∨ j = 5 ∨ j = 6 ∨ j = 7 by omega) with rfl | rfl | rfl | rfl | rfl | rfl | rfl | rfl <;> rfl) (by rw [hR3]; omega) (by rw [hR4]; omega) dX4_bin_39 (fun qb H hP hD hS => ?_)
            refine lv_dup hx hb dX4_bin_42 rfl ?_
            refine lv_iload_n hx hb dX4_bin_43 rfl (lv_at hl 1 rfl) ?_
            refine lv_iload_n hx hb dX4_bin_44 rfl (lv_at hl 2 rfl) ?_
            have hP3 : va_P g.1 vwCl ((wX g x) ++ ([(qb, .inr (0, [.int 0, .int 0, .null, .null, .null, .null, .int 0, .int 0]))] ++ [])) _ := hP
            have hD3 : va_D A ((wX g x) ++ ([(qb, .inr (0, [.int 0, .int 0, .null, .null, .null, .null, .int 0, .int 0]))] ++ [])) := hD
            refine cN_v (q := qb) (w1 := fun u => wB g (newB u a e)) (va_runI (As := [.int (nI (a)), .int (nI (e))]) (rest := [.ref (qb), .int (nI ((xB x).length)), .ref (xA x 1)]) ⟨hx, hb, hml, hown, hts⟩ (k_Bin_init l g qb a e _) (cwI 2 hts (gI0 w_co_X0_init) rfl rfl rfl (hts _ w_ini_X0) (hts _ w_ml_X4_53) (hts _ w_im_X0_init) rfl (by decide +kernel) (by rw [hR1, hR2]; exact ⟨Nat.le_of_ble_eq_true rfl, Nat.le_of_ble_eq_true rfl⟩)) (preI_wr (P_mid hP3) hK (D_mid hD3)) rfl rfl hl.1 rfl (lv_room (Nat.le_of_ble_eq_true rfl)) dX4_bin_45 ⟨by rw [hR3]; omega, by rw [hR4]; omega⟩) hP3 hD3 hS hA (fun ub H locs hu hPn hDn hSn => ?_)
            subst hu
            have hP := hPn
            have hD := hDn
            have hS := hSn
            have hpm : (wB g (newB ub a e) ++ (wXk g x (xB x).length (bRef (xB x)) ++ (wF g (xF x) (xW x) ++ (wO g (xO x) (xR x) (xS x) ++ (wC g (xC x) (xH x) ++ bw g (xB x))))) : va_W).Perm (wX g x ++ (wB g (newB ub a e) ++ [])) := by rw [List.append_nil]; exact List.perm_append_comm
            have hP : va_P g.1 vwCl (wB g (newB ub a e) ++ (wXk g x (xB x).length (bRef (xB x)) ++ (wF g (xF x) (xW x) ++ (wO g (xO x) (xR x) (xS x) ++ (wC g (xC x) (xH x) ++ bw g (xB x)))))) H := P_perm hP hpm
            have hD : va_D A (wB g (newB ub a e) ++ (wXk g x (xB x).length (bRef (xB x)) ++ (wF g (xF x) (xW x) ++ (wO g (xO x) (xR x) (xS x) ++ (wC g (xC x) (xH x) ++ bw g (xB x)))))) := D_perm hD hpm
            refine va_astq (q0 := 6) (t0 := 2) (qk := 0) (ci := 0) hx hb hK.1 hP hD hS rfl rfl rfl rfl (vp_in_nI (show (xB x).length < 8 by omega) (by decide)) dX4_bin_48 (fun H locs hP hD hS => ?_)
            rw [nI_clamp (show (xB x).length < 2 ^ 31 by omega)] at hP hD
            have hP : va_P g.1 vwCl (wB g (newB ub a e) ++ (wXk g x (xB x).length (va_up (bRef (xB x)) (xB x).length (some (ub 0))) ++ (wF g (xF x) (xW x) ++ (wO g (xO x) (xR x) (xS x) ++ (wC g (xC x) (xH x) ++ bw g (xB x)))))) H := hP
            have hD : va_D A (wB g (newB ub a e) ++ (wXk g x (xB x).length (va_up (bRef (xB x)) (xB x).length (some (ub 0))) ++ (wF g (xF x) (xW x) ++ (wO g (xO x) (xR x) (xS x) ++ (wC g (xC x) (xH x) ++ bw g (xB x)))))) := hD
            refine lv_aload_n hx hb dX4_bin_49 rfl (lv_at hl 0 rfl) ?_
            refine lv_dup hx hb dX4_bin_50 rfl ?_
            refine va_get (D := g.1) (ci := 4) (v := .int (nI ((xB x).length))) (C := RX4) (T := TX4) (N := 8) hx hb hts hiX4 hown hK.1 hP 5 rfl rfl 4 (by decide) (hts _ w_fl_X4_36) (fun _ h9 => h9) rfl dX4_bin_51 ?_
            refine lv_iconst (v := nI (1)) hx hb dX4_bin_54 (by decide) ?_
            refine n_iadd hx hb dX4_bin_55 ?_
            refine va_put (D := g.1) (ci := 4) (v := .int (nI ((xB x).length + 1))) (ty := .int) (C := RX4) (T := TX4) (N := 8) hx hb hts hiX4 tyX4 tyX4_ok nmX4 hown hK.1 hP hD hS 5 rfl rfl 4 (by decide) (hts _ w_fl_X4_36) (fun _ h9 => h9) rfl (by decide +kernel) rfl rfl (Nat.le_of_ble_eq_true rfl) dX4_bin_56 (fun H locs hP hD hS => ?_)
            have hP : va_P g.1 vwCl (wB g (newB ub a e) ++ (wXk g x ((xB x).length + 1) (va_up (bRef (xB x)) (xB x).length (some (ub 0))) ++ (wF g (xF x) (xW x) ++ (wO g (xO x) (xR x) (xS x) ++ (wC g (xC x) (xH x) ++ bw g (xB x)))))) H := hP
            have hD : va_D A (wB g (newB ub a e) ++ (wXk g x ((xB x).length + 1) (va_up (bRef (xB x)) (xB x).length (some (ub 0))) ++ (wF g (xF x) (xW x) ++ (wO g (xO x) (xR x) (xS x) ++ (wC g (xC x) (xH x) ++ bw g (xB x)))))) := hD
            refine lv_aload_n hx hb dX4_bin_59 rfl (lv_at hl 0 rfl) ?_
            refine va_get (D := g.1) (ci := 4) (v := .int (nI ((xB x).length + 1))) (C := RX4) (T := TX4) (N := 8) hx hb hts hiX4 hown hK.1 hP 5 rfl rfl 4 (by decide) (hts _ w_fl_X4_36) (fun _ h9 => h9) rfl dX4_bin_60 ?_
            refine lv_iconst (v := nI (1)) hx hb dX4_bin_63 (by decide) ?_
            refine n_isub hx hb (by omega) dX4_bin_64 ?_
            have hP : va_P g.1 vwCl (wX g (xsB x (xB x ++ [newB ub a e]))) H := P_perm hP wX_push
            have hD : va_D A (wX g (xsB x (xB x ++ [newB ub a e]))) := D_perm hD wX_push
            subst hQQ
            exact W.iret hx hb hr (fun t9 ht _ => ⟨⟨_, xsB x (xB x ++ [newB ub a e]), rfl, ⟨ub, by unfold binS; rw [if_neg (by omega), hh]; dsimp only; rw [hi]; rfl⟩, hpT ht hP, hD⟩, hS.F ht⟩) hS.2.2 dX4_bin_65
        · cases hi : inL 1 10000 d with
          | none =>
            refine lv_iconst (v := (-1)) hx hb dX4_bin_29 (by decide) ?_
            refine W.widen (k := 5) (n := 136) (Nat.zero_le _) (Nat.zero_le _) ?_
            subst hQQ
            exact W.iret hx hb hr (fun t9 ht _ => ⟨⟨_, x, rfl, ⟨fun _ => 0, by unfold binS; rw [if_neg (by omega), hh]; dsimp only; rw [hi]⟩, hpT ht hP, hD⟩, hS.F ht⟩) hS.2.2 dX4_bin_30
          | some e => exact absurd hic (by rw [(inL_s (by decide) (by decide) hi).2.2.2]; decide)
end
section
theorem dX5_init_0 : decode cX5_init 0 = .ok (.aload_n 0, 1) := by decide +kernel
theorem dX5_init_1 : decode cX5_init 1 = .ok (.invokespecial 1, 3) := by decide +kernel
theorem dX5_init_4 : decode cX5_init 4 = .ok (.aload_n 0, 1) := by decide +kernel
theorem dX5_init_5 : decode cX5_init 5 = .ok (.bipush 8, 2) := by decide +kernel
theorem dX5_init_7 : decode cX5_init 7 = .ok (.newarray .int, 2) := by decide +kernel
theorem dX5_init_9 : decode cX5_init 9 = .ok (.putfield 7, 3) := by decide +kernel
theorem dX5_init_12 : decode cX5_init 12 = .ok (.aload_n 0, 1) := by decide +kernel
theorem dX5_init_13 : decode cX5_init 13 = .ok (.bipush 8, 2) := by decide +kernel
theorem dX5_init_15 : decode cX5_init 15 = .ok (.newarray .int, 2) := by decide +kernel
theorem dX5_init_17 : decode cX5_init 17 = .ok (.putfield 13, 3) := by decide +kernel
theorem dX5_init_20 : decode cX5_init 20 = .ok (.aload_n 0, 1) := by decide +kernel
theorem dX5_init_21 : decode cX5_init 21 = .ok (.bipush 8, 2) := by decide +kernel
theorem dX5_init_23 : decode cX5_init 23 = .ok (.newarray .int, 2) := by decide +kernel
theorem dX5_init_25 : decode cX5_init 25 = .ok (.putfield 16, 3) := by decide +kernel
theorem dX5_init_28 : decode cX5_init 28 = .ok (.aload_n 0, 1) := by decide +kernel
theorem dX5_init_29 : decode cX5_init 29 = .ok (.sipush 192, 3) := by decide +kernel
theorem dX5_init_32 : decode cX5_init 32 = .ok (.newarray .int, 2) := by decide +kernel
theorem dX5_init_34 : decode cX5_init 34 = .ok (.putfield 19, 3) := by decide +kernel
theorem dX5_init_37 : decode cX5_init 37 = .ok (.aload_n 0, 1) := by decide +kernel
theorem dX5_init_38 : decode cX5_init 38 = .ok (.sipush 192, 3) := by decide +kernel
theorem dX5_init_41 : decode cX5_init 41 = .ok (.newarray .int, 2) := by decide +kernel
theorem dX5_init_43 : decode cX5_init 43 = .ok (.putfield 22, 3) := by decide +kernel
theorem dX5_init_46 : decode cX5_init 46 = .ok (.aload_n 0, 1) := by decide +kernel
theorem dX5_init_47 : decode cX5_init 47 = .ok (.bipush 8, 2) := by decide +kernel
theorem dX5_init_49 : decode cX5_init 49 = .ok (.newarray .int, 2) := by decide +kernel
theorem dX5_init_51 : decode cX5_init 51 = .ok (.putfield 25, 3) := by decide +kernel
theorem dX5_init_54 : decode cX5_init 54 = .ok (.aload_n 0, 1) := by decide +kernel
theorem dX5_init_55 : decode cX5_init 55 = .ok (.bipush 64, 2) := by decide +kernel
theorem dX5_init_57 : decode cX5_init 57 = .ok (.newarray .int, 2) := by decide +kernel
theorem dX5_init_59 : decode cX5_init 59 = .ok (.putfield 28, 3) := by decide +kernel
theorem dX5_init_62 : decode cX5_init 62 = .ok (.aload_n 0, 1) := by decide +kernel
theorem dX5_init_63 : decode cX5_init 63 = .ok (.bipush 64, 2) := by decide +kernel
theorem dX5_init_65 : decode cX5_init 65 = .ok (.newarray .int, 2) := by decide +kernel
theorem dX5_init_67 : decode cX5_init 67 = .ok (.putfield 31, 3) := by decide +kernel
theorem dX5_init_70 : decode cX5_init 70 = .ok (.aload_n 0, 1) := by decide +kernel
theorem dX5_init_71 : decode cX5_init 71 = .ok (.iconst 1, 1) := by decide +kernel
theorem dX5_init_72 : decode cX5_init 72 = .ok (.putfield 34, 3) := by decide +kernel
theorem dX5_init_75 : decode cX5_init 75 = .ok (.aload_n 0, 1) := by decide +kernel
theorem dX5_init_76 : decode cX5_init 76 = .ok (.iconst 2, 1) := by decide +kernel
theorem dX5_init_77 : decode cX5_init 77 = .ok (.putfield 38, 3) := by decide +kernel
theorem dX5_init_80 : decode cX5_init 80 = .ok (.aload_n 0, 1) := by decide +kernel
theorem dX5_init_81 : decode cX5_init 81 = .ok (.sipush 417, 3) := by decide +kernel
theorem dX5_init_84 : decode cX5_init 84 = .ok (.newarray .boolean, 2) := by decide +kernel
theorem dX5_init_86 : decode cX5_init 86 = .ok (.putfield 41, 3) := by decide +kernel
theorem dX5_init_89 : decode cX5_init 89 = .ok (.aload_n 0, 1) := by decide +kernel
theorem dX5_init_90 : decode cX5_init 90 = .ok (.bipush 72, 2) := by decide +kernel
theorem dX5_init_92 : decode cX5_init 92 = .ok (.putfield 45, 3) := by decide +kernel
theorem dX5_init_95 : decode cX5_init 95 = .ok (.aload_n 0, 1) := by decide +kernel
theorem dX5_init_96 : decode cX5_init 96 = .ok (.iconst 1, 1) := by decide +kernel
theorem dX5_init_97 : decode cX5_init 97 = .ok (.putfield 48, 3) := by decide +kernel
theorem dX5_init_100 : decode cX5_init 100 = .ok (.aload_n 0, 1) := by decide +kernel
theorem dX5_init_101 : decode cX5_init 101 = .ok (.iconst 1, 1) := by decide +kernel
theorem dX5_init_102 : decode cX5_init 102 = .ok (.putfield 51, 3) := by decide +kernel
theorem dX5_init_105 : decode cX5_init 105 = .ok (.aload_n 0, 1) := by decide +kernel
theorem dX5_init_106 : decode cX5_init 106 = .ok (.bipush 32, 2) := by decide +kernel
theorem dX5_init_108 : decode cX5_init 108 = .ok (.newarray .int, 2) := by decide +kernel
theorem dX5_init_110 : decode cX5_init 110 = .ok (.putfield 54, 3) := by decide +kernel
theorem dX5_init_113 : decode cX5_init 113 = .ok (.aload_n 0, 1) := by decide +kernel
theorem dX5_init_114 : decode cX5_init 114 = .ok (.bipush 32, 2) := by decide +kernel
theorem dX5_init_116 : decode cX5_init 116 = .ok (.newarray .int, 2) := by decide +kernel
theorem dX5_init_118 : decode cX5_init 118 = .ok (.putfield 57, 3) := by decide +kernel
theorem dX5_init_121 : decode cX5_init 121 = .ok (.aload_n 0, 1) := by decide +kernel
theorem dX5_init_122 : decode cX5_init 122 = .ok (.bipush 32, 2) := by decide +kernel
theorem dX5_init_124 : decode cX5_init 124 = .ok (.newarray .boolean, 2) := by decide +kernel
theorem dX5_init_126 : decode cX5_init 126 = .ok (.putfield 60, 3) := by decide +kernel
theorem dX5_init_129 : decode cX5_init 129 = .ok (.aload_n 0, 1) := by decide +kernel
theorem dX5_init_130 : decode cX5_init 130 = .ok (.bipush 32, 2) := by decide +kernel
theorem dX5_init_132 : decode cX5_init 132 = .ok (.newarray .boolean, 2) := by decide +kernel
theorem dX5_init_134 : decode cX5_init 134 = .ok (.putfield 63, 3) := by decide +kernel
theorem dX5_init_137 : decode cX5_init 137 = .ok (.aload_n 0, 1) := by decide +kernel
theorem dX5_init_138 : decode cX5_init 138 = .ok (.bipush 32, 2) := by decide +kernel
theorem dX5_init_140 : decode cX5_init 140 = .ok (.newarray .int, 2) := by decide +kernel
theorem dX5_init_142 : decode cX5_init 142 = .ok (.putfield 66, 3) := by decide +kernel
theorem dX5_init_145 : decode cX5_init 145 = .ok (.aload_n 0, 1) := by decide +kernel
theorem dX5_init_146 : decode cX5_init 146 = .ok (.bipush 7, 2) := by decide +kernel
theorem dX5_init_148 : decode cX5_init 148 = .ok (.newarray .int, 2) := by decide +kernel
theorem dX5_init_150 : decode cX5_init 150 = .ok (.putfield 69, 3) := by decide +kernel
theorem dX5_init_153 : decode cX5_init 153 = .ok (.aload_n 0, 1) := by decide +kernel
theorem dX5_init_154 : decode cX5_init 154 = .ok (.sipush 10001, 3) := by decide +kernel
theorem dX5_init_157 : decode cX5_init 157 = .ok (.newarray .long, 2) := by decide +kernel
theorem dX5_init_159 : decode cX5_init 159 = .ok (.putfield 72, 3) := by decide +kernel
theorem dX5_init_162 : decode cX5_init 162 = .ok (.return_, 1) := by decide +kernel
theorem dX5_isIn_0 : decode cX5_isIn 0 = .ok (.iload_n 0, 1) := by decide +kernel
theorem dX5_isIn_1 : decode cX5_isIn 1 = .ok (.iload_n 1, 1) := by decide +kernel
theorem dX5_isIn_2 : decode cX5_isIn 2 = .ok (.if_icmp .lt 12, 3) := by decide +kernel
theorem dX5_isIn_5 : decode cX5_isIn 5 = .ok (.iload_n 0, 1) := by decide +kernel
theorem dX5_isIn_6 : decode cX5_isIn 6 = .ok (.iload_n 2, 1) := by decide +kernel
theorem dX5_isIn_7 : decode cX5_isIn 7 = .ok (.if_icmp .gt 7, 3) := by decide +kernel
theorem dX5_isIn_10 : decode cX5_isIn 10 = .ok (.iconst 1, 1) := by decide +kernel
theorem dX5_isIn_11 : decode cX5_isIn 11 = .ok (.goto 4, 3) := by decide +kernel
theorem dX5_isIn_14 : decode cX5_isIn 14 = .ok (.iconst 0, 1) := by decide +kernel
theorem dX5_isIn_15 : decode cX5_isIn 15 = .ok (.ireturn, 1) := by decide +kernel
theorem dX5_isBin_0 : decode cX5_isBin 0 = .ok (.iload_n 1, 1) := by decide +kernel
theorem dX5_isBin_1 : decode cX5_isBin 1 = .ok (.ifCond .lt 15, 3) := by decide +kernel
theorem dX5_isBin_4 : decode cX5_isBin 4 = .ok (.iload_n 1, 1) := by decide +kernel
theorem dX5_isBin_5 : decode cX5_isBin 5 = .ok (.aload_n 0, 1) := by decide +kernel
theorem dX5_isBin_6 : decode cX5_isBin 6 = .ok (.getfield 76, 3) := by decide +kernel
theorem dX5_isBin_9 : decode cX5_isBin 9 = .ok (.if_icmp .ge 7, 3) := by decide +kernel
theorem dX5_isBin_12 : decode cX5_isBin 12 = .ok (.iconst 1, 1) := by decide +kernel
theorem dX5_isBin_13 : decode cX5_isBin 13 = .ok (.goto 4, 3) := by decide +kernel
theorem dX5_isBin_16 : decode cX5_isBin 16 = .ok (.iconst 0, 1) := by decide +kernel
theorem dX5_isBin_17 : decode cX5_isBin 17 = .ok (.ireturn, 1) := by decide +kernel
theorem dX5_isHour_0 : decode cX5_isHour 0 = .ok (.iload_n 0, 1) := by decide +kernel
theorem dX5_isHour_1 : decode cX5_isHour 1 = .ok (.iconst 0, 1) := by decide +kernel
theorem dX5_isHour_2 : decode cX5_isHour 2 = .ok (.sipush 9999, 3) := by decide +kernel
theorem dX5_isHour_5 : decode cX5_isHour 5 = .ok (.invokestatic 79, 3) := by decide +kernel
theorem dX5_isHour_8 : decode cX5_isHour 8 = .ok (.ireturn, 1) := by decide +kernel
theorem dX5_isDay_0 : decode cX5_isDay 0 = .ok (.iload_n 0, 1) := by decide +kernel
theorem dX5_isDay_1 : decode cX5_isDay 1 = .ok (.iconst 0, 1) := by decide +kernel
theorem dX5_isDay_2 : decode cX5_isDay 2 = .ok (.sipush 416, 3) := by decide +kernel
theorem dX5_isDay_5 : decode cX5_isDay 5 = .ok (.invokestatic 79, 3) := by decide +kernel
theorem dX5_isDay_8 : decode cX5_isDay 8 = .ok (.ireturn, 1) := by decide +kernel
theorem dX5_bin_0 : decode cX5_bin 0 = .ok (.aload_n 0, 1) := by decide +kernel
theorem dX5_bin_1 : decode cX5_bin 1 = .ok (.getfield 76, 3) := by decide +kernel
theorem dX5_bin_4 : decode cX5_bin 4 = .ok (.bipush 8, 2) := by decide +kernel
theorem dX5_bin_6 : decode cX5_bin 6 = .ok (.if_icmp .eq 23, 3) := by decide +kernel
theorem dX5_bin_9 : decode cX5_bin 9 = .ok (.iload_n 1, 1) := by decide +kernel
theorem dX5_bin_10 : decode cX5_bin 10 = .ok (.iconst 0, 1) := by decide +kernel
theorem dX5_bin_11 : decode cX5_bin 11 = .ok (.iconst 3, 1) := by decide +kernel
theorem dX5_bin_12 : decode cX5_bin 12 = .ok (.invokestatic 79, 3) := by decide +kernel
theorem dX5_bin_15 : decode cX5_bin 15 = .ok (.ifCond .eq 14, 3) := by decide +kernel
theorem dX5_bin_18 : decode cX5_bin 18 = .ok (.iload_n 2, 1) := by decide +kernel
theorem dX5_bin_19 : decode cX5_bin 19 = .ok (.iconst 1, 1) := by decide +kernel
theorem dX5_bin_20 : decode cX5_bin 20 = .ok (.sipush 10000, 3) := by decide +kernel
theorem dX5_bin_23 : decode cX5_bin 23 = .ok (.invokestatic 79, 3) := by decide +kernel
theorem dX5_bin_26 : decode cX5_bin 26 = .ok (.ifCond .ne 5, 3) := by decide +kernel
theorem dX5_bin_29 : decode cX5_bin 29 = .ok (.iconst (-1), 1) := by decide +kernel
theorem dX5_bin_30 : decode cX5_bin 30 = .ok (.ireturn, 1) := by decide +kernel
theorem dX5_bin_31 : decode cX5_bin 31 = .ok (.aload_n 0, 1) := by decide +kernel
theorem dX5_bin_32 : decode cX5_bin 32 = .ok (.getfield 7, 3) := by decide +kernel
theorem dX5_bin_35 : decode cX5_bin 35 = .ok (.aload_n 0, 1) := by decide +kernel
theorem dX5_bin_36 : decode cX5_bin 36 = .ok (.getfield 76, 3) := by decide +kernel
theorem dX5_bin_39 : decode cX5_bin 39 = .ok (.iload_n 1, 1) := by decide +kernel
theorem dX5_bin_40 : decode cX5_bin 40 = .ok (.iastore, 1) := by decide +kernel
theorem dX5_bin_41 : decode cX5_bin 41 = .ok (.aload_n 0, 1) := by decide +kernel
theorem dX5_bin_42 : decode cX5_bin 42 = .ok (.getfield 13, 3) := by decide +kernel
theorem dX5_bin_45 : decode cX5_bin 45 = .ok (.aload_n 0, 1) := by decide +kernel
theorem dX5_bin_46 : decode cX5_bin 46 = .ok (.getfield 76, 3) := by decide +kernel
theorem dX5_bin_49 : decode cX5_bin 49 = .ok (.iload_n 2, 1) := by decide +kernel
theorem dX5_bin_50 : decode cX5_bin 50 = .ok (.iastore, 1) := by decide +kernel
theorem dX5_bin_51 : decode cX5_bin 51 = .ok (.aload_n 0, 1) := by decide +kernel
theorem dX5_bin_52 : decode cX5_bin 52 = .ok (.dup, 1) := by decide +kernel
theorem dX5_bin_53 : decode cX5_bin 53 = .ok (.getfield 76, 3) := by decide +kernel
theorem dX5_bin_56 : decode cX5_bin 56 = .ok (.iconst 1, 1) := by decide +kernel
theorem dX5_bin_57 : decode cX5_bin 57 = .ok (.iadd, 1) := by decide +kernel
theorem dX5_bin_58 : decode cX5_bin 58 = .ok (.putfield 76, 3) := by decide +kernel
theorem dX5_bin_61 : decode cX5_bin 61 = .ok (.aload_n 0, 1) := by decide +kernel
theorem dX5_bin_62 : decode cX5_bin 62 = .ok (.getfield 76, 3) := by decide +kernel
theorem dX5_bin_65 : decode cX5_bin 65 = .ok (.iconst 1, 1) := by decide +kernel
theorem dX5_bin_66 : decode cX5_bin 66 = .ok (.isub, 1) := by decide +kernel
theorem dX5_bin_67 : decode cX5_bin 67 = .ok (.ireturn, 1) := by decide +kernel
theorem dX5_row_0 : decode cX5_row 0 = .ok (.aload_n 0, 1) := by decide +kernel
theorem dX5_row_1 : decode cX5_row 1 = .ok (.iload_n 1, 1) := by decide +kernel
theorem dX5_row_2 : decode cX5_row 2 = .ok (.invokevirtual 83, 3) := by decide +kernel
theorem dX5_row_5 : decode cX5_row 5 = .ok (.ifCond .eq 21, 3) := by decide +kernel
theorem dX5_row_8 : decode cX5_row 8 = .ok (.iload_n 2, 1) := by decide +kernel
theorem dX5_row_9 : decode cX5_row 9 = .ok (.invokestatic 87, 3) := by decide +kernel
theorem dX5_row_12 : decode cX5_row 12 = .ok (.ifCond .eq 14, 3) := by decide +kernel
theorem dX5_row_15 : decode cX5_row 15 = .ok (.iload_n 3, 1) := by decide +kernel
theorem dX5_row_16 : decode cX5_row 16 = .ok (.iconst 0, 1) := by decide +kernel
theorem dX5_row_17 : decode cX5_row 17 = .ok (.sipush 1500, 3) := by decide +kernel
theorem dX5_row_20 : decode cX5_row 20 = .ok (.invokestatic 79, 3) := by decide +kernel
theorem dX5_row_23 : decode cX5_row 23 = .ok (.ifCond .ne 5, 3) := by decide +kernel
theorem dX5_row_26 : decode cX5_row 26 = .ok (.iconst (-1), 1) := by decide +kernel
theorem dX5_row_27 : decode cX5_row 27 = .ok (.ireturn, 1) := by decide +kernel
theorem dX5_row_28 : decode cX5_row 28 = .ok (.iconst 0, 1) := by decide +kernel
theorem dX5_row_29 : decode cX5_row 29 = .ok (.istore 4, 2) := by decide +kernel
theorem dX5_row_31 : decode cX5_row 31 = .ok (.iload 4, 2) := by decide +kernel
theorem dX5_row_33 : decode cX5_row 33 = .ok (.aload_n 0, 1) := by decide +kernel
theorem dX5_row_34 : decode cX5_row 34 = .ok (.getfield 16, 3) := by decide +kernel
theorem dX5_row_37 : decode cX5_row 37 = .ok (.iload_n 1, 1) := by decide +kernel
theorem dX5_row_38 : decode cX5_row 38 = .ok (.iaload, 1) := by decide +kernel
theorem dX5_row_39 : decode cX5_row 39 = .ok (.if_icmp .ge 45, 3) := by decide +kernel
theorem dX5_row_42 : decode cX5_row 42 = .ok (.aload_n 0, 1) := by decide +kernel
theorem dX5_row_43 : decode cX5_row 43 = .ok (.getfield 19, 3) := by decide +kernel
theorem dX5_row_46 : decode cX5_row 46 = .ok (.bipush 24, 2) := by decide +kernel
theorem dX5_row_48 : decode cX5_row 48 = .ok (.iload_n 1, 1) := by decide +kernel
theorem dX5_row_49 : decode cX5_row 49 = .ok (.imul, 1) := by decide +kernel
theorem dX5_row_50 : decode cX5_row 50 = .ok (.iload 4, 2) := by decide +kernel
theorem dX5_row_52 : decode cX5_row 52 = .ok (.iadd, 1) := by decide +kernel
theorem dX5_row_53 : decode cX5_row 53 = .ok (.iaload, 1) := by decide +kernel
theorem dX5_row_54 : decode cX5_row 54 = .ok (.iload_n 2, 1) := by decide +kernel
theorem dX5_row_55 : decode cX5_row 55 = .ok (.if_icmp .ne 23, 3) := by decide +kernel
theorem dX5_row_58 : decode cX5_row 58 = .ok (.aload_n 0, 1) := by decide +kernel
theorem dX5_row_59 : decode cX5_row 59 = .ok (.getfield 22, 3) := by decide +kernel
theorem dX5_row_62 : decode cX5_row 62 = .ok (.bipush 24, 2) := by decide +kernel
theorem dX5_row_64 : decode cX5_row 64 = .ok (.iload_n 1, 1) := by decide +kernel
theorem dX5_row_65 : decode cX5_row 65 = .ok (.imul, 1) := by decide +kernel
theorem dX5_row_66 : decode cX5_row 66 = .ok (.iload 4, 2) := by decide +kernel
theorem dX5_row_68 : decode cX5_row 68 = .ok (.iadd, 1) := by decide +kernel
theorem dX5_row_69 : decode cX5_row 69 = .ok (.iload_n 3, 1) := by decide +kernel
theorem dX5_row_70 : decode cX5_row 70 = .ok (.iastore, 1) := by decide +kernel
theorem dX5_row_71 : decode cX5_row 71 = .ok (.aload_n 0, 1) := by decide +kernel
theorem dX5_row_72 : decode cX5_row 72 = .ok (.getfield 16, 3) := by decide +kernel
theorem dX5_row_75 : decode cX5_row 75 = .ok (.iload_n 1, 1) := by decide +kernel
theorem dX5_row_76 : decode cX5_row 76 = .ok (.iaload, 1) := by decide +kernel
theorem dX5_row_77 : decode cX5_row 77 = .ok (.ireturn, 1) := by decide +kernel
theorem dX5_row_78 : decode cX5_row 78 = .ok (.iinc 4 1, 3) := by decide +kernel
theorem dX5_row_81 : decode cX5_row 81 = .ok (.goto (-50), 3) := by decide +kernel
theorem dX5_row_84 : decode cX5_row 84 = .ok (.aload_n 0, 1) := by decide +kernel
theorem dX5_row_85 : decode cX5_row 85 = .ok (.getfield 16, 3) := by decide +kernel
theorem dX5_row_88 : decode cX5_row 88 = .ok (.iload_n 1, 1) := by decide +kernel
theorem dX5_row_89 : decode cX5_row 89 = .ok (.iaload, 1) := by decide +kernel
theorem dX5_row_90 : decode cX5_row 90 = .ok (.bipush 24, 2) := by decide +kernel
theorem dX5_row_92 : decode cX5_row 92 = .ok (.if_icmp .ne 5, 3) := by decide +kernel
theorem dX5_row_95 : decode cX5_row 95 = .ok (.iconst (-1), 1) := by decide +kernel
theorem dX5_row_96 : decode cX5_row 96 = .ok (.ireturn, 1) := by decide +kernel
theorem dX5_row_97 : decode cX5_row 97 = .ok (.aload_n 0, 1) := by decide +kernel
theorem dX5_row_98 : decode cX5_row 98 = .ok (.getfield 19, 3) := by decide +kernel
theorem dX5_row_101 : decode cX5_row 101 = .ok (.bipush 24, 2) := by decide +kernel
theorem dX5_row_103 : decode cX5_row 103 = .ok (.iload_n 1, 1) := by decide +kernel
theorem dX5_row_104 : decode cX5_row 104 = .ok (.imul, 1) := by decide +kernel
theorem dX5_row_105 : decode cX5_row 105 = .ok (.aload_n 0, 1) := by decide +kernel
theorem dX5_row_106 : decode cX5_row 106 = .ok (.getfield 16, 3) := by decide +kernel
theorem dX5_row_109 : decode cX5_row 109 = .ok (.iload_n 1, 1) := by decide +kernel
theorem dX5_row_110 : decode cX5_row 110 = .ok (.iaload, 1) := by decide +kernel
theorem dX5_row_111 : decode cX5_row 111 = .ok (.iadd, 1) := by decide +kernel
theorem dX5_row_112 : decode cX5_row 112 = .ok (.iload_n 2, 1) := by decide +kernel
theorem dX5_row_113 : decode cX5_row 113 = .ok (.iastore, 1) := by decide +kernel
theorem dX5_row_114 : decode cX5_row 114 = .ok (.aload_n 0, 1) := by decide +kernel
theorem dX5_row_115 : decode cX5_row 115 = .ok (.getfield 22, 3) := by decide +kernel
theorem dX5_row_118 : decode cX5_row 118 = .ok (.bipush 24, 2) := by decide +kernel
theorem dX5_row_120 : decode cX5_row 120 = .ok (.iload_n 1, 1) := by decide +kernel
theorem dX5_row_121 : decode cX5_row 121 = .ok (.imul, 1) := by decide +kernel
theorem dX5_row_122 : decode cX5_row 122 = .ok (.aload_n 0, 1) := by decide +kernel
theorem dX5_row_123 : decode cX5_row 123 = .ok (.getfield 16, 3) := by decide +kernel
theorem dX5_row_126 : decode cX5_row 126 = .ok (.iload_n 1, 1) := by decide +kernel
theorem dX5_row_127 : decode cX5_row 127 = .ok (.iaload, 1) := by decide +kernel
theorem dX5_row_128 : decode cX5_row 128 = .ok (.iadd, 1) := by decide +kernel
theorem dX5_row_129 : decode cX5_row 129 = .ok (.iload_n 3, 1) := by decide +kernel
theorem dX5_row_130 : decode cX5_row 130 = .ok (.iastore, 1) := by decide +kernel
theorem dX5_row_131 : decode cX5_row 131 = .ok (.aload_n 0, 1) := by decide +kernel
theorem dX5_row_132 : decode cX5_row 132 = .ok (.getfield 16, 3) := by decide +kernel
theorem dX5_row_135 : decode cX5_row 135 = .ok (.iload_n 1, 1) := by decide +kernel
theorem dX5_row_136 : decode cX5_row 136 = .ok (.dup2, 1) := by decide +kernel
theorem dX5_row_137 : decode cX5_row 137 = .ok (.iaload, 1) := by decide +kernel
theorem dX5_row_138 : decode cX5_row 138 = .ok (.iconst 1, 1) := by decide +kernel
theorem dX5_row_139 : decode cX5_row 139 = .ok (.iadd, 1) := by decide +kernel
theorem dX5_row_140 : decode cX5_row 140 = .ok (.iastore, 1) := by decide +kernel
theorem dX5_row_141 : decode cX5_row 141 = .ok (.aload_n 0, 1) := by decide +kernel
theorem dX5_row_142 : decode cX5_row 142 = .ok (.getfield 16, 3) := by decide +kernel
theorem dX5_row_145 : decode cX5_row 145 = .ok (.iload_n 1, 1) := by decide +kernel
theorem dX5_row_146 : decode cX5_row 146 = .ok (.iaload, 1) := by decide +kernel
theorem dX5_row_147 : decode cX5_row 147 = .ok (.ireturn, 1) := by decide +kernel
theorem dX5_emptied_0 : decode cX5_emptied 0 = .ok (.aload_n 0, 1) := by decide +kernel
theorem dX5_emptied_1 : decode cX5_emptied 1 = .ok (.iload_n 1, 1) := by decide +kernel
theorem dX5_emptied_2 : decode cX5_emptied 2 = .ok (.invokevirtual 83, 3) := by decide +kernel
theorem dX5_emptied_5 : decode cX5_emptied 5 = .ok (.ifCond .eq 20, 3) := by decide +kernel
theorem dX5_emptied_8 : decode cX5_emptied 8 = .ok (.iload_n 2, 1) := by decide +kernel
theorem dX5_emptied_9 : decode cX5_emptied 9 = .ok (.invokestatic 87, 3) := by decide +kernel
theorem dX5_emptied_12 : decode cX5_emptied 12 = .ok (.ifCond .eq 13, 3) := by decide +kernel
theorem dX5_emptied_15 : decode cX5_emptied 15 = .ok (.iload_n 3, 1) := by decide +kernel
theorem dX5_emptied_16 : decode cX5_emptied 16 = .ok (.iconst 0, 1) := by decide +kernel
theorem dX5_emptied_17 : decode cX5_emptied 17 = .ok (.ldc 90, 2) := by decide +kernel
theorem dX5_emptied_19 : decode cX5_emptied 19 = .ok (.invokestatic 79, 3) := by decide +kernel
theorem dX5_emptied_22 : decode cX5_emptied 22 = .ok (.ifCond .ne 5, 3) := by decide +kernel
theorem dX5_emptied_25 : decode cX5_emptied 25 = .ok (.iconst (-1), 1) := by decide +kernel
theorem dX5_emptied_26 : decode cX5_emptied 26 = .ok (.ireturn, 1) := by decide +kernel
theorem dX5_emptied_27 : decode cX5_emptied 27 = .ok (.iconst 0, 1) := by decide +kernel
theorem dX5_emptied_28 : decode cX5_emptied 28 = .ok (.istore 4, 2) := by decide +kernel
theorem dX5_emptied_30 : decode cX5_emptied 30 = .ok (.iload 4, 2) := by decide +kernel
theorem dX5_emptied_32 : decode cX5_emptied 32 = .ok (.aload_n 0, 1) := by decide +kernel
theorem dX5_emptied_33 : decode cX5_emptied 33 = .ok (.getfield 25, 3) := by decide +kernel
theorem dX5_emptied_36 : decode cX5_emptied 36 = .ok (.iload_n 1, 1) := by decide +kernel
theorem dX5_emptied_37 : decode cX5_emptied 37 = .ok (.iaload, 1) := by decide +kernel
theorem dX5_emptied_38 : decode cX5_emptied 38 = .ok (.if_icmp .ge 45, 3) := by decide +kernel
theorem dX5_emptied_41 : decode cX5_emptied 41 = .ok (.aload_n 0, 1) := by decide +kernel
theorem dX5_emptied_42 : decode cX5_emptied 42 = .ok (.getfield 28, 3) := by decide +kernel
theorem dX5_emptied_45 : decode cX5_emptied 45 = .ok (.bipush 8, 2) := by decide +kernel
theorem dX5_emptied_47 : decode cX5_emptied 47 = .ok (.iload_n 1, 1) := by decide +kernel
theorem dX5_emptied_48 : decode cX5_emptied 48 = .ok (.imul, 1) := by decide +kernel
theorem dX5_emptied_49 : decode cX5_emptied 49 = .ok (.iload 4, 2) := by decide +kernel
theorem dX5_emptied_51 : decode cX5_emptied 51 = .ok (.iadd, 1) := by decide +kernel
theorem dX5_emptied_52 : decode cX5_emptied 52 = .ok (.iaload, 1) := by decide +kernel
theorem dX5_emptied_53 : decode cX5_emptied 53 = .ok (.iload_n 2, 1) := by decide +kernel
theorem dX5_emptied_54 : decode cX5_emptied 54 = .ok (.if_icmp .ne 23, 3) := by decide +kernel
theorem dX5_emptied_57 : decode cX5_emptied 57 = .ok (.aload_n 0, 1) := by decide +kernel
theorem dX5_emptied_58 : decode cX5_emptied 58 = .ok (.getfield 31, 3) := by decide +kernel
theorem dX5_emptied_61 : decode cX5_emptied 61 = .ok (.bipush 8, 2) := by decide +kernel
theorem dX5_emptied_63 : decode cX5_emptied 63 = .ok (.iload_n 1, 1) := by decide +kernel
theorem dX5_emptied_64 : decode cX5_emptied 64 = .ok (.imul, 1) := by decide +kernel
theorem dX5_emptied_65 : decode cX5_emptied 65 = .ok (.iload 4, 2) := by decide +kernel
theorem dX5_emptied_67 : decode cX5_emptied 67 = .ok (.iadd, 1) := by decide +kernel
theorem dX5_emptied_68 : decode cX5_emptied 68 = .ok (.iload_n 3, 1) := by decide +kernel
theorem dX5_emptied_69 : decode cX5_emptied 69 = .ok (.iastore, 1) := by decide +kernel
theorem dX5_emptied_70 : decode cX5_emptied 70 = .ok (.aload_n 0, 1) := by decide +kernel
theorem dX5_emptied_71 : decode cX5_emptied 71 = .ok (.getfield 25, 3) := by decide +kernel
theorem dX5_emptied_74 : decode cX5_emptied 74 = .ok (.iload_n 1, 1) := by decide +kernel
theorem dX5_emptied_75 : decode cX5_emptied 75 = .ok (.iaload, 1) := by decide +kernel
theorem dX5_emptied_76 : decode cX5_emptied 76 = .ok (.ireturn, 1) := by decide +kernel
theorem dX5_emptied_77 : decode cX5_emptied 77 = .ok (.iinc 4 1, 3) := by decide +kernel
theorem dX5_emptied_80 : decode cX5_emptied 80 = .ok (.goto (-50), 3) := by decide +kernel
theorem dX5_emptied_83 : decode cX5_emptied 83 = .ok (.aload_n 0, 1) := by decide +kernel
theorem dX5_emptied_84 : decode cX5_emptied 84 = .ok (.getfield 25, 3) := by decide +kernel
theorem dX5_emptied_87 : decode cX5_emptied 87 = .ok (.iload_n 1, 1) := by decide +kernel
theorem dX5_emptied_88 : decode cX5_emptied 88 = .ok (.iaload, 1) := by decide +kernel
theorem dX5_emptied_89 : decode cX5_emptied 89 = .ok (.bipush 8, 2) := by decide +kernel
theorem dX5_emptied_91 : decode cX5_emptied 91 = .ok (.if_icmp .ne 5, 3) := by decide +kernel
theorem dX5_emptied_94 : decode cX5_emptied 94 = .ok (.iconst (-1), 1) := by decide +kernel
theorem dX5_emptied_95 : decode cX5_emptied 95 = .ok (.ireturn, 1) := by decide +kernel
theorem dX5_emptied_96 : decode cX5_emptied 96 = .ok (.aload_n 0, 1) := by decide +kernel
theorem dX5_emptied_97 : decode cX5_emptied 97 = .ok (.getfield 28, 3) := by decide +kernel
theorem dX5_emptied_100 : decode cX5_emptied 100 = .ok (.bipush 8, 2) := by decide +kernel
theorem dX5_emptied_102 : decode cX5_emptied 102 = .ok (.iload_n 1, 1) := by decide +kernel
theorem dX5_emptied_103 : decode cX5_emptied 103 = .ok (.imul, 1) := by decide +kernel
theorem dX5_emptied_104 : decode cX5_emptied 104 = .ok (.aload_n 0, 1) := by decide +kernel
theorem dX5_emptied_105 : decode cX5_emptied 105 = .ok (.getfield 25, 3) := by decide +kernel
theorem dX5_emptied_108 : decode cX5_emptied 108 = .ok (.iload_n 1, 1) := by decide +kernel
theorem dX5_emptied_109 : decode cX5_emptied 109 = .ok (.iaload, 1) := by decide +kernel
theorem dX5_emptied_110 : decode cX5_emptied 110 = .ok (.iadd, 1) := by decide +kernel
theorem dX5_emptied_111 : decode cX5_emptied 111 = .ok (.iload_n 2, 1) := by decide +kernel
theorem dX5_emptied_112 : decode cX5_emptied 112 = .ok (.iastore, 1) := by decide +kernel
theorem dX5_emptied_113 : decode cX5_emptied 113 = .ok (.aload_n 0, 1) := by decide +kernel
theorem dX5_emptied_114 : decode cX5_emptied 114 = .ok (.getfield 31, 3) := by decide +kernel
theorem dX5_emptied_117 : decode cX5_emptied 117 = .ok (.bipush 8, 2) := by decide +kernel
theorem dX5_emptied_119 : decode cX5_emptied 119 = .ok (.iload_n 1, 1) := by decide +kernel
theorem dX5_emptied_120 : decode cX5_emptied 120 = .ok (.imul, 1) := by decide +kernel
theorem dX5_emptied_121 : decode cX5_emptied 121 = .ok (.aload_n 0, 1) := by decide +kernel
theorem dX5_emptied_122 : decode cX5_emptied 122 = .ok (.getfield 25, 3) := by decide +kernel
theorem dX5_emptied_125 : decode cX5_emptied 125 = .ok (.iload_n 1, 1) := by decide +kernel
theorem dX5_emptied_126 : decode cX5_emptied 126 = .ok (.iaload, 1) := by decide +kernel
theorem dX5_emptied_127 : decode cX5_emptied 127 = .ok (.iadd, 1) := by decide +kernel
theorem dX5_emptied_128 : decode cX5_emptied 128 = .ok (.iload_n 3, 1) := by decide +kernel
theorem dX5_emptied_129 : decode cX5_emptied 129 = .ok (.iastore, 1) := by decide +kernel
theorem dX5_emptied_130 : decode cX5_emptied 130 = .ok (.aload_n 0, 1) := by decide +kernel
theorem dX5_emptied_131 : decode cX5_emptied 131 = .ok (.getfield 25, 3) := by decide +kernel
theorem dX5_emptied_134 : decode cX5_emptied 134 = .ok (.iload_n 1, 1) := by decide +kernel
theorem dX5_emptied_135 : decode cX5_emptied 135 = .ok (.dup2, 1) := by decide +kernel
theorem dX5_emptied_136 : decode cX5_emptied 136 = .ok (.iaload, 1) := by decide +kernel
theorem dX5_emptied_137 : decode cX5_emptied 137 = .ok (.iconst 1, 1) := by decide +kernel
theorem dX5_emptied_138 : decode cX5_emptied 138 = .ok (.iadd, 1) := by decide +kernel
theorem dX5_emptied_139 : decode cX5_emptied 139 = .ok (.iastore, 1) := by decide +kernel
theorem dX5_emptied_140 : decode cX5_emptied 140 = .ok (.aload_n 0, 1) := by decide +kernel
theorem dX5_emptied_141 : decode cX5_emptied 141 = .ok (.getfield 25, 3) := by decide +kernel
theorem dX5_emptied_144 : decode cX5_emptied 144 = .ok (.iload_n 1, 1) := by decide +kernel
theorem dX5_emptied_145 : decode cX5_emptied 145 = .ok (.iaload, 1) := by decide +kernel
theorem dX5_emptied_146 : decode cX5_emptied 146 = .ok (.ireturn, 1) := by decide +kernel
theorem dX5_fade_0 : decode cX5_fade 0 = .ok (.iload_n 1, 1) := by decide +kernel
theorem dX5_fade_1 : decode cX5_fade 1 = .ok (.iconst 1, 1) := by decide +kernel
theorem dX5_fade_2 : decode cX5_fade 2 = .ok (.iload_n 2, 1) := by decide +kernel
theorem dX5_fade_3 : decode cX5_fade 3 = .ok (.invokestatic 79, 3) := by decide +kernel
theorem dX5_fade_6 : decode cX5_fade 6 = .ok (.ifCond .eq 9, 3) := by decide +kernel
theorem dX5_fade_9 : decode cX5_fade 9 = .ok (.iload_n 2, 1) := by decide +kernel
theorem dX5_fade_10 : decode cX5_fade 10 = .ok (.bipush 9, 2) := by decide +kernel
theorem dX5_fade_12 : decode cX5_fade 12 = .ok (.if_icmp .le 5, 3) := by decide +kernel
theorem dX5_fade_15 : decode cX5_fade 15 = .ok (.iconst 0, 1) := by decide +kernel
theorem dX5_fade_16 : decode cX5_fade 16 = .ok (.ireturn, 1) := by decide +kernel
theorem dX5_fade_17 : decode cX5_fade 17 = .ok (.aload_n 0, 1) := by decide +kernel
theorem dX5_fade_18 : decode cX5_fade 18 = .ok (.iload_n 1, 1) := by decide +kernel
theorem dX5_fade_19 : decode cX5_fade 19 = .ok (.putfield 34, 3) := by decide +kernel
theorem dX5_fade_22 : decode cX5_fade 22 = .ok (.aload_n 0, 1) := by decide +kernel
theorem dX5_fade_23 : decode cX5_fade 23 = .ok (.iload_n 2, 1) := by decide +kernel
theorem dX5_fade_24 : decode cX5_fade 24 = .ok (.putfield 38, 3) := by decide +kernel
theorem dX5_fade_27 : decode cX5_fade 27 = .ok (.iconst 1, 1) := by decide +kernel
theorem dX5_fade_28 : decode cX5_fade 28 = .ok (.ireturn, 1) := by decide +kernel
theorem dX5_holiday_0 : decode cX5_holiday 0 = .ok (.iload_n 1, 1) := by decide +kernel
theorem dX5_holiday_1 : decode cX5_holiday 1 = .ok (.invokestatic 91, 3) := by decide +kernel
theorem dX5_holiday_4 : decode cX5_holiday 4 = .ok (.ifCond .ne 5, 3) := by decide +kernel
theorem dX5_holiday_7 : decode cX5_holiday 7 = .ok (.iconst 0, 1) := by decide +kernel
theorem dX5_holiday_8 : decode cX5_holiday 8 = .ok (.ireturn, 1) := by decide +kernel
theorem dX5_holiday_9 : decode cX5_holiday 9 = .ok (.aload_n 0, 1) := by decide +kernel
theorem dX5_holiday_10 : decode cX5_holiday 10 = .ok (.getfield 41, 3) := by decide +kernel
theorem dX5_holiday_13 : decode cX5_holiday 13 = .ok (.iload_n 1, 1) := by decide +kernel
theorem dX5_holiday_14 : decode cX5_holiday 14 = .ok (.iload_n 2, 1) := by decide +kernel
theorem dX5_holiday_15 : decode cX5_holiday 15 = .ok (.bastore, 1) := by decide +kernel
theorem dX5_holiday_16 : decode cX5_holiday 16 = .ok (.iconst 1, 1) := by decide +kernel
theorem dX5_holiday_17 : decode cX5_holiday 17 = .ok (.ireturn, 1) := by decide +kernel
theorem dX5_quiet_0 : decode cX5_quiet 0 = .ok (.iload_n 1, 1) := by decide +kernel
theorem dX5_quiet_1 : decode cX5_quiet 1 = .ok (.iconst 0, 1) := by decide +kernel
theorem dX5_quiet_2 : decode cX5_quiet 2 = .ok (.sipush 1000, 3) := by decide +kernel
theorem dX5_quiet_5 : decode cX5_quiet 5 = .ok (.invokestatic 79, 3) := by decide +kernel
theorem dX5_quiet_8 : decode cX5_quiet 8 = .ok (.ifCond .ne 5, 3) := by decide +kernel
theorem dX5_quiet_11 : decode cX5_quiet 11 = .ok (.iconst 0, 1) := by decide +kernel
theorem dX5_quiet_12 : decode cX5_quiet 12 = .ok (.ireturn, 1) := by decide +kernel
theorem dX5_quiet_13 : decode cX5_quiet 13 = .ok (.aload_n 0, 1) := by decide +kernel
theorem dX5_quiet_14 : decode cX5_quiet 14 = .ok (.iload_n 1, 1) := by decide +kernel
theorem dX5_quiet_15 : decode cX5_quiet 15 = .ok (.putfield 45, 3) := by decide +kernel
theorem dX5_quiet_18 : decode cX5_quiet 18 = .ok (.iconst 1, 1) := by decide +kernel
theorem dX5_quiet_19 : decode cX5_quiet 19 = .ok (.ireturn, 1) := by decide +kernel
theorem dX5_cost_0 : decode cX5_cost 0 = .ok (.iload_n 1, 1) := by decide +kernel
theorem dX5_cost_1 : decode cX5_cost 1 = .ok (.iconst 0, 1) := by decide +kernel
theorem dX5_cost_2 : decode cX5_cost 2 = .ok (.sipush 1000, 3) := by decide +kernel
theorem dX5_cost_5 : decode cX5_cost 5 = .ok (.invokestatic 79, 3) := by decide +kernel
theorem dX5_cost_8 : decode cX5_cost 8 = .ok (.ifCond .eq 14, 3) := by decide +kernel
theorem dX5_cost_11 : decode cX5_cost 11 = .ok (.iload_n 2, 1) := by decide +kernel
theorem dX5_cost_12 : decode cX5_cost 12 = .ok (.iconst 0, 1) := by decide +kernel
theorem dX5_cost_13 : decode cX5_cost 13 = .ok (.sipush 1000, 3) := by decide +kernel
theorem dX5_cost_16 : decode cX5_cost 16 = .ok (.invokestatic 79, 3) := by decide +kernel
theorem dX5_cost_19 : decode cX5_cost 19 = .ok (.ifCond .ne 5, 3) := by decide +kernel
theorem dX5_cost_22 : decode cX5_cost 22 = .ok (.iconst 0, 1) := by decide +kernel
theorem dX5_cost_23 : decode cX5_cost 23 = .ok (.ireturn, 1) := by decide +kernel
theorem dX5_cost_24 : decode cX5_cost 24 = .ok (.aload_n 0, 1) := by decide +kernel
theorem dX5_cost_25 : decode cX5_cost 25 = .ok (.iload_n 1, 1) := by decide +kernel
theorem dX5_cost_26 : decode cX5_cost 26 = .ok (.putfield 48, 3) := by decide +kernel
theorem dX5_cost_29 : decode cX5_cost 29 = .ok (.aload_n 0, 1) := by decide +kernel
theorem dX5_cost_30 : decode cX5_cost 30 = .ok (.iload_n 2, 1) := by decide +kernel
theorem dX5_cost_31 : decode cX5_cost 31 = .ok (.putfield 51, 3) := by decide +kernel
theorem dX5_cost_34 : decode cX5_cost 34 = .ok (.iconst 1, 1) := by decide +kernel
theorem dX5_cost_35 : decode cX5_cost 35 = .ok (.ireturn, 1) := by decide +kernel
theorem dX5_weekdayOf_0 : decode cX5_weekdayOf 0 = .ok (.aload_n 0, 1) := by decide +kernel
theorem dX5_weekdayOf_1 : decode cX5_weekdayOf 1 = .ok (.getfield 41, 3) := by decide +kernel
theorem dX5_weekdayOf_4 : decode cX5_weekdayOf 4 = .ok (.iload_n 1, 1) := by decide +kernel
theorem dX5_weekdayOf_5 : decode cX5_weekdayOf 5 = .ok (.baload, 1) := by decide +kernel
theorem dX5_weekdayOf_6 : decode cX5_weekdayOf 6 = .ok (.ifCond .eq 8, 3) := by decide +kernel
theorem dX5_weekdayOf_9 : decode cX5_weekdayOf 9 = .ok (.bipush 6, 2) := by decide +kernel
theorem dX5_weekdayOf_11 : decode cX5_weekdayOf 11 = .ok (.goto 7, 3) := by decide +kernel
theorem dX5_weekdayOf_14 : decode cX5_weekdayOf 14 = .ok (.iload_n 1, 1) := by decide +kernel
theorem dX5_weekdayOf_15 : decode cX5_weekdayOf 15 = .ok (.bipush 7, 2) := by decide +kernel
theorem dX5_weekdayOf_17 : decode cX5_weekdayOf 17 = .ok (.irem, 1) := by decide +kernel
theorem dX5_weekdayOf_18 : decode cX5_weekdayOf 18 = .ok (.ireturn, 1) := by decide +kernel
theorem dX5_place_0 : decode cX5_place 0 = .ok (.aload_n 0, 1) := by decide +kernel
theorem dX5_place_1 : decode cX5_place 1 = .ok (.getfield 94, 3) := by decide +kernel
theorem dX5_place_4 : decode cX5_place 4 = .ok (.istore 4, 2) := by decide +kernel
theorem dX5_place_6 : decode cX5_place 6 = .ok (.iload 4, 2) := by decide +kernel
theorem dX5_place_8 : decode cX5_place 8 = .ok (.ifCond .le 87, 3) := by decide +kernel
theorem dX5_place_11 : decode cX5_place 11 = .ok (.aload_n 0, 1) := by decide +kernel
theorem dX5_place_12 : decode cX5_place 12 = .ok (.getfield 54, 3) := by decide +kernel
theorem dX5_place_15 : decode cX5_place 15 = .ok (.iload 4, 2) := by decide +kernel
theorem dX5_place_17 : decode cX5_place 17 = .ok (.iconst 1, 1) := by decide +kernel
theorem dX5_place_18 : decode cX5_place 18 = .ok (.isub, 1) := by decide +kernel
theorem dX5_place_19 : decode cX5_place 19 = .ok (.iaload, 1) := by decide +kernel
theorem dX5_place_20 : decode cX5_place 20 = .ok (.iload_n 1, 1) := by decide +kernel
theorem dX5_place_21 : decode cX5_place 21 = .ok (.if_icmp .gt 20, 3) := by decide +kernel
theorem dX5_place_24 : decode cX5_place 24 = .ok (.aload_n 0, 1) := by decide +kernel
theorem dX5_place_25 : decode cX5_place 25 = .ok (.getfield 54, 3) := by decide +kernel
theorem dX5_place_28 : decode cX5_place 28 = .ok (.iload 4, 2) := by decide +kernel
theorem dX5_place_30 : decode cX5_place 30 = .ok (.iconst 1, 1) := by decide +kernel
theorem dX5_place_31 : decode cX5_place 31 = .ok (.isub, 1) := by decide +kernel
theorem dX5_place_32 : decode cX5_place 32 = .ok (.iaload, 1) := by decide +kernel
theorem dX5_place_33 : decode cX5_place 33 = .ok (.iload_n 1, 1) := by decide +kernel
theorem dX5_place_34 : decode cX5_place 34 = .ok (.if_icmp .ne 61, 3) := by decide +kernel
theorem dX5_place_37 : decode cX5_place 37 = .ok (.iload_n 3, 1) := by decide +kernel
theorem dX5_place_38 : decode cX5_place 38 = .ok (.ifCond .ne 57, 3) := by decide +kernel
theorem dX5_place_41 : decode cX5_place 41 = .ok (.aload_n 0, 1) := by decide +kernel
theorem dX5_place_42 : decode cX5_place 42 = .ok (.getfield 54, 3) := by decide +kernel
theorem dX5_place_45 : decode cX5_place 45 = .ok (.iload 4, 2) := by decide +kernel
theorem dX5_place_47 : decode cX5_place 47 = .ok (.aload_n 0, 1) := by decide +kernel
theorem dX5_place_48 : decode cX5_place 48 = .ok (.getfield 54, 3) := by decide +kernel
theorem dX5_place_51 : decode cX5_place 51 = .ok (.iload 4, 2) := by decide +kernel
theorem dX5_place_53 : decode cX5_place 53 = .ok (.iconst 1, 1) := by decide +kernel
theorem dX5_place_54 : decode cX5_place 54 = .ok (.isub, 1) := by decide +kernel
theorem dX5_place_55 : decode cX5_place 55 = .ok (.iaload, 1) := by decide +kernel
theorem dX5_place_56 : decode cX5_place 56 = .ok (.iastore, 1) := by decide +kernel
theorem dX5_place_57 : decode cX5_place 57 = .ok (.aload_n 0, 1) := by decide +kernel
theorem dX5_place_58 : decode cX5_place 58 = .ok (.getfield 57, 3) := by decide +kernel
theorem dX5_place_61 : decode cX5_place 61 = .ok (.iload 4, 2) := by decide +kernel
theorem dX5_place_63 : decode cX5_place 63 = .ok (.aload_n 0, 1) := by decide +kernel
theorem dX5_place_64 : decode cX5_place 64 = .ok (.getfield 57, 3) := by decide +kernel
theorem dX5_place_67 : decode cX5_place 67 = .ok (.iload 4, 2) := by decide +kernel
theorem dX5_place_69 : decode cX5_place 69 = .ok (.iconst 1, 1) := by decide +kernel
theorem dX5_place_70 : decode cX5_place 70 = .ok (.isub, 1) := by decide +kernel
theorem dX5_place_71 : decode cX5_place 71 = .ok (.iaload, 1) := by decide +kernel
theorem dX5_place_72 : decode cX5_place 72 = .ok (.iastore, 1) := by decide +kernel
theorem dX5_place_73 : decode cX5_place 73 = .ok (.aload_n 0, 1) := by decide +kernel
theorem dX5_place_74 : decode cX5_place 74 = .ok (.getfield 60, 3) := by decide +kernel
theorem dX5_place_77 : decode cX5_place 77 = .ok (.iload 4, 2) := by decide +kernel
theorem dX5_place_79 : decode cX5_place 79 = .ok (.aload_n 0, 1) := by decide +kernel
theorem dX5_place_80 : decode cX5_place 80 = .ok (.getfield 60, 3) := by decide +kernel
theorem dX5_place_83 : decode cX5_place 83 = .ok (.iload 4, 2) := by decide +kernel
theorem dX5_place_85 : decode cX5_place 85 = .ok (.iconst 1, 1) := by decide +kernel
theorem dX5_place_86 : decode cX5_place 86 = .ok (.isub, 1) := by decide +kernel
theorem dX5_place_87 : decode cX5_place 87 = .ok (.baload, 1) := by decide +kernel
theorem dX5_place_88 : decode cX5_place 88 = .ok (.bastore, 1) := by decide +kernel
theorem dX5_place_89 : decode cX5_place 89 = .ok (.iinc 4 (-1), 3) := by decide +kernel
theorem dX5_place_92 : decode cX5_place 92 = .ok (.goto (-86), 3) := by decide +kernel
theorem dX5_place_95 : decode cX5_place 95 = .ok (.aload_n 0, 1) := by decide +kernel
theorem dX5_place_96 : decode cX5_place 96 = .ok (.getfield 54, 3) := by decide +kernel
theorem dX5_place_99 : decode cX5_place 99 = .ok (.iload 4, 2) := by decide +kernel
theorem dX5_place_101 : decode cX5_place 101 = .ok (.iload_n 1, 1) := by decide +kernel
theorem dX5_place_102 : decode cX5_place 102 = .ok (.iastore, 1) := by decide +kernel
theorem dX5_place_103 : decode cX5_place 103 = .ok (.aload_n 0, 1) := by decide +kernel
theorem dX5_place_104 : decode cX5_place 104 = .ok (.getfield 57, 3) := by decide +kernel
theorem dX5_place_107 : decode cX5_place 107 = .ok (.iload 4, 2) := by decide +kernel
theorem dX5_place_109 : decode cX5_place 109 = .ok (.iload_n 2, 1) := by decide +kernel
theorem dX5_place_110 : decode cX5_place 110 = .ok (.iastore, 1) := by decide +kernel
theorem dX5_place_111 : decode cX5_place 111 = .ok (.aload_n 0, 1) := by decide +kernel
theorem dX5_place_112 : decode cX5_place 112 = .ok (.getfield 60, 3) := by decide +kernel
theorem dX5_place_115 : decode cX5_place 115 = .ok (.iload 4, 2) := by decide +kernel
theorem dX5_place_117 : decode cX5_place 117 = .ok (.iload_n 3, 1) := by decide +kernel
theorem dX5_place_118 : decode cX5_place 118 = .ok (.bastore, 1) := by decide +kernel
theorem dX5_place_119 : decode cX5_place 119 = .ok (.aload_n 0, 1) := by decide +kernel
theorem dX5_place_120 : decode cX5_place 120 = .ok (.dup, 1) := by decide +kernel
theorem dX5_place_121 : decode cX5_place 121 = .ok (.getfield 94, 3) := by decide +kernel
theorem dX5_place_124 : decode cX5_place 124 = .ok (.iconst 1, 1) := by decide +kernel
theorem dX5_place_125 : decode cX5_place 125 = .ok (.iadd, 1) := by decide +kernel
theorem dX5_place_126 : decode cX5_place 126 = .ok (.putfield 94, 3) := by decide +kernel
theorem dX5_place_129 : decode cX5_place 129 = .ok (.return_, 1) := by decide +kernel
theorem dX5_layOut_0 : decode cX5_layOut 0 = .ok (.aload_n 0, 1) := by decide +kernel
theorem dX5_layOut_1 : decode cX5_layOut 1 = .ok (.iconst 0, 1) := by decide +kernel
theorem dX5_layOut_2 : decode cX5_layOut 2 = .ok (.putfield 94, 3) := by decide +kernel
theorem dX5_layOut_5 : decode cX5_layOut 5 = .ok (.iconst 0, 1) := by decide +kernel
theorem dX5_layOut_6 : decode cX5_layOut 6 = .ok (.istore_n 2, 1) := by decide +kernel
theorem dX5_layOut_7 : decode cX5_layOut 7 = .ok (.iload_n 2, 1) := by decide +kernel
theorem dX5_layOut_8 : decode cX5_layOut 8 = .ok (.aload_n 0, 1) := by decide +kernel
theorem dX5_layOut_9 : decode cX5_layOut 9 = .ok (.getfield 16, 3) := by decide +kernel
theorem dX5_layOut_12 : decode cX5_layOut 12 = .ok (.iload_n 1, 1) := by decide +kernel
theorem dX5_layOut_13 : decode cX5_layOut 13 = .ok (.iaload, 1) := by decide +kernel
theorem dX5_layOut_14 : decode cX5_layOut 14 = .ok (.if_icmp .ge 36, 3) := by decide +kernel
theorem dX5_layOut_17 : decode cX5_layOut 17 = .ok (.aload_n 0, 1) := by decide +kernel
theorem dX5_layOut_18 : decode cX5_layOut 18 = .ok (.aload_n 0, 1) := by decide +kernel
theorem dX5_layOut_19 : decode cX5_layOut 19 = .ok (.getfield 19, 3) := by decide +kernel
theorem dX5_layOut_22 : decode cX5_layOut 22 = .ok (.bipush 24, 2) := by decide +kernel
theorem dX5_layOut_24 : decode cX5_layOut 24 = .ok (.iload_n 1, 1) := by decide +kernel
theorem dX5_layOut_25 : decode cX5_layOut 25 = .ok (.imul, 1) := by decide +kernel
theorem dX5_layOut_26 : decode cX5_layOut 26 = .ok (.iload_n 2, 1) := by decide +kernel
theorem dX5_layOut_27 : decode cX5_layOut 27 = .ok (.iadd, 1) := by decide +kernel
theorem dX5_layOut_28 : decode cX5_layOut 28 = .ok (.iaload, 1) := by decide +kernel
theorem dX5_layOut_29 : decode cX5_layOut 29 = .ok (.aload_n 0, 1) := by decide +kernel
theorem dX5_layOut_30 : decode cX5_layOut 30 = .ok (.getfield 22, 3) := by decide +kernel
theorem dX5_layOut_33 : decode cX5_layOut 33 = .ok (.bipush 24, 2) := by decide +kernel
theorem dX5_layOut_35 : decode cX5_layOut 35 = .ok (.iload_n 1, 1) := by decide +kernel
theorem dX5_layOut_36 : decode cX5_layOut 36 = .ok (.imul, 1) := by decide +kernel
theorem dX5_layOut_37 : decode cX5_layOut 37 = .ok (.iload_n 2, 1) := by decide +kernel
theorem dX5_layOut_38 : decode cX5_layOut 38 = .ok (.iadd, 1) := by decide +kernel
theorem dX5_layOut_39 : decode cX5_layOut 39 = .ok (.iaload, 1) := by decide +kernel
theorem dX5_layOut_40 : decode cX5_layOut 40 = .ok (.iconst 0, 1) := by decide +kernel
theorem dX5_layOut_41 : decode cX5_layOut 41 = .ok (.invokevirtual 97, 3) := by decide +kernel
theorem dX5_layOut_44 : decode cX5_layOut 44 = .ok (.iinc 2 1, 3) := by decide +kernel
theorem dX5_layOut_47 : decode cX5_layOut 47 = .ok (.goto (-40), 3) := by decide +kernel
theorem dX5_layOut_50 : decode cX5_layOut 50 = .ok (.iconst 0, 1) := by decide +kernel
theorem dX5_layOut_51 : decode cX5_layOut 51 = .ok (.istore_n 2, 1) := by decide +kernel
theorem dX5_layOut_52 : decode cX5_layOut 52 = .ok (.iload_n 2, 1) := by decide +kernel
theorem dX5_layOut_53 : decode cX5_layOut 53 = .ok (.aload_n 0, 1) := by decide +kernel
theorem dX5_layOut_54 : decode cX5_layOut 54 = .ok (.getfield 25, 3) := by decide +kernel
theorem dX5_layOut_57 : decode cX5_layOut 57 = .ok (.iload_n 1, 1) := by decide +kernel
theorem dX5_layOut_58 : decode cX5_layOut 58 = .ok (.iaload, 1) := by decide +kernel
theorem dX5_layOut_59 : decode cX5_layOut 59 = .ok (.if_icmp .ge 26, 3) := by decide +kernel
theorem dX5_layOut_62 : decode cX5_layOut 62 = .ok (.aload_n 0, 1) := by decide +kernel
theorem dX5_layOut_63 : decode cX5_layOut 63 = .ok (.aload_n 0, 1) := by decide +kernel
theorem dX5_layOut_64 : decode cX5_layOut 64 = .ok (.getfield 28, 3) := by decide +kernel
theorem dX5_layOut_67 : decode cX5_layOut 67 = .ok (.bipush 8, 2) := by decide +kernel
theorem dX5_layOut_69 : decode cX5_layOut 69 = .ok (.iload_n 1, 1) := by decide +kernel
theorem dX5_layOut_70 : decode cX5_layOut 70 = .ok (.imul, 1) := by decide +kernel
theorem dX5_layOut_71 : decode cX5_layOut 71 = .ok (.iload_n 2, 1) := by decide +kernel
theorem dX5_layOut_72 : decode cX5_layOut 72 = .ok (.iadd, 1) := by decide +kernel
theorem dX5_layOut_73 : decode cX5_layOut 73 = .ok (.iaload, 1) := by decide +kernel
theorem dX5_layOut_74 : decode cX5_layOut 74 = .ok (.iconst 0, 1) := by decide +kernel
theorem dX5_layOut_75 : decode cX5_layOut 75 = .ok (.iconst 1, 1) := by decide +kernel
theorem dX5_layOut_76 : decode cX5_layOut 76 = .ok (.invokevirtual 97, 3) := by decide +kernel
theorem dX5_layOut_79 : decode cX5_layOut 79 = .ok (.iinc 2 1, 3) := by decide +kernel
theorem dX5_layOut_82 : decode cX5_layOut 82 = .ok (.goto (-30), 3) := by decide +kernel
theorem dX5_layOut_85 : decode cX5_layOut 85 = .ok (.iconst (-1), 1) := by decide +kernel
theorem dX5_layOut_86 : decode cX5_layOut 86 = .ok (.istore_n 2, 1) := by decide +kernel
theorem dX5_layOut_87 : decode cX5_layOut 87 = .ok (.iconst 0, 1) := by decide +kernel
theorem dX5_layOut_88 : decode cX5_layOut 88 = .ok (.istore_n 3, 1) := by decide +kernel
theorem dX5_layOut_89 : decode cX5_layOut 89 = .ok (.iload_n 3, 1) := by decide +kernel
theorem dX5_layOut_90 : decode cX5_layOut 90 = .ok (.aload_n 0, 1) := by decide +kernel
theorem dX5_layOut_91 : decode cX5_layOut 91 = .ok (.getfield 94, 3) := by decide +kernel
theorem dX5_layOut_94 : decode cX5_layOut 94 = .ok (.if_icmp .ge 137, 3) := by decide +kernel
theorem dX5_layOut_97 : decode cX5_layOut 97 = .ok (.aload_n 0, 1) := by decide +kernel
theorem dX5_layOut_98 : decode cX5_layOut 98 = .ok (.getfield 63, 3) := by decide +kernel
theorem dX5_layOut_101 : decode cX5_layOut 101 = .ok (.iload_n 3, 1) := by decide +kernel
theorem dX5_layOut_102 : decode cX5_layOut 102 = .ok (.aload_n 0, 1) := by decide +kernel
theorem dX5_layOut_103 : decode cX5_layOut 103 = .ok (.getfield 60, 3) := by decide +kernel
theorem dX5_layOut_106 : decode cX5_layOut 106 = .ok (.iload_n 3, 1) := by decide +kernel
theorem dX5_layOut_107 : decode cX5_layOut 107 = .ok (.baload, 1) := by decide +kernel
theorem dX5_layOut_108 : decode cX5_layOut 108 = .ok (.ifCond .ne 26, 3) := by decide +kernel
theorem dX5_layOut_111 : decode cX5_layOut 111 = .ok (.iload_n 2, 1) := by decide +kernel
theorem dX5_layOut_112 : decode cX5_layOut 112 = .ok (.ifCond .lt 22, 3) := by decide +kernel
theorem dX5_layOut_115 : decode cX5_layOut 115 = .ok (.aload_n 0, 1) := by decide +kernel
theorem dX5_layOut_116 : decode cX5_layOut 116 = .ok (.getfield 57, 3) := by decide +kernel
theorem dX5_layOut_119 : decode cX5_layOut 119 = .ok (.iload_n 3, 1) := by decide +kernel
theorem dX5_layOut_120 : decode cX5_layOut 120 = .ok (.iaload, 1) := by decide +kernel
theorem dX5_layOut_121 : decode cX5_layOut 121 = .ok (.aload_n 0, 1) := by decide +kernel
theorem dX5_layOut_122 : decode cX5_layOut 122 = .ok (.getfield 57, 3) := by decide +kernel
theorem dX5_layOut_125 : decode cX5_layOut 125 = .ok (.iload_n 2, 1) := by decide +kernel
theorem dX5_layOut_126 : decode cX5_layOut 126 = .ok (.iaload, 1) := by decide +kernel
theorem dX5_layOut_127 : decode cX5_layOut 127 = .ok (.if_icmp .ge 7, 3) := by decide +kernel
theorem dX5_layOut_130 : decode cX5_layOut 130 = .ok (.iconst 1, 1) := by decide +kernel
theorem dX5_layOut_131 : decode cX5_layOut 131 = .ok (.goto 4, 3) := by decide +kernel
theorem dX5_layOut_134 : decode cX5_layOut 134 = .ok (.iconst 0, 1) := by decide +kernel
theorem dX5_layOut_135 : decode cX5_layOut 135 = .ok (.bastore, 1) := by decide +kernel
theorem dX5_layOut_136 : decode cX5_layOut 136 = .ok (.aload_n 0, 1) := by decide +kernel
theorem dX5_layOut_137 : decode cX5_layOut 137 = .ok (.getfield 60, 3) := by decide +kernel
theorem dX5_layOut_140 : decode cX5_layOut 140 = .ok (.iload_n 3, 1) := by decide +kernel
theorem dX5_layOut_141 : decode cX5_layOut 141 = .ok (.baload, 1) := by decide +kernel
theorem dX5_layOut_142 : decode cX5_layOut 142 = .ok (.ifCond .ne 20, 3) := by decide +kernel
theorem dX5_layOut_145 : decode cX5_layOut 145 = .ok (.aload_n 0, 1) := by decide +kernel
theorem dX5_layOut_146 : decode cX5_layOut 146 = .ok (.getfield 63, 3) := by decide +kernel
theorem dX5_layOut_149 : decode cX5_layOut 149 = .ok (.iload_n 3, 1) := by decide +kernel
theorem dX5_layOut_150 : decode cX5_layOut 150 = .ok (.baload, 1) := by decide +kernel
theorem dX5_layOut_151 : decode cX5_layOut 151 = .ok (.ifCond .ne 11, 3) := by decide +kernel
theorem dX5_layOut_154 : decode cX5_layOut 154 = .ok (.iload_n 2, 1) := by decide +kernel
theorem dX5_layOut_155 : decode cX5_layOut 155 = .ok (.ifCond .lt 7, 3) := by decide +kernel
theorem dX5_layOut_158 : decode cX5_layOut 158 = .ok (.iconst 1, 1) := by decide +kernel
theorem dX5_layOut_159 : decode cX5_layOut 159 = .ok (.goto 4, 3) := by decide +kernel
theorem dX5_layOut_162 : decode cX5_layOut 162 = .ok (.iconst 0, 1) := by decide +kernel
theorem dX5_layOut_163 : decode cX5_layOut 163 = .ok (.istore 4, 2) := by decide +kernel
theorem dX5_layOut_165 : decode cX5_layOut 165 = .ok (.aload_n 0, 1) := by decide +kernel
theorem dX5_layOut_166 : decode cX5_layOut 166 = .ok (.getfield 66, 3) := by decide +kernel
theorem dX5_layOut_169 : decode cX5_layOut 169 = .ok (.iload_n 3, 1) := by decide +kernel
theorem dX5_layOut_170 : decode cX5_layOut 170 = .ok (.iload 4, 2) := by decide +kernel
theorem dX5_layOut_172 : decode cX5_layOut 172 = .ok (.ifCond .eq 36, 3) := by decide +kernel
theorem dX5_layOut_175 : decode cX5_layOut 175 = .ok (.aload_n 0, 1) := by decide +kernel
theorem dX5_layOut_176 : decode cX5_layOut 176 = .ok (.getfield 57, 3) := by decide +kernel
theorem dX5_layOut_179 : decode cX5_layOut 179 = .ok (.iload_n 3, 1) := by decide +kernel
theorem dX5_layOut_180 : decode cX5_layOut 180 = .ok (.iaload, 1) := by decide +kernel
theorem dX5_layOut_181 : decode cX5_layOut 181 = .ok (.aload_n 0, 1) := by decide +kernel
theorem dX5_layOut_182 : decode cX5_layOut 182 = .ok (.getfield 57, 3) := by decide +kernel
theorem dX5_layOut_185 : decode cX5_layOut 185 = .ok (.iload_n 2, 1) := by decide +kernel
theorem dX5_layOut_186 : decode cX5_layOut 186 = .ok (.iaload, 1) := by decide +kernel
theorem dX5_layOut_187 : decode cX5_layOut 187 = .ok (.isub, 1) := by decide +kernel
theorem dX5_layOut_188 : decode cX5_layOut 188 = .ok (.bipush 24, 2) := by decide +kernel
theorem dX5_layOut_190 : decode cX5_layOut 190 = .ok (.imul, 1) := by decide +kernel
theorem dX5_layOut_191 : decode cX5_layOut 191 = .ok (.aload_n 0, 1) := by decide +kernel
theorem dX5_layOut_192 : decode cX5_layOut 192 = .ok (.getfield 54, 3) := by decide +kernel
theorem dX5_layOut_195 : decode cX5_layOut 195 = .ok (.iload_n 3, 1) := by decide +kernel
theorem dX5_layOut_196 : decode cX5_layOut 196 = .ok (.iaload, 1) := by decide +kernel
theorem dX5_layOut_197 : decode cX5_layOut 197 = .ok (.aload_n 0, 1) := by decide +kernel
theorem dX5_layOut_198 : decode cX5_layOut 198 = .ok (.getfield 54, 3) := by decide +kernel
theorem dX5_layOut_201 : decode cX5_layOut 201 = .ok (.iload_n 2, 1) := by decide +kernel
theorem dX5_layOut_202 : decode cX5_layOut 202 = .ok (.iaload, 1) := by decide +kernel
theorem dX5_layOut_203 : decode cX5_layOut 203 = .ok (.isub, 1) := by decide +kernel
theorem dX5_layOut_204 : decode cX5_layOut 204 = .ok (.idiv, 1) := by decide +kernel
theorem dX5_layOut_205 : decode cX5_layOut 205 = .ok (.goto 4, 3) := by decide +kernel
theorem dX5_layOut_208 : decode cX5_layOut 208 = .ok (.iconst (-1), 1) := by decide +kernel
theorem dX5_layOut_209 : decode cX5_layOut 209 = .ok (.iastore, 1) := by decide +kernel
theorem dX5_layOut_210 : decode cX5_layOut 210 = .ok (.aload_n 0, 1) := by decide +kernel
theorem dX5_layOut_211 : decode cX5_layOut 211 = .ok (.getfield 63, 3) := by decide +kernel
theorem dX5_layOut_214 : decode cX5_layOut 214 = .ok (.iload_n 3, 1) := by decide +kernel
theorem dX5_layOut_215 : decode cX5_layOut 215 = .ok (.baload, 1) := by decide +kernel
theorem dX5_layOut_216 : decode cX5_layOut 216 = .ok (.ifCond .eq 7, 3) := by decide +kernel
theorem dX5_layOut_219 : decode cX5_layOut 219 = .ok (.iload_n 2, 1) := by decide +kernel
theorem dX5_layOut_220 : decode cX5_layOut 220 = .ok (.goto 4, 3) := by decide +kernel
theorem dX5_layOut_223 : decode cX5_layOut 223 = .ok (.iload_n 3, 1) := by decide +kernel
theorem dX5_layOut_224 : decode cX5_layOut 224 = .ok (.istore_n 2, 1) := by decide +kernel
theorem dX5_layOut_225 : decode cX5_layOut 225 = .ok (.iinc 3 1, 3) := by decide +kernel
theorem dX5_layOut_228 : decode cX5_layOut 228 = .ok (.goto (-139), 3) := by decide +kernel
theorem dX5_layOut_231 : decode cX5_layOut 231 = .ok (.return_, 1) := by decide +kernel
theorem dX5_weightOf_0 : decode cX5_weightOf 0 = .ok (.iconst 1, 1) := by decide +kernel
theorem dX5_weightOf_1 : decode cX5_weightOf 1 = .ok (.istore_n 2, 1) := by decide +kernel
theorem dX5_weightOf_2 : decode cX5_weightOf 2 = .ok (.iconst 0, 1) := by decide +kernel
theorem dX5_weightOf_3 : decode cX5_weightOf 3 = .ok (.istore_n 3, 1) := by decide +kernel
theorem dX5_weightOf_4 : decode cX5_weightOf 4 = .ok (.iload_n 3, 1) := by decide +kernel
theorem dX5_weightOf_5 : decode cX5_weightOf 5 = .ok (.bipush 7, 2) := by decide +kernel
theorem dX5_weightOf_7 : decode cX5_weightOf 7 = .ok (.if_icmp .ge 28, 3) := by decide +kernel
theorem dX5_weightOf_10 : decode cX5_weightOf 10 = .ok (.iload_n 2, 1) := by decide +kernel
theorem dX5_weightOf_11 : decode cX5_weightOf 11 = .ok (.iload_n 3, 1) := by decide +kernel
theorem dX5_weightOf_12 : decode cX5_weightOf 12 = .ok (.iload_n 1, 1) := by decide +kernel
theorem dX5_weightOf_13 : decode cX5_weightOf 13 = .ok (.if_icmp .ge 10, 3) := by decide +kernel
end
section
theorem dX5_weightOf_16 : decode cX5_weightOf 16 = .ok (.aload_n 0, 1) := by decide +kernel
theorem dX5_weightOf_17 : decode cX5_weightOf 17 = .ok (.getfield 34, 3) := by decide +kernel
theorem dX5_weightOf_20 : decode cX5_weightOf 20 = .ok (.goto 7, 3) := by decide +kernel
theorem dX5_weightOf_23 : decode cX5_weightOf 23 = .ok (.aload_n 0, 1) := by decide +kernel
theorem dX5_weightOf_24 : decode cX5_weightOf 24 = .ok (.getfield 38, 3) := by decide +kernel
theorem dX5_weightOf_27 : decode cX5_weightOf 27 = .ok (.imul, 1) := by decide +kernel
theorem dX5_weightOf_28 : decode cX5_weightOf 28 = .ok (.istore_n 2, 1) := by decide +kernel
theorem dX5_weightOf_29 : decode cX5_weightOf 29 = .ok (.iinc 3 1, 3) := by decide +kernel
theorem dX5_weightOf_32 : decode cX5_weightOf 32 = .ok (.goto (-28), 3) := by decide +kernel
theorem dX5_weightOf_35 : decode cX5_weightOf 35 = .ok (.iload_n 2, 1) := by decide +kernel
theorem dX5_weightOf_36 : decode cX5_weightOf 36 = .ok (.ireturn, 1) := by decide +kernel
theorem dX5_weight_0 : decode cX5_weight 0 = .ok (.iload_n 1, 1) := by decide +kernel
theorem dX5_weight_1 : decode cX5_weight 1 = .ok (.iconst 0, 1) := by decide +kernel
theorem dX5_weight_2 : decode cX5_weight 2 = .ok (.bipush 7, 2) := by decide +kernel
theorem dX5_weight_4 : decode cX5_weight 4 = .ok (.invokestatic 79, 3) := by decide +kernel
theorem dX5_weight_7 : decode cX5_weight 7 = .ok (.ifCond .eq 11, 3) := by decide +kernel
theorem dX5_weight_10 : decode cX5_weight 10 = .ok (.aload_n 0, 1) := by decide +kernel
theorem dX5_weight_11 : decode cX5_weight 11 = .ok (.iload_n 1, 1) := by decide +kernel
theorem dX5_weight_12 : decode cX5_weight 12 = .ok (.invokevirtual 101, 3) := by decide +kernel
theorem dX5_weight_15 : decode cX5_weight 15 = .ok (.goto 4, 3) := by decide +kernel
theorem dX5_weight_18 : decode cX5_weight 18 = .ok (.iconst (-1), 1) := by decide +kernel
theorem dX5_weight_19 : decode cX5_weight 19 = .ok (.ireturn, 1) := by decide +kernel
theorem dX5_meanOf_0 : decode cX5_meanOf 0 = .ok (.aload_n 0, 1) := by decide +kernel
theorem dX5_meanOf_1 : decode cX5_meanOf 1 = .ok (.iload_n 1, 1) := by decide +kernel
theorem dX5_meanOf_2 : decode cX5_meanOf 2 = .ok (.invokevirtual 105, 3) := by decide +kernel
theorem dX5_meanOf_5 : decode cX5_meanOf 5 = .ok (.lconst 0, 1) := by decide +kernel
theorem dX5_meanOf_6 : decode cX5_meanOf 6 = .ok (.lstore_n 3, 1) := by decide +kernel
theorem dX5_meanOf_7 : decode cX5_meanOf 7 = .ok (.lconst 0, 1) := by decide +kernel
theorem dX5_meanOf_8 : decode cX5_meanOf 8 = .ok (.lstore 5, 2) := by decide +kernel
theorem dX5_meanOf_10 : decode cX5_meanOf 10 = .ok (.iconst 0, 1) := by decide +kernel
theorem dX5_meanOf_11 : decode cX5_meanOf 11 = .ok (.istore 7, 2) := by decide +kernel
theorem dX5_meanOf_13 : decode cX5_meanOf 13 = .ok (.aload_n 0, 1) := by decide +kernel
theorem dX5_meanOf_14 : decode cX5_meanOf 14 = .ok (.getfield 94, 3) := by decide +kernel
theorem dX5_meanOf_17 : decode cX5_meanOf 17 = .ok (.iconst 1, 1) := by decide +kernel
theorem dX5_meanOf_18 : decode cX5_meanOf 18 = .ok (.isub, 1) := by decide +kernel
theorem dX5_meanOf_19 : decode cX5_meanOf 19 = .ok (.istore 8, 2) := by decide +kernel
theorem dX5_meanOf_21 : decode cX5_meanOf 21 = .ok (.iload 8, 2) := by decide +kernel
theorem dX5_meanOf_23 : decode cX5_meanOf 23 = .ok (.ifCond .lt 78, 3) := by decide +kernel
theorem dX5_meanOf_26 : decode cX5_meanOf 26 = .ok (.iload 7, 2) := by decide +kernel
theorem dX5_meanOf_28 : decode cX5_meanOf 28 = .ok (.bipush 8, 2) := by decide +kernel
theorem dX5_meanOf_30 : decode cX5_meanOf 30 = .ok (.if_icmp .ge 71, 3) := by decide +kernel
theorem dX5_meanOf_33 : decode cX5_meanOf 33 = .ok (.aload_n 0, 1) := by decide +kernel
theorem dX5_meanOf_34 : decode cX5_meanOf 34 = .ok (.getfield 66, 3) := by decide +kernel
theorem dX5_meanOf_37 : decode cX5_meanOf 37 = .ok (.iload 8, 2) := by decide +kernel
theorem dX5_meanOf_39 : decode cX5_meanOf 39 = .ok (.iaload, 1) := by decide +kernel
theorem dX5_meanOf_40 : decode cX5_meanOf 40 = .ok (.ifCond .lt 55, 3) := by decide +kernel
theorem dX5_meanOf_43 : decode cX5_meanOf 43 = .ok (.aload_n 0, 1) := by decide +kernel
theorem dX5_meanOf_44 : decode cX5_meanOf 44 = .ok (.aload_n 0, 1) := by decide +kernel
theorem dX5_meanOf_45 : decode cX5_meanOf 45 = .ok (.getfield 54, 3) := by decide +kernel
theorem dX5_meanOf_48 : decode cX5_meanOf 48 = .ok (.iload 8, 2) := by decide +kernel
theorem dX5_meanOf_50 : decode cX5_meanOf 50 = .ok (.iaload, 1) := by decide +kernel
theorem dX5_meanOf_51 : decode cX5_meanOf 51 = .ok (.bipush 24, 2) := by decide +kernel
theorem dX5_meanOf_53 : decode cX5_meanOf 53 = .ok (.idiv, 1) := by decide +kernel
theorem dX5_meanOf_54 : decode cX5_meanOf 54 = .ok (.invokevirtual 109, 3) := by decide +kernel
theorem dX5_meanOf_57 : decode cX5_meanOf 57 = .ok (.iload_n 2, 1) := by decide +kernel
theorem dX5_meanOf_58 : decode cX5_meanOf 58 = .ok (.if_icmp .ne 37, 3) := by decide +kernel
theorem dX5_meanOf_61 : decode cX5_meanOf 61 = .ok (.lload_n 3, 1) := by decide +kernel
theorem dX5_meanOf_62 : decode cX5_meanOf 62 = .ok (.aload_n 0, 1) := by decide +kernel
theorem dX5_meanOf_63 : decode cX5_meanOf 63 = .ok (.iload 7, 2) := by decide +kernel
theorem dX5_meanOf_65 : decode cX5_meanOf 65 = .ok (.invokevirtual 101, 3) := by decide +kernel
theorem dX5_meanOf_68 : decode cX5_meanOf 68 = .ok (.i2l, 1) := by decide +kernel
theorem dX5_meanOf_69 : decode cX5_meanOf 69 = .ok (.aload_n 0, 1) := by decide +kernel
theorem dX5_meanOf_70 : decode cX5_meanOf 70 = .ok (.getfield 66, 3) := by decide +kernel
theorem dX5_meanOf_73 : decode cX5_meanOf 73 = .ok (.iload 8, 2) := by decide +kernel
theorem dX5_meanOf_75 : decode cX5_meanOf 75 = .ok (.iaload, 1) := by decide +kernel
theorem dX5_meanOf_76 : decode cX5_meanOf 76 = .ok (.i2l, 1) := by decide +kernel
theorem dX5_meanOf_77 : decode cX5_meanOf 77 = .ok (.lmul, 1) := by decide +kernel
theorem dX5_meanOf_78 : decode cX5_meanOf 78 = .ok (.ladd, 1) := by decide +kernel
theorem dX5_meanOf_79 : decode cX5_meanOf 79 = .ok (.lstore_n 3, 1) := by decide +kernel
theorem dX5_meanOf_80 : decode cX5_meanOf 80 = .ok (.lload 5, 2) := by decide +kernel
theorem dX5_meanOf_82 : decode cX5_meanOf 82 = .ok (.aload_n 0, 1) := by decide +kernel
theorem dX5_meanOf_83 : decode cX5_meanOf 83 = .ok (.iload 7, 2) := by decide +kernel
theorem dX5_meanOf_85 : decode cX5_meanOf 85 = .ok (.invokevirtual 101, 3) := by decide +kernel
theorem dX5_meanOf_88 : decode cX5_meanOf 88 = .ok (.i2l, 1) := by decide +kernel
theorem dX5_meanOf_89 : decode cX5_meanOf 89 = .ok (.ladd, 1) := by decide +kernel
theorem dX5_meanOf_90 : decode cX5_meanOf 90 = .ok (.lstore 5, 2) := by decide +kernel
theorem dX5_meanOf_92 : decode cX5_meanOf 92 = .ok (.iinc 7 1, 3) := by decide +kernel
theorem dX5_meanOf_95 : decode cX5_meanOf 95 = .ok (.iinc 8 (-1), 3) := by decide +kernel
theorem dX5_meanOf_98 : decode cX5_meanOf 98 = .ok (.goto (-77), 3) := by decide +kernel
theorem dX5_meanOf_101 : decode cX5_meanOf 101 = .ok (.iload 7, 2) := by decide +kernel
theorem dX5_meanOf_103 : decode cX5_meanOf 103 = .ok (.ifCond .ne 7, 3) := by decide +kernel
theorem dX5_meanOf_106 : decode cX5_meanOf 106 = .ok (.iconst (-1), 1) := by decide +kernel
theorem dX5_meanOf_107 : decode cX5_meanOf 107 = .ok (.goto 8, 3) := by decide +kernel
theorem dX5_meanOf_110 : decode cX5_meanOf 110 = .ok (.lload_n 3, 1) := by decide +kernel
theorem dX5_meanOf_111 : decode cX5_meanOf 111 = .ok (.lload 5, 2) := by decide +kernel
theorem dX5_meanOf_113 : decode cX5_meanOf 113 = .ok (.ldiv, 1) := by decide +kernel
theorem dX5_meanOf_114 : decode cX5_meanOf 114 = .ok (.l2i, 1) := by decide +kernel
theorem dX5_meanOf_115 : decode cX5_meanOf 115 = .ok (.ireturn, 1) := by decide +kernel
theorem dX5_mean_0 : decode cX5_mean 0 = .ok (.aload_n 0, 1) := by decide +kernel
theorem dX5_mean_1 : decode cX5_mean 1 = .ok (.iload_n 1, 1) := by decide +kernel
theorem dX5_mean_2 : decode cX5_mean 2 = .ok (.invokevirtual 83, 3) := by decide +kernel
theorem dX5_mean_5 : decode cX5_mean 5 = .ok (.ifCond .eq 22, 3) := by decide +kernel
theorem dX5_mean_8 : decode cX5_mean 8 = .ok (.iload_n 2, 1) := by decide +kernel
theorem dX5_mean_9 : decode cX5_mean 9 = .ok (.iconst 0, 1) := by decide +kernel
theorem dX5_mean_10 : decode cX5_mean 10 = .ok (.bipush 6, 2) := by decide +kernel
theorem dX5_mean_12 : decode cX5_mean 12 = .ok (.invokestatic 79, 3) := by decide +kernel
theorem dX5_mean_15 : decode cX5_mean 15 = .ok (.ifCond .eq 12, 3) := by decide +kernel
theorem dX5_mean_18 : decode cX5_mean 18 = .ok (.aload_n 0, 1) := by decide +kernel
theorem dX5_mean_19 : decode cX5_mean 19 = .ok (.iload_n 1, 1) := by decide +kernel
theorem dX5_mean_20 : decode cX5_mean 20 = .ok (.iload_n 2, 1) := by decide +kernel
theorem dX5_mean_21 : decode cX5_mean 21 = .ok (.invokevirtual 112, 3) := by decide +kernel
theorem dX5_mean_24 : decode cX5_mean 24 = .ok (.goto 4, 3) := by decide +kernel
theorem dX5_mean_27 : decode cX5_mean 27 = .ok (.iconst (-1), 1) := by decide +kernel
theorem dX5_mean_28 : decode cX5_mean 28 = .ok (.ireturn, 1) := by decide +kernel
theorem dX5_rateOf_0 : decode cX5_rateOf 0 = .ok (.aload_n 0, 1) := by decide +kernel
theorem dX5_rateOf_1 : decode cX5_rateOf 1 = .ok (.iload_n 1, 1) := by decide +kernel
theorem dX5_rateOf_2 : decode cX5_rateOf 2 = .ok (.iload_n 2, 1) := by decide +kernel
theorem dX5_rateOf_3 : decode cX5_rateOf 3 = .ok (.invokevirtual 112, 3) := by decide +kernel
theorem dX5_rateOf_6 : decode cX5_rateOf 6 = .ok (.istore_n 3, 1) := by decide +kernel
theorem dX5_rateOf_7 : decode cX5_rateOf 7 = .ok (.iload_n 3, 1) := by decide +kernel
theorem dX5_rateOf_8 : decode cX5_rateOf 8 = .ok (.ifCond .lt 5, 3) := by decide +kernel
theorem dX5_rateOf_11 : decode cX5_rateOf 11 = .ok (.iload_n 3, 1) := by decide +kernel
theorem dX5_rateOf_12 : decode cX5_rateOf 12 = .ok (.ireturn, 1) := by decide +kernel
theorem dX5_rateOf_13 : decode cX5_rateOf 13 = .ok (.iconst 0, 1) := by decide +kernel
theorem dX5_rateOf_14 : decode cX5_rateOf 14 = .ok (.istore 4, 2) := by decide +kernel
theorem dX5_rateOf_16 : decode cX5_rateOf 16 = .ok (.iconst 0, 1) := by decide +kernel
theorem dX5_rateOf_17 : decode cX5_rateOf 17 = .ok (.istore 5, 2) := by decide +kernel
theorem dX5_rateOf_19 : decode cX5_rateOf 19 = .ok (.iconst 0, 1) := by decide +kernel
theorem dX5_rateOf_20 : decode cX5_rateOf 20 = .ok (.istore 6, 2) := by decide +kernel
theorem dX5_rateOf_22 : decode cX5_rateOf 22 = .ok (.iload 6, 2) := by decide +kernel
theorem dX5_rateOf_24 : decode cX5_rateOf 24 = .ok (.aload_n 0, 1) := by decide +kernel
theorem dX5_rateOf_25 : decode cX5_rateOf 25 = .ok (.getfield 76, 3) := by decide +kernel
theorem dX5_rateOf_28 : decode cX5_rateOf 28 = .ok (.if_icmp .ge 69, 3) := by decide +kernel
theorem dX5_rateOf_31 : decode cX5_rateOf 31 = .ok (.aload_n 0, 1) := by decide +kernel
theorem dX5_rateOf_32 : decode cX5_rateOf 32 = .ok (.getfield 7, 3) := by decide +kernel
theorem dX5_rateOf_35 : decode cX5_rateOf 35 = .ok (.iload 6, 2) := by decide +kernel
theorem dX5_rateOf_37 : decode cX5_rateOf 37 = .ok (.iaload, 1) := by decide +kernel
theorem dX5_rateOf_38 : decode cX5_rateOf 38 = .ok (.aload_n 0, 1) := by decide +kernel
theorem dX5_rateOf_39 : decode cX5_rateOf 39 = .ok (.getfield 7, 3) := by decide +kernel
theorem dX5_rateOf_42 : decode cX5_rateOf 42 = .ok (.iload_n 1, 1) := by decide +kernel
theorem dX5_rateOf_43 : decode cX5_rateOf 43 = .ok (.iaload, 1) := by decide +kernel
theorem dX5_rateOf_44 : decode cX5_rateOf 44 = .ok (.if_icmp .ne 13, 3) := by decide +kernel
theorem dX5_rateOf_47 : decode cX5_rateOf 47 = .ok (.aload_n 0, 1) := by decide +kernel
theorem dX5_rateOf_48 : decode cX5_rateOf 48 = .ok (.iload 6, 2) := by decide +kernel
theorem dX5_rateOf_50 : decode cX5_rateOf 50 = .ok (.iload_n 2, 1) := by decide +kernel
theorem dX5_rateOf_51 : decode cX5_rateOf 51 = .ok (.invokevirtual 112, 3) := by decide +kernel
theorem dX5_rateOf_54 : decode cX5_rateOf 54 = .ok (.goto 4, 3) := by decide +kernel
theorem dX5_rateOf_57 : decode cX5_rateOf 57 = .ok (.iconst (-1), 1) := by decide +kernel
theorem dX5_rateOf_58 : decode cX5_rateOf 58 = .ok (.istore 7, 2) := by decide +kernel
theorem dX5_rateOf_60 : decode cX5_rateOf 60 = .ok (.iload 4, 2) := by decide +kernel
theorem dX5_rateOf_62 : decode cX5_rateOf 62 = .ok (.iload 7, 2) := by decide +kernel
theorem dX5_rateOf_64 : decode cX5_rateOf 64 = .ok (.ifCond .lt 8, 3) := by decide +kernel
theorem dX5_rateOf_67 : decode cX5_rateOf 67 = .ok (.iload 7, 2) := by decide +kernel
theorem dX5_rateOf_69 : decode cX5_rateOf 69 = .ok (.goto 4, 3) := by decide +kernel
theorem dX5_rateOf_72 : decode cX5_rateOf 72 = .ok (.iconst 0, 1) := by decide +kernel
theorem dX5_rateOf_73 : decode cX5_rateOf 73 = .ok (.iadd, 1) := by decide +kernel
theorem dX5_rateOf_74 : decode cX5_rateOf 74 = .ok (.istore 4, 2) := by decide +kernel
theorem dX5_rateOf_76 : decode cX5_rateOf 76 = .ok (.iload 5, 2) := by decide +kernel
theorem dX5_rateOf_78 : decode cX5_rateOf 78 = .ok (.iload 7, 2) := by decide +kernel
theorem dX5_rateOf_80 : decode cX5_rateOf 80 = .ok (.ifCond .lt 7, 3) := by decide +kernel
theorem dX5_rateOf_83 : decode cX5_rateOf 83 = .ok (.iconst 1, 1) := by decide +kernel
theorem dX5_rateOf_84 : decode cX5_rateOf 84 = .ok (.goto 4, 3) := by decide +kernel
theorem dX5_rateOf_87 : decode cX5_rateOf 87 = .ok (.iconst 0, 1) := by decide +kernel
theorem dX5_rateOf_88 : decode cX5_rateOf 88 = .ok (.iadd, 1) := by decide +kernel
theorem dX5_rateOf_89 : decode cX5_rateOf 89 = .ok (.istore 5, 2) := by decide +kernel
theorem dX5_rateOf_91 : decode cX5_rateOf 91 = .ok (.iinc 6 1, 3) := by decide +kernel
theorem dX5_rateOf_94 : decode cX5_rateOf 94 = .ok (.goto (-72), 3) := by decide +kernel
theorem dX5_rateOf_97 : decode cX5_rateOf 97 = .ok (.iload 5, 2) := by decide +kernel
theorem dX5_rateOf_99 : decode cX5_rateOf 99 = .ok (.ifCond .ne 8, 3) := by decide +kernel
theorem dX5_rateOf_102 : decode cX5_rateOf 102 = .ok (.bipush 100, 2) := by decide +kernel
theorem dX5_rateOf_104 : decode cX5_rateOf 104 = .ok (.goto 8, 3) := by decide +kernel
theorem dX5_rateOf_107 : decode cX5_rateOf 107 = .ok (.iload 4, 2) := by decide +kernel
theorem dX5_rateOf_109 : decode cX5_rateOf 109 = .ok (.iload 5, 2) := by decide +kernel
theorem dX5_rateOf_111 : decode cX5_rateOf 111 = .ok (.idiv, 1) := by decide +kernel
theorem dX5_rateOf_112 : decode cX5_rateOf 112 = .ok (.ireturn, 1) := by decide +kernel
theorem dX5_rate_0 : decode cX5_rate 0 = .ok (.aload_n 0, 1) := by decide +kernel
theorem dX5_rate_1 : decode cX5_rate 1 = .ok (.iload_n 1, 1) := by decide +kernel
theorem dX5_rate_2 : decode cX5_rate 2 = .ok (.invokevirtual 83, 3) := by decide +kernel
theorem dX5_rate_5 : decode cX5_rate 5 = .ok (.ifCond .eq 23, 3) := by decide +kernel
theorem dX5_rate_8 : decode cX5_rate 8 = .ok (.iload_n 2, 1) := by decide +kernel
theorem dX5_rate_9 : decode cX5_rate 9 = .ok (.invokestatic 91, 3) := by decide +kernel
theorem dX5_rate_12 : decode cX5_rate 12 = .ok (.ifCond .eq 16, 3) := by decide +kernel
theorem dX5_rate_15 : decode cX5_rate 15 = .ok (.aload_n 0, 1) := by decide +kernel
theorem dX5_rate_16 : decode cX5_rate 16 = .ok (.iload_n 1, 1) := by decide +kernel
theorem dX5_rate_17 : decode cX5_rate 17 = .ok (.aload_n 0, 1) := by decide +kernel
theorem dX5_rate_18 : decode cX5_rate 18 = .ok (.iload_n 2, 1) := by decide +kernel
theorem dX5_rate_19 : decode cX5_rate 19 = .ok (.invokevirtual 109, 3) := by decide +kernel
theorem dX5_rate_22 : decode cX5_rate 22 = .ok (.invokevirtual 116, 3) := by decide +kernel
theorem dX5_rate_25 : decode cX5_rate 25 = .ok (.goto 4, 3) := by decide +kernel
theorem dX5_rate_28 : decode cX5_rate 28 = .ok (.iconst (-1), 1) := by decide +kernel
theorem dX5_rate_29 : decode cX5_rate 29 = .ok (.ireturn, 1) := by decide +kernel
theorem dX5_prepare_0 : decode cX5_prepare 0 = .ok (.iconst 0, 1) := by decide +kernel
theorem dX5_prepare_1 : decode cX5_prepare 1 = .ok (.istore_n 2, 1) := by decide +kernel
theorem dX5_prepare_2 : decode cX5_prepare 2 = .ok (.iload_n 2, 1) := by decide +kernel
theorem dX5_prepare_3 : decode cX5_prepare 3 = .ok (.bipush 7, 2) := by decide +kernel
theorem dX5_prepare_5 : decode cX5_prepare 5 = .ok (.if_icmp .ge 21, 3) := by decide +kernel
theorem dX5_prepare_8 : decode cX5_prepare 8 = .ok (.aload_n 0, 1) := by decide +kernel
theorem dX5_prepare_9 : decode cX5_prepare 9 = .ok (.getfield 69, 3) := by decide +kernel
theorem dX5_prepare_12 : decode cX5_prepare 12 = .ok (.iload_n 2, 1) := by decide +kernel
theorem dX5_prepare_13 : decode cX5_prepare 13 = .ok (.aload_n 0, 1) := by decide +kernel
theorem dX5_prepare_14 : decode cX5_prepare 14 = .ok (.iload_n 1, 1) := by decide +kernel
theorem dX5_prepare_15 : decode cX5_prepare 15 = .ok (.iload_n 2, 1) := by decide +kernel
theorem dX5_prepare_16 : decode cX5_prepare 16 = .ok (.invokevirtual 116, 3) := by decide +kernel
theorem dX5_prepare_19 : decode cX5_prepare 19 = .ok (.iastore, 1) := by decide +kernel
theorem dX5_prepare_20 : decode cX5_prepare 20 = .ok (.iinc 2 1, 3) := by decide +kernel
theorem dX5_prepare_23 : decode cX5_prepare 23 = .ok (.goto (-21), 3) := by decide +kernel
theorem dX5_prepare_26 : decode cX5_prepare 26 = .ok (.iconst 0, 1) := by decide +kernel
theorem dX5_prepare_27 : decode cX5_prepare 27 = .ok (.istore_n 2, 1) := by decide +kernel
theorem dX5_prepare_28 : decode cX5_prepare 28 = .ok (.iload_n 2, 1) := by decide +kernel
theorem dX5_prepare_29 : decode cX5_prepare 29 = .ok (.sipush 10000, 3) := by decide +kernel
theorem dX5_prepare_32 : decode cX5_prepare 32 = .ok (.if_icmp .ge 38, 3) := by decide +kernel
theorem dX5_prepare_35 : decode cX5_prepare 35 = .ok (.aload_n 0, 1) := by decide +kernel
theorem dX5_prepare_36 : decode cX5_prepare 36 = .ok (.getfield 72, 3) := by decide +kernel
theorem dX5_prepare_39 : decode cX5_prepare 39 = .ok (.iload_n 2, 1) := by decide +kernel
theorem dX5_prepare_40 : decode cX5_prepare 40 = .ok (.iconst 1, 1) := by decide +kernel
theorem dX5_prepare_41 : decode cX5_prepare 41 = .ok (.iadd, 1) := by decide +kernel
theorem dX5_prepare_42 : decode cX5_prepare 42 = .ok (.aload_n 0, 1) := by decide +kernel
theorem dX5_prepare_43 : decode cX5_prepare 43 = .ok (.getfield 72, 3) := by decide +kernel
theorem dX5_prepare_46 : decode cX5_prepare 46 = .ok (.iload_n 2, 1) := by decide +kernel
theorem dX5_prepare_47 : decode cX5_prepare 47 = .ok (.laload, 1) := by decide +kernel
theorem dX5_prepare_48 : decode cX5_prepare 48 = .ok (.aload_n 0, 1) := by decide +kernel
theorem dX5_prepare_49 : decode cX5_prepare 49 = .ok (.getfield 69, 3) := by decide +kernel
theorem dX5_prepare_52 : decode cX5_prepare 52 = .ok (.aload_n 0, 1) := by decide +kernel
theorem dX5_prepare_53 : decode cX5_prepare 53 = .ok (.iload_n 2, 1) := by decide +kernel
theorem dX5_prepare_54 : decode cX5_prepare 54 = .ok (.bipush 24, 2) := by decide +kernel
theorem dX5_prepare_56 : decode cX5_prepare 56 = .ok (.idiv, 1) := by decide +kernel
theorem dX5_prepare_57 : decode cX5_prepare 57 = .ok (.invokevirtual 109, 3) := by decide +kernel
theorem dX5_prepare_60 : decode cX5_prepare 60 = .ok (.iaload, 1) := by decide +kernel
theorem dX5_prepare_61 : decode cX5_prepare 61 = .ok (.i2l, 1) := by decide +kernel
theorem dX5_prepare_62 : decode cX5_prepare 62 = .ok (.ladd, 1) := by decide +kernel
theorem dX5_prepare_63 : decode cX5_prepare 63 = .ok (.lastore, 1) := by decide +kernel
theorem dX5_prepare_64 : decode cX5_prepare 64 = .ok (.iinc 2 1, 3) := by decide +kernel
theorem dX5_prepare_67 : decode cX5_prepare 67 = .ok (.goto (-39), 3) := by decide +kernel
theorem dX5_prepare_70 : decode cX5_prepare 70 = .ok (.aload_n 0, 1) := by decide +kernel
theorem dX5_prepare_71 : decode cX5_prepare 71 = .ok (.iload_n 1, 1) := by decide +kernel
theorem dX5_prepare_72 : decode cX5_prepare 72 = .ok (.invokevirtual 105, 3) := by decide +kernel
theorem dX5_prepare_75 : decode cX5_prepare 75 = .ok (.return_, 1) := by decide +kernel
theorem dX5_expectedBy_0 : decode cX5_expectedBy 0 = .ok (.iconst (-1), 1) := by decide +kernel
theorem dX5_expectedBy_1 : decode cX5_expectedBy 1 = .ok (.istore_n 3, 1) := by decide +kernel
theorem dX5_expectedBy_2 : decode cX5_expectedBy 2 = .ok (.iconst 0, 1) := by decide +kernel
theorem dX5_expectedBy_3 : decode cX5_expectedBy 3 = .ok (.istore 4, 2) := by decide +kernel
theorem dX5_expectedBy_5 : decode cX5_expectedBy 5 = .ok (.iload 4, 2) := by decide +kernel
theorem dX5_expectedBy_7 : decode cX5_expectedBy 7 = .ok (.iload_n 1, 1) := by decide +kernel
theorem dX5_expectedBy_8 : decode cX5_expectedBy 8 = .ok (.if_icmp .ge 37, 3) := by decide +kernel
theorem dX5_expectedBy_11 : decode cX5_expectedBy 11 = .ok (.aload_n 0, 1) := by decide +kernel
theorem dX5_expectedBy_12 : decode cX5_expectedBy 12 = .ok (.getfield 63, 3) := by decide +kernel
theorem dX5_expectedBy_15 : decode cX5_expectedBy 15 = .ok (.iload 4, 2) := by decide +kernel
theorem dX5_expectedBy_17 : decode cX5_expectedBy 17 = .ok (.baload, 1) := by decide +kernel
theorem dX5_expectedBy_18 : decode cX5_expectedBy 18 = .ok (.ifCond .ne 19, 3) := by decide +kernel
theorem dX5_expectedBy_21 : decode cX5_expectedBy 21 = .ok (.aload_n 0, 1) := by decide +kernel
theorem dX5_expectedBy_22 : decode cX5_expectedBy 22 = .ok (.getfield 54, 3) := by decide +kernel
theorem dX5_expectedBy_25 : decode cX5_expectedBy 25 = .ok (.iload 4, 2) := by decide +kernel
theorem dX5_expectedBy_27 : decode cX5_expectedBy 27 = .ok (.iaload, 1) := by decide +kernel
theorem dX5_expectedBy_28 : decode cX5_expectedBy 28 = .ok (.iload_n 2, 1) := by decide +kernel
theorem dX5_expectedBy_29 : decode cX5_expectedBy 29 = .ok (.if_icmp .gt 8, 3) := by decide +kernel
theorem dX5_expectedBy_32 : decode cX5_expectedBy 32 = .ok (.iload 4, 2) := by decide +kernel
theorem dX5_expectedBy_34 : decode cX5_expectedBy 34 = .ok (.goto 4, 3) := by decide +kernel
theorem dX5_expectedBy_37 : decode cX5_expectedBy 37 = .ok (.iload_n 3, 1) := by decide +kernel
theorem dX5_expectedBy_38 : decode cX5_expectedBy 38 = .ok (.istore_n 3, 1) := by decide +kernel
theorem dX5_expectedBy_39 : decode cX5_expectedBy 39 = .ok (.iinc 4 1, 3) := by decide +kernel
theorem dX5_expectedBy_42 : decode cX5_expectedBy 42 = .ok (.goto (-37), 3) := by decide +kernel
theorem dX5_expectedBy_45 : decode cX5_expectedBy 45 = .ok (.iload_n 3, 1) := by decide +kernel
theorem dX5_expectedBy_46 : decode cX5_expectedBy 46 = .ok (.ifCond .ge 7, 3) := by decide +kernel
theorem dX5_expectedBy_49 : decode cX5_expectedBy 49 = .ok (.lconst 0, 1) := by decide +kernel
theorem dX5_expectedBy_50 : decode cX5_expectedBy 50 = .ok (.goto 14, 3) := by decide +kernel
theorem dX5_expectedBy_53 : decode cX5_expectedBy 53 = .ok (.aload_n 0, 1) := by decide +kernel
theorem dX5_expectedBy_54 : decode cX5_expectedBy 54 = .ok (.getfield 72, 3) := by decide +kernel
theorem dX5_expectedBy_57 : decode cX5_expectedBy 57 = .ok (.aload_n 0, 1) := by decide +kernel
theorem dX5_expectedBy_58 : decode cX5_expectedBy 58 = .ok (.getfield 54, 3) := by decide +kernel
theorem dX5_expectedBy_61 : decode cX5_expectedBy 61 = .ok (.iload_n 3, 1) := by decide +kernel
theorem dX5_expectedBy_62 : decode cX5_expectedBy 62 = .ok (.iaload, 1) := by decide +kernel
theorem dX5_expectedBy_63 : decode cX5_expectedBy 63 = .ok (.laload, 1) := by decide +kernel
theorem dX5_expectedBy_64 : decode cX5_expectedBy 64 = .ok (.lstore 4, 2) := by decide +kernel
theorem dX5_expectedBy_66 : decode cX5_expectedBy 66 = .ok (.iload_n 3, 1) := by decide +kernel
theorem dX5_expectedBy_67 : decode cX5_expectedBy 67 = .ok (.ifCond .ge 7, 3) := by decide +kernel
theorem dX5_expectedBy_70 : decode cX5_expectedBy 70 = .ok (.lconst 0, 1) := by decide +kernel
theorem dX5_expectedBy_71 : decode cX5_expectedBy 71 = .ok (.goto 10, 3) := by decide +kernel
theorem dX5_expectedBy_74 : decode cX5_expectedBy 74 = .ok (.aload_n 0, 1) := by decide +kernel
theorem dX5_expectedBy_75 : decode cX5_expectedBy 75 = .ok (.getfield 57, 3) := by decide +kernel
theorem dX5_expectedBy_78 : decode cX5_expectedBy 78 = .ok (.iload_n 3, 1) := by decide +kernel
theorem dX5_expectedBy_79 : decode cX5_expectedBy 79 = .ok (.iaload, 1) := by decide +kernel
theorem dX5_expectedBy_80 : decode cX5_expectedBy 80 = .ok (.i2l, 1) := by decide +kernel
theorem dX5_expectedBy_81 : decode cX5_expectedBy 81 = .ok (.lstore 6, 2) := by decide +kernel
theorem dX5_expectedBy_83 : decode cX5_expectedBy 83 = .ok (.ldc2_w 119, 3) := by decide +kernel
theorem dX5_expectedBy_86 : decode cX5_expectedBy 86 = .ok (.lload 6, 2) := by decide +kernel
theorem dX5_expectedBy_88 : decode cX5_expectedBy 88 = .ok (.lmul, 1) := by decide +kernel
theorem dX5_expectedBy_89 : decode cX5_expectedBy 89 = .ok (.aload_n 0, 1) := by decide +kernel
theorem dX5_expectedBy_90 : decode cX5_expectedBy 90 = .ok (.getfield 72, 3) := by decide +kernel
theorem dX5_expectedBy_93 : decode cX5_expectedBy 93 = .ok (.iload_n 2, 1) := by decide +kernel
theorem dX5_expectedBy_94 : decode cX5_expectedBy 94 = .ok (.laload, 1) := by decide +kernel
theorem dX5_expectedBy_95 : decode cX5_expectedBy 95 = .ok (.ladd, 1) := by decide +kernel
theorem dX5_expectedBy_96 : decode cX5_expectedBy 96 = .ok (.lload 4, 2) := by decide +kernel
theorem dX5_expectedBy_98 : decode cX5_expectedBy 98 = .ok (.lsub, 1) := by decide +kernel
theorem dX5_expectedBy_99 : decode cX5_expectedBy 99 = .ok (.ldc2_w 119, 3) := by decide +kernel
theorem dX5_expectedBy_102 : decode cX5_expectedBy 102 = .ok (.ldiv, 1) := by decide +kernel
theorem dX5_expectedBy_103 : decode cX5_expectedBy 103 = .ok (.lreturn, 1) := by decide +kernel
theorem dX5_expected_0 : decode cX5_expected 0 = .ok (.aload_n 0, 1) := by decide +kernel
theorem dX5_expected_1 : decode cX5_expected 1 = .ok (.iload_n 1, 1) := by decide +kernel
theorem dX5_expected_2 : decode cX5_expected 2 = .ok (.invokevirtual 83, 3) := by decide +kernel
theorem dX5_expected_5 : decode cX5_expected 5 = .ok (.ifCond .eq 10, 3) := by decide +kernel
theorem dX5_expected_8 : decode cX5_expected 8 = .ok (.iload_n 2, 1) := by decide +kernel
theorem dX5_expected_9 : decode cX5_expected 9 = .ok (.invokestatic 87, 3) := by decide +kernel
theorem dX5_expected_12 : decode cX5_expected 12 = .ok (.ifCond .ne 7, 3) := by decide +kernel
theorem dX5_expected_15 : decode cX5_expected 15 = .ok (.ldc2_w 121, 3) := by decide +kernel
theorem dX5_expected_18 : decode cX5_expected 18 = .ok (.lreturn, 1) := by decide +kernel
theorem dX5_expected_19 : decode cX5_expected 19 = .ok (.aload_n 0, 1) := by decide +kernel
theorem dX5_expected_20 : decode cX5_expected 20 = .ok (.iload_n 1, 1) := by decide +kernel
theorem dX5_expected_21 : decode cX5_expected 21 = .ok (.invokevirtual 123, 3) := by decide +kernel
theorem dX5_expected_24 : decode cX5_expected 24 = .ok (.aload_n 0, 1) := by decide +kernel
theorem dX5_expected_25 : decode cX5_expected 25 = .ok (.aload_n 0, 1) := by decide +kernel
theorem dX5_expected_26 : decode cX5_expected 26 = .ok (.getfield 94, 3) := by decide +kernel
theorem dX5_expected_29 : decode cX5_expected 29 = .ok (.iload_n 2, 1) := by decide +kernel
theorem dX5_expected_30 : decode cX5_expected 30 = .ok (.invokevirtual 126, 3) := by decide +kernel
theorem dX5_expected_33 : decode cX5_expected 33 = .ok (.lreturn, 1) := by decide +kernel
theorem dX5_wrong_0 : decode cX5_wrong 0 = .ok (.aload_n 0, 1) := by decide +kernel
theorem dX5_wrong_1 : decode cX5_wrong 1 = .ok (.iload_n 1, 1) := by decide +kernel
theorem dX5_wrong_2 : decode cX5_wrong 2 = .ok (.invokevirtual 83, 3) := by decide +kernel
theorem dX5_wrong_5 : decode cX5_wrong 5 = .ok (.ifCond .ne 5, 3) := by decide +kernel
theorem dX5_wrong_8 : decode cX5_wrong 8 = .ok (.iconst (-1), 1) := by decide +kernel
theorem dX5_wrong_9 : decode cX5_wrong 9 = .ok (.ireturn, 1) := by decide +kernel
theorem dX5_wrong_10 : decode cX5_wrong 10 = .ok (.aload_n 0, 1) := by decide +kernel
theorem dX5_wrong_11 : decode cX5_wrong 11 = .ok (.iload_n 1, 1) := by decide +kernel
theorem dX5_wrong_12 : decode cX5_wrong 12 = .ok (.invokevirtual 105, 3) := by decide +kernel
theorem dX5_wrong_15 : decode cX5_wrong 15 = .ok (.iconst 0, 1) := by decide +kernel
theorem dX5_wrong_16 : decode cX5_wrong 16 = .ok (.istore_n 3, 1) := by decide +kernel
theorem dX5_wrong_17 : decode cX5_wrong 17 = .ok (.iconst 0, 1) := by decide +kernel
theorem dX5_wrong_18 : decode cX5_wrong 18 = .ok (.istore 4, 2) := by decide +kernel
theorem dX5_wrong_20 : decode cX5_wrong 20 = .ok (.iload 4, 2) := by decide +kernel
theorem dX5_wrong_22 : decode cX5_wrong 22 = .ok (.aload_n 0, 1) := by decide +kernel
theorem dX5_wrong_23 : decode cX5_wrong 23 = .ok (.getfield 94, 3) := by decide +kernel
theorem dX5_wrong_26 : decode cX5_wrong 26 = .ok (.if_icmp .ge 35, 3) := by decide +kernel
theorem dX5_wrong_29 : decode cX5_wrong 29 = .ok (.aload_n 0, 1) := by decide +kernel
theorem dX5_wrong_30 : decode cX5_wrong 30 = .ok (.getfield 63, 3) := by decide +kernel
theorem dX5_wrong_33 : decode cX5_wrong 33 = .ok (.iload 4, 2) := by decide +kernel
theorem dX5_wrong_35 : decode cX5_wrong 35 = .ok (.baload, 1) := by decide +kernel
theorem dX5_wrong_36 : decode cX5_wrong 36 = .ok (.ifCond .eq 19, 3) := by decide +kernel
theorem dX5_wrong_39 : decode cX5_wrong 39 = .ok (.iload_n 3, 1) := by decide +kernel
theorem dX5_wrong_40 : decode cX5_wrong 40 = .ok (.iload_n 2, 1) := by decide +kernel
theorem dX5_wrong_41 : decode cX5_wrong 41 = .ok (.if_icmp .ne 11, 3) := by decide +kernel
theorem dX5_wrong_44 : decode cX5_wrong 44 = .ok (.aload_n 0, 1) := by decide +kernel
theorem dX5_wrong_45 : decode cX5_wrong 45 = .ok (.getfield 54, 3) := by decide +kernel
theorem dX5_wrong_48 : decode cX5_wrong 48 = .ok (.iload 4, 2) := by decide +kernel
theorem dX5_wrong_50 : decode cX5_wrong 50 = .ok (.iaload, 1) := by decide +kernel
theorem dX5_wrong_51 : decode cX5_wrong 51 = .ok (.ireturn, 1) := by decide +kernel
theorem dX5_wrong_52 : decode cX5_wrong 52 = .ok (.iinc 3 1, 3) := by decide +kernel
theorem dX5_wrong_55 : decode cX5_wrong 55 = .ok (.iinc 4 1, 3) := by decide +kernel
theorem dX5_wrong_58 : decode cX5_wrong 58 = .ok (.goto (-38), 3) := by decide +kernel
theorem dX5_wrong_61 : decode cX5_wrong 61 = .ok (.iconst (-1), 1) := by decide +kernel
theorem dX5_wrong_62 : decode cX5_wrong 62 = .ok (.ireturn, 1) := by decide +kernel
theorem dX5_isSilent_0 : decode cX5_isSilent 0 = .ok (.iconst 1, 1) := by decide +kernel
theorem dX5_isSilent_1 : decode cX5_isSilent 1 = .ok (.istore_n 3, 1) := by decide +kernel
theorem dX5_isSilent_2 : decode cX5_isSilent 2 = .ok (.iconst 0, 1) := by decide +kernel
theorem dX5_isSilent_3 : decode cX5_isSilent 3 = .ok (.istore 4, 2) := by decide +kernel
theorem dX5_isSilent_5 : decode cX5_isSilent 5 = .ok (.iload 4, 2) := by decide +kernel
theorem dX5_isSilent_7 : decode cX5_isSilent 7 = .ok (.aload_n 0, 1) := by decide +kernel
theorem dX5_isSilent_8 : decode cX5_isSilent 8 = .ok (.getfield 16, 3) := by decide +kernel
theorem dX5_isSilent_11 : decode cX5_isSilent 11 = .ok (.iload_n 1, 1) := by decide +kernel
theorem dX5_isSilent_12 : decode cX5_isSilent 12 = .ok (.iaload, 1) := by decide +kernel
theorem dX5_isSilent_13 : decode cX5_isSilent 13 = .ok (.if_icmp .ge 48, 3) := by decide +kernel
theorem dX5_isSilent_16 : decode cX5_isSilent 16 = .ok (.iload_n 2, 1) := by decide +kernel
theorem dX5_isSilent_17 : decode cX5_isSilent 17 = .ok (.aload_n 0, 1) := by decide +kernel
theorem dX5_isSilent_18 : decode cX5_isSilent 18 = .ok (.getfield 19, 3) := by decide +kernel
theorem dX5_isSilent_21 : decode cX5_isSilent 21 = .ok (.bipush 24, 2) := by decide +kernel
theorem dX5_isSilent_23 : decode cX5_isSilent 23 = .ok (.iload_n 1, 1) := by decide +kernel
theorem dX5_isSilent_24 : decode cX5_isSilent 24 = .ok (.imul, 1) := by decide +kernel
theorem dX5_isSilent_25 : decode cX5_isSilent 25 = .ok (.iload 4, 2) := by decide +kernel
theorem dX5_isSilent_27 : decode cX5_isSilent 27 = .ok (.iadd, 1) := by decide +kernel
theorem dX5_isSilent_28 : decode cX5_isSilent 28 = .ok (.iaload, 1) := by decide +kernel
theorem dX5_isSilent_29 : decode cX5_isSilent 29 = .ok (.isub, 1) := by decide +kernel
theorem dX5_isSilent_30 : decode cX5_isSilent 30 = .ok (.istore 5, 2) := by decide +kernel
theorem dX5_isSilent_32 : decode cX5_isSilent 32 = .ok (.iload_n 3, 1) := by decide +kernel
theorem dX5_isSilent_33 : decode cX5_isSilent 33 = .ok (.ifCond .eq 20, 3) := by decide +kernel
theorem dX5_isSilent_36 : decode cX5_isSilent 36 = .ok (.iload 5, 2) := by decide +kernel
theorem dX5_isSilent_38 : decode cX5_isSilent 38 = .ok (.iconst 0, 1) := by decide +kernel
theorem dX5_isSilent_39 : decode cX5_isSilent 39 = .ok (.aload_n 0, 1) := by decide +kernel
theorem dX5_isSilent_40 : decode cX5_isSilent 40 = .ok (.getfield 45, 3) := by decide +kernel
theorem dX5_isSilent_43 : decode cX5_isSilent 43 = .ok (.invokestatic 79, 3) := by decide +kernel
theorem dX5_isSilent_46 : decode cX5_isSilent 46 = .ok (.ifCond .ne 7, 3) := by decide +kernel
theorem dX5_isSilent_49 : decode cX5_isSilent 49 = .ok (.iconst 1, 1) := by decide +kernel
theorem dX5_isSilent_50 : decode cX5_isSilent 50 = .ok (.goto 4, 3) := by decide +kernel
theorem dX5_isSilent_53 : decode cX5_isSilent 53 = .ok (.iconst 0, 1) := by decide +kernel
theorem dX5_isSilent_54 : decode cX5_isSilent 54 = .ok (.istore_n 3, 1) := by decide +kernel
theorem dX5_isSilent_55 : decode cX5_isSilent 55 = .ok (.iinc 4 1, 3) := by decide +kernel
theorem dX5_isSilent_58 : decode cX5_isSilent 58 = .ok (.goto (-53), 3) := by decide +kernel
theorem dX5_isSilent_61 : decode cX5_isSilent 61 = .ok (.iload_n 3, 1) := by decide +kernel
theorem dX5_isSilent_62 : decode cX5_isSilent 62 = .ok (.ireturn, 1) := by decide +kernel
theorem dX5_silent_0 : decode cX5_silent 0 = .ok (.iconst 0, 1) := by decide +kernel
theorem dX5_silent_1 : decode cX5_silent 1 = .ok (.istore_n 3, 1) := by decide +kernel
theorem dX5_silent_2 : decode cX5_silent 2 = .ok (.iconst 0, 1) := by decide +kernel
theorem dX5_silent_3 : decode cX5_silent 3 = .ok (.istore 4, 2) := by decide +kernel
theorem dX5_silent_5 : decode cX5_silent 5 = .ok (.iload 4, 2) := by decide +kernel
theorem dX5_silent_7 : decode cX5_silent 7 = .ok (.aload_n 0, 1) := by decide +kernel
theorem dX5_silent_8 : decode cX5_silent 8 = .ok (.getfield 76, 3) := by decide +kernel
theorem dX5_silent_11 : decode cX5_silent 11 = .ok (.if_icmp .ge 37, 3) := by decide +kernel
theorem dX5_silent_14 : decode cX5_silent 14 = .ok (.iload_n 1, 1) := by decide +kernel
theorem dX5_silent_15 : decode cX5_silent 15 = .ok (.invokestatic 87, 3) := by decide +kernel
theorem dX5_silent_18 : decode cX5_silent 18 = .ok (.ifCond .eq 30, 3) := by decide +kernel
theorem dX5_silent_21 : decode cX5_silent 21 = .ok (.aload_n 0, 1) := by decide +kernel
theorem dX5_silent_22 : decode cX5_silent 22 = .ok (.iload 4, 2) := by decide +kernel
theorem dX5_silent_24 : decode cX5_silent 24 = .ok (.iload_n 1, 1) := by decide +kernel
theorem dX5_silent_25 : decode cX5_silent 25 = .ok (.invokevirtual 130, 3) := by decide +kernel
theorem dX5_silent_28 : decode cX5_silent 28 = .ok (.ifCond .eq 14, 3) := by decide +kernel
theorem dX5_silent_31 : decode cX5_silent 31 = .ok (.iload_n 3, 1) := by decide +kernel
theorem dX5_silent_32 : decode cX5_silent 32 = .ok (.iload_n 2, 1) := by decide +kernel
theorem dX5_silent_33 : decode cX5_silent 33 = .ok (.if_icmp .ne 6, 3) := by decide +kernel
theorem dX5_silent_36 : decode cX5_silent 36 = .ok (.iload 4, 2) := by decide +kernel
theorem dX5_silent_38 : decode cX5_silent 38 = .ok (.ireturn, 1) := by decide +kernel
theorem dX5_silent_39 : decode cX5_silent 39 = .ok (.iinc 3 1, 3) := by decide +kernel
theorem dX5_silent_42 : decode cX5_silent 42 = .ok (.iinc 4 1, 3) := by decide +kernel
theorem dX5_silent_45 : decode cX5_silent 45 = .ok (.goto (-40), 3) := by decide +kernel
theorem dX5_silent_48 : decode cX5_silent 48 = .ok (.iconst (-1), 1) := by decide +kernel
theorem dX5_silent_49 : decode cX5_silent 49 = .ok (.ireturn, 1) := by decide +kernel
theorem dX5_over_0 : decode cX5_over 0 = .ok (.iconst 0, 1) := by decide +kernel
theorem dX5_over_1 : decode cX5_over 1 = .ok (.istore_n 3, 1) := by decide +kernel
theorem dX5_over_2 : decode cX5_over 2 = .ok (.iconst 0, 1) := by decide +kernel
theorem dX5_over_3 : decode cX5_over 3 = .ok (.istore 4, 2) := by decide +kernel
theorem dX5_over_5 : decode cX5_over 5 = .ok (.iload 4, 2) := by decide +kernel
theorem dX5_over_7 : decode cX5_over 7 = .ok (.aload_n 0, 1) := by decide +kernel
theorem dX5_over_8 : decode cX5_over 8 = .ok (.getfield 76, 3) := by decide +kernel
theorem dX5_over_11 : decode cX5_over 11 = .ok (.if_icmp .ge 41, 3) := by decide +kernel
theorem dX5_over_14 : decode cX5_over 14 = .ok (.iload_n 1, 1) := by decide +kernel
theorem dX5_over_15 : decode cX5_over 15 = .ok (.invokestatic 87, 3) := by decide +kernel
theorem dX5_over_18 : decode cX5_over 18 = .ok (.ifCond .eq 34, 3) := by decide +kernel
theorem dX5_over_21 : decode cX5_over 21 = .ok (.aload_n 0, 1) := by decide +kernel
theorem dX5_over_22 : decode cX5_over 22 = .ok (.iload 4, 2) := by decide +kernel
theorem dX5_over_24 : decode cX5_over 24 = .ok (.iload_n 1, 1) := by decide +kernel
theorem dX5_over_25 : decode cX5_over 25 = .ok (.invokevirtual 134, 3) := by decide +kernel
theorem dX5_over_28 : decode cX5_over 28 = .ok (.ldc2_w 137, 3) := by decide +kernel
theorem dX5_over_31 : decode cX5_over 31 = .ok (.lcmp, 1) := by decide +kernel
theorem dX5_over_32 : decode cX5_over 32 = .ok (.ifCond .lt 14, 3) := by decide +kernel
theorem dX5_over_35 : decode cX5_over 35 = .ok (.iload_n 3, 1) := by decide +kernel
theorem dX5_over_36 : decode cX5_over 36 = .ok (.iload_n 2, 1) := by decide +kernel
theorem dX5_over_37 : decode cX5_over 37 = .ok (.if_icmp .ne 6, 3) := by decide +kernel
theorem dX5_over_40 : decode cX5_over 40 = .ok (.iload 4, 2) := by decide +kernel
theorem dX5_over_42 : decode cX5_over 42 = .ok (.ireturn, 1) := by decide +kernel
theorem dX5_over_43 : decode cX5_over 43 = .ok (.iinc 3 1, 3) := by decide +kernel
theorem dX5_over_46 : decode cX5_over 46 = .ok (.iinc 4 1, 3) := by decide +kernel
theorem dX5_over_49 : decode cX5_over 49 = .ok (.goto (-44), 3) := by decide +kernel
theorem dX5_over_52 : decode cX5_over 52 = .ok (.iconst (-1), 1) := by decide +kernel
theorem dX5_over_53 : decode cX5_over 53 = .ok (.ireturn, 1) := by decide +kernel
theorem dX5_costOn_0 : decode cX5_costOn 0 = .ok (.aload_n 0, 1) := by decide +kernel
theorem dX5_costOn_1 : decode cX5_costOn 1 = .ok (.aload_n 0, 1) := by decide +kernel
theorem dX5_costOn_2 : decode cX5_costOn 2 = .ok (.getfield 94, 3) := by decide +kernel
theorem dX5_costOn_5 : decode cX5_costOn 5 = .ok (.bipush 24, 2) := by decide +kernel
theorem dX5_costOn_7 : decode cX5_costOn 7 = .ok (.iload_n 1, 1) := by decide +kernel
theorem dX5_costOn_8 : decode cX5_costOn 8 = .ok (.imul, 1) := by decide +kernel
theorem dX5_costOn_9 : decode cX5_costOn 9 = .ok (.invokevirtual 126, 3) := by decide +kernel
theorem dX5_costOn_12 : decode cX5_costOn 12 = .ok (.lstore_n 2, 1) := by decide +kernel
theorem dX5_costOn_13 : decode cX5_costOn 13 = .ok (.lload_n 2, 1) := by decide +kernel
theorem dX5_costOn_14 : decode cX5_costOn 14 = .ok (.ldc2_w 137, 3) := by decide +kernel
theorem dX5_costOn_17 : decode cX5_costOn 17 = .ok (.lcmp, 1) := by decide +kernel
theorem dX5_costOn_18 : decode cX5_costOn 18 = .ok (.ifCond .ge 17, 3) := by decide +kernel
theorem dX5_costOn_21 : decode cX5_costOn 21 = .ok (.ldc2_w 137, 3) := by decide +kernel
theorem dX5_costOn_24 : decode cX5_costOn 24 = .ok (.lload_n 2, 1) := by decide +kernel
theorem dX5_costOn_25 : decode cX5_costOn 25 = .ok (.lsub, 1) := by decide +kernel
theorem dX5_costOn_26 : decode cX5_costOn 26 = .ok (.aload_n 0, 1) := by decide +kernel
theorem dX5_costOn_27 : decode cX5_costOn 27 = .ok (.getfield 48, 3) := by decide +kernel
theorem dX5_costOn_30 : decode cX5_costOn 30 = .ok (.i2l, 1) := by decide +kernel
theorem dX5_costOn_31 : decode cX5_costOn 31 = .ok (.lmul, 1) := by decide +kernel
theorem dX5_costOn_32 : decode cX5_costOn 32 = .ok (.goto 14, 3) := by decide +kernel
theorem dX5_costOn_35 : decode cX5_costOn 35 = .ok (.lload_n 2, 1) := by decide +kernel
theorem dX5_costOn_36 : decode cX5_costOn 36 = .ok (.ldc2_w 137, 3) := by decide +kernel
theorem dX5_costOn_39 : decode cX5_costOn 39 = .ok (.lsub, 1) := by decide +kernel
theorem dX5_costOn_40 : decode cX5_costOn 40 = .ok (.aload_n 0, 1) := by decide +kernel
theorem dX5_costOn_41 : decode cX5_costOn 41 = .ok (.getfield 51, 3) := by decide +kernel
theorem dX5_costOn_44 : decode cX5_costOn 44 = .ok (.i2l, 1) := by decide +kernel
theorem dX5_costOn_45 : decode cX5_costOn 45 = .ok (.lmul, 1) := by decide +kernel
theorem dX5_costOn_46 : decode cX5_costOn 46 = .ok (.lreturn, 1) := by decide +kernel
theorem dX5_costOf_0 : decode cX5_costOf 0 = .ok (.aload_n 0, 1) := by decide +kernel
theorem dX5_costOf_1 : decode cX5_costOf 1 = .ok (.iload_n 1, 1) := by decide +kernel
theorem dX5_costOf_2 : decode cX5_costOf 2 = .ok (.invokevirtual 83, 3) := by decide +kernel
theorem dX5_costOf_5 : decode cX5_costOf 5 = .ok (.ifCond .eq 10, 3) := by decide +kernel
theorem dX5_costOf_8 : decode cX5_costOf 8 = .ok (.iload_n 2, 1) := by decide +kernel
theorem dX5_costOf_9 : decode cX5_costOf 9 = .ok (.invokestatic 91, 3) := by decide +kernel
theorem dX5_costOf_12 : decode cX5_costOf 12 = .ok (.ifCond .ne 7, 3) := by decide +kernel
theorem dX5_costOf_15 : decode cX5_costOf 15 = .ok (.ldc2_w 121, 3) := by decide +kernel
theorem dX5_costOf_18 : decode cX5_costOf 18 = .ok (.lreturn, 1) := by decide +kernel
theorem dX5_costOf_19 : decode cX5_costOf 19 = .ok (.aload_n 0, 1) := by decide +kernel
theorem dX5_costOf_20 : decode cX5_costOf 20 = .ok (.iload_n 1, 1) := by decide +kernel
theorem dX5_costOf_21 : decode cX5_costOf 21 = .ok (.invokevirtual 123, 3) := by decide +kernel
theorem dX5_costOf_24 : decode cX5_costOf 24 = .ok (.aload_n 0, 1) := by decide +kernel
theorem dX5_costOf_25 : decode cX5_costOf 25 = .ok (.iload_n 2, 1) := by decide +kernel
theorem dX5_costOf_26 : decode cX5_costOf 26 = .ok (.invokevirtual 139, 3) := by decide +kernel
theorem dX5_costOf_29 : decode cX5_costOf 29 = .ok (.lreturn, 1) := by decide +kernel
theorem dX5_day_0 : decode cX5_day 0 = .ok (.aload_n 0, 1) := by decide +kernel
theorem dX5_day_1 : decode cX5_day 1 = .ok (.iload_n 1, 1) := by decide +kernel
theorem dX5_day_2 : decode cX5_day 2 = .ok (.invokevirtual 83, 3) := by decide +kernel
theorem dX5_day_5 : decode cX5_day 5 = .ok (.ifCond .eq 22, 3) := by decide +kernel
theorem dX5_day_8 : decode cX5_day 8 = .ok (.iload_n 2, 1) := by decide +kernel
theorem dX5_day_9 : decode cX5_day 9 = .ok (.invokestatic 91, 3) := by decide +kernel
theorem dX5_day_12 : decode cX5_day 12 = .ok (.ifCond .eq 15, 3) := by decide +kernel
theorem dX5_day_15 : decode cX5_day 15 = .ok (.iload_n 3, 1) := by decide +kernel
theorem dX5_day_16 : decode cX5_day 16 = .ok (.invokestatic 91, 3) := by decide +kernel
theorem dX5_day_19 : decode cX5_day 19 = .ok (.ifCond .eq 8, 3) := by decide +kernel
theorem dX5_day_22 : decode cX5_day 22 = .ok (.iload_n 2, 1) := by decide +kernel
theorem dX5_day_23 : decode cX5_day 23 = .ok (.iload_n 3, 1) := by decide +kernel
theorem dX5_day_24 : decode cX5_day 24 = .ok (.if_icmp .le 5, 3) := by decide +kernel
theorem dX5_day_27 : decode cX5_day 27 = .ok (.iconst (-1), 1) := by decide +kernel
theorem dX5_day_28 : decode cX5_day 28 = .ok (.ireturn, 1) := by decide +kernel
theorem dX5_day_29 : decode cX5_day 29 = .ok (.aload_n 0, 1) := by decide +kernel
theorem dX5_day_30 : decode cX5_day 30 = .ok (.iload_n 1, 1) := by decide +kernel
theorem dX5_day_31 : decode cX5_day 31 = .ok (.invokevirtual 123, 3) := by decide +kernel
theorem dX5_day_34 : decode cX5_day 34 = .ok (.iload_n 2, 1) := by decide +kernel
theorem dX5_day_35 : decode cX5_day 35 = .ok (.istore 4, 2) := by decide +kernel
theorem dX5_day_37 : decode cX5_day 37 = .ok (.iload_n 2, 1) := by decide +kernel
theorem dX5_day_38 : decode cX5_day 38 = .ok (.iconst 1, 1) := by decide +kernel
theorem dX5_day_39 : decode cX5_day 39 = .ok (.iadd, 1) := by decide +kernel
theorem dX5_day_40 : decode cX5_day 40 = .ok (.istore 5, 2) := by decide +kernel
theorem dX5_day_42 : decode cX5_day 42 = .ok (.iload 5, 2) := by decide +kernel
theorem dX5_day_44 : decode cX5_day 44 = .ok (.iload_n 3, 1) := by decide +kernel
theorem dX5_day_45 : decode cX5_day 45 = .ok (.if_icmp .gt 34, 3) := by decide +kernel
theorem dX5_day_48 : decode cX5_day 48 = .ok (.aload_n 0, 1) := by decide +kernel
theorem dX5_day_49 : decode cX5_day 49 = .ok (.iload 5, 2) := by decide +kernel
theorem dX5_day_51 : decode cX5_day 51 = .ok (.invokevirtual 139, 3) := by decide +kernel
theorem dX5_day_54 : decode cX5_day 54 = .ok (.aload_n 0, 1) := by decide +kernel
theorem dX5_day_55 : decode cX5_day 55 = .ok (.iload 4, 2) := by decide +kernel
theorem dX5_day_57 : decode cX5_day 57 = .ok (.invokevirtual 139, 3) := by decide +kernel
theorem dX5_day_60 : decode cX5_day 60 = .ok (.lcmp, 1) := by decide +kernel
theorem dX5_day_61 : decode cX5_day 61 = .ok (.ifCond .ge 8, 3) := by decide +kernel
theorem dX5_day_64 : decode cX5_day 64 = .ok (.iload 5, 2) := by decide +kernel
theorem dX5_day_66 : decode cX5_day 66 = .ok (.goto 5, 3) := by decide +kernel
theorem dX5_day_69 : decode cX5_day 69 = .ok (.iload 4, 2) := by decide +kernel
theorem dX5_day_71 : decode cX5_day 71 = .ok (.istore 4, 2) := by decide +kernel
theorem dX5_day_73 : decode cX5_day 73 = .ok (.iinc 5 1, 3) := by decide +kernel
theorem dX5_day_76 : decode cX5_day 76 = .ok (.goto (-34), 3) := by decide +kernel
theorem dX5_day_79 : decode cX5_day 79 = .ok (.iload 4, 2) := by decide +kernel
theorem dX5_day_81 : decode cX5_day 81 = .ok (.ireturn, 1) := by decide +kernel
theorem dX5_check_0 : decode cX5_check 0 = .ok (.aload_n 0, 1) := by decide +kernel
theorem dX5_check_1 : decode cX5_check 1 = .ok (.iload_n 1, 1) := by decide +kernel
theorem dX5_check_2 : decode cX5_check 2 = .ok (.invokevirtual 83, 3) := by decide +kernel
theorem dX5_check_5 : decode cX5_check 5 = .ok (.ifCond .eq 17, 3) := by decide +kernel
theorem dX5_check_8 : decode cX5_check 8 = .ok (.iload_n 2, 1) := by decide +kernel
theorem dX5_check_9 : decode cX5_check 9 = .ok (.ifCond .lt 13, 3) := by decide +kernel
theorem dX5_check_12 : decode cX5_check 12 = .ok (.iload_n 2, 1) := by decide +kernel
theorem dX5_check_13 : decode cX5_check 13 = .ok (.aload_n 0, 1) := by decide +kernel
theorem dX5_check_14 : decode cX5_check 14 = .ok (.getfield 25, 3) := by decide +kernel
theorem dX5_check_17 : decode cX5_check 17 = .ok (.iload_n 1, 1) := by decide +kernel
theorem dX5_check_18 : decode cX5_check 18 = .ok (.iaload, 1) := by decide +kernel
theorem dX5_check_19 : decode cX5_check 19 = .ok (.if_icmp .lt 7, 3) := by decide +kernel
theorem dX5_check_22 : decode cX5_check 22 = .ok (.ldc2_w 143, 3) := by decide +kernel
theorem dX5_check_25 : decode cX5_check 25 = .ok (.lreturn, 1) := by decide +kernel
theorem dX5_check_26 : decode cX5_check 26 = .ok (.aload_n 0, 1) := by decide +kernel
theorem dX5_check_27 : decode cX5_check 27 = .ok (.iload_n 1, 1) := by decide +kernel
theorem dX5_check_28 : decode cX5_check 28 = .ok (.invokevirtual 123, 3) := by decide +kernel
theorem dX5_check_31 : decode cX5_check 31 = .ok (.iconst 0, 1) := by decide +kernel
theorem dX5_check_32 : decode cX5_check 32 = .ok (.istore_n 3, 1) := by decide +kernel
theorem dX5_check_33 : decode cX5_check 33 = .ok (.iconst 0, 1) := by decide +kernel
theorem dX5_check_34 : decode cX5_check 34 = .ok (.istore 4, 2) := by decide +kernel
theorem dX5_check_36 : decode cX5_check 36 = .ok (.aload_n 0, 1) := by decide +kernel
theorem dX5_check_37 : decode cX5_check 37 = .ok (.getfield 60, 3) := by decide +kernel
theorem dX5_check_40 : decode cX5_check 40 = .ok (.iload 4, 2) := by decide +kernel
theorem dX5_check_42 : decode cX5_check 42 = .ok (.baload, 1) := by decide +kernel
theorem dX5_check_43 : decode cX5_check 43 = .ok (.ifCond .eq 8, 3) := by decide +kernel
theorem dX5_check_46 : decode cX5_check 46 = .ok (.iload_n 3, 1) := by decide +kernel
theorem dX5_check_47 : decode cX5_check 47 = .ok (.iload_n 2, 1) := by decide +kernel
theorem dX5_check_48 : decode cX5_check 48 = .ok (.if_icmp .ge 27, 3) := by decide +kernel
theorem dX5_check_51 : decode cX5_check 51 = .ok (.iload_n 3, 1) := by decide +kernel
theorem dX5_check_52 : decode cX5_check 52 = .ok (.aload_n 0, 1) := by decide +kernel
theorem dX5_check_53 : decode cX5_check 53 = .ok (.getfield 60, 3) := by decide +kernel
theorem dX5_check_56 : decode cX5_check 56 = .ok (.iload 4, 2) := by decide +kernel
theorem dX5_check_58 : decode cX5_check 58 = .ok (.baload, 1) := by decide +kernel
theorem dX5_check_59 : decode cX5_check 59 = .ok (.ifCond .eq 7, 3) := by decide +kernel
theorem dX5_check_62 : decode cX5_check 62 = .ok (.iconst 1, 1) := by decide +kernel
theorem dX5_check_63 : decode cX5_check 63 = .ok (.goto 4, 3) := by decide +kernel
theorem dX5_check_66 : decode cX5_check 66 = .ok (.iconst 0, 1) := by decide +kernel
theorem dX5_check_67 : decode cX5_check 67 = .ok (.iadd, 1) := by decide +kernel
theorem dX5_check_68 : decode cX5_check 68 = .ok (.istore_n 3, 1) := by decide +kernel
theorem dX5_check_69 : decode cX5_check 69 = .ok (.iinc 4 1, 3) := by decide +kernel
theorem dX5_check_72 : decode cX5_check 72 = .ok (.goto (-36), 3) := by decide +kernel
theorem dX5_check_75 : decode cX5_check 75 = .ok (.iconst 0, 1) := by decide +kernel
theorem dX5_check_76 : decode cX5_check 76 = .ok (.istore 5, 2) := by decide +kernel
theorem dX5_check_78 : decode cX5_check 78 = .ok (.iconst 0, 1) := by decide +kernel
theorem dX5_check_79 : decode cX5_check 79 = .ok (.istore 6, 2) := by decide +kernel
theorem dX5_check_81 : decode cX5_check 81 = .ok (.iload 6, 2) := by decide +kernel
theorem dX5_check_83 : decode cX5_check 83 = .ok (.aload_n 0, 1) := by decide +kernel
theorem dX5_check_84 : decode cX5_check 84 = .ok (.getfield 25, 3) := by decide +kernel
theorem dX5_check_87 : decode cX5_check 87 = .ok (.iload_n 1, 1) := by decide +kernel
theorem dX5_check_88 : decode cX5_check 88 = .ok (.iaload, 1) := by decide +kernel
theorem dX5_check_89 : decode cX5_check 89 = .ok (.if_icmp .ge 50, 3) := by decide +kernel
theorem dX5_check_92 : decode cX5_check 92 = .ok (.aload_n 0, 1) := by decide +kernel
theorem dX5_check_93 : decode cX5_check 93 = .ok (.getfield 28, 3) := by decide +kernel
theorem dX5_check_96 : decode cX5_check 96 = .ok (.bipush 8, 2) := by decide +kernel
theorem dX5_check_98 : decode cX5_check 98 = .ok (.iload_n 1, 1) := by decide +kernel
theorem dX5_check_99 : decode cX5_check 99 = .ok (.imul, 1) := by decide +kernel
theorem dX5_check_100 : decode cX5_check 100 = .ok (.iload 6, 2) := by decide +kernel
theorem dX5_check_102 : decode cX5_check 102 = .ok (.iadd, 1) := by decide +kernel
theorem dX5_check_103 : decode cX5_check 103 = .ok (.iaload, 1) := by decide +kernel
theorem dX5_check_104 : decode cX5_check 104 = .ok (.aload_n 0, 1) := by decide +kernel
theorem dX5_check_105 : decode cX5_check 105 = .ok (.getfield 54, 3) := by decide +kernel
theorem dX5_check_108 : decode cX5_check 108 = .ok (.iload 4, 2) := by decide +kernel
theorem dX5_check_110 : decode cX5_check 110 = .ok (.iaload, 1) := by decide +kernel
theorem dX5_check_111 : decode cX5_check 111 = .ok (.if_icmp .ne 18, 3) := by decide +kernel
theorem dX5_check_114 : decode cX5_check 114 = .ok (.aload_n 0, 1) := by decide +kernel
theorem dX5_check_115 : decode cX5_check 115 = .ok (.getfield 31, 3) := by decide +kernel
theorem dX5_check_118 : decode cX5_check 118 = .ok (.bipush 8, 2) := by decide +kernel
theorem dX5_check_120 : decode cX5_check 120 = .ok (.iload_n 1, 1) := by decide +kernel
theorem dX5_check_121 : decode cX5_check 121 = .ok (.imul, 1) := by decide +kernel
theorem dX5_check_122 : decode cX5_check 122 = .ok (.iload 6, 2) := by decide +kernel
theorem dX5_check_124 : decode cX5_check 124 = .ok (.iadd, 1) := by decide +kernel
theorem dX5_check_125 : decode cX5_check 125 = .ok (.iaload, 1) := by decide +kernel
theorem dX5_check_126 : decode cX5_check 126 = .ok (.goto 5, 3) := by decide +kernel
theorem dX5_check_129 : decode cX5_check 129 = .ok (.iload 5, 2) := by decide +kernel
theorem dX5_check_131 : decode cX5_check 131 = .ok (.istore 5, 2) := by decide +kernel
theorem dX5_check_133 : decode cX5_check 133 = .ok (.iinc 6 1, 3) := by decide +kernel
theorem dX5_check_136 : decode cX5_check 136 = .ok (.goto (-55), 3) := by decide +kernel
theorem dX5_check_139 : decode cX5_check 139 = .ok (.iload 5, 2) := by decide +kernel
theorem dX5_check_141 : decode cX5_check 141 = .ok (.i2l, 1) := by decide +kernel
theorem dX5_check_142 : decode cX5_check 142 = .ok (.aload_n 0, 1) := by decide +kernel
theorem dX5_check_143 : decode cX5_check 143 = .ok (.iload 4, 2) := by decide +kernel
theorem dX5_check_145 : decode cX5_check 145 = .ok (.aload_n 0, 1) := by decide +kernel
theorem dX5_check_146 : decode cX5_check 146 = .ok (.getfield 54, 3) := by decide +kernel
theorem dX5_check_149 : decode cX5_check 149 = .ok (.iload 4, 2) := by decide +kernel
theorem dX5_check_151 : decode cX5_check 151 = .ok (.iaload, 1) := by decide +kernel
theorem dX5_check_152 : decode cX5_check 152 = .ok (.invokevirtual 126, 3) := by decide +kernel
theorem dX5_check_155 : decode cX5_check 155 = .ok (.aload_n 0, 1) := by decide +kernel
theorem dX5_check_156 : decode cX5_check 156 = .ok (.getfield 13, 3) := by decide +kernel
theorem dX5_check_159 : decode cX5_check 159 = .ok (.iload_n 1, 1) := by decide +kernel
theorem dX5_check_160 : decode cX5_check 160 = .ok (.iaload, 1) := by decide +kernel
theorem dX5_check_161 : decode cX5_check 161 = .ok (.i2l, 1) := by decide +kernel
theorem dX5_check_162 : decode cX5_check 162 = .ok (.lmul, 1) := by decide +kernel
theorem dX5_check_163 : decode cX5_check 163 = .ok (.ldc2_w 137, 3) := by decide +kernel
theorem dX5_check_166 : decode cX5_check 166 = .ok (.ldiv, 1) := by decide +kernel
theorem dX5_check_167 : decode cX5_check 167 = .ok (.lsub, 1) := by decide +kernel
theorem dX5_check_168 : decode cX5_check 168 = .ok (.lreturn, 1) := by decide +kernel
end
section
theorem dL_law_0 : decode cL_law 0 = .ok (.new 7, 3) := by decide +kernel
theorem dL_law_3 : decode cL_law 3 = .ok (.dup, 1) := by decide +kernel
theorem dL_law_4 : decode cL_law 4 = .ok (.invokespecial 9, 3) := by decide +kernel
theorem dL_law_7 : decode cL_law 7 = .ok (.astore_n 1, 1) := by decide +kernel
theorem dL_law_8 : decode cL_law 8 = .ok (.new 10, 3) := by decide +kernel
theorem dL_law_11 : decode cL_law 11 = .ok (.dup, 1) := by decide +kernel
theorem dL_law_12 : decode cL_law 12 = .ok (.invokespecial 12, 3) := by decide +kernel
theorem dL_law_15 : decode cL_law 15 = .ok (.astore_n 2, 1) := by decide +kernel
theorem dL_law_16 : decode cL_law 16 = .ok (.iconst 0, 1) := by decide +kernel
theorem dL_law_17 : decode cL_law 17 = .ok (.istore_n 3, 1) := by decide +kernel
theorem dL_law_18 : decode cL_law 18 = .ok (.iload_n 3, 1) := by decide +kernel
theorem dL_law_19 : decode cL_law 19 = .ok (.aload_n 0, 1) := by decide +kernel
theorem dL_law_20 : decode cL_law 20 = .ok (.arraylength, 1) := by decide +kernel
theorem dL_law_21 : decode cL_law 21 = .ok (.iconst 4, 1) := by decide +kernel
theorem dL_law_22 : decode cL_law 22 = .ok (.isub, 1) := by decide +kernel
theorem dL_law_23 : decode cL_law 23 = .ok (.if_icmp .gt 689, 3) := by decide +kernel
theorem dL_law_26 : decode cL_law 26 = .ok (.aload_n 0, 1) := by decide +kernel
theorem dL_law_27 : decode cL_law 27 = .ok (.iload_n 3, 1) := by decide +kernel
theorem dL_law_28 : decode cL_law 28 = .ok (.iaload, 1) := by decide +kernel
theorem dL_law_29 : decode cL_law 29 = .ok (.bipush 31, 2) := by decide +kernel
theorem dL_law_31 : decode cL_law 31 = .ok (.iand, 1) := by decide +kernel
theorem dL_law_32 : decode cL_law 32 = .ok (.tableswitch 674 0 16 #[84, 117, 160, 203, 236, 285, 318, 351, 374, 408, 441, 464, 497, 530, 563, 597, 640], 84) := by decide +kernel
theorem dL_law_116 : decode cL_law 116 = .ok (.aload_n 1, 1) := by decide +kernel
theorem dL_law_117 : decode cL_law 117 = .ok (.aload_n 0, 1) := by decide +kernel
theorem dL_law_118 : decode cL_law 118 = .ok (.iload_n 3, 1) := by decide +kernel
theorem dL_law_119 : decode cL_law 119 = .ok (.iconst 1, 1) := by decide +kernel
theorem dL_law_120 : decode cL_law 120 = .ok (.iadd, 1) := by decide +kernel
theorem dL_law_121 : decode cL_law 121 = .ok (.iaload, 1) := by decide +kernel
theorem dL_law_122 : decode cL_law 122 = .ok (.aload_n 0, 1) := by decide +kernel
theorem dL_law_123 : decode cL_law 123 = .ok (.iload_n 3, 1) := by decide +kernel
theorem dL_law_124 : decode cL_law 124 = .ok (.iconst 2, 1) := by decide +kernel
theorem dL_law_125 : decode cL_law 125 = .ok (.iadd, 1) := by decide +kernel
theorem dL_law_126 : decode cL_law 126 = .ok (.iaload, 1) := by decide +kernel
theorem dL_law_127 : decode cL_law 127 = .ok (.invokevirtual 13, 3) := by decide +kernel
theorem dL_law_130 : decode cL_law 130 = .ok (.aload_n 2, 1) := by decide +kernel
theorem dL_law_131 : decode cL_law 131 = .ok (.aload_n 0, 1) := by decide +kernel
theorem dL_law_132 : decode cL_law 132 = .ok (.iload_n 3, 1) := by decide +kernel
theorem dL_law_133 : decode cL_law 133 = .ok (.iconst 1, 1) := by decide +kernel
theorem dL_law_134 : decode cL_law 134 = .ok (.iadd, 1) := by decide +kernel
theorem dL_law_135 : decode cL_law 135 = .ok (.iaload, 1) := by decide +kernel
theorem dL_law_136 : decode cL_law 136 = .ok (.aload_n 0, 1) := by decide +kernel
theorem dL_law_137 : decode cL_law 137 = .ok (.iload_n 3, 1) := by decide +kernel
theorem dL_law_138 : decode cL_law 138 = .ok (.iconst 2, 1) := by decide +kernel
theorem dL_law_139 : decode cL_law 139 = .ok (.iadd, 1) := by decide +kernel
theorem dL_law_140 : decode cL_law 140 = .ok (.iaload, 1) := by decide +kernel
theorem dL_law_141 : decode cL_law 141 = .ok (.invokevirtual 17, 3) := by decide +kernel
theorem dL_law_144 : decode cL_law 144 = .ok (.if_icmp .eq 562, 3) := by decide +kernel
theorem dL_law_147 : decode cL_law 147 = .ok (.iconst 0, 1) := by decide +kernel
theorem dL_law_148 : decode cL_law 148 = .ok (.ireturn, 1) := by decide +kernel
theorem dL_law_149 : decode cL_law 149 = .ok (.aload_n 1, 1) := by decide +kernel
theorem dL_law_150 : decode cL_law 150 = .ok (.aload_n 0, 1) := by decide +kernel
theorem dL_law_151 : decode cL_law 151 = .ok (.iload_n 3, 1) := by decide +kernel
theorem dL_law_152 : decode cL_law 152 = .ok (.iconst 1, 1) := by decide +kernel
theorem dL_law_153 : decode cL_law 153 = .ok (.iadd, 1) := by decide +kernel
theorem dL_law_154 : decode cL_law 154 = .ok (.iaload, 1) := by decide +kernel
theorem dL_law_155 : decode cL_law 155 = .ok (.aload_n 0, 1) := by decide +kernel
theorem dL_law_156 : decode cL_law 156 = .ok (.iload_n 3, 1) := by decide +kernel
theorem dL_law_157 : decode cL_law 157 = .ok (.iconst 2, 1) := by decide +kernel
theorem dL_law_158 : decode cL_law 158 = .ok (.iadd, 1) := by decide +kernel
theorem dL_law_159 : decode cL_law 159 = .ok (.iaload, 1) := by decide +kernel
theorem dL_law_160 : decode cL_law 160 = .ok (.aload_n 0, 1) := by decide +kernel
theorem dL_law_161 : decode cL_law 161 = .ok (.iload_n 3, 1) := by decide +kernel
theorem dL_law_162 : decode cL_law 162 = .ok (.iconst 3, 1) := by decide +kernel
theorem dL_law_163 : decode cL_law 163 = .ok (.iadd, 1) := by decide +kernel
theorem dL_law_164 : decode cL_law 164 = .ok (.iaload, 1) := by decide +kernel
theorem dL_law_165 : decode cL_law 165 = .ok (.invokevirtual 18, 3) := by decide +kernel
theorem dL_law_168 : decode cL_law 168 = .ok (.aload_n 2, 1) := by decide +kernel
theorem dL_law_169 : decode cL_law 169 = .ok (.aload_n 0, 1) := by decide +kernel
theorem dL_law_170 : decode cL_law 170 = .ok (.iload_n 3, 1) := by decide +kernel
theorem dL_law_171 : decode cL_law 171 = .ok (.iconst 1, 1) := by decide +kernel
theorem dL_law_172 : decode cL_law 172 = .ok (.iadd, 1) := by decide +kernel
theorem dL_law_173 : decode cL_law 173 = .ok (.iaload, 1) := by decide +kernel
theorem dL_law_174 : decode cL_law 174 = .ok (.aload_n 0, 1) := by decide +kernel
theorem dL_law_175 : decode cL_law 175 = .ok (.iload_n 3, 1) := by decide +kernel
theorem dL_law_176 : decode cL_law 176 = .ok (.iconst 2, 1) := by decide +kernel
theorem dL_law_177 : decode cL_law 177 = .ok (.iadd, 1) := by decide +kernel
theorem dL_law_178 : decode cL_law 178 = .ok (.iaload, 1) := by decide +kernel
theorem dL_law_179 : decode cL_law 179 = .ok (.aload_n 0, 1) := by decide +kernel
theorem dL_law_180 : decode cL_law 180 = .ok (.iload_n 3, 1) := by decide +kernel
theorem dL_law_181 : decode cL_law 181 = .ok (.iconst 3, 1) := by decide +kernel
theorem dL_law_182 : decode cL_law 182 = .ok (.iadd, 1) := by decide +kernel
theorem dL_law_183 : decode cL_law 183 = .ok (.iaload, 1) := by decide +kernel
theorem dL_law_184 : decode cL_law 184 = .ok (.invokevirtual 22, 3) := by decide +kernel
theorem dL_law_187 : decode cL_law 187 = .ok (.if_icmp .eq 519, 3) := by decide +kernel
theorem dL_law_190 : decode cL_law 190 = .ok (.iconst 0, 1) := by decide +kernel
theorem dL_law_191 : decode cL_law 191 = .ok (.ireturn, 1) := by decide +kernel
theorem dL_law_192 : decode cL_law 192 = .ok (.aload_n 1, 1) := by decide +kernel
theorem dL_law_193 : decode cL_law 193 = .ok (.aload_n 0, 1) := by decide +kernel
theorem dL_law_194 : decode cL_law 194 = .ok (.iload_n 3, 1) := by decide +kernel
theorem dL_law_195 : decode cL_law 195 = .ok (.iconst 1, 1) := by decide +kernel
theorem dL_law_196 : decode cL_law 196 = .ok (.iadd, 1) := by decide +kernel
theorem dL_law_197 : decode cL_law 197 = .ok (.iaload, 1) := by decide +kernel
theorem dL_law_198 : decode cL_law 198 = .ok (.aload_n 0, 1) := by decide +kernel
theorem dL_law_199 : decode cL_law 199 = .ok (.iload_n 3, 1) := by decide +kernel
theorem dL_law_200 : decode cL_law 200 = .ok (.iconst 2, 1) := by decide +kernel
theorem dL_law_201 : decode cL_law 201 = .ok (.iadd, 1) := by decide +kernel
theorem dL_law_202 : decode cL_law 202 = .ok (.iaload, 1) := by decide +kernel
theorem dL_law_203 : decode cL_law 203 = .ok (.aload_n 0, 1) := by decide +kernel
theorem dL_law_204 : decode cL_law 204 = .ok (.iload_n 3, 1) := by decide +kernel
theorem dL_law_205 : decode cL_law 205 = .ok (.iconst 3, 1) := by decide +kernel
theorem dL_law_206 : decode cL_law 206 = .ok (.iadd, 1) := by decide +kernel
theorem dL_law_207 : decode cL_law 207 = .ok (.iaload, 1) := by decide +kernel
theorem dL_law_208 : decode cL_law 208 = .ok (.invokevirtual 23, 3) := by decide +kernel
theorem dL_law_211 : decode cL_law 211 = .ok (.aload_n 2, 1) := by decide +kernel
theorem dL_law_212 : decode cL_law 212 = .ok (.aload_n 0, 1) := by decide +kernel
theorem dL_law_213 : decode cL_law 213 = .ok (.iload_n 3, 1) := by decide +kernel
theorem dL_law_214 : decode cL_law 214 = .ok (.iconst 1, 1) := by decide +kernel
theorem dL_law_215 : decode cL_law 215 = .ok (.iadd, 1) := by decide +kernel
theorem dL_law_216 : decode cL_law 216 = .ok (.iaload, 1) := by decide +kernel
theorem dL_law_217 : decode cL_law 217 = .ok (.aload_n 0, 1) := by decide +kernel
theorem dL_law_218 : decode cL_law 218 = .ok (.iload_n 3, 1) := by decide +kernel
theorem dL_law_219 : decode cL_law 219 = .ok (.iconst 2, 1) := by decide +kernel
theorem dL_law_220 : decode cL_law 220 = .ok (.iadd, 1) := by decide +kernel
theorem dL_law_221 : decode cL_law 221 = .ok (.iaload, 1) := by decide +kernel
theorem dL_law_222 : decode cL_law 222 = .ok (.aload_n 0, 1) := by decide +kernel
theorem dL_law_223 : decode cL_law 223 = .ok (.iload_n 3, 1) := by decide +kernel
theorem dL_law_224 : decode cL_law 224 = .ok (.iconst 3, 1) := by decide +kernel
theorem dL_law_225 : decode cL_law 225 = .ok (.iadd, 1) := by decide +kernel
theorem dL_law_226 : decode cL_law 226 = .ok (.iaload, 1) := by decide +kernel
theorem dL_law_227 : decode cL_law 227 = .ok (.invokevirtual 26, 3) := by decide +kernel
theorem dL_law_230 : decode cL_law 230 = .ok (.if_icmp .eq 476, 3) := by decide +kernel
theorem dL_law_233 : decode cL_law 233 = .ok (.iconst 0, 1) := by decide +kernel
theorem dL_law_234 : decode cL_law 234 = .ok (.ireturn, 1) := by decide +kernel
theorem dL_law_235 : decode cL_law 235 = .ok (.aload_n 1, 1) := by decide +kernel
theorem dL_law_236 : decode cL_law 236 = .ok (.aload_n 0, 1) := by decide +kernel
theorem dL_law_237 : decode cL_law 237 = .ok (.iload_n 3, 1) := by decide +kernel
theorem dL_law_238 : decode cL_law 238 = .ok (.iconst 1, 1) := by decide +kernel
theorem dL_law_239 : decode cL_law 239 = .ok (.iadd, 1) := by decide +kernel
theorem dL_law_240 : decode cL_law 240 = .ok (.iaload, 1) := by decide +kernel
theorem dL_law_241 : decode cL_law 241 = .ok (.aload_n 0, 1) := by decide +kernel
theorem dL_law_242 : decode cL_law 242 = .ok (.iload_n 3, 1) := by decide +kernel
theorem dL_law_243 : decode cL_law 243 = .ok (.iconst 2, 1) := by decide +kernel
theorem dL_law_244 : decode cL_law 244 = .ok (.iadd, 1) := by decide +kernel
theorem dL_law_245 : decode cL_law 245 = .ok (.iaload, 1) := by decide +kernel
theorem dL_law_246 : decode cL_law 246 = .ok (.invokevirtual 27, 3) := by decide +kernel
theorem dL_law_249 : decode cL_law 249 = .ok (.aload_n 2, 1) := by decide +kernel
theorem dL_law_250 : decode cL_law 250 = .ok (.aload_n 0, 1) := by decide +kernel
theorem dL_law_251 : decode cL_law 251 = .ok (.iload_n 3, 1) := by decide +kernel
theorem dL_law_252 : decode cL_law 252 = .ok (.iconst 1, 1) := by decide +kernel
theorem dL_law_253 : decode cL_law 253 = .ok (.iadd, 1) := by decide +kernel
theorem dL_law_254 : decode cL_law 254 = .ok (.iaload, 1) := by decide +kernel
theorem dL_law_255 : decode cL_law 255 = .ok (.aload_n 0, 1) := by decide +kernel
theorem dL_law_256 : decode cL_law 256 = .ok (.iload_n 3, 1) := by decide +kernel
theorem dL_law_257 : decode cL_law 257 = .ok (.iconst 2, 1) := by decide +kernel
theorem dL_law_258 : decode cL_law 258 = .ok (.iadd, 1) := by decide +kernel
theorem dL_law_259 : decode cL_law 259 = .ok (.iaload, 1) := by decide +kernel
theorem dL_law_260 : decode cL_law 260 = .ok (.invokevirtual 31, 3) := by decide +kernel
theorem dL_law_263 : decode cL_law 263 = .ok (.if_icmp .eq 443, 3) := by decide +kernel
theorem dL_law_266 : decode cL_law 266 = .ok (.iconst 0, 1) := by decide +kernel
theorem dL_law_267 : decode cL_law 267 = .ok (.ireturn, 1) := by decide +kernel
theorem dL_law_268 : decode cL_law 268 = .ok (.aload_n 1, 1) := by decide +kernel
theorem dL_law_269 : decode cL_law 269 = .ok (.aload_n 0, 1) := by decide +kernel
theorem dL_law_270 : decode cL_law 270 = .ok (.iload_n 3, 1) := by decide +kernel
theorem dL_law_271 : decode cL_law 271 = .ok (.iconst 1, 1) := by decide +kernel
theorem dL_law_272 : decode cL_law 272 = .ok (.iadd, 1) := by decide +kernel
theorem dL_law_273 : decode cL_law 273 = .ok (.iaload, 1) := by decide +kernel
theorem dL_law_274 : decode cL_law 274 = .ok (.aload_n 0, 1) := by decide +kernel
theorem dL_law_275 : decode cL_law 275 = .ok (.iload_n 3, 1) := by decide +kernel
theorem dL_law_276 : decode cL_law 276 = .ok (.iconst 2, 1) := by decide +kernel
theorem dL_law_277 : decode cL_law 277 = .ok (.iadd, 1) := by decide +kernel
theorem dL_law_278 : decode cL_law 278 = .ok (.iaload, 1) := by decide +kernel
theorem dL_law_279 : decode cL_law 279 = .ok (.ifCond .eq 7, 3) := by decide +kernel
theorem dL_law_282 : decode cL_law 282 = .ok (.iconst 1, 1) := by decide +kernel
theorem dL_law_283 : decode cL_law 283 = .ok (.goto 4, 3) := by decide +kernel
theorem dL_law_286 : decode cL_law 286 = .ok (.iconst 0, 1) := by decide +kernel
theorem dL_law_287 : decode cL_law 287 = .ok (.invokevirtual 32, 3) := by decide +kernel
theorem dL_law_290 : decode cL_law 290 = .ok (.aload_n 2, 1) := by decide +kernel
theorem dL_law_291 : decode cL_law 291 = .ok (.aload_n 0, 1) := by decide +kernel
theorem dL_law_292 : decode cL_law 292 = .ok (.iload_n 3, 1) := by decide +kernel
theorem dL_law_293 : decode cL_law 293 = .ok (.iconst 1, 1) := by decide +kernel
theorem dL_law_294 : decode cL_law 294 = .ok (.iadd, 1) := by decide +kernel
theorem dL_law_295 : decode cL_law 295 = .ok (.iaload, 1) := by decide +kernel
theorem dL_law_296 : decode cL_law 296 = .ok (.aload_n 0, 1) := by decide +kernel
theorem dL_law_297 : decode cL_law 297 = .ok (.iload_n 3, 1) := by decide +kernel
theorem dL_law_298 : decode cL_law 298 = .ok (.iconst 2, 1) := by decide +kernel
theorem dL_law_299 : decode cL_law 299 = .ok (.iadd, 1) := by decide +kernel
theorem dL_law_300 : decode cL_law 300 = .ok (.iaload, 1) := by decide +kernel
theorem dL_law_301 : decode cL_law 301 = .ok (.ifCond .eq 7, 3) := by decide +kernel
theorem dL_law_304 : decode cL_law 304 = .ok (.iconst 1, 1) := by decide +kernel
theorem dL_law_305 : decode cL_law 305 = .ok (.goto 4, 3) := by decide +kernel
theorem dL_law_308 : decode cL_law 308 = .ok (.iconst 0, 1) := by decide +kernel
theorem dL_law_309 : decode cL_law 309 = .ok (.invokevirtual 36, 3) := by decide +kernel
theorem dL_law_312 : decode cL_law 312 = .ok (.if_icmp .eq 394, 3) := by decide +kernel
theorem dL_law_315 : decode cL_law 315 = .ok (.iconst 0, 1) := by decide +kernel
theorem dL_law_316 : decode cL_law 316 = .ok (.ireturn, 1) := by decide +kernel
theorem dL_law_317 : decode cL_law 317 = .ok (.aload_n 1, 1) := by decide +kernel
theorem dL_law_318 : decode cL_law 318 = .ok (.aload_n 0, 1) := by decide +kernel
theorem dL_law_319 : decode cL_law 319 = .ok (.iload_n 3, 1) := by decide +kernel
theorem dL_law_320 : decode cL_law 320 = .ok (.iconst 1, 1) := by decide +kernel
theorem dL_law_321 : decode cL_law 321 = .ok (.iadd, 1) := by decide +kernel
theorem dL_law_322 : decode cL_law 322 = .ok (.iaload, 1) := by decide +kernel
theorem dL_law_323 : decode cL_law 323 = .ok (.aload_n 0, 1) := by decide +kernel
theorem dL_law_324 : decode cL_law 324 = .ok (.iload_n 3, 1) := by decide +kernel
theorem dL_law_325 : decode cL_law 325 = .ok (.iconst 2, 1) := by decide +kernel
theorem dL_law_326 : decode cL_law 326 = .ok (.iadd, 1) := by decide +kernel
theorem dL_law_327 : decode cL_law 327 = .ok (.iaload, 1) := by decide +kernel
theorem dL_law_328 : decode cL_law 328 = .ok (.invokevirtual 37, 3) := by decide +kernel
theorem dL_law_331 : decode cL_law 331 = .ok (.aload_n 2, 1) := by decide +kernel
theorem dL_law_332 : decode cL_law 332 = .ok (.aload_n 0, 1) := by decide +kernel
theorem dL_law_333 : decode cL_law 333 = .ok (.iload_n 3, 1) := by decide +kernel
theorem dL_law_334 : decode cL_law 334 = .ok (.iconst 1, 1) := by decide +kernel
theorem dL_law_335 : decode cL_law 335 = .ok (.iadd, 1) := by decide +kernel
theorem dL_law_336 : decode cL_law 336 = .ok (.iaload, 1) := by decide +kernel
theorem dL_law_337 : decode cL_law 337 = .ok (.aload_n 0, 1) := by decide +kernel
theorem dL_law_338 : decode cL_law 338 = .ok (.iload_n 3, 1) := by decide +kernel
theorem dL_law_339 : decode cL_law 339 = .ok (.iconst 2, 1) := by decide +kernel
theorem dL_law_340 : decode cL_law 340 = .ok (.iadd, 1) := by decide +kernel
theorem dL_law_341 : decode cL_law 341 = .ok (.iaload, 1) := by decide +kernel
theorem dL_law_342 : decode cL_law 342 = .ok (.invokevirtual 40, 3) := by decide +kernel
theorem dL_law_345 : decode cL_law 345 = .ok (.if_icmp .eq 361, 3) := by decide +kernel
theorem dL_law_348 : decode cL_law 348 = .ok (.iconst 0, 1) := by decide +kernel
theorem dL_law_349 : decode cL_law 349 = .ok (.ireturn, 1) := by decide +kernel
theorem dL_law_350 : decode cL_law 350 = .ok (.aload_n 1, 1) := by decide +kernel
theorem dL_law_351 : decode cL_law 351 = .ok (.aload_n 0, 1) := by decide +kernel
theorem dL_law_352 : decode cL_law 352 = .ok (.iload_n 3, 1) := by decide +kernel
theorem dL_law_353 : decode cL_law 353 = .ok (.iconst 1, 1) := by decide +kernel
theorem dL_law_354 : decode cL_law 354 = .ok (.iadd, 1) := by decide +kernel
theorem dL_law_355 : decode cL_law 355 = .ok (.iaload, 1) := by decide +kernel
theorem dL_law_356 : decode cL_law 356 = .ok (.aload_n 0, 1) := by decide +kernel
theorem dL_law_357 : decode cL_law 357 = .ok (.iload_n 3, 1) := by decide +kernel
theorem dL_law_358 : decode cL_law 358 = .ok (.iconst 2, 1) := by decide +kernel
theorem dL_law_359 : decode cL_law 359 = .ok (.iadd, 1) := by decide +kernel
theorem dL_law_360 : decode cL_law 360 = .ok (.iaload, 1) := by decide +kernel
theorem dL_law_361 : decode cL_law 361 = .ok (.invokevirtual 41, 3) := by decide +kernel
theorem dL_law_364 : decode cL_law 364 = .ok (.aload_n 2, 1) := by decide +kernel
theorem dL_law_365 : decode cL_law 365 = .ok (.aload_n 0, 1) := by decide +kernel
theorem dL_law_366 : decode cL_law 366 = .ok (.iload_n 3, 1) := by decide +kernel
theorem dL_law_367 : decode cL_law 367 = .ok (.iconst 1, 1) := by decide +kernel
theorem dL_law_368 : decode cL_law 368 = .ok (.iadd, 1) := by decide +kernel
theorem dL_law_369 : decode cL_law 369 = .ok (.iaload, 1) := by decide +kernel
theorem dL_law_370 : decode cL_law 370 = .ok (.aload_n 0, 1) := by decide +kernel
theorem dL_law_371 : decode cL_law 371 = .ok (.iload_n 3, 1) := by decide +kernel
theorem dL_law_372 : decode cL_law 372 = .ok (.iconst 2, 1) := by decide +kernel
theorem dL_law_373 : decode cL_law 373 = .ok (.iadd, 1) := by decide +kernel
theorem dL_law_374 : decode cL_law 374 = .ok (.iaload, 1) := by decide +kernel
theorem dL_law_375 : decode cL_law 375 = .ok (.invokevirtual 44, 3) := by decide +kernel
theorem dL_law_378 : decode cL_law 378 = .ok (.if_icmp .eq 328, 3) := by decide +kernel
theorem dL_law_381 : decode cL_law 381 = .ok (.iconst 0, 1) := by decide +kernel
theorem dL_law_382 : decode cL_law 382 = .ok (.ireturn, 1) := by decide +kernel
theorem dL_law_383 : decode cL_law 383 = .ok (.aload_n 1, 1) := by decide +kernel
theorem dL_law_384 : decode cL_law 384 = .ok (.aload_n 0, 1) := by decide +kernel
theorem dL_law_385 : decode cL_law 385 = .ok (.iload_n 3, 1) := by decide +kernel
theorem dL_law_386 : decode cL_law 386 = .ok (.iconst 1, 1) := by decide +kernel
theorem dL_law_387 : decode cL_law 387 = .ok (.iadd, 1) := by decide +kernel
theorem dL_law_388 : decode cL_law 388 = .ok (.iaload, 1) := by decide +kernel
theorem dL_law_389 : decode cL_law 389 = .ok (.invokevirtual 45, 3) := by decide +kernel
theorem dL_law_392 : decode cL_law 392 = .ok (.aload_n 2, 1) := by decide +kernel
theorem dL_law_393 : decode cL_law 393 = .ok (.aload_n 0, 1) := by decide +kernel
theorem dL_law_394 : decode cL_law 394 = .ok (.iload_n 3, 1) := by decide +kernel
theorem dL_law_395 : decode cL_law 395 = .ok (.iconst 1, 1) := by decide +kernel
theorem dL_law_396 : decode cL_law 396 = .ok (.iadd, 1) := by decide +kernel
theorem dL_law_397 : decode cL_law 397 = .ok (.iaload, 1) := by decide +kernel
theorem dL_law_398 : decode cL_law 398 = .ok (.invokevirtual 49, 3) := by decide +kernel
theorem dL_law_401 : decode cL_law 401 = .ok (.if_icmp .eq 305, 3) := by decide +kernel
theorem dL_law_404 : decode cL_law 404 = .ok (.iconst 0, 1) := by decide +kernel
theorem dL_law_405 : decode cL_law 405 = .ok (.ireturn, 1) := by decide +kernel
theorem dL_law_406 : decode cL_law 406 = .ok (.aload_n 1, 1) := by decide +kernel
theorem dL_law_407 : decode cL_law 407 = .ok (.aload_n 0, 1) := by decide +kernel
theorem dL_law_408 : decode cL_law 408 = .ok (.iload_n 3, 1) := by decide +kernel
theorem dL_law_409 : decode cL_law 409 = .ok (.iconst 1, 1) := by decide +kernel
theorem dL_law_410 : decode cL_law 410 = .ok (.iadd, 1) := by decide +kernel
theorem dL_law_411 : decode cL_law 411 = .ok (.iaload, 1) := by decide +kernel
theorem dL_law_412 : decode cL_law 412 = .ok (.aload_n 0, 1) := by decide +kernel
theorem dL_law_413 : decode cL_law 413 = .ok (.iload_n 3, 1) := by decide +kernel
theorem dL_law_414 : decode cL_law 414 = .ok (.iconst 2, 1) := by decide +kernel
theorem dL_law_415 : decode cL_law 415 = .ok (.iadd, 1) := by decide +kernel
theorem dL_law_416 : decode cL_law 416 = .ok (.iaload, 1) := by decide +kernel
theorem dL_law_417 : decode cL_law 417 = .ok (.invokevirtual 50, 3) := by decide +kernel
theorem dL_law_420 : decode cL_law 420 = .ok (.aload_n 2, 1) := by decide +kernel
theorem dL_law_421 : decode cL_law 421 = .ok (.aload_n 0, 1) := by decide +kernel
theorem dL_law_422 : decode cL_law 422 = .ok (.iload_n 3, 1) := by decide +kernel
theorem dL_law_423 : decode cL_law 423 = .ok (.iconst 1, 1) := by decide +kernel
theorem dL_law_424 : decode cL_law 424 = .ok (.iadd, 1) := by decide +kernel
theorem dL_law_425 : decode cL_law 425 = .ok (.iaload, 1) := by decide +kernel
theorem dL_law_426 : decode cL_law 426 = .ok (.aload_n 0, 1) := by decide +kernel
theorem dL_law_427 : decode cL_law 427 = .ok (.iload_n 3, 1) := by decide +kernel
theorem dL_law_428 : decode cL_law 428 = .ok (.iconst 2, 1) := by decide +kernel
theorem dL_law_429 : decode cL_law 429 = .ok (.iadd, 1) := by decide +kernel
theorem dL_law_430 : decode cL_law 430 = .ok (.iaload, 1) := by decide +kernel
theorem dL_law_431 : decode cL_law 431 = .ok (.invokevirtual 54, 3) := by decide +kernel
theorem dL_law_434 : decode cL_law 434 = .ok (.lcmp, 1) := by decide +kernel
theorem dL_law_435 : decode cL_law 435 = .ok (.ifCond .eq 271, 3) := by decide +kernel
theorem dL_law_438 : decode cL_law 438 = .ok (.iconst 0, 1) := by decide +kernel
theorem dL_law_439 : decode cL_law 439 = .ok (.ireturn, 1) := by decide +kernel
theorem dL_law_440 : decode cL_law 440 = .ok (.aload_n 1, 1) := by decide +kernel
theorem dL_law_441 : decode cL_law 441 = .ok (.aload_n 0, 1) := by decide +kernel
theorem dL_law_442 : decode cL_law 442 = .ok (.iload_n 3, 1) := by decide +kernel
theorem dL_law_443 : decode cL_law 443 = .ok (.iconst 1, 1) := by decide +kernel
theorem dL_law_444 : decode cL_law 444 = .ok (.iadd, 1) := by decide +kernel
theorem dL_law_445 : decode cL_law 445 = .ok (.iaload, 1) := by decide +kernel
theorem dL_law_446 : decode cL_law 446 = .ok (.aload_n 0, 1) := by decide +kernel
theorem dL_law_447 : decode cL_law 447 = .ok (.iload_n 3, 1) := by decide +kernel
theorem dL_law_448 : decode cL_law 448 = .ok (.iconst 2, 1) := by decide +kernel
theorem dL_law_449 : decode cL_law 449 = .ok (.iadd, 1) := by decide +kernel
theorem dL_law_450 : decode cL_law 450 = .ok (.iaload, 1) := by decide +kernel
theorem dL_law_451 : decode cL_law 451 = .ok (.invokevirtual 55, 3) := by decide +kernel
theorem dL_law_454 : decode cL_law 454 = .ok (.aload_n 2, 1) := by decide +kernel
theorem dL_law_455 : decode cL_law 455 = .ok (.aload_n 0, 1) := by decide +kernel
theorem dL_law_456 : decode cL_law 456 = .ok (.iload_n 3, 1) := by decide +kernel
theorem dL_law_457 : decode cL_law 457 = .ok (.iconst 1, 1) := by decide +kernel
theorem dL_law_458 : decode cL_law 458 = .ok (.iadd, 1) := by decide +kernel
theorem dL_law_459 : decode cL_law 459 = .ok (.iaload, 1) := by decide +kernel
theorem dL_law_460 : decode cL_law 460 = .ok (.aload_n 0, 1) := by decide +kernel
theorem dL_law_461 : decode cL_law 461 = .ok (.iload_n 3, 1) := by decide +kernel
theorem dL_law_462 : decode cL_law 462 = .ok (.iconst 2, 1) := by decide +kernel
theorem dL_law_463 : decode cL_law 463 = .ok (.iadd, 1) := by decide +kernel
theorem dL_law_464 : decode cL_law 464 = .ok (.iaload, 1) := by decide +kernel
theorem dL_law_465 : decode cL_law 465 = .ok (.invokevirtual 58, 3) := by decide +kernel
theorem dL_law_468 : decode cL_law 468 = .ok (.if_icmp .eq 238, 3) := by decide +kernel
theorem dL_law_471 : decode cL_law 471 = .ok (.iconst 0, 1) := by decide +kernel
theorem dL_law_472 : decode cL_law 472 = .ok (.ireturn, 1) := by decide +kernel
theorem dL_law_473 : decode cL_law 473 = .ok (.aload_n 1, 1) := by decide +kernel
theorem dL_law_474 : decode cL_law 474 = .ok (.aload_n 0, 1) := by decide +kernel
theorem dL_law_475 : decode cL_law 475 = .ok (.iload_n 3, 1) := by decide +kernel
theorem dL_law_476 : decode cL_law 476 = .ok (.iconst 1, 1) := by decide +kernel
theorem dL_law_477 : decode cL_law 477 = .ok (.iadd, 1) := by decide +kernel
theorem dL_law_478 : decode cL_law 478 = .ok (.iaload, 1) := by decide +kernel
theorem dL_law_479 : decode cL_law 479 = .ok (.invokevirtual 59, 3) := by decide +kernel
theorem dL_law_482 : decode cL_law 482 = .ok (.aload_n 2, 1) := by decide +kernel
theorem dL_law_483 : decode cL_law 483 = .ok (.aload_n 0, 1) := by decide +kernel
theorem dL_law_484 : decode cL_law 484 = .ok (.iload_n 3, 1) := by decide +kernel
theorem dL_law_485 : decode cL_law 485 = .ok (.iconst 1, 1) := by decide +kernel
theorem dL_law_486 : decode cL_law 486 = .ok (.iadd, 1) := by decide +kernel
theorem dL_law_487 : decode cL_law 487 = .ok (.iaload, 1) := by decide +kernel
theorem dL_law_488 : decode cL_law 488 = .ok (.invokevirtual 63, 3) := by decide +kernel
theorem dL_law_491 : decode cL_law 491 = .ok (.if_icmp .eq 215, 3) := by decide +kernel
theorem dL_law_494 : decode cL_law 494 = .ok (.iconst 0, 1) := by decide +kernel
theorem dL_law_495 : decode cL_law 495 = .ok (.ireturn, 1) := by decide +kernel
theorem dL_law_496 : decode cL_law 496 = .ok (.aload_n 1, 1) := by decide +kernel
theorem dL_law_497 : decode cL_law 497 = .ok (.aload_n 0, 1) := by decide +kernel
theorem dL_law_498 : decode cL_law 498 = .ok (.iload_n 3, 1) := by decide +kernel
theorem dL_law_499 : decode cL_law 499 = .ok (.iconst 1, 1) := by decide +kernel
theorem dL_law_500 : decode cL_law 500 = .ok (.iadd, 1) := by decide +kernel
theorem dL_law_501 : decode cL_law 501 = .ok (.iaload, 1) := by decide +kernel
theorem dL_law_502 : decode cL_law 502 = .ok (.aload_n 0, 1) := by decide +kernel
theorem dL_law_503 : decode cL_law 503 = .ok (.iload_n 3, 1) := by decide +kernel
theorem dL_law_504 : decode cL_law 504 = .ok (.iconst 2, 1) := by decide +kernel
theorem dL_law_505 : decode cL_law 505 = .ok (.iadd, 1) := by decide +kernel
theorem dL_law_506 : decode cL_law 506 = .ok (.iaload, 1) := by decide +kernel
theorem dL_law_507 : decode cL_law 507 = .ok (.invokevirtual 64, 3) := by decide +kernel
theorem dL_law_510 : decode cL_law 510 = .ok (.aload_n 2, 1) := by decide +kernel
theorem dL_law_511 : decode cL_law 511 = .ok (.aload_n 0, 1) := by decide +kernel
theorem dL_law_512 : decode cL_law 512 = .ok (.iload_n 3, 1) := by decide +kernel
theorem dL_law_513 : decode cL_law 513 = .ok (.iconst 1, 1) := by decide +kernel
theorem dL_law_514 : decode cL_law 514 = .ok (.iadd, 1) := by decide +kernel
theorem dL_law_515 : decode cL_law 515 = .ok (.iaload, 1) := by decide +kernel
theorem dL_law_516 : decode cL_law 516 = .ok (.aload_n 0, 1) := by decide +kernel
theorem dL_law_517 : decode cL_law 517 = .ok (.iload_n 3, 1) := by decide +kernel
theorem dL_law_518 : decode cL_law 518 = .ok (.iconst 2, 1) := by decide +kernel
theorem dL_law_519 : decode cL_law 519 = .ok (.iadd, 1) := by decide +kernel
theorem dL_law_520 : decode cL_law 520 = .ok (.iaload, 1) := by decide +kernel
theorem dL_law_521 : decode cL_law 521 = .ok (.invokevirtual 67, 3) := by decide +kernel
theorem dL_law_524 : decode cL_law 524 = .ok (.if_icmp .eq 182, 3) := by decide +kernel
theorem dL_law_527 : decode cL_law 527 = .ok (.iconst 0, 1) := by decide +kernel
theorem dL_law_528 : decode cL_law 528 = .ok (.ireturn, 1) := by decide +kernel
theorem dL_law_529 : decode cL_law 529 = .ok (.aload_n 1, 1) := by decide +kernel
theorem dL_law_530 : decode cL_law 530 = .ok (.aload_n 0, 1) := by decide +kernel
theorem dL_law_531 : decode cL_law 531 = .ok (.iload_n 3, 1) := by decide +kernel
theorem dL_law_532 : decode cL_law 532 = .ok (.iconst 1, 1) := by decide +kernel
theorem dL_law_533 : decode cL_law 533 = .ok (.iadd, 1) := by decide +kernel
theorem dL_law_534 : decode cL_law 534 = .ok (.iaload, 1) := by decide +kernel
theorem dL_law_535 : decode cL_law 535 = .ok (.aload_n 0, 1) := by decide +kernel
theorem dL_law_536 : decode cL_law 536 = .ok (.iload_n 3, 1) := by decide +kernel
theorem dL_law_537 : decode cL_law 537 = .ok (.iconst 2, 1) := by decide +kernel
theorem dL_law_538 : decode cL_law 538 = .ok (.iadd, 1) := by decide +kernel
theorem dL_law_539 : decode cL_law 539 = .ok (.iaload, 1) := by decide +kernel
theorem dL_law_540 : decode cL_law 540 = .ok (.invokevirtual 68, 3) := by decide +kernel
theorem dL_law_543 : decode cL_law 543 = .ok (.aload_n 2, 1) := by decide +kernel
theorem dL_law_544 : decode cL_law 544 = .ok (.aload_n 0, 1) := by decide +kernel
theorem dL_law_545 : decode cL_law 545 = .ok (.iload_n 3, 1) := by decide +kernel
theorem dL_law_546 : decode cL_law 546 = .ok (.iconst 1, 1) := by decide +kernel
theorem dL_law_547 : decode cL_law 547 = .ok (.iadd, 1) := by decide +kernel
theorem dL_law_548 : decode cL_law 548 = .ok (.iaload, 1) := by decide +kernel
theorem dL_law_549 : decode cL_law 549 = .ok (.aload_n 0, 1) := by decide +kernel
theorem dL_law_550 : decode cL_law 550 = .ok (.iload_n 3, 1) := by decide +kernel
theorem dL_law_551 : decode cL_law 551 = .ok (.iconst 2, 1) := by decide +kernel
theorem dL_law_552 : decode cL_law 552 = .ok (.iadd, 1) := by decide +kernel
theorem dL_law_553 : decode cL_law 553 = .ok (.iaload, 1) := by decide +kernel
theorem dL_law_554 : decode cL_law 554 = .ok (.invokevirtual 71, 3) := by decide +kernel
theorem dL_law_557 : decode cL_law 557 = .ok (.if_icmp .eq 149, 3) := by decide +kernel
theorem dL_law_560 : decode cL_law 560 = .ok (.iconst 0, 1) := by decide +kernel
theorem dL_law_561 : decode cL_law 561 = .ok (.ireturn, 1) := by decide +kernel
theorem dL_law_562 : decode cL_law 562 = .ok (.aload_n 1, 1) := by decide +kernel
theorem dL_law_563 : decode cL_law 563 = .ok (.aload_n 0, 1) := by decide +kernel
theorem dL_law_564 : decode cL_law 564 = .ok (.iload_n 3, 1) := by decide +kernel
theorem dL_law_565 : decode cL_law 565 = .ok (.iconst 1, 1) := by decide +kernel
theorem dL_law_566 : decode cL_law 566 = .ok (.iadd, 1) := by decide +kernel
theorem dL_law_567 : decode cL_law 567 = .ok (.iaload, 1) := by decide +kernel
theorem dL_law_568 : decode cL_law 568 = .ok (.aload_n 0, 1) := by decide +kernel
theorem dL_law_569 : decode cL_law 569 = .ok (.iload_n 3, 1) := by decide +kernel
theorem dL_law_570 : decode cL_law 570 = .ok (.iconst 2, 1) := by decide +kernel
theorem dL_law_571 : decode cL_law 571 = .ok (.iadd, 1) := by decide +kernel
theorem dL_law_572 : decode cL_law 572 = .ok (.iaload, 1) := by decide +kernel
theorem dL_law_573 : decode cL_law 573 = .ok (.invokevirtual 72, 3) := by decide +kernel
theorem dL_law_576 : decode cL_law 576 = .ok (.aload_n 2, 1) := by decide +kernel
theorem dL_law_577 : decode cL_law 577 = .ok (.aload_n 0, 1) := by decide +kernel
theorem dL_law_578 : decode cL_law 578 = .ok (.iload_n 3, 1) := by decide +kernel
theorem dL_law_579 : decode cL_law 579 = .ok (.iconst 1, 1) := by decide +kernel
theorem dL_law_580 : decode cL_law 580 = .ok (.iadd, 1) := by decide +kernel
theorem dL_law_581 : decode cL_law 581 = .ok (.iaload, 1) := by decide +kernel
theorem dL_law_582 : decode cL_law 582 = .ok (.aload_n 0, 1) := by decide +kernel
theorem dL_law_583 : decode cL_law 583 = .ok (.iload_n 3, 1) := by decide +kernel
theorem dL_law_584 : decode cL_law 584 = .ok (.iconst 2, 1) := by decide +kernel
theorem dL_law_585 : decode cL_law 585 = .ok (.iadd, 1) := by decide +kernel
theorem dL_law_586 : decode cL_law 586 = .ok (.iaload, 1) := by decide +kernel
theorem dL_law_587 : decode cL_law 587 = .ok (.invokevirtual 75, 3) := by decide +kernel
theorem dL_law_590 : decode cL_law 590 = .ok (.if_icmp .eq 116, 3) := by decide +kernel
theorem dL_law_593 : decode cL_law 593 = .ok (.iconst 0, 1) := by decide +kernel
theorem dL_law_594 : decode cL_law 594 = .ok (.ireturn, 1) := by decide +kernel
theorem dL_law_595 : decode cL_law 595 = .ok (.aload_n 1, 1) := by decide +kernel
theorem dL_law_596 : decode cL_law 596 = .ok (.aload_n 0, 1) := by decide +kernel
theorem dL_law_597 : decode cL_law 597 = .ok (.iload_n 3, 1) := by decide +kernel
theorem dL_law_598 : decode cL_law 598 = .ok (.iconst 1, 1) := by decide +kernel
theorem dL_law_599 : decode cL_law 599 = .ok (.iadd, 1) := by decide +kernel
theorem dL_law_600 : decode cL_law 600 = .ok (.iaload, 1) := by decide +kernel
theorem dL_law_601 : decode cL_law 601 = .ok (.aload_n 0, 1) := by decide +kernel
theorem dL_law_602 : decode cL_law 602 = .ok (.iload_n 3, 1) := by decide +kernel
theorem dL_law_603 : decode cL_law 603 = .ok (.iconst 2, 1) := by decide +kernel
theorem dL_law_604 : decode cL_law 604 = .ok (.iadd, 1) := by decide +kernel
theorem dL_law_605 : decode cL_law 605 = .ok (.iaload, 1) := by decide +kernel
theorem dL_law_606 : decode cL_law 606 = .ok (.invokevirtual 76, 3) := by decide +kernel
theorem dL_law_609 : decode cL_law 609 = .ok (.aload_n 2, 1) := by decide +kernel
theorem dL_law_610 : decode cL_law 610 = .ok (.aload_n 0, 1) := by decide +kernel
theorem dL_law_611 : decode cL_law 611 = .ok (.iload_n 3, 1) := by decide +kernel
theorem dL_law_612 : decode cL_law 612 = .ok (.iconst 1, 1) := by decide +kernel
theorem dL_law_613 : decode cL_law 613 = .ok (.iadd, 1) := by decide +kernel
theorem dL_law_614 : decode cL_law 614 = .ok (.iaload, 1) := by decide +kernel
theorem dL_law_615 : decode cL_law 615 = .ok (.aload_n 0, 1) := by decide +kernel
theorem dL_law_616 : decode cL_law 616 = .ok (.iload_n 3, 1) := by decide +kernel
theorem dL_law_617 : decode cL_law 617 = .ok (.iconst 2, 1) := by decide +kernel
theorem dL_law_618 : decode cL_law 618 = .ok (.iadd, 1) := by decide +kernel
theorem dL_law_619 : decode cL_law 619 = .ok (.iaload, 1) := by decide +kernel
theorem dL_law_620 : decode cL_law 620 = .ok (.invokevirtual 79, 3) := by decide +kernel
theorem dL_law_623 : decode cL_law 623 = .ok (.lcmp, 1) := by decide +kernel
theorem dL_law_624 : decode cL_law 624 = .ok (.ifCond .eq 82, 3) := by decide +kernel
theorem dL_law_627 : decode cL_law 627 = .ok (.iconst 0, 1) := by decide +kernel
theorem dL_law_628 : decode cL_law 628 = .ok (.ireturn, 1) := by decide +kernel
theorem dL_law_629 : decode cL_law 629 = .ok (.aload_n 1, 1) := by decide +kernel
theorem dL_law_630 : decode cL_law 630 = .ok (.aload_n 0, 1) := by decide +kernel
theorem dL_law_631 : decode cL_law 631 = .ok (.iload_n 3, 1) := by decide +kernel
theorem dL_law_632 : decode cL_law 632 = .ok (.iconst 1, 1) := by decide +kernel
theorem dL_law_633 : decode cL_law 633 = .ok (.iadd, 1) := by decide +kernel
theorem dL_law_634 : decode cL_law 634 = .ok (.iaload, 1) := by decide +kernel
theorem dL_law_635 : decode cL_law 635 = .ok (.aload_n 0, 1) := by decide +kernel
theorem dL_law_636 : decode cL_law 636 = .ok (.iload_n 3, 1) := by decide +kernel
theorem dL_law_637 : decode cL_law 637 = .ok (.iconst 2, 1) := by decide +kernel
theorem dL_law_638 : decode cL_law 638 = .ok (.iadd, 1) := by decide +kernel
theorem dL_law_639 : decode cL_law 639 = .ok (.iaload, 1) := by decide +kernel
theorem dL_law_640 : decode cL_law 640 = .ok (.aload_n 0, 1) := by decide +kernel
theorem dL_law_641 : decode cL_law 641 = .ok (.iload_n 3, 1) := by decide +kernel
theorem dL_law_642 : decode cL_law 642 = .ok (.iconst 3, 1) := by decide +kernel
theorem dL_law_643 : decode cL_law 643 = .ok (.iadd, 1) := by decide +kernel
theorem dL_law_644 : decode cL_law 644 = .ok (.iaload, 1) := by decide +kernel
theorem dL_law_645 : decode cL_law 645 = .ok (.invokevirtual 80, 3) := by decide +kernel
theorem dL_law_648 : decode cL_law 648 = .ok (.aload_n 2, 1) := by decide +kernel
theorem dL_law_649 : decode cL_law 649 = .ok (.aload_n 0, 1) := by decide +kernel
theorem dL_law_650 : decode cL_law 650 = .ok (.iload_n 3, 1) := by decide +kernel
theorem dL_law_651 : decode cL_law 651 = .ok (.iconst 1, 1) := by decide +kernel
theorem dL_law_652 : decode cL_law 652 = .ok (.iadd, 1) := by decide +kernel
theorem dL_law_653 : decode cL_law 653 = .ok (.iaload, 1) := by decide +kernel
theorem dL_law_654 : decode cL_law 654 = .ok (.aload_n 0, 1) := by decide +kernel
theorem dL_law_655 : decode cL_law 655 = .ok (.iload_n 3, 1) := by decide +kernel
theorem dL_law_656 : decode cL_law 656 = .ok (.iconst 2, 1) := by decide +kernel
theorem dL_law_657 : decode cL_law 657 = .ok (.iadd, 1) := by decide +kernel
theorem dL_law_658 : decode cL_law 658 = .ok (.iaload, 1) := by decide +kernel
theorem dL_law_659 : decode cL_law 659 = .ok (.aload_n 0, 1) := by decide +kernel
theorem dL_law_660 : decode cL_law 660 = .ok (.iload_n 3, 1) := by decide +kernel
theorem dL_law_661 : decode cL_law 661 = .ok (.iconst 3, 1) := by decide +kernel
theorem dL_law_662 : decode cL_law 662 = .ok (.iadd, 1) := by decide +kernel
theorem dL_law_663 : decode cL_law 663 = .ok (.iaload, 1) := by decide +kernel
theorem dL_law_664 : decode cL_law 664 = .ok (.invokevirtual 83, 3) := by decide +kernel
theorem dL_law_667 : decode cL_law 667 = .ok (.if_icmp .eq 39, 3) := by decide +kernel
theorem dL_law_670 : decode cL_law 670 = .ok (.iconst 0, 1) := by decide +kernel
theorem dL_law_671 : decode cL_law 671 = .ok (.ireturn, 1) := by decide +kernel
theorem dL_law_672 : decode cL_law 672 = .ok (.aload_n 1, 1) := by decide +kernel
theorem dL_law_673 : decode cL_law 673 = .ok (.aload_n 0, 1) := by decide +kernel
theorem dL_law_674 : decode cL_law 674 = .ok (.iload_n 3, 1) := by decide +kernel
theorem dL_law_675 : decode cL_law 675 = .ok (.iconst 1, 1) := by decide +kernel
theorem dL_law_676 : decode cL_law 676 = .ok (.iadd, 1) := by decide +kernel
theorem dL_law_677 : decode cL_law 677 = .ok (.iaload, 1) := by decide +kernel
theorem dL_law_678 : decode cL_law 678 = .ok (.aload_n 0, 1) := by decide +kernel
theorem dL_law_679 : decode cL_law 679 = .ok (.iload_n 3, 1) := by decide +kernel
theorem dL_law_680 : decode cL_law 680 = .ok (.iconst 2, 1) := by decide +kernel
theorem dL_law_681 : decode cL_law 681 = .ok (.iadd, 1) := by decide +kernel
theorem dL_law_682 : decode cL_law 682 = .ok (.iaload, 1) := by decide +kernel
theorem dL_law_683 : decode cL_law 683 = .ok (.invokevirtual 84, 3) := by decide +kernel
theorem dL_law_686 : decode cL_law 686 = .ok (.aload_n 2, 1) := by decide +kernel
theorem dL_law_687 : decode cL_law 687 = .ok (.aload_n 0, 1) := by decide +kernel
theorem dL_law_688 : decode cL_law 688 = .ok (.iload_n 3, 1) := by decide +kernel
theorem dL_law_689 : decode cL_law 689 = .ok (.iconst 1, 1) := by decide +kernel
theorem dL_law_690 : decode cL_law 690 = .ok (.iadd, 1) := by decide +kernel
theorem dL_law_691 : decode cL_law 691 = .ok (.iaload, 1) := by decide +kernel
theorem dL_law_692 : decode cL_law 692 = .ok (.aload_n 0, 1) := by decide +kernel
theorem dL_law_693 : decode cL_law 693 = .ok (.iload_n 3, 1) := by decide +kernel
theorem dL_law_694 : decode cL_law 694 = .ok (.iconst 2, 1) := by decide +kernel
theorem dL_law_695 : decode cL_law 695 = .ok (.iadd, 1) := by decide +kernel
theorem dL_law_696 : decode cL_law 696 = .ok (.iaload, 1) := by decide +kernel
theorem dL_law_697 : decode cL_law 697 = .ok (.invokevirtual 87, 3) := by decide +kernel
theorem dL_law_700 : decode cL_law 700 = .ok (.lcmp, 1) := by decide +kernel
theorem dL_law_701 : decode cL_law 701 = .ok (.ifCond .eq 5, 3) := by decide +kernel
theorem dL_law_704 : decode cL_law 704 = .ok (.iconst 0, 1) := by decide +kernel
theorem dL_law_705 : decode cL_law 705 = .ok (.ireturn, 1) := by decide +kernel
theorem dL_law_706 : decode cL_law 706 = .ok (.iinc 3 4, 3) := by decide +kernel
theorem dL_law_709 : decode cL_law 709 = .ok (.goto (-691), 3) := by decide +kernel
theorem dL_law_712 : decode cL_law 712 = .ok (.iconst 1, 1) := by decide +kernel
theorem dL_law_713 : decode cL_law 713 = .ok (.ireturn, 1) := by decide +kernel
end
section
abbrev PT : Type := (Nat) × (Nat) × (Nat) × (Nat) × (Nat) × (Nat) × (Nat → Nat) × (Nat → Nat) × (Nat → Nat) × (Nat → Nat) × (Nat → Nat) × (Nat → Nat) × (Nat → Nat) × (Nat → Nat) × (Nat → Bool)
def pB (p : PT) : Nat := p.1
def pO (p : PT) : Nat := p.2.1
def pU (p : PT) : Nat := p.2.2.1
def pQ (p : PT) : Nat := p.2.2.2.1
def pE (p : PT) : Nat := p.2.2.2.2.1
def pL (p : PT) : Nat := p.2.2.2.2.2.1
def aSt (p : PT) : Nat → Nat := p.2.2.2.2.2.2.1
def aRm (p : PT) : Nat → Nat := p.2.2.2.2.2.2.2.1
def aRc (p : PT) : Nat → Nat := p.2.2.2.2.2.2.2.2.1
def aRh (p : PT) : Nat → Nat := p.2.2.2.2.2.2.2.2.2.1
def aRs (p : PT) : Nat → Nat := p.2.2.2.2.2.2.2.2.2.2.1
def aEc (p : PT) : Nat → Nat := p.2.2.2.2.2.2.2.2.2.2.2.1
def aEh (p : PT) : Nat → Nat := p.2.2.2.2.2.2.2.2.2.2.2.2.1
def aKg (p : PT) : Nat → Nat := p.2.2.2.2.2.2.2.2.2.2.2.2.2.1
def aHo (p : PT) : Nat → Bool := p.2.2.2.2.2.2.2.2.2.2.2.2.2.2
def upB (p : PT) (v : Nat) : PT := (v, p.2)
def upO (p : PT) (v : Nat) : PT := (p.1, v, p.2.2)
def upU (p : PT) (v : Nat) : PT := (p.1, p.2.1, v, p.2.2.2)
def upQ (p : PT) (v : Nat) : PT := (p.1, p.2.1, p.2.2.1, v, p.2.2.2.2)
def upE (p : PT) (v : Nat) : PT := (p.1, p.2.1, p.2.2.1, p.2.2.2.1, v, p.2.2.2.2.2)
def upL (p : PT) (v : Nat) : PT := (p.1, p.2.1, p.2.2.1, p.2.2.2.1, p.2.2.2.2.1, v, p.2.2.2.2.2.2)
def uaSt (p : PT) (v : Nat → Nat) : PT := (p.1, p.2.1, p.2.2.1, p.2.2.2.1, p.2.2.2.2.1, p.2.2.2.2.2.1, v, p.2.2.2.2.2.2.2)
def uaRm (p : PT) (v : Nat → Nat) : PT := (p.1, p.2.1, p.2.2.1, p.2.2.2.1, p.2.2.2.2.1, p.2.2.2.2.2.1, p.2.2.2.2.2.2.1, v, p.2.2.2.2.2.2.2.2)
def uaRc (p : PT) (v : Nat → Nat) : PT := (p.1, p.2.1, p.2.2.1, p.2.2.2.1, p.2.2.2.2.1, p.2.2.2.2.2.1, p.2.2.2.2.2.2.1, p.2.2.2.2.2.2.2.1, v, p.2.2.2.2.2.2.2.2.2)
def uaRh (p : PT) (v : Nat → Nat) : PT := (p.1, p.2.1, p.2.2.1, p.2.2.2.1, p.2.2.2.2.1, p.2.2.2.2.2.1, p.2.2.2.2.2.2.1, p.2.2.2.2.2.2.2.1, p.2.2.2.2.2.2.2.2.1, v, p.2.2.2.2.2.2.2.2.2.2)
def uaRs (p : PT) (v : Nat → Nat) : PT := (p.1, p.2.1, p.2.2.1, p.2.2.2.1, p.2.2.2.2.1, p.2.2.2.2.2.1, p.2.2.2.2.2.2.1, p.2.2.2.2.2.2.2.1, p.2.2.2.2.2.2.2.2.1, p.2.2.2.2.2.2.2.2.2.1, v, p.2.2.2.2.2.2.2.2.2.2.2)
def uaEc (p : PT) (v : Nat → Nat) : PT := (p.1, p.2.1, p.2.2.1, p.2.2.2.1, p.2.2.2.2.1, p.2.2.2.2.2.1, p.2.2.2.2.2.2.1, p.2.2.2.2.2.2.2.1, p.2.2.2.2.2.2.2.2.1, p.2.2.2.2.2.2.2.2.2.1, p.2.2.2.2.2.2.2.2.2.2.1, v, p.2.2.2.2.2.2.2.2.2.2.2.2)
def uaEh (p : PT) (v : Nat → Nat) : PT := (p.1, p.2.1, p.2.2.1, p.2.2.2.1, p.2.2.2.2.1, p.2.2.2.2.2.1, p.2.2.2.2.2.2.1, p.2.2.2.2.2.2.2.1, p.2.2.2.2.2.2.2.2.1, p.2.2.2.2.2.2.2.2.2.1, p.2.2.2.2.2.2.2.2.2.2.1, p.2.2.2.2.2.2.2.2.2.2.2.1, v, p.2.2.2.2.2.2.2.2.2.2.2.2.2)
def uaKg (p : PT) (v : Nat → Nat) : PT := (p.1, p.2.1, p.2.2.1, p.2.2.2.1, p.2.2.2.2.1, p.2.2.2.2.2.1, p.2.2.2.2.2.2.1, p.2.2.2.2.2.2.2.1, p.2.2.2.2.2.2.2.2.1, p.2.2.2.2.2.2.2.2.2.1, p.2.2.2.2.2.2.2.2.2.2.1, p.2.2.2.2.2.2.2.2.2.2.2.1, p.2.2.2.2.2.2.2.2.2.2.2.2.1, v, p.2.2.2.2.2.2.2.2.2.2.2.2.2.2)
def uaHo (p : PT) (v : Nat → Bool) : PT := (p.1, p.2.1, p.2.2.1, p.2.2.2.1, p.2.2.2.2.1, p.2.2.2.2.2.1, p.2.2.2.2.2.2.1, p.2.2.2.2.2.2.2.1, p.2.2.2.2.2.2.2.2.1, p.2.2.2.2.2.2.2.2.2.1, p.2.2.2.2.2.2.2.2.2.2.1, p.2.2.2.2.2.2.2.2.2.2.2.1, p.2.2.2.2.2.2.2.2.2.2.2.2.1, p.2.2.2.2.2.2.2.2.2.2.2.2.2.1, v)
abbrev ST : Type := (Nat) × (Nat → Nat) × (Nat → Nat) × (Nat → Bool) × (Nat → Bool) × (Nat → Option Nat) × (Nat → Nat) × (Nat → Nat)
def sN (s : ST) : Nat := s.1
def sH (s : ST) : Nat → Nat := s.2.1
def sS (s : ST) : Nat → Nat := s.2.2.1
def sE (s : ST) : Nat → Bool := s.2.2.2.1
def sW (s : ST) : Nat → Bool := s.2.2.2.2.1
def sG (s : ST) : Nat → Option Nat := s.2.2.2.2.2.1
def sR (s : ST) : Nat → Nat := s.2.2.2.2.2.2.1
def sM (s : ST) : Nat → Nat := s.2.2.2.2.2.2.2
def usN (s : ST) (v : Nat) : ST := (v, s.2)
def usH (s : ST) (v : Nat → Nat) : ST := (s.1, v, s.2.2)
def usS (s : ST) (v : Nat → Nat) : ST := (s.1, s.2.1, v, s.2.2.2)
def usE (s : ST) (v : Nat → Bool) : ST := (s.1, s.2.1, s.2.2.1, v, s.2.2.2.2)
def usW (s : ST) (v : Nat → Bool) : ST := (s.1, s.2.1, s.2.2.1, s.2.2.2.1, v, s.2.2.2.2.2)
def usG (s : ST) (v : Nat → Option Nat) : ST := (s.1, s.2.1, s.2.2.1, s.2.2.2.1, s.2.2.2.2.1, v, s.2.2.2.2.2.2)
def usR (s : ST) (v : Nat → Nat) : ST := (s.1, s.2.1, s.2.2.1, s.2.2.2.1, s.2.2.2.2.1, s.2.2.2.2.2.1, v, s.2.2.2.2.2.2.2)
def usM (s : ST) (v : Nat → Nat) : ST := (s.1, s.2.1, s.2.2.1, s.2.2.2.1, s.2.2.2.2.1, s.2.2.2.2.2.1, s.2.2.2.2.2.2.1, v)
def wM (g : GG) (ma : Nat → Nat) (P : PT) (S : ST) : va_W := [(ma 0, .inr (5, [.int (nI (pB P)), .ref (ma 1), .ref (ma 2), .ref (ma 3), .ref (ma 4), .ref (ma 5), .ref (ma 6), .ref (ma 7), .ref (ma 8), .int (nI (pO P)), .int (nI (pU P)), .ref (ma 9), .int (nI (pQ P)), .int (nI (pE P)), .int (nI (pL P)), .int (nI (sN S)), .ref (ma 10), .ref (ma 11), .ref (ma 12), .ref (ma 13), .ref (ma 14), .ref (ma 15), .ref (ma 16)])), (ma 1, .inl (g.2 0, 8, .inl (fun j => nI (aSt P j)))), (ma 2, .inl (g.2 0, 8, .inl (fun j => nI (aRm P j)))), (ma 3, .inl (g.2 0, 8, .inl (fun j => nI (aRc P j)))), (ma 4, .inl (g.2 0, 192, .inl (fun j => nI (aRh P j)))), (ma 5, .inl (g.2 0, 192, .inl (fun j => nI (aRs P j)))), (ma 6, .inl (g.2 0, 8, .inl (fun j => nI (aEc P j)))), (ma 7, .inl (g.2 0, 64, .inl (fun j => nI (aEh P j)))), (ma 8, .inl (g.2 0, 64, .inl (fun j => nI (aKg P j)))), (ma 9, .inl (g.2 1, 417, .inl (fun j => bI (aHo P j)))), (ma 10, .inl (g.2 0, 32, .inl (fun j => nI (sH S j)))), (ma 11, .inl (g.2 0, 32, .inl (fun j => nI (sS S j)))), (ma 12, .inl (g.2 1, 32, .inl (fun j => bI (sE S j)))), (ma 13, .inl (g.2 1, 32, .inl (fun j => bI (sW S j)))), (ma 14, .inl (g.2 0, 32, .inl (fun j => gI (sG S j)))), (ma 15, .inl (g.2 0, 7, .inl (fun j => nI (sR S j)))), (ma 16, .inl (g.2 3, 10001, .inr (.inl (fun j => lN (sM S j)))))]
section LONGS
variable {p : Program} {l : Launch} {e : Env} {R : Room} {s : State} {m : MethodId} {args : Array Value} {below : List Frame} {meth : Method} {c : Code} {H : Heap} {locs : List Loc} {cells slots : Nat} {Q : State → Prop}
variable {cc : ByteArray} {pc : Nat} {ls : Array Slot} {rest st0 : List Value} {D : va_G} {cl : List vw_C} {tys : List (ClassId × FieldType)} {ws : va_W} {a : Nat} {A A0 : Nat → Prop} {H0 : Heap} {ar : Array Value}
theorem up_encL {α : Type} (enc : α → Int64) (f : Nat → α) (k : Nat) (x : α) : vp_updL (fun j => enc (f j)) k (enc x) = fun j => enc (va_up f k x j) := by
  funext j
  unfold vp_updL va_up
  split <;> rfl
theorem n_lald (hexec : p.tables.exec = Jvm.exec) (hb : c.code = cc) (hK : va_K D cl tys s) (hP : va_P D cl ws H) (q0 t0 : Nat) {cA : ClassId} {n k : Nat} {f : Nat → Int64} {v : Int64} (ha : ws[q0]? = some (a, .inl (cA, n, .inr (.inl f)))) (ht : tys[t0]? = some (cA, .long)) (hk : k < n) (hn : n < 2 ^ 31) (hv : f k = v) (hdg : decode cc pc = .ok (.laload, 1))
    (kk : W p l e R s m args below meth c H locs cells slots Q (F0 m (pc + 1) ls (.long v :: rest))) : W p l e R s m args below meth c H locs cells slots Q (F0 m pc ls (.int (nI k) :: .ref a :: rest)) :=
  va_lald hexec hb hK hP q0 t0 ha ht (vp_in_nI hk hn) hdg (tp_l (by rw [nI_clamp (Nat.lt_trans hk hn)]; exact hv) kk)
theorem n_lastE {α : Type} {enc : α → Int64} {f : Nat → α} {x : α} (hexec : p.tables.exec = Jvm.exec) (hb : c.code = cc) (hK : va_K D cl tys s) (hP : va_P D cl ws H) (hD : va_D A ws) (hS : va_S A H0 H locs) (q0 t0 : Nat) {cA : ClassId} {n k : Nat} (ha : ws[q0]? = some (a, .inl (cA, n, .inr (.inl (fun j => enc (f j)))))) (ht : tys[t0]? = some (cA, .long)) (hk : k < n) (hn : n < 2 ^ 31) (hdg : decode cc pc = .ok (.lastore, 1))
    (kk : ∀ (H1 : Heap) (locs1 : List Loc), va_P D cl (ws.set q0 (a, .inl (cA, n, .inr (.inl (fun j => enc (va_up f k x j)))))) H1 → va_D A (ws.set q0 (a, .inl (cA, n, .inr (.inl (fun j => enc (va_up f k x j)))))) → va_S A H0 H1 locs1 → W p l e R s m args below meth c H1 locs1 cells slots Q (F0 m (pc + 1) ls rest)) : W p l e R s m args below meth c H locs cells slots Q (F0 m pc ls (.long (enc x) :: .int (nI k) :: .ref a :: rest)) :=
  va_last hexec hb hK hP hD hS q0 t0 ha ht (vp_in_nI hk hn) hdg (by rw [nI_clamp (Nat.lt_trans hk hn), up_encL]; exact kk)
theorem cE_v {S : Type} {Q2 : S → Prop} {wc : va_W} {w1 : S → va_W} (hr : va_Run p l e R s m args below meth c H locs cells slots 0 0 (F0 m pc ls st0) rest (va_Qv Q2 (fun u t => va_P D cl (w1 u) t.heap) (va_A wc H.size) ar) (va_A wc H.size)) (hP : va_P D cl wc H) (hD : va_D A0 wc) (hS : va_S A0 H0 H locs) (hA : ∀ q, H0.size ≤ q → A0 q) (he : ∀ u, (w1 u).map (fun q => q.1) = wc.map (fun q => q.1))
    (kk : ∀ (u : S) (H1 : Heap) (locs1 : List Loc), Q2 u → va_P D cl (w1 u) H1 → va_D A0 (w1 u) → va_S A0 H0 H1 locs1 → W p l e R s m args below meth c H1 locs1 cells slots Q (F0 m (pc + 3) ls rest)) : W p l e R s m args below meth c H locs cells slots Q (F0 m pc ls st0) := by
  have hF : ∀ q, va_A wc H.size q → A0 q := F_mid (wl := []) (wr := []) (by rw [List.nil_append, List.append_nil]; exact hD) hS hA
  exact va_callv hr hS (fun q _ h => hF q h) hF (fun u t H1 locs1 ht hvm hq hB hz hk hS1 => kk u H1 locs1 hq (by rw [← ht]; exact hB) (D_addr hD (he u)) hS1)
theorem cE_i {S : Type} {r : Int32} {Q2 : S → Prop} {wc : va_W} {w1 : S → va_W} (hr : va_Run p l e R s m args below meth c H locs cells slots 0 0 (F0 m pc ls st0) rest (va_Qi (fun r' u => r' = r ∧ Q2 u) (fun u t => va_P D cl (w1 u) t.heap) (va_A wc H.size) ar) (va_A wc H.size)) (hP : va_P D cl wc H) (hD : va_D A0 wc) (hS : va_S A0 H0 H locs) (hA : ∀ q, H0.size ≤ q → A0 q) (he : ∀ u, (w1 u).map (fun q => q.1) = wc.map (fun q => q.1))
    (kk : ∀ (u : S) (H1 : Heap) (locs1 : List Loc), Q2 u → va_P D cl (w1 u) H1 → va_D A0 (w1 u) → va_S A0 H0 H1 locs1 → W p l e R s m args below meth c H1 locs1 cells slots Q (F0 m (pc + 3) ls (.int r :: rest))) : W p l e R s m args below meth c H locs cells slots Q (F0 m pc ls st0) := by
  have hF : ∀ q, va_A wc H.size q → A0 q := F_mid (wl := []) (wr := []) (by rw [List.nil_append, List.append_nil]; exact hD) hS hA
  exact va_calli hr hS (fun q _ h => hF q h) hF (fun r' u t H1 locs1 ht hvm hq hB hz hk hS1 => by rw [hq.1]; exact kk u H1 locs1 hq.2 (by rw [← ht]; exact hB) (D_addr hD (he u)) hS1)
theorem cE_l {S : Type} {r : Int64} {Q2 : S → Prop} {wc : va_W} {w1 : S → va_W} (hr : va_Run p l e R s m args below meth c H locs cells slots 0 0 (F0 m pc ls st0) rest (va_Ql (fun r' u => r' = r ∧ Q2 u) (fun u t => va_P D cl (w1 u) t.heap) (va_A wc H.size) ar) (va_A wc H.size)) (hP : va_P D cl wc H) (hD : va_D A0 wc) (hS : va_S A0 H0 H locs) (hA : ∀ q, H0.size ≤ q → A0 q) (he : ∀ u, (w1 u).map (fun q => q.1) = wc.map (fun q => q.1))
    (kk : ∀ (u : S) (H1 : Heap) (locs1 : List Loc), Q2 u → va_P D cl (w1 u) H1 → va_D A0 (w1 u) → va_S A0 H0 H1 locs1 → W p l e R s m args below meth c H1 locs1 cells slots Q (F0 m (pc + 3) ls (.long r :: rest))) : W p l e R s m args below meth c H locs cells slots Q (F0 m pc ls st0) := by
  have hF : ∀ q, va_A wc H.size q → A0 q := F_mid (wl := []) (wr := []) (by rw [List.nil_append, List.append_nil]; exact hD) hS hA
  exact va_calll hr hS (fun q _ h => hF q h) hF (fun r' u t H1 locs1 ht hvm hq hB hz hk hS1 => by rw [hq.1]; exact kk u H1 locs1 hq.2 (by rw [← ht]; exact hB) (D_addr hD (he u)) hS1)
end LONGS
abbrev Ev (l : Launch) (y : MethodName) (ws : List Cond) (fr lo mc ms : Nat) (as : List Value) (g : GG) (w : va_W) (sz : Nat) (ma : Nat → Nat) (P : PT) (Q : ST → Prop) : Prop := Met l y ws ⟨fr, mc, ms, lo⟩ (PreW as g w sz) (va_Qv Q (fun u t => va_P g.1 vwCl (wM g ma P u) t.heap) (va_A w sz)) mc ms (va_A w sz)
abbrev Ei (l : Launch) (y : MethodName) (ws : List Cond) (fr lo mc ms : Nat) (as : List Value) (g : GG) (w : va_W) (sz : Nat) (ma : Nat → Nat) (P : PT) (r : Int32) (Q : ST → Prop) : Prop := Met l y ws ⟨fr, mc, ms, lo⟩ (PreW as g w sz) (va_Qi (fun r' u => r' = r ∧ Q u) (fun u t => va_P g.1 vwCl (wM g ma P u) t.heap) (va_A w sz)) mc ms (va_A w sz)
abbrev El (l : Launch) (y : MethodName) (ws : List Cond) (fr lo mc ms : Nat) (as : List Value) (g : GG) (w : va_W) (sz : Nat) (ma : Nat → Nat) (P : PT) (r : Int64) (Q : ST → Prop) : Prop := Met l y ws ⟨fr, mc, ms, lo⟩ (PreW as g w sz) (va_Ql (fun r' u => r' = r ∧ Q u) (fun u t => va_P g.1 vwCl (wM g ma P u) t.heap) (va_A w sz)) mc ms (va_A w sz)
/-! sorted rows with a new one put in -/
def ixK (K : Nat → Nat) (n q : Nat) : Nat := match lst (fun i => decide (K i < q)) n with
  | none => 0
  | some i => i + 1
theorem ixK_ok {K : Nat → Nat} {n q : Nat} (hso : ∀ i j, i < j → j < n → K i < K j) : ixK K n q ≤ n ∧ (∀ j, j < ixK K n q → K j < q) ∧ (∀ j, ixK K n q ≤ j → j < n → q ≤ K j) := by
  unfold ixK
  cases h : lst (fun i => decide (K i < q)) n with
  | none =>
    refine ⟨Nat.zero_le _, fun j hj => absurd hj (Nat.not_lt_zero _), fun j _ hj => ?_⟩
    have := of_decide_eq_false (lst_none h j hj)
    omega
  | some i =>
    obtain ⟨h1, h2⟩ := lst_some h
    have h2 := of_decide_eq_true h2
    refine ⟨h1, fun j hj => ?_, fun j h0 hj => ?_⟩
    · rcases Nat.lt_or_ge j i with z | z
      · exact Nat.lt_trans (hso j i z h1) h2
      · have hj : j < i + 1 := hj
        rw [show j = i by omega]
        exact h2
    · have h0 : i + 1 ≤ j := h0
      have := of_decide_eq_false (lst_last h j (by omega) hj)
      omega
/-- a new one at i of a row of n -/
def insA {α : Type} (f : Nat → α) (i n : Nat) (x : α) : Nat → α := va_up (shf f i n) i x
theorem insA_at {α : Type} {f : Nat → α} {i n : Nat} {x : α} (k : Nat) : insA f i n x k = if k = i then x else if i < k ∧ k ≤ n then f (k - 1) else f k := rfl
theorem insA_i {α : Type} {f : Nat → α} {i n : Nat} {x : α} : insA f i n x i = x := by rw [insA_at, if_pos rfl]
theorem insA_lo {α : Type} {f : Nat → α} {i n k : Nat} {x : α} (h : k < i) : insA f i n x k = f k := by rw [insA_at, if_neg (by omega), if_neg (by omega)]
theorem insA_hi {α : Type} {f : Nat → α} {i n k : Nat} {x : α} (h : i < k) (h2 : k ≤ n) : insA f i n x k = f (k - 1) := by rw [insA_at, if_neg (by omega), if_pos ⟨h, h2⟩]
theorem insA_sorted {K : Nat → Nat} {i n q : Nat} (hso : ∀ i j, i < j → j < n → K i < K j) (hi : i ≤ n) (h1 : ∀ j, j < i → K j < q) (h2 : ∀ j, i ≤ j → j < n → q < K j) : ∀ a b, a < b → b < n + 1 → insA K i n q a < insA K i n q b := by
  intro j k hjk hk
  rw [insA_at, insA_at]
  by_cases a1 : j = i
  · rw [if_pos a1, if_neg (by omega), if_pos (by omega)]
    exact h2 _ (by omega) (by omega)
  · rw [if_neg a1]
    by_cases a2 : k = i
    · rw [if_pos a2, if_neg (by omega)]
      exact h1 j (by omega)
    · rw [if_neg a2]
      by_cases a3 : i < j
      · rw [if_pos (by omega), if_pos (by omega)]
        exact hso _ _ (by omega) (by omega)
      · rw [if_neg (by omega)]
        by_cases a4 : i < k
        · rw [if_pos (by omega)]
          rcases Nat.lt_or_ge j (k - 1) with z | z
          · exact hso _ _ z (by omega)
          · omega
        · rw [if_neg (by omega)]
          exact hso _ _ hjk (by omega)
theorem insA_mem {α β : Type} {K : Nat → α} {V : Nat → β} {i n : Nat} {q : α} {v : β} (hi : i ≤ n) (P : α → β → Prop) : (∃ k, k < n + 1 ∧ P (insA K i n q k) (insA V i n v k)) ↔ (∃ k, k < n ∧ P (K k) (V k)) ∨ P q v := by
  constructor
  · rintro ⟨k, hk, h⟩
    rw [insA_at, insA_at] at h
    by_cases a1 : k = i
    · rw [if_pos a1, if_pos a1] at h
      exact Or.inr h
    · rw [if_neg a1, if_neg a1] at h
      by_cases a2 : i < k ∧ k ≤ n
      · rw [if_pos a2, if_pos a2] at h
        exact Or.inl ⟨k - 1, by omega, h⟩
      · rw [if_neg a2, if_neg a2] at h
        exact Or.inl ⟨k, by omega, h⟩
  · rintro (⟨k, hk, h⟩ | h)
    · rcases Nat.lt_or_ge k i with z | z
      · refine ⟨k, by omega, ?_⟩
        rw [insA_lo z, insA_lo z]
        exact h
      · refine ⟨k + 1, by omega, ?_⟩
        rw [insA_hi (by omega) (by omega), insA_hi (by omega) (by omega)]
        exact h
    · refine ⟨i, by omega, ?_⟩
      rw [insA_i, insA_i]
      exact h
/-- rows n, K, V stand sorted by K and hold what M says -/
def Srt (n : Nat) (K V : Nat → Nat) (M : Nat → Nat → Prop) : Prop := (∀ i j, i < j → j < n → K i < K j) ∧ ∀ a b, (∃ i, i < n ∧ K i = a ∧ V i = b) ↔ M a b
theorem Srt.uniq {n m : Nat} {K V K2 V2 : Nat → Nat} {M : Nat → Nat → Prop} (h : Srt n K V M) (h2 : Srt m K2 V2 M) : n = m ∧ ∀ i, i < n → K i = K2 i ∧ V i = V2 i := by
  have inj : ∀ {n : Nat} {K V : Nat → Nat}, Srt n K V M → ∀ i j, i < n → j < n → K i = K j → i = j := by
    intro n K V h i j hi hj e
    rcases Nat.lt_trichotomy i j with z | z | z
    · have := h.1 i j z hj; omega
    · exact z
    · have := h.1 j i z hi; omega
  have key : ∀ i, (i < n → i < m ∧ K i = K2 i ∧ V i = V2 i) ∧ (i < m → i < n) := by
    intro i
    induction i using Nat.strongRecOn with
    | ind i ih =>
      have fwd : i < n → ∃ k, k < m ∧ K2 k = K i ∧ V2 k = V i ∧ i ≤ k := by
        intro hi
        obtain ⟨k, hk, e1, e2⟩ := (h2.2 (K i) (V i)).mpr ((h.2 (K i) (V i)).mp ⟨i, hi, rfl, rfl⟩)
        refine ⟨k, hk, e1, e2, ?_⟩
        rcases Nat.lt_or_ge k i with z | z
        · have hkn := (ih k z).2 hk
          have := ((ih k z).1 hkn).2.1
          have := h.1 k i z hi
          omega
        · exact z
      have bwd : i < m → ∃ k, k < n ∧ K k = K2 i ∧ V k = V2 i ∧ i ≤ k := by
        intro hi
        obtain ⟨k, hk, e1, e2⟩ := (h.2 (K2 i) (V2 i)).mpr ((h2.2 (K2 i) (V2 i)).mp ⟨i, hi, rfl, rfl⟩)
        refine ⟨k, hk, e1, e2, ?_⟩
        rcases Nat.lt_or_ge k i with z | z
        · have := ((ih k z).1 hk).2.1
          have := h2.1 k i z hi
          omega
        · exact z
      constructor
      · intro hi
        obtain ⟨k, hk, e1, e2, hik⟩ := fwd hi
        have him : i < m := by omega
        obtain ⟨k2, hk2, e3, e4, hik2⟩ := bwd him
        have hki : k = i := by
          rcases Nat.lt_or_ge i k with z | z
          · have a1 := h2.1 i k z hk
            rcases Nat.lt_or_ge i k2 with z2 | z2
            · have a2 := h.1 i k2 z2 hk2
              omega
            · have : k2 = i := by omega
              subst this
              omega
          · omega
        subst hki
        exact ⟨hk, e1.symm, e2.symm⟩
      · intro hi
        obtain ⟨k2, hk2, -, -, hik2⟩ := bwd hi
        omega
  refine ⟨?_, fun i hi => ((key i).1 hi).2⟩
  rcases Nat.lt_trichotomy n m with z | z | z
  · have := (key n).2 z; omega
  · exact z
  · have := ((key m).1 z).1; omega
theorem Srt.ins {n : Nat} {K V : Nat → Nat} {M : Nat → Nat → Prop} {q v : Nat} (h : Srt n K V M) (hf : ∀ b, ¬ M q b) : (ixK K n q ≤ n ∧ (∀ j, j < ixK K n q → K j < q) ∧ (∀ j, ixK K n q ≤ j → j < n → q < K j)) ∧ Srt (n + 1) (insA K (ixK K n q) n q) (insA V (ixK K n q) n v) (fun a b => M a b ∨ (a = q ∧ b = v)) := by
  obtain ⟨h1, h2, h3⟩ := ixK_ok (q := q) h.1
  have h4 : ∀ j, ixK K n q ≤ j → j < n → q < K j := by
    intro j hj hn
    have := h3 j hj hn
    rcases Nat.lt_or_ge q (K j) with z | z
    · exact z
    · exact absurd ((h.2 q (V j)).mp ⟨j, hn, by omega, rfl⟩) (hf _)
  refine ⟨⟨h1, h2, h4⟩, insA_sorted h.1 h1 h2 h4, fun a b => ?_⟩
  rw [insA_mem h1 (fun x y => x = a ∧ y = b), h.2 a b]
  constructor
  · rintro (z | z)
    · exact Or.inl z
    · exact Or.inr ⟨z.1.symm, z.2.symm⟩
  · rintro (z | z)
    · exact Or.inl z
    · exact Or.inr ⟨z.1.symm, z.2.symm⟩
/-- the key of a point: twice its hour, one more for an emptying -/
def kyS (H : Nat → Nat) (E : Nat → Bool) (k : Nat) : Nat := 2 * H k + (if E k = true then 1 else 0)
theorem kyS_ins {H : Nat → Nat} {E : Nat → Bool} {i n h : Nat} {e : Bool} : kyS (insA H i n h) (insA E i n e) = insA (kyS H E) i n (2 * h + (if e = true then 1 else 0)) := by
  funext k
  unfold kyS
  rw [insA_at, insA_at, insA_at]
  by_cases a1 : k = i
  · rw [if_pos a1, if_pos a1, if_pos a1]
  · rw [if_neg a1, if_neg a1, if_neg a1]
    by_cases a2 : i < k ∧ k ≤ n
    · rw [if_pos a2, if_pos a2, if_pos a2]
    · rw [if_neg a2, if_neg a2, if_neg a2]
theorem shf_lo {α : Type} {f : Nat → α} {i n k : Nat} (h : k ≤ i) : shf f i n k = f k := by
  unfold shf
  rw [if_neg (by omega)]
/-- a scratch with a point placed at i -/
def plS (S : ST) (i h v : Nat) (e : Bool) : ST := usN (usE (usS (usH S (insA (sH S) i (sN S) h)) (insA (sS S) i (sN S) v)) (insA (sE S) i (sN S) e)) (sN S + 1)
/-- how many below n -/
def cnt (P : Nat → Bool) : Nat → Nat
  | 0 => 0
  | n + 1 => cnt P n + (if P n = true then 1 else 0)
theorem cnt_congr {P Q : Nat → Bool} : ∀ {n : Nat}, (∀ i, i < n → P i = Q i) → cnt P n = cnt Q n
  | 0, _ => rfl
  | n + 1, h => by rw [cnt, cnt, cnt_congr (fun i hi => h i (by omega)), h n (by omega)]
theorem cnt_ins {P : Nat → Bool} {i : Nat} {x : Bool} : ∀ {n : Nat}, i ≤ n → cnt (insA P i n x) (n + 1) = cnt P n + (if x = true then 1 else 0)
  | 0, h => by
    have e : i = 0 := by omega
    subst e
    show 0 + (if insA P 0 0 x 0 = true then 1 else 0) = 0 + _
    rw [insA_i]
  | n + 1, h => by
    rw [cnt]
    by_cases a : i = n + 1
    · have e1 : cnt (insA P i (n + 1) x) (n + 1) = cnt P (n + 1) := cnt_congr (fun k hk => insA_lo (by omega))
      have e2 : insA P i (n + 1) x (n + 1) = x := by rw [← a]; exact insA_i
      rw [e1, e2]
    · have e1 : cnt (insA P i (n + 1) x) (n + 1) = cnt (insA P i n x) (n + 1) := cnt_congr (fun k hk => by
        rcases Nat.lt_trichotomy k i with z | z | z
        · rw [insA_lo z, insA_lo z]
        · subst z; rw [insA_i, insA_i]
        · rw [insA_hi z (by omega), insA_hi z (by omega)])
      have e2 : insA P i (n + 1) x (n + 1) = P n := insA_hi (by omega) (by omega)
      rw [e1, e2, cnt_ins (n := n) (by omega), cnt]
      omega
/-- a bin of the two sides holds the same -/
def RelB (b : BinT) (j : Nat) (P : PT) : Prop := (aSt P j = bSt b ∧ aRm P j = bRm b ∧ aRc P j = bR b ∧ aEc P j = bN b - bR b) ∧
  (∀ r, r < bR b → ∃ k, k < bN b ∧ bPl b k = 2 * aRh P (24 * j + r) ∧ bAm b k = aRs P (24 * j + r)) ∧
  (∀ e, e < bN b - bR b → ∃ k, k < bN b ∧ bPl b k = 2 * aEh P (8 * j + e) + 1 ∧ bAm b k = aKg P (8 * j + e)) ∧
  (∀ k, k < bN b → (∃ r, r < bR b ∧ bPl b k = 2 * aRh P (24 * j + r)) ∨ ∃ e, e < bN b - bR b ∧ bPl b k = 2 * aEh P (8 * j + e) + 1) ∧
  (∀ r q, r < q → q < bR b → aRh P (24 * j + r) ≠ aRh P (24 * j + q)) ∧ (∀ r q, r < q → q < bN b - bR b → aEh P (8 * j + r) ≠ aEh P (8 * j + q)) ∧
  cnt (fun i => !rowB b i) (bN b) = bN b - bR b
def Rel (x : FT) (P : PT) : Prop := pB P = (xB x).length ∧ (∀ j b, (xB x)[j]? = some b → RelB b j P) ∧ aHo P = xH x ∧ (∀ a, a < 8 → xW x a = wtP (pO P) (pU P) a 7) ∧ pQ P = xQ x ∧ pE P = xE x ∧ pL P = xL x
/-- a scratch that lays a bin out -/
def Lay (b : BinT) (S : ST) : Prop := sN S = bN b ∧ ∀ k, k < bN b → sH S k = hrB b k ∧ sS S k = shB b k ∧ sE S k = !rowB b k ∧ sW S k = bWr b k ∧ sG S k = bGn b k
/-- what a layout has put after r rows and e emptyings -/
def Mrow (P : PT) (j r : Nat) : Nat → Nat → Prop := fun a b => ∃ k, k < r ∧ a = 2 * aRh P (24 * j + k) ∧ b = aRs P (24 * j + k)
def Memp (P : PT) (j r e : Nat) : Nat → Nat → Prop := fun a b => Mrow P j r a b ∨ ∃ k, k < e ∧ a = 2 * aEh P (8 * j + k) + 1 ∧ b = 0
theorem RelB.srt {b : BinT} {j : Nat} {P : PT} (hb : Bok b) (h : RelB b j P) : Srt (bN b) (bPl b) (shB b) (Memp P j (bR b) (bN b - bR b)) := by
  obtain ⟨-, h1, h2, h3, -⟩ := h
  refine ⟨hb.1.2.2.1, fun a v => ⟨?_, ?_⟩⟩
  · rintro ⟨k, hk, rfl, rfl⟩
    rcases h3 k hk with ⟨r, hr, e⟩ | ⟨r, hr, e⟩
    · refine Or.inl ⟨r, hr, e, ?_⟩
      obtain ⟨k2, hk2, e2, e3⟩ := h1 r hr
      have hkk : k2 = k := by
        rcases Nat.lt_trichotomy k2 k with z | z | z
        · have := hb.1.2.2.1 k2 k z hk; omega
        · exact z
        · have := hb.1.2.2.1 k k2 z hk2; omega
      subst hkk
      unfold shB
      rw [if_pos (by omega), e3]
    · refine Or.inr ⟨r, hr, e, ?_⟩
      unfold shB
      rw [if_neg (by omega)]
  · rintro (⟨r, hr, rfl, rfl⟩ | ⟨r, hr, rfl, rfl⟩)
    · obtain ⟨k2, hk2, e2, e3⟩ := h1 r hr
      refine ⟨k2, hk2, e2, ?_⟩
      unfold shB
      rw [if_pos (by omega), e3]
    · obtain ⟨k2, hk2, e2, e3⟩ := h2 r hr
      refine ⟨k2, hk2, e2, ?_⟩
      unfold shB
      rw [if_neg (by omega)]
/-- the laid-out rows are the bin's own -/
theorem lay_of {b : BinT} {S : ST} (h : sN S = bN b ∧ ∀ k, k < sN S → kyS (sH S) (sE S) k = bPl b k ∧ sS S k = shB b k) : ∀ k, k < bN b → sH S k = hrB b k ∧ sS S k = shB b k ∧ sE S k = !rowB b k := by
  intro k hk
  obtain ⟨e1, e2⟩ := h.2 k (by omega)
  unfold kyS at e1
  unfold hrB rowB
  cases hE : sE S k with
  | true =>
    rw [hE, if_pos rfl] at e1
    refine ⟨by omega, e2, ?_⟩
    rw [decide_eq_false (by omega)]
    rfl
  | false =>
    rw [hE, if_neg (by decide)] at e1
    refine ⟨by omega, e2, ?_⟩
    rw [decide_eq_true (by omega)]
    rfl
theorem Lay.mk {b : BinT} {S : ST} (hb : Bok b) (hn : sN S = bN b) (h : ∀ k, k < bN b → sH S k = hrB b k ∧ sS S k = shB b k ∧ sE S k = !rowB b k) (hw : ∀ k, k < bN b → sW S k = wrgF b (bef b k) k) (hg : ∀ k, k < bN b → sG S k = gnF b (bef b k) k) : Lay b S :=
  ⟨hn, fun k hk => ⟨(h k hk).1, (h k hk).2.1, (h k hk).2.2, by rw [hw k hk, hb.2.1 k hk], by rw [hg k hk, hb.2.2.1 k hk]⟩⟩
theorem isBin_n {x : FT} {P : PT} {k : Int32} (h8 : (xB x).length ≤ 8) (h : binAt (xB x) k = none) : k < 0 ∨ nI (xB x).length ≤ k := by
  rcases pk_ix k (n := (xB x).length) (by omega) with q | q | ⟨j, hj, q⟩
  · exact Or.inl q
  · exact Or.inr q
  · subst q
    unfold binAt at h
    rw [if_pos (nI_pos' (by omega)), nI_clamp (by omega), List.getElem?_eq_getElem hj] at h
    cases h
end
section
set_option maxHeartbeats 4000000 in
set_option maxRecDepth 100000 in
theorem m_isIn (l : Launch) (g : GG) (x lo hi : Int32) : Rz l yX5_isIn wsX5_isIn 0 0 [.int (x), .int (lo), .int (hi)] g ([]) (bI (decide (lo ≤ x ∧ x ≤ hi))) := by
  refine Met.ofW (cc := cX5_isIn) (maxL := 3) (ret := (some .boolean)) (by decide) rfl ?_
  intro p e s m args below meth c s₁ BB hml hv
  obtain ⟨hargs, hP, hK⟩ := hv
  have hx := BB.exec
  have hb := BB.bytes
  have hr := BB.returns
  have hts : ∀ w ∈ BIG, w.before args s = true := fun w h => atoms_spec (ws := wsX5_isIn) BB.pre w (List.mem_cons_of_mem _ h)
  have hown : s.vm.findClass RX5 = some m.cls := findClass_of_methodNamed BB.named
  have hlocks := BB.notSynchronized
  obtain ⟨RR, hRR⟩ : ∃ RR, RR = (headSpec wsX5_isIn ⟨0, 0, 0, 0⟩).room := ⟨_, rfl⟩
  have hR1 : RR.frames = 0 := by rw [hRR]; rfl
  have hR2 : RR.locals = 0 := by rw [hRR]; rfl
  have hR3 : RR.cells = 0 := by rw [hRR]; rfl
  have hR4 : RR.slots = 0 := by rw [hRR]; rfl
  have hl := lv_entry ([.int (x), .int (lo), .int (hi)]) (n := 3) (Nat.le_of_ble_eq_true rfl)
  have hent : entryFrame m args 3 = F0 m 0 ((lg_sl ([.int (x), .int (lo), .int (hi)]) ++ List.replicate (3 - (lg_sl ([.int (x), .int (lo), .int (hi)])).length) Slot.unset).toArray) [] := by rw [hargs, lg_entry_eq]
  rw [hent]
  generalize (lg_sl ([.int (x), .int (lo), .int (hi)]) ++ List.replicate (3 - (lg_sl ([.int (x), .int (lo), .int (hi)])).length) Slot.unset).toArray = ls at hl ⊢
  have hl : lv_has ls 3 [(0, .int (x)), (1, .int (lo)), (2, .int (hi))] := hl
  refine q_ab (R := RR) hRR ?_
  generalize hQQ : MQ below _ args s _ _ _ = QQ
  refine lv_iload_n hx hb dX5_isIn_0 rfl (lv_at hl 0 rfl) ?_
  refine lv_iload_n hx hb dX5_isIn_1 rfl (lv_at hl 1 rfl) ?_
  refine lv_icmp_lt (tgt := 14) hx hb dX5_isIn_2 (by decide) (fun h1 => ?_) (fun h1 => ?_)
  · refine lv_iconst (v := bI (false)) hx hb dX5_isIn_14 (by decide) ?_
    subst hQQ
    exact W.zret hx hb hr (nar_b _) (fun t9 ht _ => rdI (by rw [decide_eq_false (fun q => absurd h1 (by rw [Int32.not_lt]; exact q.1))]) ht) (fun q h => absurd h List.not_mem_nil) dX5_isIn_15
  · refine lv_iload_n hx hb dX5_isIn_5 rfl (lv_at hl 0 rfl) ?_
    refine lv_iload_n hx hb dX5_isIn_6 rfl (lv_at hl 2 rfl) ?_
    refine lv_icmp_gt (tgt := 14) hx hb dX5_isIn_7 (by decide) (fun h2 => ?_) (fun h2 => ?_)
    · refine lv_iconst (v := bI (false)) hx hb dX5_isIn_14 (by decide) ?_
      subst hQQ
      exact W.zret hx hb hr (nar_b _) (fun t9 ht _ => rdI (by rw [decide_eq_false (fun q => absurd h2 (by rw [Int32.not_lt]; exact q.2))]) ht) (fun q h => absurd h List.not_mem_nil) dX5_isIn_15
    · refine lv_iconst (v := bI (true)) hx hb dX5_isIn_10 (by decide) ?_
      refine lv_goto (tgt := 15) hx hb dX5_isIn_11 (by decide) ?_
      subst hQQ
      exact W.zret hx hb hr (nar_b _) (fun t9 ht _ => rdI (by rw [decide_eq_true ⟨by rw [← Int32.not_lt]; exact h1, by rw [← Int32.not_lt]; exact h2⟩]) ht) (fun q h => absurd h List.not_mem_nil) dX5_isIn_15

set_option maxHeartbeats 4000000 in
set_option maxRecDepth 100000 in
theorem m_isHour (l : Launch) (g : GG) (x : Int32) : Rz l yX5_isHour wsX5_isHour 1 22 [.int (x)] g ([]) (bI (decide (nI 0 ≤ x ∧ x ≤ nI 9999))) := by
  refine Met.ofW (cc := cX5_isHour) (maxL := 1) (ret := (some .boolean)) (by decide) rfl ?_
  intro p e s m args below meth c s₁ BB hml hv
  obtain ⟨hargs, hP, hK⟩ := hv
  have hx := BB.exec
  have hb := BB.bytes
  have hr := BB.returns
  have hts : ∀ w ∈ BIG, w.before args s = true := fun w h => atoms_spec (ws := wsX5_isHour) BB.pre w (List.mem_cons_of_mem _ h)
  have hown : s.vm.findClass RX5 = some m.cls := findClass_of_methodNamed BB.named
  have hlocks := BB.notSynchronized
  obtain ⟨RR, hRR⟩ : ∃ RR, RR = (headSpec wsX5_isHour ⟨1, 0, 0, 22⟩).room := ⟨_, rfl⟩
  have hR1 : RR.frames = 1 := by rw [hRR]; rfl
  have hR2 : RR.locals = 22 := by rw [hRR]; rfl
  have hR3 : RR.cells = 0 := by rw [hRR]; rfl
  have hR4 : RR.slots = 0 := by rw [hRR]; rfl
  have hl := lv_entry ([.int (x)]) (n := 1) (Nat.le_of_ble_eq_true rfl)
  have hent : entryFrame m args 1 = F0 m 0 ((lg_sl ([.int (x)]) ++ List.replicate (1 - (lg_sl ([.int (x)])).length) Slot.unset).toArray) [] := by rw [hargs, lg_entry_eq]
  rw [hent]
  generalize (lg_sl ([.int (x)]) ++ List.replicate (1 - (lg_sl ([.int (x)])).length) Slot.unset).toArray = ls at hl ⊢
  have hl : lv_has ls 1 [(0, .int (x))] := hl
  refine q_ab (R := RR) hRR ?_
  generalize hQQ : MQ below _ args s _ _ _ = QQ
  refine lv_iload_n hx hb dX5_isHour_0 rfl (lv_at hl 0 rfl) ?_
  refine lv_iconst (v := nI (0)) hx hb dX5_isHour_1 (by decide) ?_
  refine lv_sipush (v := nI (9999)) hx hb dX5_isHour_2 (by decide) ?_
  refine cR_i (W.runS (As := [.int (x), .int (nI (0)), .int (nI (9999))]) (rest := []) ⟨hx, hb, hml, hown, hts⟩ (m_isIn l g x (nI 0) (nI 9999)) (va_cwS 3 hts (gS w_ml_X5_79 w_sm_X5_isIn w_ini_X5 w_co_X5_isIn) rfl rfl rfl (by decide +kernel) (by rw [hR1, hR2]; exact ⟨Nat.le_of_ble_eq_true rfl, Nat.le_of_ble_eq_true rfl⟩)) (preS_rd hP hK) rfl rfl hl.1 rfl (lv_room (Nat.le_of_ble_eq_true rfl)) dX5_isHour_5 ⟨by rw [hR3]; omega, by rw [hR4]; omega⟩) ?_
  subst hQQ
  exact W.zret hx hb hr (nar_b _) (fun t9 ht _ => rdI (rfl) ht) (fun q h => absurd h List.not_mem_nil) dX5_isHour_8

set_option maxHeartbeats 4000000 in
set_option maxRecDepth 100000 in
theorem m_isDay (l : Launch) (g : GG) (x : Int32) : Rz l yX5_isDay wsX5_isDay 1 22 [.int (x)] g ([]) (bI (decide (nI 0 ≤ x ∧ x ≤ nI 416))) := by
  refine Met.ofW (cc := cX5_isDay) (maxL := 1) (ret := (some .boolean)) (by decide) rfl ?_
  intro p e s m args below meth c s₁ BB hml hv
  obtain ⟨hargs, hP, hK⟩ := hv
  have hx := BB.exec
  have hb := BB.bytes
  have hr := BB.returns
  have hts : ∀ w ∈ BIG, w.before args s = true := fun w h => atoms_spec (ws := wsX5_isDay) BB.pre w (List.mem_cons_of_mem _ h)
  have hown : s.vm.findClass RX5 = some m.cls := findClass_of_methodNamed BB.named
  have hlocks := BB.notSynchronized
  obtain ⟨RR, hRR⟩ : ∃ RR, RR = (headSpec wsX5_isDay ⟨1, 0, 0, 22⟩).room := ⟨_, rfl⟩
  have hR1 : RR.frames = 1 := by rw [hRR]; rfl
  have hR2 : RR.locals = 22 := by rw [hRR]; rfl
  have hR3 : RR.cells = 0 := by rw [hRR]; rfl
  have hR4 : RR.slots = 0 := by rw [hRR]; rfl
  have hl := lv_entry ([.int (x)]) (n := 1) (Nat.le_of_ble_eq_true rfl)
  have hent : entryFrame m args 1 = F0 m 0 ((lg_sl ([.int (x)]) ++ List.replicate (1 - (lg_sl ([.int (x)])).length) Slot.unset).toArray) [] := by rw [hargs, lg_entry_eq]
  rw [hent]
  generalize (lg_sl ([.int (x)]) ++ List.replicate (1 - (lg_sl ([.int (x)])).length) Slot.unset).toArray = ls at hl ⊢
  have hl : lv_has ls 1 [(0, .int (x))] := hl
  refine q_ab (R := RR) hRR ?_
  generalize hQQ : MQ below _ args s _ _ _ = QQ
  refine lv_iload_n hx hb dX5_isDay_0 rfl (lv_at hl 0 rfl) ?_
  refine lv_iconst (v := nI (0)) hx hb dX5_isDay_1 (by decide) ?_
  refine lv_sipush (v := nI (416)) hx hb dX5_isDay_2 (by decide) ?_
  refine cR_i (W.runS (As := [.int (x), .int (nI (0)), .int (nI (416))]) (rest := []) ⟨hx, hb, hml, hown, hts⟩ (m_isIn l g x (nI 0) (nI 416)) (va_cwS 3 hts (gS w_ml_X5_79 w_sm_X5_isIn w_ini_X5 w_co_X5_isIn) rfl rfl rfl (by decide +kernel) (by rw [hR1, hR2]; exact ⟨Nat.le_of_ble_eq_true rfl, Nat.le_of_ble_eq_true rfl⟩)) (preS_rd hP hK) rfl rfl hl.1 rfl (lv_room (Nat.le_of_ble_eq_true rfl)) dX5_isDay_5 ⟨by rw [hR3]; omega, by rw [hR4]; omega⟩) ?_
  subst hQQ
  exact W.zret hx hb hr (nar_b _) (fun t9 ht _ => rdI (rfl) ht) (fun q h => absurd h List.not_mem_nil) dX5_isDay_8

set_option maxHeartbeats 4000000 in
set_option maxRecDepth 100000 in
theorem m_isBin_n (l : Launch) (g : GG) (ma : Nat → Nat) (P : PT) (S : ST) (x : FT) (k : Int32) (hb9 : pB P = (xB x).length) (h8 : (xB x).length ≤ 8) (hk : binAt (xB x) k = none) : Rz l yX5_isBin wsX5_isBin 0 0 [.ref (ma 0), .int (k)] g (wM g ma P S) (bI false) := by
  refine Met.ofW (cc := cX5_isBin) (maxL := 2) (ret := (some .boolean)) (by decide) rfl ?_
  intro p e s m args below meth c s₁ BB hml hv
  obtain ⟨hargs, hP, hK⟩ := hv
  have hx := BB.exec
  have hb := BB.bytes
  have hr := BB.returns
  have hts : ∀ w ∈ BIG, w.before args s = true := fun w h => atoms_spec (ws := wsX5_isBin) BB.pre w (List.mem_cons_of_mem _ h)
  have hown : s.vm.findClass RX5 = some m.cls := findClass_of_methodNamed BB.named
  have hlocks := BB.notSynchronized
  obtain ⟨RR, hRR⟩ : ∃ RR, RR = (headSpec wsX5_isBin ⟨0, 0, 0, 0⟩).room := ⟨_, rfl⟩
  have hR1 : RR.frames = 0 := by rw [hRR]; rfl
  have hR2 : RR.locals = 0 := by rw [hRR]; rfl
  have hR3 : RR.cells = 0 := by rw [hRR]; rfl
  have hR4 : RR.slots = 0 := by rw [hRR]; rfl
  have hl := lv_entry ([.ref (ma 0), .int (k)]) (n := 2) (Nat.le_of_ble_eq_true rfl)
  have hent : entryFrame m args 2 = F0 m 0 ((lg_sl ([.ref (ma 0), .int (k)]) ++ List.replicate (2 - (lg_sl ([.ref (ma 0), .int (k)])).length) Slot.unset).toArray) [] := by rw [hargs, lg_entry_eq]
  rw [hent]
  generalize (lg_sl ([.ref (ma 0), .int (k)]) ++ List.replicate (2 - (lg_sl ([.ref (ma 0), .int (k)])).length) Slot.unset).toArray = ls at hl ⊢
  have hl : lv_has ls 2 [(0, .ref (ma 0)), (1, .int (k))] := hl
  refine q_ab (R := RR) hRR ?_
  generalize hQQ : MQ below _ args s _ _ _ = QQ
  have hkk := isBin_n (P := P) h8 hk
  rw [← hb9] at hkk
  refine lv_iload_n hx hb dX5_isBin_0 rfl (lv_at hl 1 rfl) ?_
  refine lv_if_lt (tgt := 16) hx hb dX5_isBin_1 (by decide) (fun c1 => ?_) (fun c1 => ?_)
  · refine lv_iconst (v := bI (false)) hx hb dX5_isBin_16 (by decide) ?_
    subst hQQ
    exact W.zret hx hb hr (nar_b _) (fun t9 ht _ => rdI (rfl) ht) (fun q h => absurd h List.not_mem_nil) dX5_isBin_17
  · refine lv_iload_n hx hb dX5_isBin_4 rfl (lv_at hl 1 rfl) ?_
    refine lv_aload_n hx hb dX5_isBin_5 rfl (lv_at hl 0 rfl) ?_
    refine va_get (D := g.1) (ci := 5) (v := .int (nI (pB P))) (C := RX5) (T := TX5) (N := 23) hx hb hts hiX5 hown hK.1 hP 0 rfl rfl 0 (by decide) (hts _ w_fl_X5_76) (fun _ h9 => h9) rfl dX5_isBin_6 ?_
    refine lv_icmp_ge (tgt := 16) hx hb dX5_isBin_9 (by decide) (fun c2 => ?_) (fun c2 => ?_)
    · refine lv_iconst (v := bI (false)) hx hb dX5_isBin_16 (by decide) ?_
      subst hQQ
      exact W.zret hx hb hr (nar_b _) (fun t9 ht _ => rdI (rfl) ht) (fun q h => absurd h List.not_mem_nil) dX5_isBin_17
    · exact absurd hkk (by rintro (z | z); exact c1 z; exact c2 z)

set_option maxHeartbeats 4000000 in
set_option maxRecDepth 100000 in
theorem m_isBin_s (l : Launch) (g : GG) (ma : Nat → Nat) (P : PT) (S : ST) (j : Nat) (hj : j < pB P) (h8 : pB P ≤ 8) : Rz l yX5_isBin wsX5_isBin 0 0 [.ref (ma 0), .int (nI (j))] g (wM g ma P S) (bI true) := by
  refine Met.ofW (cc := cX5_isBin) (maxL := 2) (ret := (some .boolean)) (by decide) rfl ?_
  intro p e s m args below meth c s₁ BB hml hv
  obtain ⟨hargs, hP, hK⟩ := hv
  have hx := BB.exec
  have hb := BB.bytes
  have hr := BB.returns
  have hts : ∀ w ∈ BIG, w.before args s = true := fun w h => atoms_spec (ws := wsX5_isBin) BB.pre w (List.mem_cons_of_mem _ h)
  have hown : s.vm.findClass RX5 = some m.cls := findClass_of_methodNamed BB.named
  have hlocks := BB.notSynchronized
  obtain ⟨RR, hRR⟩ : ∃ RR, RR = (headSpec wsX5_isBin ⟨0, 0, 0, 0⟩).room := ⟨_, rfl⟩
  have hR1 : RR.frames = 0 := by rw [hRR]; rfl
  have hR2 : RR.locals = 0 := by rw [hRR]; rfl
  have hR3 : RR.cells = 0 := by rw [hRR]; rfl
  have hR4 : RR.slots = 0 := by rw [hRR]; rfl
  have hl := lv_entry ([.ref (ma 0), .int (nI (j))]) (n := 2) (Nat.le_of_ble_eq_true rfl)
  have hent : entryFrame m args 2 = F0 m 0 ((lg_sl ([.ref (ma 0), .int (nI (j))]) ++ List.replicate (2 - (lg_sl ([.ref (ma 0), .int (nI (j))])).length) Slot.unset).toArray) [] := by rw [hargs, lg_entry_eq]
  rw [hent]
  generalize (lg_sl ([.ref (ma 0), .int (nI (j))]) ++ List.replicate (2 - (lg_sl ([.ref (ma 0), .int (nI (j))])).length) Slot.unset).toArray = ls at hl ⊢
  have hl : lv_has ls 2 [(0, .ref (ma 0)), (1, .int (nI (j)))] := hl
  refine q_ab (R := RR) hRR ?_
  generalize hQQ : MQ below _ args s _ _ _ = QQ
  refine lv_iload_n hx hb dX5_isBin_0 rfl (lv_at hl 1 rfl) ?_
  refine lv_if_lt (tgt := 16) hx hb dX5_isBin_1 (by decide) (fun c1 => ?_) (fun c1 => ?_)
  · exact absurd c1 (nI_pos (by omega))
  · refine lv_iload_n hx hb dX5_isBin_4 rfl (lv_at hl 1 rfl) ?_
    refine lv_aload_n hx hb dX5_isBin_5 rfl (lv_at hl 0 rfl) ?_
    refine va_get (D := g.1) (ci := 5) (v := .int (nI (pB P))) (C := RX5) (T := TX5) (N := 23) hx hb hts hiX5 hown hK.1 hP 0 rfl rfl 0 (by decide) (hts _ w_fl_X5_76) (fun _ h9 => h9) rfl dX5_isBin_6 ?_
    refine bn_ge (tgt := 16) hx hb (by omega) (by omega) dX5_isBin_9 (by decide) (fun c2 => ?_) (fun c2 => ?_)
    · exact absurd c2 (by omega)
    · refine lv_iconst (v := bI (true)) hx hb dX5_isBin_12 (by decide) ?_
      refine lv_goto (tgt := 17) hx hb dX5_isBin_13 (by decide) ?_
      subst hQQ
      exact W.zret hx hb hr (nar_b _) (fun t9 ht _ => rdI (rfl) ht) (fun q h => absurd h List.not_mem_nil) dX5_isBin_17

set_option maxHeartbeats 4000000 in
set_option maxRecDepth 100000 in
theorem m_weekdayOf (l : Launch) (g : GG) (ma : Nat → Nat) (P : PT) (S : ST) (d : Nat) (hd : d < 417) : Rd l yX5_weekdayOf wsX5_weekdayOf 0 0 [.ref (ma 0), .int (nI (d))] g (wM g ma P S) (nI (wdy (aHo P) d)) := by
  refine Met.ofW (cc := cX5_weekdayOf) (maxL := 2) (ret := (some .int)) (by decide) rfl ?_
  intro p e s m args below meth c s₁ BB hml hv
  obtain ⟨hargs, hP, hK⟩ := hv
  have hx := BB.exec
  have hb := BB.bytes
  have hr := BB.returns
  have hts : ∀ w ∈ BIG, w.before args s = true := fun w h => atoms_spec (ws := wsX5_weekdayOf) BB.pre w (List.mem_cons_of_mem _ h)
  have hown : s.vm.findClass RX5 = some m.cls := findClass_of_methodNamed BB.named
  have hlocks := BB.notSynchronized
  obtain ⟨RR, hRR⟩ : ∃ RR, RR = (headSpec wsX5_weekdayOf ⟨0, 0, 0, 0⟩).room := ⟨_, rfl⟩
  have hR1 : RR.frames = 0 := by rw [hRR]; rfl
  have hR2 : RR.locals = 0 := by rw [hRR]; rfl
  have hR3 : RR.cells = 0 := by rw [hRR]; rfl
  have hR4 : RR.slots = 0 := by rw [hRR]; rfl
  have hl := lv_entry ([.ref (ma 0), .int (nI (d))]) (n := 2) (Nat.le_of_ble_eq_true rfl)
  have hent : entryFrame m args 2 = F0 m 0 ((lg_sl ([.ref (ma 0), .int (nI (d))]) ++ List.replicate (2 - (lg_sl ([.ref (ma 0), .int (nI (d))])).length) Slot.unset).toArray) [] := by rw [hargs, lg_entry_eq]
  rw [hent]
  generalize (lg_sl ([.ref (ma 0), .int (nI (d))]) ++ List.replicate (2 - (lg_sl ([.ref (ma 0), .int (nI (d))])).length) Slot.unset).toArray = ls at hl ⊢
  have hl : lv_has ls 2 [(0, .ref (ma 0)), (1, .int (nI (d)))] := hl
  refine q_ab (R := RR) hRR ?_
  generalize hQQ : MQ below _ args s _ _ _ = QQ
  refine lv_aload_n hx hb dX5_weekdayOf_0 rfl (lv_at hl 0 rfl) ?_
  refine va_get (D := g.1) (ci := 5) (v := .ref (ma 9)) (C := RX5) (T := TX5) (N := 23) hx hb hts hiX5 hown hK.1 hP 0 rfl rfl 11 (by decide) (hts _ w_fl_X5_41) (fun _ h9 => h9) rfl dX5_weekdayOf_1 ?_
  refine lv_iload_n hx hb dX5_weekdayOf_4 rfl (lv_at hl 1 rfl) ?_
  refine n_zald (k := d) (v := bI (aHo P d)) hx hb hK.1 hP 9 1 rfl rfl (by omega) (by decide) (rfl) dX5_weekdayOf_5 ?_
  refine bb_eq (tgt := 14) hx hb dX5_weekdayOf_6 (by decide) (fun c1 => ?_) (fun c1 => ?_)
  · refine lv_iload_n hx hb dX5_weekdayOf_14 rfl (lv_at hl 1 rfl) ?_
    refine lv_bipush (v := nI (7)) hx hb dX5_weekdayOf_15 (by decide) ?_
    refine n_irem hx hb (by omega) (by omega) (by omega) dX5_weekdayOf_17 ?_
    subst hQQ
    exact W.iret hx hb hr (fun t9 ht _ => rdI (by rw [wdy, c1]; rfl) ht) (fun q h => absurd h List.not_mem_nil) dX5_weekdayOf_18
  · refine lv_bipush (v := nI (6)) hx hb dX5_weekdayOf_9 (by decide) ?_
    refine lv_goto (tgt := 18) hx hb dX5_weekdayOf_11 (by decide) ?_
    subst hQQ
    exact W.iret hx hb hr (fun t9 ht _ => rdI (by rw [wdy, c1]; rfl) ht) (fun q h => absurd h List.not_mem_nil) dX5_weekdayOf_18

set_option maxHeartbeats 4000000 in
set_option maxRecDepth 100000 in
theorem m_weightOf (l : Launch) (g : GG) (ma : Nat → Nat) (P : PT) (S : ST) (a : Nat) (ha : a < 8) : Rd l yX5_weightOf wsX5_weightOf 0 0 [.ref (ma 0), .int (nI (a))] g (wM g ma P S) (nI (wtP (pO P) (pU P) a 7)) := by
  refine Met.ofW (cc := cX5_weightOf) (maxL := 4) (ret := (some .int)) (by decide) rfl ?_
  intro p e s m args below meth c s₁ BB hml hv
  obtain ⟨hargs, hP, hK⟩ := hv
  have hx := BB.exec
  have hb := BB.bytes
  have hr := BB.returns
  have hts : ∀ w ∈ BIG, w.before args s = true := fun w h => atoms_spec (ws := wsX5_weightOf) BB.pre w (List.mem_cons_of_mem _ h)
  have hown : s.vm.findClass RX5 = some m.cls := findClass_of_methodNamed BB.named
  have hlocks := BB.notSynchronized
  obtain ⟨RR, hRR⟩ : ∃ RR, RR = (headSpec wsX5_weightOf ⟨0, 0, 0, 0⟩).room := ⟨_, rfl⟩
  have hR1 : RR.frames = 0 := by rw [hRR]; rfl
  have hR2 : RR.locals = 0 := by rw [hRR]; rfl
  have hR3 : RR.cells = 0 := by rw [hRR]; rfl
  have hR4 : RR.slots = 0 := by rw [hRR]; rfl
  have hl := lv_entry ([.ref (ma 0), .int (nI (a))]) (n := 4) (Nat.le_of_ble_eq_true rfl)
  have hent : entryFrame m args 4 = F0 m 0 ((lg_sl ([.ref (ma 0), .int (nI (a))]) ++ List.replicate (4 - (lg_sl ([.ref (ma 0), .int (nI (a))])).length) Slot.unset).toArray) [] := by rw [hargs, lg_entry_eq]
  rw [hent]
  generalize (lg_sl ([.ref (ma 0), .int (nI (a))]) ++ List.replicate (4 - (lg_sl ([.ref (ma 0), .int (nI (a))])).length) Slot.unset).toArray = ls at hl ⊢
  have hl : lv_has ls 4 [(0, .ref (ma 0)), (1, .int (nI (a)))] := hl
  refine q_ab (R := RR) hRR ?_
  generalize hQQ : MQ below _ args s _ _ _ = QQ
  refine lv_iconst (v := nI (1)) hx hb dX5_weightOf_0 (by decide) ?_
  refine lv_istore_n (lv' := [(2, .int (nI (1))), (0, .ref (ma 0)), (1, .int (nI (a)))]) hx hb dX5_weightOf_1 rfl hl (by decide) rfl (fun ls hl => ?_)
  refine lv_iconst (v := nI (0)) hx hb dX5_weightOf_2 (by decide) ?_
  refine lv_istore_n (lv' := [(3, .int (nI (0))), (2, .int (nI (1))), (0, .ref (ma 0)), (1, .int (nI (a)))]) hx hb dX5_weightOf_3 rfl hl (by decide) rfl (fun ls hl => ?_)
  have loop : ∀ (k : Nat) (i : Nat) (ls : Array Slot), (i ≤ 7) → (7 < i + k) → lv_has ls 4 [(0, .ref (ma 0)), (1, .int (nI (a))), (2, .int (nI (wtP (pO P) (pU P) a i))), (3, .int (nI (i)))] → W p l e RR s m args below meth c s.heap [] 0 0 QQ (F0 m 4 ls []) := by
    intro k
    induction k with
    | zero => intro i ls hi hk hl; exact absurd hk (by omega)
    | succ k ih =>
      intro i ls hi hk hl
      refine lv_iload_n hx hb dX5_weightOf_4 rfl (lv_at hl 3 rfl) ?_
      refine lv_bipush (v := nI (7)) hx hb dX5_weightOf_5 (by decide) ?_
      refine bn_ge (tgt := 35) hx hb (by omega) (by omega) dX5_weightOf_7 (by decide) (fun c1 => ?_) (fun c1 => ?_)
      · have hi7 : i = 7 := by omega
        subst hi7
        refine lv_iload_n hx hb dX5_weightOf_35 rfl (lv_at hl 2 rfl) ?_
        subst hQQ
        exact W.iret hx hb hr (fun t9 ht _ => rdI (rfl) ht) (fun q h => absurd h List.not_mem_nil) dX5_weightOf_36
      · refine lv_iload_n hx hb dX5_weightOf_10 rfl (lv_at hl 2 rfl) ?_
        refine lv_iload_n hx hb dX5_weightOf_11 rfl (lv_at hl 3 rfl) ?_
        refine lv_iload_n hx hb dX5_weightOf_12 rfl (lv_at hl 1 rfl) ?_
        refine bn_ge (tgt := 23) hx hb (by omega) (by omega) dX5_weightOf_13 (by decide) (fun c2 => ?_) (fun c2 => ?_)
        · refine lv_aload_n hx hb dX5_weightOf_23 rfl (lv_at hl 0 rfl) ?_
          refine va_get (D := g.1) (ci := 5) (v := .int (nI (pU P))) (C := RX5) (T := TX5) (N := 23) hx hb hts hiX5 hown hK.1 hP 0 rfl rfl 10 (by decide) (hts _ w_fl_X5_38) (fun _ h9 => h9) rfl dX5_weightOf_24 ?_
          refine n_imul hx hb dX5_weightOf_27 ?_
          refine tp_i (y := nI (wtP (pO P) (pU P) a (i + 1))) (by rw [wtP, if_neg (by omega)]) ?_
          refine lv_istore_n (lv' := [(2, .int (nI (wtP (pO P) (pU P) a (i + 1)))), (0, .ref (ma 0)), (1, .int (nI (a))), (3, .int (nI (i)))]) hx hb dX5_weightOf_28 rfl hl (by decide) rfl (fun ls hl => ?_)
          refine lv_iinc (v := nI (i + 1)) (lv' := [(3, .int (nI (i + 1))), (2, .int (nI (wtP (pO P) (pU P) a (i + 1)))), (0, .ref (ma 0)), (1, .int (nI (a)))]) hx hb dX5_weightOf_29 hl (k := 3) rfl (nI_1 _) (by decide) rfl (fun ls hl => ?_)
          refine lv_goto (tgt := 4) hx hb dX5_weightOf_32 (by decide) ?_
          exact ih (i + 1) ls (by omega) (by omega) (lv_sub hl [2, 3, 1, 0] rfl)
        · refine lv_aload_n hx hb dX5_weightOf_16 rfl (lv_at hl 0 rfl) ?_
          refine va_get (D := g.1) (ci := 5) (v := .int (nI (pO P))) (C := RX5) (T := TX5) (N := 23) hx hb hts hiX5 hown hK.1 hP 0 rfl rfl 9 (by decide) (hts _ w_fl_X5_34) (fun _ h9 => h9) rfl dX5_weightOf_17 ?_
          refine lv_goto (tgt := 27) hx hb dX5_weightOf_20 (by decide) ?_
          refine n_imul hx hb dX5_weightOf_27 ?_
          refine tp_i (y := nI (wtP (pO P) (pU P) a (i + 1))) (by rw [wtP, if_pos c2]) ?_
          refine lv_istore_n (lv' := [(2, .int (nI (wtP (pO P) (pU P) a (i + 1)))), (0, .ref (ma 0)), (1, .int (nI (a))), (3, .int (nI (i)))]) hx hb dX5_weightOf_28 rfl hl (by decide) rfl (fun ls hl => ?_)
          refine lv_iinc (v := nI (i + 1)) (lv' := [(3, .int (nI (i + 1))), (2, .int (nI (wtP (pO P) (pU P) a (i + 1)))), (0, .ref (ma 0)), (1, .int (nI (a)))]) hx hb dX5_weightOf_29 hl (k := 3) rfl (nI_1 _) (by decide) rfl (fun ls hl => ?_)
          refine lv_goto (tgt := 4) hx hb dX5_weightOf_32 (by decide) ?_
          exact ih (i + 1) ls (by omega) (by omega) (lv_sub hl [2, 3, 1, 0] rfl)
  exact loop 8 0 ls (by omega) (by omega) (lv_sub hl [2, 3, 1, 0] rfl)
end
section
set_option maxHeartbeats 4000000 in
set_option maxRecDepth 100000 in
theorem m_place (l : Launch) (g : GG) (ma : Nat → Nat) (P : PT) (S : ST) (h v i : Nat) (ee : Bool) (hn : sN S < 32) (hb9 : ∀ k, k < sN S → sH S k < 2 ^ 31) (hh : h < 2 ^ 31) (hi : i ≤ sN S) (h1 : ∀ k, i ≤ k → k < sN S → (h < sH S k ∨ (sH S k = h ∧ ee = false))) (h2 : ∀ k, k + 1 = i → ¬ (h < sH S k ∨ (sH S k = h ∧ ee = false))) (sz : Nat) : Wv l yX5_place wsX5_place 0 0 0 0 [.ref (ma 0), .int (nI (h)), .int (nI (v)), .int (bI (ee))] g (wM g ma P S) sz (wM g ma P (plS S i h v ee)) := by
  refine Met.ofW (cc := cX5_place) (maxL := 5) (ret := none) (by decide) rfl ?_
  intro p e s m args below meth c s₁ BB hml hv
  obtain ⟨hargs, hsz, hP, hK, hD0⟩ := hv
  have hx := BB.exec
  have hb := BB.bytes
  have hr := BB.returns
  have hts : ∀ w ∈ BIG, w.before args s = true := fun w h => atoms_spec (ws := wsX5_place) BB.pre w (List.mem_cons_of_mem _ h)
  have hown : s.vm.findClass RX5 = some m.cls := findClass_of_methodNamed BB.named
  have hlocks := BB.notSynchronized
  obtain ⟨RR, hRR⟩ : ∃ RR, RR = (headSpec wsX5_place ⟨0, 0, 0, 0⟩).room := ⟨_, rfl⟩
  have hR1 : RR.frames = 0 := by rw [hRR]; rfl
  have hR2 : RR.locals = 0 := by rw [hRR]; rfl
  have hR3 : RR.cells = 0 := by rw [hRR]; rfl
  have hR4 : RR.slots = 0 := by rw [hRR]; rfl
  have hl := lv_entry ([.ref (ma 0), .int (nI (h)), .int (nI (v)), .int (bI (ee))]) (n := 5) (Nat.le_of_ble_eq_true rfl)
  have hent : entryFrame m args 5 = F0 m 0 ((lg_sl ([.ref (ma 0), .int (nI (h)), .int (nI (v)), .int (bI (ee))]) ++ List.replicate (5 - (lg_sl ([.ref (ma 0), .int (nI (h)), .int (nI (v)), .int (bI (ee))])).length) Slot.unset).toArray) [] := by rw [hargs, lg_entry_eq]
  rw [hent]
  generalize (lg_sl ([.ref (ma 0), .int (nI (h)), .int (nI (v)), .int (bI (ee))]) ++ List.replicate (5 - (lg_sl ([.ref (ma 0), .int (nI (h)), .int (nI (v)), .int (bI (ee))])).length) Slot.unset).toArray = ls at hl ⊢
  have hl : lv_has ls 5 [(0, .ref (ma 0)), (1, .int (nI (h))), (2, .int (nI (v))), (3, .int (bI (ee)))] := hl
  subst hsz
  have hD := hD0.self (sz := s.heap.size)
  generalize hAe : va_A (wM g ma P S) s.heap.size = A at hD ⊢
  have hA : ∀ q : Nat, s.heap.size ≤ q → A q := fun q h => by rw [← hAe]; exact Or.inr h
  have hS : va_S A s.heap s.heap [] := va_S.rf
  refine q_ab (R := RR) hRR ?_
  generalize hQQ : MQ below _ args s _ _ _ = QQ
  refine lv_aload_n hx hb dX5_place_0 rfl (lv_at hl 0 rfl) ?_
  refine va_get (D := g.1) (ci := 5) (v := .int (nI (sN S))) (C := RX5) (T := TX5) (N := 23) hx hb hts hiX5 hown hK.1 hP 0 rfl rfl 15 (by decide) (hts _ w_fl_X5_94) (fun _ h9 => h9) rfl dX5_place_1 ?_
  refine lv_istore (lv' := [(4, .int (nI (sN S))), (0, .ref (ma 0)), (1, .int (nI (h))), (2, .int (nI (v))), (3, .int (bI (ee)))]) hx hb dX5_place_4 hl (by decide) rfl (fun ls hl => ?_)
  have loop : ∀ (k9 : Nat) (j : Nat) (H : Heap) (locs : List Loc) (ls : Array Slot), (i ≤ j) → (j ≤ sN S) → (j < i + k9) → va_P g.1 vwCl (wM g ma P (usE (usS (usH S (shf (sH S) j (sN S))) (shf (sS S) j (sN S))) (shf (sE S) j (sN S)))) H → va_D A (wM g ma P (usE (usS (usH S (shf (sH S) j (sN S))) (shf (sS S) j (sN S))) (shf (sE S) j (sN S)))) → va_S A s.heap H locs → lv_has ls 5 [(0, .ref (ma 0)), (1, .int (nI (h))), (2, .int (nI (v))), (3, .int (bI (ee))), (4, .int (nI (j)))] → W p l e RR s m args below meth c H locs 0 0 QQ (F0 m 6 ls []) := by
    intro k9
    induction k9 with
    | zero => intro j H locs ls hj hj2 hk hP hD hS hl; exact absurd hk (by omega)
    | succ k9 ih =>
      intro j H locs ls hj hj2 hk hP hD hS hl
      refine lv_iload hx hb dX5_place_6 (lv_at hl 4 rfl) ?_
      refine bz_le (tgt := 95) hx hb (by omega) dX5_place_8 (by decide) (fun c1 => ?_) (fun c1 => ?_)
      · have hji : i = j := by omega
        subst hji
        refine lv_aload_n hx hb dX5_place_95 rfl (lv_at hl 0 rfl) ?_
        refine va_get (D := g.1) (ci := 5) (v := .ref (ma 10)) (C := RX5) (T := TX5) (N := 23) hx hb hts hiX5 hown hK.1 hP 0 rfl rfl 16 (by decide) (hts _ w_fl_X5_54) (fun _ h9 => h9) rfl dX5_place_96 ?_
        refine lv_iload hx hb dX5_place_99 (lv_at hl 4 rfl) ?_
        refine lv_iload_n hx hb dX5_place_101 rfl (lv_at hl 1 rfl) ?_
        refine n_iastE (enc := nI) (f := shf (sH S) i (sN S)) (x := h) (k := i) hx hb hK.1 hP hD hS 10 0 rfl rfl (by omega) (by decide) dX5_place_102 (fun H locs hP hD hS => ?_)
        have hP : va_P g.1 vwCl (wM g ma P (usE (usS (usH S (insA (sH S) i (sN S) h)) (shf (sS S) i (sN S))) (shf (sE S) i (sN S)))) H := hP
        have hD : va_D A (wM g ma P (usE (usS (usH S (insA (sH S) i (sN S) h)) (shf (sS S) i (sN S))) (shf (sE S) i (sN S)))) := hD
        refine lv_aload_n hx hb dX5_place_103 rfl (lv_at hl 0 rfl) ?_
        refine va_get (D := g.1) (ci := 5) (v := .ref (ma 11)) (C := RX5) (T := TX5) (N := 23) hx hb hts hiX5 hown hK.1 hP 0 rfl rfl 17 (by decide) (hts _ w_fl_X5_57) (fun _ h9 => h9) rfl dX5_place_104 ?_
        refine lv_iload hx hb dX5_place_107 (lv_at hl 4 rfl) ?_
        refine lv_iload_n hx hb dX5_place_109 rfl (lv_at hl 2 rfl) ?_
        refine n_iastE (enc := nI) (f := shf (sS S) i (sN S)) (x := v) (k := i) hx hb hK.1 hP hD hS 11 0 rfl rfl (by omega) (by decide) dX5_place_110 (fun H locs hP hD hS => ?_)
        have hP : va_P g.1 vwCl (wM g ma P (usE (usS (usH S (insA (sH S) i (sN S) h)) (insA (sS S) i (sN S) v)) (shf (sE S) i (sN S)))) H := hP
        have hD : va_D A (wM g ma P (usE (usS (usH S (insA (sH S) i (sN S) h)) (insA (sS S) i (sN S) v)) (shf (sE S) i (sN S)))) := hD
        refine lv_aload_n hx hb dX5_place_111 rfl (lv_at hl 0 rfl) ?_
        refine va_get (D := g.1) (ci := 5) (v := .ref (ma 12)) (C := RX5) (T := TX5) (N := 23) hx hb hts hiX5 hown hK.1 hP 0 rfl rfl 18 (by decide) (hts _ w_fl_X5_60) (fun _ h9 => h9) rfl dX5_place_112 ?_
        refine lv_iload hx hb dX5_place_115 (lv_at hl 4 rfl) ?_
        refine lv_iload_n hx hb dX5_place_117 rfl (lv_at hl 3 rfl) ?_
        refine n_zastE (f := shf (sE S) i (sN S)) (x := ee) (k := i) hx hb hK.1 hP hD hS 12 1 rfl rfl (by omega) (by decide) dX5_place_118 (fun H locs hP hD hS => ?_)
        have hP : va_P g.1 vwCl (wM g ma P (usE (usS (usH S (insA (sH S) i (sN S) h)) (insA (sS S) i (sN S) v)) (insA (sE S) i (sN S) ee))) H := hP
        have hD : va_D A (wM g ma P (usE (usS (usH S (insA (sH S) i (sN S) h)) (insA (sS S) i (sN S) v)) (insA (sE S) i (sN S) ee))) := hD
        refine lv_aload_n hx hb dX5_place_119 rfl (lv_at hl 0 rfl) ?_
        refine lv_dup hx hb dX5_place_120 rfl ?_
        refine va_get (D := g.1) (ci := 5) (v := .int (nI (sN (usE (usS (usH S (insA (sH S) i (sN S) h)) (insA (sS S) i (sN S) v)) (insA (sE S) i (sN S) ee))))) (C := RX5) (T := TX5) (N := 23) hx hb hts hiX5 hown hK.1 hP 0 rfl rfl 15 (by decide) (hts _ w_fl_X5_94) (fun _ h9 => h9) rfl dX5_place_121 ?_
        refine lv_iconst (v := nI (1)) hx hb dX5_place_124 (by decide) ?_
        refine n_iadd hx hb dX5_place_125 ?_
        refine va_put (D := g.1) (ci := 5) (v := .int (nI (sN S + 1))) (ty := .int) (C := RX5) (T := TX5) (N := 23) hx hb hts hiX5 tyX5 tyX5_ok nmX5 hown hK.1 hP hD hS 0 rfl rfl 15 (by decide) (hts _ w_fl_X5_94) (fun _ h9 => h9) rfl (by decide +kernel) rfl rfl (Nat.le_of_ble_eq_true rfl) dX5_place_126 (fun H locs hP hD hS => ?_)
        have hP : va_P g.1 vwCl (wM g ma P (plS S i h v ee)) H := hP
        have hD : va_D A (wM g ma P (plS S i h v ee)) := hD
        subst hQQ
        exact W.vret hx hb hr (fun t9 ht _ => ⟨⟨(), rfl, trivial, hpT ht hP⟩, hS.F ht⟩) hS.2.2 dX5_place_129
      · have hbj := hb9 (j - 1) (by omega)
        refine lv_aload_n hx hb dX5_place_11 rfl (lv_at hl 0 rfl) ?_
        refine va_get (D := g.1) (ci := 5) (v := .ref (ma 10)) (C := RX5) (T := TX5) (N := 23) hx hb hts hiX5 hown hK.1 hP 0 rfl rfl 16 (by decide) (hts _ w_fl_X5_54) (fun _ h9 => h9) rfl dX5_place_12 ?_
        refine lv_iload hx hb dX5_place_15 (lv_at hl 4 rfl) ?_
        refine lv_iconst (v := nI (1)) hx hb dX5_place_17 (by decide) ?_
        refine n_isub hx hb (by omega) dX5_place_18 ?_
        refine n_iald (k := j - 1) (v := nI (sH S (j - 1))) hx hb hK.1 hP 10 0 rfl rfl (by omega) (by decide) (by show nI (shf (sH S) j (sN S) (j - 1)) = _; rw [shf_lo (by omega)]) dX5_place_19 ?_
        refine lv_iload_n hx hb dX5_place_20 rfl (lv_at hl 1 rfl) ?_
        refine bn_gt (tgt := 41) hx hb (by omega) (by omega) dX5_place_21 (by decide) (fun c2 => ?_) (fun c2 => ?_)
        · have hcd : h < sH S (j - 1) ∨ (sH S (j - 1) = h ∧ ee = false) := Or.inl c2
          have hij : i < j := by
            rcases Nat.lt_or_ge i j with z | z
            · exact z
            · exact absurd hcd (h2 (j - 1) (by omega))
          refine lv_aload_n hx hb dX5_place_41 rfl (lv_at hl 0 rfl) ?_
          refine va_get (D := g.1) (ci := 5) (v := .ref (ma 10)) (C := RX5) (T := TX5) (N := 23) hx hb hts hiX5 hown hK.1 hP 0 rfl rfl 16 (by decide) (hts _ w_fl_X5_54) (fun _ h9 => h9) rfl dX5_place_42 ?_
          refine lv_iload hx hb dX5_place_45 (lv_at hl 4 rfl) ?_
          refine lv_aload_n hx hb dX5_place_47 rfl (lv_at hl 0 rfl) ?_
          refine va_get (D := g.1) (ci := 5) (v := .ref (ma 10)) (C := RX5) (T := TX5) (N := 23) hx hb hts hiX5 hown hK.1 hP 0 rfl rfl 16 (by decide) (hts _ w_fl_X5_54) (fun _ h9 => h9) rfl dX5_place_48 ?_
          refine lv_iload hx hb dX5_place_51 (lv_at hl 4 rfl) ?_
          refine lv_iconst (v := nI (1)) hx hb dX5_place_53 (by decide) ?_
          refine n_isub hx hb (by omega) dX5_place_54 ?_
          refine n_iald (k := j - 1) (v := nI (sH S (j - 1))) hx hb hK.1 hP 10 0 rfl rfl (by omega) (by decide) (by show nI (shf (sH S) j (sN S) (j - 1)) = _; rw [shf_lo (by omega)]) dX5_place_55 ?_
          refine tp_i (y := nI (shf (sH S) j (sN S) (j - 1))) (by rw [shf_lo (by omega)]) ?_
          refine n_iastE (enc := nI) (f := shf (sH S) j (sN S)) (x := shf (sH S) j (sN S) (j - 1)) (k := j) hx hb hK.1 hP hD hS 10 0 rfl rfl (by omega) (by decide) dX5_place_56 (fun H locs hP hD hS => ?_)
          have hP : va_P g.1 vwCl (wM g ma P (usE (usS (usH S (va_up (shf (sH S) j (sN S)) j (shf (sH S) j (sN S) (j - 1)))) (shf (sS S) j (sN S))) (shf (sE S) j (sN S)))) H := hP
          have hD : va_D A (wM g ma P (usE (usS (usH S (va_up (shf (sH S) j (sN S)) j (shf (sH S) j (sN S) (j - 1)))) (shf (sS S) j (sN S))) (shf (sE S) j (sN S)))) := hD
          refine lv_aload_n hx hb dX5_place_57 rfl (lv_at hl 0 rfl) ?_
          refine va_get (D := g.1) (ci := 5) (v := .ref (ma 11)) (C := RX5) (T := TX5) (N := 23) hx hb hts hiX5 hown hK.1 hP 0 rfl rfl 17 (by decide) (hts _ w_fl_X5_57) (fun _ h9 => h9) rfl dX5_place_58 ?_
          refine lv_iload hx hb dX5_place_61 (lv_at hl 4 rfl) ?_
          refine lv_aload_n hx hb dX5_place_63 rfl (lv_at hl 0 rfl) ?_
          refine va_get (D := g.1) (ci := 5) (v := .ref (ma 11)) (C := RX5) (T := TX5) (N := 23) hx hb hts hiX5 hown hK.1 hP 0 rfl rfl 17 (by decide) (hts _ w_fl_X5_57) (fun _ h9 => h9) rfl dX5_place_64 ?_
          refine lv_iload hx hb dX5_place_67 (lv_at hl 4 rfl) ?_
          refine lv_iconst (v := nI (1)) hx hb dX5_place_69 (by decide) ?_
          refine n_isub hx hb (by omega) dX5_place_70 ?_
          refine n_iald (k := j - 1) (v := nI (sS S (j - 1))) hx hb hK.1 hP 11 0 rfl rfl (by omega) (by decide) (by show nI (shf (sS S) j (sN S) (j - 1)) = _; rw [shf_lo (by omega)]) dX5_place_71 ?_
          refine tp_i (y := nI (shf (sS S) j (sN S) (j - 1))) (by rw [shf_lo (by omega)]) ?_
          refine n_iastE (enc := nI) (f := shf (sS S) j (sN S)) (x := shf (sS S) j (sN S) (j - 1)) (k := j) hx hb hK.1 hP hD hS 11 0 rfl rfl (by omega) (by decide) dX5_place_72 (fun H locs hP hD hS => ?_)
          have hP : va_P g.1 vwCl (wM g ma P (usE (usS (usH S (va_up (shf (sH S) j (sN S)) j (shf (sH S) j (sN S) (j - 1)))) (va_up (shf (sS S) j (sN S)) j (shf (sS S) j (sN S) (j - 1)))) (shf (sE S) j (sN S)))) H := hP
          have hD : va_D A (wM g ma P (usE (usS (usH S (va_up (shf (sH S) j (sN S)) j (shf (sH S) j (sN S) (j - 1)))) (va_up (shf (sS S) j (sN S)) j (shf (sS S) j (sN S) (j - 1)))) (shf (sE S) j (sN S)))) := hD
          refine lv_aload_n hx hb dX5_place_73 rfl (lv_at hl 0 rfl) ?_
          refine va_get (D := g.1) (ci := 5) (v := .ref (ma 12)) (C := RX5) (T := TX5) (N := 23) hx hb hts hiX5 hown hK.1 hP 0 rfl rfl 18 (by decide) (hts _ w_fl_X5_60) (fun _ h9 => h9) rfl dX5_place_74 ?_
          refine lv_iload hx hb dX5_place_77 (lv_at hl 4 rfl) ?_
          refine lv_aload_n hx hb dX5_place_79 rfl (lv_at hl 0 rfl) ?_
          refine va_get (D := g.1) (ci := 5) (v := .ref (ma 12)) (C := RX5) (T := TX5) (N := 23) hx hb hts hiX5 hown hK.1 hP 0 rfl rfl 18 (by decide) (hts _ w_fl_X5_60) (fun _ h9 => h9) rfl dX5_place_80 ?_
          refine lv_iload hx hb dX5_place_83 (lv_at hl 4 rfl) ?_
          refine lv_iconst (v := nI (1)) hx hb dX5_place_85 (by decide) ?_
          refine n_isub hx hb (by omega) dX5_place_86 ?_
          refine n_zald (k := j - 1) (v := bI (sE S (j - 1))) hx hb hK.1 hP 12 1 rfl rfl (by omega) (by decide) (by show bI (shf (sE S) j (sN S) (j - 1)) = _; rw [shf_lo (by omega)]) dX5_place_87 ?_
          refine tp_i (y := bI (shf (sE S) j (sN S) (j - 1))) (by rw [shf_lo (by omega)]) ?_
          refine n_zastE (f := shf (sE S) j (sN S)) (x := shf (sE S) j (sN S) (j - 1)) (k := j) hx hb hK.1 hP hD hS 12 1 rfl rfl (by omega) (by decide) dX5_place_88 (fun H locs hP hD hS => ?_)
          have hP : va_P g.1 vwCl (wM g ma P (usE (usS (usH S (va_up (shf (sH S) j (sN S)) j (shf (sH S) j (sN S) (j - 1)))) (va_up (shf (sS S) j (sN S)) j (shf (sS S) j (sN S) (j - 1)))) (va_up (shf (sE S) j (sN S)) j (shf (sE S) j (sN S) (j - 1))))) H := hP
          have hD : va_D A (wM g ma P (usE (usS (usH S (va_up (shf (sH S) j (sN S)) j (shf (sH S) j (sN S) (j - 1)))) (va_up (shf (sS S) j (sN S)) j (shf (sS S) j (sN S) (j - 1)))) (va_up (shf (sE S) j (sN S)) j (shf (sE S) j (sN S) (j - 1))))) := hD
          rw [shf_s (sH S) (by omega) hj2, shf_s (sS S) (by omega) hj2, shf_s (sE S) (by omega) hj2] at hP hD
          refine lv_iinc (v := nI (j - 1)) (lv' := [(4, .int (nI (j - 1))), (0, .ref (ma 0)), (1, .int (nI (h))), (2, .int (nI (v))), (3, .int (bI (ee)))]) hx hb dX5_place_89 hl (k := 4) rfl (n_dec (by omega)) (by decide) rfl (fun ls hl => ?_)
          refine lv_goto (tgt := 6) hx hb dX5_place_92 (by decide) ?_
          exact ih (j - 1) H locs ls (by omega) (by omega) (by omega) hP hD hS (lv_sub hl [1, 2, 3, 4, 0] rfl)
        · refine lv_aload_n hx hb dX5_place_24 rfl (lv_at hl 0 rfl) ?_
          refine va_get (D := g.1) (ci := 5) (v := .ref (ma 10)) (C := RX5) (T := TX5) (N := 23) hx hb hts hiX5 hown hK.1 hP 0 rfl rfl 16 (by decide) (hts _ w_fl_X5_54) (fun _ h9 => h9) rfl dX5_place_25 ?_
          refine lv_iload hx hb dX5_place_28 (lv_at hl 4 rfl) ?_
          refine lv_iconst (v := nI (1)) hx hb dX5_place_30 (by decide) ?_
          refine n_isub hx hb (by omega) dX5_place_31 ?_
          refine n_iald (k := j - 1) (v := nI (sH S (j - 1))) hx hb hK.1 hP 10 0 rfl rfl (by omega) (by decide) (by show nI (shf (sH S) j (sN S) (j - 1)) = _; rw [shf_lo (by omega)]) dX5_place_32 ?_
          refine lv_iload_n hx hb dX5_place_33 rfl (lv_at hl 1 rfl) ?_
          refine bn_ne (tgt := 95) hx hb (by omega) (by omega) dX5_place_34 (by decide) (fun c3 => ?_) (fun c3 => ?_)
          · have hji : i = j := by
              rcases Nat.lt_or_ge i j with z | z
              · exact absurd (h1 (j - 1) (by omega) (by omega)) (by rintro (z2 | z2); exact absurd z2 (by omega); exact c3 z2.1)
              · omega
            subst hji
            refine lv_aload_n hx hb dX5_place_95 rfl (lv_at hl 0 rfl) ?_
            refine va_get (D := g.1) (ci := 5) (v := .ref (ma 10)) (C := RX5) (T := TX5) (N := 23) hx hb hts hiX5 hown hK.1 hP 0 rfl rfl 16 (by decide) (hts _ w_fl_X5_54) (fun _ h9 => h9) rfl dX5_place_96 ?_
            refine lv_iload hx hb dX5_place_99 (lv_at hl 4 rfl) ?_
            refine lv_iload_n hx hb dX5_place_101 rfl (lv_at hl 1 rfl) ?_
            refine n_iastE (enc := nI) (f := shf (sH S) i (sN S)) (x := h) (k := i) hx hb hK.1 hP hD hS 10 0 rfl rfl (by omega) (by decide) dX5_place_102 (fun H locs hP hD hS => ?_)
            have hP : va_P g.1 vwCl (wM g ma P (usE (usS (usH S (insA (sH S) i (sN S) h)) (shf (sS S) i (sN S))) (shf (sE S) i (sN S)))) H := hP
            have hD : va_D A (wM g ma P (usE (usS (usH S (insA (sH S) i (sN S) h)) (shf (sS S) i (sN S))) (shf (sE S) i (sN S)))) := hD
            refine lv_aload_n hx hb dX5_place_103 rfl (lv_at hl 0 rfl) ?_
            refine va_get (D := g.1) (ci := 5) (v := .ref (ma 11)) (C := RX5) (T := TX5) (N := 23) hx hb hts hiX5 hown hK.1 hP 0 rfl rfl 17 (by decide) (hts _ w_fl_X5_57) (fun _ h9 => h9) rfl dX5_place_104 ?_
            refine lv_iload hx hb dX5_place_107 (lv_at hl 4 rfl) ?_
            refine lv_iload_n hx hb dX5_place_109 rfl (lv_at hl 2 rfl) ?_
            refine n_iastE (enc := nI) (f := shf (sS S) i (sN S)) (x := v) (k := i) hx hb hK.1 hP hD hS 11 0 rfl rfl (by omega) (by decide) dX5_place_110 (fun H locs hP hD hS => ?_)
            have hP : va_P g.1 vwCl (wM g ma P (usE (usS (usH S (insA (sH S) i (sN S) h)) (insA (sS S) i (sN S) v)) (shf (sE S) i (sN S)))) H := hP
            have hD : va_D A (wM g ma P (usE (usS (usH S (insA (sH S) i (sN S) h)) (insA (sS S) i (sN S) v)) (shf (sE S) i (sN S)))) := hD
            refine lv_aload_n hx hb dX5_place_111 rfl (lv_at hl 0 rfl) ?_
            refine va_get (D := g.1) (ci := 5) (v := .ref (ma 12)) (C := RX5) (T := TX5) (N := 23) hx hb hts hiX5 hown hK.1 hP 0 rfl rfl 18 (by decide) (hts _ w_fl_X5_60) (fun _ h9 => h9) rfl dX5_place_112 ?_
            refine lv_iload hx hb dX5_place_115 (lv_at hl 4 rfl) ?_
            refine lv_iload_n hx hb dX5_place_117 rfl (lv_at hl 3 rfl) ?_
            refine n_zastE (f := shf (sE S) i (sN S)) (x := ee) (k := i) hx hb hK.1 hP hD hS 12 1 rfl rfl (by omega) (by decide) dX5_place_118 (fun H locs hP hD hS => ?_)
            have hP : va_P g.1 vwCl (wM g ma P (usE (usS (usH S (insA (sH S) i (sN S) h)) (insA (sS S) i (sN S) v)) (insA (sE S) i (sN S) ee))) H := hP
            have hD : va_D A (wM g ma P (usE (usS (usH S (insA (sH S) i (sN S) h)) (insA (sS S) i (sN S) v)) (insA (sE S) i (sN S) ee))) := hD
            refine lv_aload_n hx hb dX5_place_119 rfl (lv_at hl 0 rfl) ?_
            refine lv_dup hx hb dX5_place_120 rfl ?_
            refine va_get (D := g.1) (ci := 5) (v := .int (nI (sN (usE (usS (usH S (insA (sH S) i (sN S) h)) (insA (sS S) i (sN S) v)) (insA (sE S) i (sN S) ee))))) (C := RX5) (T := TX5) (N := 23) hx hb hts hiX5 hown hK.1 hP 0 rfl rfl 15 (by decide) (hts _ w_fl_X5_94) (fun _ h9 => h9) rfl dX5_place_121 ?_
            refine lv_iconst (v := nI (1)) hx hb dX5_place_124 (by decide) ?_
            refine n_iadd hx hb dX5_place_125 ?_
            refine va_put (D := g.1) (ci := 5) (v := .int (nI (sN S + 1))) (ty := .int) (C := RX5) (T := TX5) (N := 23) hx hb hts hiX5 tyX5 tyX5_ok nmX5 hown hK.1 hP hD hS 0 rfl rfl 15 (by decide) (hts _ w_fl_X5_94) (fun _ h9 => h9) rfl (by decide +kernel) rfl rfl (Nat.le_of_ble_eq_true rfl) dX5_place_126 (fun H locs hP hD hS => ?_)
            have hP : va_P g.1 vwCl (wM g ma P (plS S i h v ee)) H := hP
            have hD : va_D A (wM g ma P (plS S i h v ee)) := hD
            subst hQQ
            exact W.vret hx hb hr (fun t9 ht _ => ⟨⟨(), rfl, trivial, hpT ht hP⟩, hS.F ht⟩) hS.2.2 dX5_place_129
          · refine lv_iload_n hx hb dX5_place_37 rfl (lv_at hl 3 rfl) ?_
            refine bb_ne (tgt := 95) hx hb dX5_place_38 (by decide) (fun c4 => ?_) (fun c4 => ?_)
            · have hji : i = j := by
                rcases Nat.lt_or_ge i j with z | z
                · exact absurd (h1 (j - 1) (by omega) (by omega)) (by rintro (z2 | z2); exact absurd z2 (by omega); rw [c4] at z2; exact absurd z2.2 (by decide))
                · omega
              subst hji
              refine lv_aload_n hx hb dX5_place_95 rfl (lv_at hl 0 rfl) ?_
              refine va_get (D := g.1) (ci := 5) (v := .ref (ma 10)) (C := RX5) (T := TX5) (N := 23) hx hb hts hiX5 hown hK.1 hP 0 rfl rfl 16 (by decide) (hts _ w_fl_X5_54) (fun _ h9 => h9) rfl dX5_place_96 ?_
              refine lv_iload hx hb dX5_place_99 (lv_at hl 4 rfl) ?_
              refine lv_iload_n hx hb dX5_place_101 rfl (lv_at hl 1 rfl) ?_
              refine n_iastE (enc := nI) (f := shf (sH S) i (sN S)) (x := h) (k := i) hx hb hK.1 hP hD hS 10 0 rfl rfl (by omega) (by decide) dX5_place_102 (fun H locs hP hD hS => ?_)
              have hP : va_P g.1 vwCl (wM g ma P (usE (usS (usH S (insA (sH S) i (sN S) h)) (shf (sS S) i (sN S))) (shf (sE S) i (sN S)))) H := hP
              have hD : va_D A (wM g ma P (usE (usS (usH S (insA (sH S) i (sN S) h)) (shf (sS S) i (sN S))) (shf (sE S) i (sN S)))) := hD
              refine lv_aload_n hx hb dX5_place_103 rfl (lv_at hl 0 rfl) ?_
              refine va_get (D := g.1) (ci := 5) (v := .ref (ma 11)) (C := RX5) (T := TX5) (N := 23) hx hb hts hiX5 hown hK.1 hP 0 rfl rfl 17 (by decide) (hts _ w_fl_X5_57) (fun _ h9 => h9) rfl dX5_place_104 ?_
              refine lv_iload hx hb dX5_place_107 (lv_at hl 4 rfl) ?_
              refine lv_iload_n hx hb dX5_place_109 rfl (lv_at hl 2 rfl) ?_
              refine n_iastE (enc := nI) (f := shf (sS S) i (sN S)) (x := v) (k := i) hx hb hK.1 hP hD hS 11 0 rfl rfl (by omega) (by decide) dX5_place_110 (fun H locs hP hD hS => ?_)
              have hP : va_P g.1 vwCl (wM g ma P (usE (usS (usH S (insA (sH S) i (sN S) h)) (insA (sS S) i (sN S) v)) (shf (sE S) i (sN S)))) H := hP
              have hD : va_D A (wM g ma P (usE (usS (usH S (insA (sH S) i (sN S) h)) (insA (sS S) i (sN S) v)) (shf (sE S) i (sN S)))) := hD
              refine lv_aload_n hx hb dX5_place_111 rfl (lv_at hl 0 rfl) ?_
              refine va_get (D := g.1) (ci := 5) (v := .ref (ma 12)) (C := RX5) (T := TX5) (N := 23) hx hb hts hiX5 hown hK.1 hP 0 rfl rfl 18 (by decide) (hts _ w_fl_X5_60) (fun _ h9 => h9) rfl dX5_place_112 ?_
              refine lv_iload hx hb dX5_place_115 (lv_at hl 4 rfl) ?_
              refine lv_iload_n hx hb dX5_place_117 rfl (lv_at hl 3 rfl) ?_
              refine n_zastE (f := shf (sE S) i (sN S)) (x := ee) (k := i) hx hb hK.1 hP hD hS 12 1 rfl rfl (by omega) (by decide) dX5_place_118 (fun H locs hP hD hS => ?_)
              have hP : va_P g.1 vwCl (wM g ma P (usE (usS (usH S (insA (sH S) i (sN S) h)) (insA (sS S) i (sN S) v)) (insA (sE S) i (sN S) ee))) H := hP
              have hD : va_D A (wM g ma P (usE (usS (usH S (insA (sH S) i (sN S) h)) (insA (sS S) i (sN S) v)) (insA (sE S) i (sN S) ee))) := hD
              refine lv_aload_n hx hb dX5_place_119 rfl (lv_at hl 0 rfl) ?_
              refine lv_dup hx hb dX5_place_120 rfl ?_
              refine va_get (D := g.1) (ci := 5) (v := .int (nI (sN (usE (usS (usH S (insA (sH S) i (sN S) h)) (insA (sS S) i (sN S) v)) (insA (sE S) i (sN S) ee))))) (C := RX5) (T := TX5) (N := 23) hx hb hts hiX5 hown hK.1 hP 0 rfl rfl 15 (by decide) (hts _ w_fl_X5_94) (fun _ h9 => h9) rfl dX5_place_121 ?_
              refine lv_iconst (v := nI (1)) hx hb dX5_place_124 (by decide) ?_
              refine n_iadd hx hb dX5_place_125 ?_
              refine va_put (D := g.1) (ci := 5) (v := .int (nI (sN S + 1))) (ty := .int) (C := RX5) (T := TX5) (N := 23) hx hb hts hiX5 tyX5 tyX5_ok nmX5 hown hK.1 hP hD hS 0 rfl rfl 15 (by decide) (hts _ w_fl_X5_94) (fun _ h9 => h9) rfl (by decide +kernel) rfl rfl (Nat.le_of_ble_eq_true rfl) dX5_place_126 (fun H locs hP hD hS => ?_)
              have hP : va_P g.1 vwCl (wM g ma P (plS S i h v ee)) H := hP
              have hD : va_D A (wM g ma P (plS S i h v ee)) := hD
              subst hQQ
              exact W.vret hx hb hr (fun t9 ht _ => ⟨⟨(), rfl, trivial, hpT ht hP⟩, hS.F ht⟩) hS.2.2 dX5_place_129
            · have hcd : h < sH S (j - 1) ∨ (sH S (j - 1) = h ∧ ee = false) := Or.inr ⟨c3, c4⟩
              have hij : i < j := by
                rcases Nat.lt_or_ge i j with z | z
                · exact z
                · exact absurd hcd (h2 (j - 1) (by omega))
              refine lv_aload_n hx hb dX5_place_41 rfl (lv_at hl 0 rfl) ?_
              refine va_get (D := g.1) (ci := 5) (v := .ref (ma 10)) (C := RX5) (T := TX5) (N := 23) hx hb hts hiX5 hown hK.1 hP 0 rfl rfl 16 (by decide) (hts _ w_fl_X5_54) (fun _ h9 => h9) rfl dX5_place_42 ?_
              refine lv_iload hx hb dX5_place_45 (lv_at hl 4 rfl) ?_
              refine lv_aload_n hx hb dX5_place_47 rfl (lv_at hl 0 rfl) ?_
              refine va_get (D := g.1) (ci := 5) (v := .ref (ma 10)) (C := RX5) (T := TX5) (N := 23) hx hb hts hiX5 hown hK.1 hP 0 rfl rfl 16 (by decide) (hts _ w_fl_X5_54) (fun _ h9 => h9) rfl dX5_place_48 ?_
              refine lv_iload hx hb dX5_place_51 (lv_at hl 4 rfl) ?_
              refine lv_iconst (v := nI (1)) hx hb dX5_place_53 (by decide) ?_
              refine n_isub hx hb (by omega) dX5_place_54 ?_
              refine n_iald (k := j - 1) (v := nI (sH S (j - 1))) hx hb hK.1 hP 10 0 rfl rfl (by omega) (by decide) (by show nI (shf (sH S) j (sN S) (j - 1)) = _; rw [shf_lo (by omega)]) dX5_place_55 ?_
              refine tp_i (y := nI (shf (sH S) j (sN S) (j - 1))) (by rw [shf_lo (by omega)]) ?_
              refine n_iastE (enc := nI) (f := shf (sH S) j (sN S)) (x := shf (sH S) j (sN S) (j - 1)) (k := j) hx hb hK.1 hP hD hS 10 0 rfl rfl (by omega) (by decide) dX5_place_56 (fun H locs hP hD hS => ?_)
              have hP : va_P g.1 vwCl (wM g ma P (usE (usS (usH S (va_up (shf (sH S) j (sN S)) j (shf (sH S) j (sN S) (j - 1)))) (shf (sS S) j (sN S))) (shf (sE S) j (sN S)))) H := hP
              have hD : va_D A (wM g ma P (usE (usS (usH S (va_up (shf (sH S) j (sN S)) j (shf (sH S) j (sN S) (j - 1)))) (shf (sS S) j (sN S))) (shf (sE S) j (sN S)))) := hD
              refine lv_aload_n hx hb dX5_place_57 rfl (lv_at hl 0 rfl) ?_
              refine va_get (D := g.1) (ci := 5) (v := .ref (ma 11)) (C := RX5) (T := TX5) (N := 23) hx hb hts hiX5 hown hK.1 hP 0 rfl rfl 17 (by decide) (hts _ w_fl_X5_57) (fun _ h9 => h9) rfl dX5_place_58 ?_
              refine lv_iload hx hb dX5_place_61 (lv_at hl 4 rfl) ?_
              refine lv_aload_n hx hb dX5_place_63 rfl (lv_at hl 0 rfl) ?_
              refine va_get (D := g.1) (ci := 5) (v := .ref (ma 11)) (C := RX5) (T := TX5) (N := 23) hx hb hts hiX5 hown hK.1 hP 0 rfl rfl 17 (by decide) (hts _ w_fl_X5_57) (fun _ h9 => h9) rfl dX5_place_64 ?_
              refine lv_iload hx hb dX5_place_67 (lv_at hl 4 rfl) ?_
              refine lv_iconst (v := nI (1)) hx hb dX5_place_69 (by decide) ?_
              refine n_isub hx hb (by omega) dX5_place_70 ?_
              refine n_iald (k := j - 1) (v := nI (sS S (j - 1))) hx hb hK.1 hP 11 0 rfl rfl (by omega) (by decide) (by show nI (shf (sS S) j (sN S) (j - 1)) = _; rw [shf_lo (by omega)]) dX5_place_71 ?_
              refine tp_i (y := nI (shf (sS S) j (sN S) (j - 1))) (by rw [shf_lo (by omega)]) ?_
              refine n_iastE (enc := nI) (f := shf (sS S) j (sN S)) (x := shf (sS S) j (sN S) (j - 1)) (k := j) hx hb hK.1 hP hD hS 11 0 rfl rfl (by omega) (by decide) dX5_place_72 (fun H locs hP hD hS => ?_)
              have hP : va_P g.1 vwCl (wM g ma P (usE (usS (usH S (va_up (shf (sH S) j (sN S)) j (shf (sH S) j (sN S) (j - 1)))) (va_up (shf (sS S) j (sN S)) j (shf (sS S) j (sN S) (j - 1)))) (shf (sE S) j (sN S)))) H := hP
              have hD : va_D A (wM g ma P (usE (usS (usH S (va_up (shf (sH S) j (sN S)) j (shf (sH S) j (sN S) (j - 1)))) (va_up (shf (sS S) j (sN S)) j (shf (sS S) j (sN S) (j - 1)))) (shf (sE S) j (sN S)))) := hD
              refine lv_aload_n hx hb dX5_place_73 rfl (lv_at hl 0 rfl) ?_
              refine va_get (D := g.1) (ci := 5) (v := .ref (ma 12)) (C := RX5) (T := TX5) (N := 23) hx hb hts hiX5 hown hK.1 hP 0 rfl rfl 18 (by decide) (hts _ w_fl_X5_60) (fun _ h9 => h9) rfl dX5_place_74 ?_
              refine lv_iload hx hb dX5_place_77 (lv_at hl 4 rfl) ?_
              refine lv_aload_n hx hb dX5_place_79 rfl (lv_at hl 0 rfl) ?_
              refine va_get (D := g.1) (ci := 5) (v := .ref (ma 12)) (C := RX5) (T := TX5) (N := 23) hx hb hts hiX5 hown hK.1 hP 0 rfl rfl 18 (by decide) (hts _ w_fl_X5_60) (fun _ h9 => h9) rfl dX5_place_80 ?_
              refine lv_iload hx hb dX5_place_83 (lv_at hl 4 rfl) ?_
              refine lv_iconst (v := nI (1)) hx hb dX5_place_85 (by decide) ?_
              refine n_isub hx hb (by omega) dX5_place_86 ?_
              refine n_zald (k := j - 1) (v := bI (sE S (j - 1))) hx hb hK.1 hP 12 1 rfl rfl (by omega) (by decide) (by show bI (shf (sE S) j (sN S) (j - 1)) = _; rw [shf_lo (by omega)]) dX5_place_87 ?_
              refine tp_i (y := bI (shf (sE S) j (sN S) (j - 1))) (by rw [shf_lo (by omega)]) ?_
              refine n_zastE (f := shf (sE S) j (sN S)) (x := shf (sE S) j (sN S) (j - 1)) (k := j) hx hb hK.1 hP hD hS 12 1 rfl rfl (by omega) (by decide) dX5_place_88 (fun H locs hP hD hS => ?_)
              have hP : va_P g.1 vwCl (wM g ma P (usE (usS (usH S (va_up (shf (sH S) j (sN S)) j (shf (sH S) j (sN S) (j - 1)))) (va_up (shf (sS S) j (sN S)) j (shf (sS S) j (sN S) (j - 1)))) (va_up (shf (sE S) j (sN S)) j (shf (sE S) j (sN S) (j - 1))))) H := hP
              have hD : va_D A (wM g ma P (usE (usS (usH S (va_up (shf (sH S) j (sN S)) j (shf (sH S) j (sN S) (j - 1)))) (va_up (shf (sS S) j (sN S)) j (shf (sS S) j (sN S) (j - 1)))) (va_up (shf (sE S) j (sN S)) j (shf (sE S) j (sN S) (j - 1))))) := hD
              rw [shf_s (sH S) (by omega) hj2, shf_s (sS S) (by omega) hj2, shf_s (sE S) (by omega) hj2] at hP hD
              refine lv_iinc (v := nI (j - 1)) (lv' := [(4, .int (nI (j - 1))), (0, .ref (ma 0)), (1, .int (nI (h))), (2, .int (nI (v))), (3, .int (bI (ee)))]) hx hb dX5_place_89 hl (k := 4) rfl (n_dec (by omega)) (by decide) rfl (fun ls hl => ?_)
              refine lv_goto (tgt := 6) hx hb dX5_place_92 (by decide) ?_
              exact ih (j - 1) H locs ls (by omega) (by omega) (by omega) hP hD hS (lv_sub hl [1, 2, 3, 4, 0] rfl)
  have e0 : wM g ma P (usE (usS (usH S (shf (sH S) (sN S) (sN S))) (shf (sS S) (sN S) (sN S))) (shf (sE S) (sN S) (sN S))) = wM g ma P S := by rw [shf_n, shf_n, shf_n]; rfl
  exact loop (sN S + 1) (sN S) _ _ ls hi (Nat.le_refl _) (by omega) (by rw [e0]; exact hP) (by rw [e0]; exact hD) hS (lv_sub hl [1, 2, 3, 4, 0] rfl)
end
