def RX0 : String := "ModuleYard$HouseReader"
def TX0 : u_T := fun k => match k with
  | 0 => ("ModuleYard$HouseReader", "weights", "[I", true)
  | 1 => ("ModuleYard$HouseReader", "prices", "[I", true)
  | 2 => ("ModuleYard$HouseReader", "size", "I", false)
  | _ => ("ModuleYard$HouseReader", "awaited", "I", false)
def tyX0 : Nat → FieldType := fun k => match k with
  | 0 => .array .int
  | 1 => .array .int
  | 2 => .int
  | _ => .int
abbrev wsX00 : List Cond := u_ws RX0 TX0 4
theorem nmX0 : ∀ a, a < 4 → ∀ b, b < 4 → a ≠ b → (TX0 a).2.1 ≠ (TX0 b).2.1 := by decide +kernel
theorem tyX0_ok : ∀ k, k < 4 → parseFieldDescriptor (TX0 k).2.2.1 = some (tyX0 k) := by decide +kernel
abbrev cX0_init : ByteArray := prog_2_method_1_code
def yX0_init : MethodName := ⟨RX0, "<init>", "()V"⟩
abbrev cX0_restart : ByteArray := prog_2_method_2_code
def yX0_restart : MethodName := ⟨RX0, "restart", "()V"⟩
abbrev cX0_accepts : ByteArray := prog_2_method_3_code
def yX0_accepts : MethodName := ⟨RX0, "accepts", "(I)Z"⟩
abbrev cX0_isAtEnd : ByteArray := prog_2_method_4_code
def yX0_isAtEnd : MethodName := ⟨RX0, "isAtEnd", "()Z"⟩
abbrev cX0_acceptsWeight : ByteArray := prog_2_method_5_code
def yX0_acceptsWeight : MethodName := ⟨RX0, "acceptsWeight", "(I)Z"⟩
abbrev cX0_acceptsComma : ByteArray := prog_2_method_6_code
def yX0_acceptsComma : MethodName := ⟨RX0, "acceptsComma", "()Z"⟩
abbrev cX0_acceptsPriceDigit : ByteArray := prog_2_method_7_code
def yX0_acceptsPriceDigit : MethodName := ⟨RX0, "acceptsPriceDigit", "(I)Z"⟩
abbrev cX0_lastPrice : ByteArray := prog_2_method_8_code
def yX0_lastPrice : MethodName := ⟨RX0, "lastPrice", "()I"⟩
def RX1 : String := "ModuleYard$InputText"
def TX1 : u_T := fun k => match k with
  | 0 => ("ModuleYard$InputText", "codes", "[I", true)
  | _ => ("ModuleYard$InputText", "length", "I", false)
def tyX1 : Nat → FieldType := fun k => match k with
  | 0 => .array .int
  | _ => .int
abbrev wsX10 : List Cond := u_ws RX1 TX1 2
theorem nmX1 : ∀ a, a < 2 → ∀ b, b < 2 → a ≠ b → (TX1 a).2.1 ≠ (TX1 b).2.1 := by decide +kernel
theorem tyX1_ok : ∀ k, k < 2 → parseFieldDescriptor (TX1 k).2.2.1 = some (tyX1 k) := by decide +kernel
abbrev cX1_init : ByteArray := prog_3_method_1_code
def yX1_init : MethodName := ⟨RX1, "<init>", "()V"⟩
abbrev cX1_put : ByteArray := prog_3_method_2_code
def yX1_put : MethodName := ⟨RX1, "put", "(I)I"⟩
abbrev cX1_empty : ByteArray := prog_3_method_3_code
def yX1_empty : MethodName := ⟨RX1, "empty", "()I"⟩
abbrev cX1_errorFor : ByteArray := prog_3_method_4_code
def yX1_errorFor : MethodName := ⟨RX1, "errorFor", "(LModuleYard$TextReader;)I"⟩
abbrev cX1_isComplete : ByteArray := prog_3_method_5_code
def yX1_isComplete : MethodName := ⟨RX1, "isComplete", "(LModuleYard$TextReader;)Z"⟩
def RX2 : String := "ModuleYard$SavedYards"
def TX2 : u_T := fun k => match k with
  | 0 => ("ModuleYard$SavedYards", "yards", "[LModuleYard$Yard;", true)
  | 1 => ("ModuleYard$SavedYards", "oldest", "I", false)
  | _ => ("ModuleYard$SavedYards", "size", "I", false)
def tyX2 : Nat → FieldType := fun k => match k with
  | 0 => .array (.object "ModuleYard$Yard")
  | 1 => .int
  | _ => .int
abbrev wsX20 : List Cond := u_ws RX2 TX2 3
theorem nmX2 : ∀ a, a < 3 → ∀ b, b < 3 → a ≠ b → (TX2 a).2.1 ≠ (TX2 b).2.1 := by decide +kernel
theorem tyX2_ok : ∀ k, k < 3 → parseFieldDescriptor (TX2 k).2.2.1 = some (tyX2 k) := by decide +kernel
abbrev cX2_init : ByteArray := prog_4_method_1_code
def yX2_init : MethodName := ⟨RX2, "<init>", "()V"⟩
abbrev cX2_save : ByteArray := prog_4_method_2_code
def yX2_save : MethodName := ⟨RX2, "save", "(LModuleYard$Yard;)V"⟩
def RX3 : String := "ModuleYard$Slots"
def TX3 : u_T := fun k => match k with
  | 0 => ("ModuleYard$Slots", "modules", "[I", true)
  | 1 => ("ModuleYard$Slots", "weights", "[I", true)
  | 2 => ("ModuleYard$Slots", "used", "[I", true)
  | 3 => ("ModuleYard$Slots", "usedLength", "I", false)
  | _ => ("ModuleYard$Slots", "moving", "[I", true)
def tyX3 : Nat → FieldType := fun k => match k with
  | 0 => .array .int
  | 1 => .array .int
  | 2 => .array .int
  | 3 => .int
  | _ => .array .int
abbrev wsX30 : List Cond := u_ws RX3 TX3 5
theorem nmX3 : ∀ a, a < 5 → ∀ b, b < 5 → a ≠ b → (TX3 a).2.1 ≠ (TX3 b).2.1 := by decide +kernel
theorem tyX3_ok : ∀ k, k < 5 → parseFieldDescriptor (TX3 k).2.2.1 = some (tyX3 k) := by decide +kernel
abbrev cX3_init : ByteArray := prog_5_method_1_code
def yX3_init : MethodName := ⟨RX3, "<init>", "()V"⟩
abbrev cX3_takeIn : ByteArray := prog_5_method_2_code
def yX3_takeIn : MethodName := ⟨RX3, "takeIn", "(LModuleYard$Yard;)V"⟩
abbrev cX3_isOpen : ByteArray := prog_5_method_3_code
def yX3_isOpen : MethodName := ⟨RX3, "isOpen", "(LModuleYard$Yard;II)Z"⟩
abbrev cX3_passDays : ByteArray := prog_5_method_4_code
def yX3_passDays : MethodName := ⟨RX3, "passDays", "(LModuleYard$Yard;I)V"⟩
abbrev cX3_moveAll : ByteArray := prog_5_method_5_code
def yX3_moveAll : MethodName := ⟨RX3, "moveAll", "(LModuleYard$Yard;)V"⟩
abbrev cX3_sortByDay : ByteArray := prog_5_method_6_code
def yX3_sortByDay : MethodName := ⟨RX3, "sortByDay", "(LModuleYard$Yard;)V"⟩
abbrev cX3_firstOpen : ByteArray := prog_5_method_7_code
def yX3_firstOpen : MethodName := ⟨RX3, "firstOpen", "(LModuleYard$Yard;I)I"⟩
abbrev cX3_hasRoom : ByteArray := prog_5_method_8_code
def yX3_hasRoom : MethodName := ⟨RX3, "hasRoom", "(LModuleYard$Yard;II)Z"⟩
abbrev cX3_putOn : ByteArray := prog_5_method_9_code
def yX3_putOn : MethodName := ⟨RX3, "putOn", "(II)V"⟩
abbrev cX3_clearDays : ByteArray := prog_5_method_10_code
def yX3_clearDays : MethodName := ⟨RX3, "clearDays", "()V"⟩
def RX4 : String := "ModuleYard$TextReader"
def TX4 : u_T := fun k => match k with
  | _ => ("", "", "", false)
def tyX4 : Nat → FieldType := fun k => match k with
  | _ => .int
abbrev wsX40 : List Cond := u_ws RX4 TX4 0
theorem nmX4 : ∀ a, a < 0 → ∀ b, b < 0 → a ≠ b → (TX4 a).2.1 ≠ (TX4 b).2.1 := by decide +kernel
theorem tyX4_ok : ∀ k, k < 0 → parseFieldDescriptor (TX4 k).2.2.1 = some (tyX4 k) := by decide +kernel
def RX5 : String := "ModuleYard$WindReader"
def TX5 : u_T := fun k => match k with
  | 0 => ("ModuleYard$WindReader", "winds", "[I", true)
  | 1 => ("ModuleYard$WindReader", "times", "[I", true)
  | 2 => ("ModuleYard$WindReader", "parts", "I", false)
  | _ => ("ModuleYard$WindReader", "awaited", "I", false)
def tyX5 : Nat → FieldType := fun k => match k with
  | 0 => .array .int
  | 1 => .array .int
  | 2 => .int
  | _ => .int
abbrev wsX50 : List Cond := u_ws RX5 TX5 4
theorem nmX5 : ∀ a, a < 4 → ∀ b, b < 4 → a ≠ b → (TX5 a).2.1 ≠ (TX5 b).2.1 := by decide +kernel
theorem tyX5_ok : ∀ k, k < 4 → parseFieldDescriptor (TX5 k).2.2.1 = some (tyX5 k) := by decide +kernel
abbrev cX5_init : ByteArray := prog_7_method_1_code
def yX5_init : MethodName := ⟨RX5, "<init>", "()V"⟩
abbrev cX5_restart : ByteArray := prog_7_method_2_code
def yX5_restart : MethodName := ⟨RX5, "restart", "()V"⟩
abbrev cX5_accepts : ByteArray := prog_7_method_3_code
def yX5_accepts : MethodName := ⟨RX5, "accepts", "(I)Z"⟩
abbrev cX5_isAtEnd : ByteArray := prog_7_method_4_code
def yX5_isAtEnd : MethodName := ⟨RX5, "isAtEnd", "()Z"⟩
abbrev cX5_total : ByteArray := prog_7_method_5_code
def yX5_total : MethodName := ⟨RX5, "total", "()I"⟩
abbrev cX5_acceptsWind : ByteArray := prog_7_method_6_code
def yX5_acceptsWind : MethodName := ⟨RX5, "acceptsWind", "(I)Z"⟩
abbrev cX5_acceptsComma : ByteArray := prog_7_method_7_code
def yX5_acceptsComma : MethodName := ⟨RX5, "acceptsComma", "()Z"⟩
abbrev cX5_acceptsStar : ByteArray := prog_7_method_8_code
def yX5_acceptsStar : MethodName := ⟨RX5, "acceptsStar", "(I)Z"⟩
abbrev cX5_acceptsTimesDigit : ByteArray := prog_7_method_9_code
def yX5_acceptsTimesDigit : MethodName := ⟨RX5, "acceptsTimesDigit", "(I)Z"⟩
abbrev cX5_lastTimes : ByteArray := prog_7_method_10_code
def yX5_lastTimes : MethodName := ⟨RX5, "lastTimes", "()I"⟩
def RX6 : String := "ModuleYard$Yard"
def TX6 : u_T := fun k => match k with
  | 0 => ("ModuleYard$Yard", "today", "I", false)
  | 1 => ("ModuleYard$Yard", "houseCount", "I", false)
  | 2 => ("ModuleYard$Yard", "windCount", "I", false)
  | 3 => ("ModuleYard$Yard", "queueLength", "I", false)
  | 4 => ("ModuleYard$Yard", "winds", "[I", true)
  | 5 => ("ModuleYard$Yard", "settings", "[I", true)
  | 6 => ("ModuleYard$Yard", "sizes", "[I", true)
  | 7 => ("ModuleYard$Yard", "bookedCounts", "[I", true)
  | 8 => ("ModuleYard$Yard", "setCounts", "[I", true)
  | 9 => ("ModuleYard$Yard", "weights", "[I", true)
  | 10 => ("ModuleYard$Yard", "prices", "[I", true)
  | 11 => ("ModuleYard$Yard", "days", "[I", true)
  | 12 => ("ModuleYard$Yard", "paid", "[I", true)
  | 13 => ("ModuleYard$Yard", "claimed", "[I", true)
  | 14 => ("ModuleYard$Yard", "moves", "[I", true)
  | 15 => ("ModuleYard$Yard", "shares", "[I", true)
  | 16 => ("ModuleYard$Yard", "snags", "[I", true)
  | 17 => ("ModuleYard$Yard", "tallies", "[I", true)
  | _ => ("ModuleYard$Yard", "queue", "[I", true)
def tyX6 : Nat → FieldType := fun k => match k with
  | 0 => .int
  | 1 => .int
  | 2 => .int
  | 3 => .int
  | 4 => .array .int
  | 5 => .array .int
  | 6 => .array .int
  | 7 => .array .int
  | 8 => .array .int
  | 9 => .array .int
  | 10 => .array .int
  | 11 => .array .int
  | 12 => .array .int
  | 13 => .array .int
  | 14 => .array .int
  | 15 => .array .int
  | 16 => .array .int
  | 17 => .array .int
  | _ => .array .int
abbrev wsX60 : List Cond := u_ws RX6 TX6 19
theorem nmX6 : ∀ a, a < 19 → ∀ b, b < 19 → a ≠ b → (TX6 a).2.1 ≠ (TX6 b).2.1 := by decide +kernel
theorem tyX6_ok : ∀ k, k < 19 → parseFieldDescriptor (TX6 k).2.2.1 = some (tyX6 k) := by decide +kernel
abbrev cX6_init : ByteArray := prog_8_method_1_code
def yX6_init : MethodName := ⟨RX6, "<init>", "()V"⟩
abbrev cX6_copyFrom : ByteArray := prog_8_method_2_code
def yX6_copyFrom : MethodName := ⟨RX6, "copyFrom", "(LModuleYard$Yard;)V"⟩
abbrev cX6_putHouse : ByteArray := prog_8_method_3_code
def yX6_putHouse : MethodName := ⟨RX6, "putHouse", "(LModuleYard$HouseReader;)V"⟩
abbrev cX6_putWinds : ByteArray := prog_8_method_4_code
def yX6_putWinds : MethodName := ⟨RX6, "putWinds", "(LModuleYard$WindReader;)V"⟩
abbrev cX6_windOf : ByteArray := prog_8_method_5_code
def yX6_windOf : MethodName := ⟨RX6, "windOf", "(I)I"⟩
abbrev cX6_canLift : ByteArray := prog_8_method_6_code
def yX6_canLift : MethodName := ⟨RX6, "canLift", "(II)Z"⟩
abbrev cX6_dayAhead : ByteArray := prog_8_method_7_code
def yX6_dayAhead : MethodName := ⟨RX6, "dayAhead", "(II)I"⟩
abbrev cX6_stageOf : ByteArray := prog_8_method_8_code
def yX6_stageOf : MethodName := ⟨RX6, "stageOf", "(II)I"⟩
abbrev cX6_bookPlace : ByteArray := prog_8_method_9_code
def yX6_bookPlace : MethodName := ⟨RX6, "bookPlace", "(II)V"⟩
abbrev cX6_unbookPlace : ByteArray := prog_8_method_10_code
def yX6_unbookPlace : MethodName := ⟨RX6, "unbookPlace", "(I)I"⟩
abbrev cX6_setTodays : ByteArray := prog_8_method_11_code
def yX6_setTodays : MethodName := ⟨RX6, "setTodays", "()Z"⟩
abbrev cX6_canBeSet : ByteArray := prog_8_method_12_code
def yX6_canBeSet : MethodName := ⟨RX6, "canBeSet", "(I)Z"⟩
abbrev cX6_setPlace : ByteArray := prog_8_method_13_code
def yX6_setPlace : MethodName := ⟨RX6, "setPlace", "(I)V"⟩
abbrev cX6_moveShare : ByteArray := prog_8_method_14_code
def yX6_moveShare : MethodName := ⟨RX6, "moveShare", "(IIII)V"⟩
abbrev cX6_payShares : ByteArray := prog_8_method_15_code
def yX6_payShares : MethodName := ⟨RX6, "payShares", "(I)I"⟩
abbrev cX6_addTally : ByteArray := prog_8_method_16_code
def yX6_addTally : MethodName := ⟨RX6, "addTally", "(III)V"⟩
abbrev cX6_tallyOf : ByteArray := prog_8_method_17_code
def yX6_tallyOf : MethodName := ⟨RX6, "tallyOf", "(II)I"⟩
abbrev cX6_modulesSet : ByteArray := prog_8_method_18_code
def yX6_modulesSet : MethodName := ⟨RX6, "modulesSet", "()I"⟩
abbrev cX6_pricesSet : ByteArray := prog_8_method_19_code
def yX6_pricesSet : MethodName := ⟨RX6, "pricesSet", "()I"⟩
abbrev cX6_bookedFor : ByteArray := prog_8_method_20_code
def yX6_bookedFor : MethodName := ⟨RX6, "bookedFor", "(I)I"⟩
abbrev cX6_weightFor : ByteArray := prog_8_method_21_code
def yX6_weightFor : MethodName := ⟨RX6, "weightFor", "(I)I"⟩
abbrev cX6_setOn : ByteArray := prog_8_method_22_code
def yX6_setOn : MethodName := ⟨RX6, "setOn", "(I)I"⟩
def RX7 : String := "ModuleYard"
def TX7 : u_T := fun k => match k with
  | 0 => ("ModuleYard", "yard", "LModuleYard$Yard;", true)
  | 1 => ("ModuleYard", "trial", "LModuleYard$Yard;", true)
  | 2 => ("ModuleYard", "saved", "LModuleYard$SavedYards;", true)
  | 3 => ("ModuleYard", "slots", "LModuleYard$Slots;", true)
  | 4 => ("ModuleYard", "input", "LModuleYard$InputText;", true)
  | 5 => ("ModuleYard", "houseReader", "LModuleYard$HouseReader;", true)
  | _ => ("ModuleYard", "windReader", "LModuleYard$WindReader;", true)
def tyX7 : Nat → FieldType := fun k => match k with
  | 0 => .object "ModuleYard$Yard"
  | 1 => .object "ModuleYard$Yard"
  | 2 => .object "ModuleYard$SavedYards"
  | 3 => .object "ModuleYard$Slots"
  | 4 => .object "ModuleYard$InputText"
  | 5 => .object "ModuleYard$HouseReader"
  | _ => .object "ModuleYard$WindReader"
abbrev wsX70 : List Cond := u_ws RX7 TX7 7
theorem nmX7 : ∀ a, a < 7 → ∀ b, b < 7 → a ≠ b → (TX7 a).2.1 ≠ (TX7 b).2.1 := by decide +kernel
theorem tyX7_ok : ∀ k, k < 7 → parseFieldDescriptor (TX7 k).2.2.1 = some (tyX7 k) := by decide +kernel
abbrev cX7_init : ByteArray := prog_1_method_1_code
def yX7_init : MethodName := ⟨RX7, "<init>", "()V"⟩
abbrev cX7_book : ByteArray := prog_1_method_2_code
def yX7_book : MethodName := ⟨RX7, "book", "(II)I"⟩
abbrev cX7_unbook : ByteArray := prog_1_method_3_code
def yX7_unbook : MethodName := ⟨RX7, "unbook", "(I)I"⟩
abbrev cX7_set : ByteArray := prog_1_method_4_code
def yX7_set : MethodName := ⟨RX7, "set", "(II)I"⟩
abbrev cX7_pass : ByteArray := prog_1_method_5_code
def yX7_pass : MethodName := ⟨RX7, "pass", "(I)I"⟩
abbrev cX7_inspect : ByteArray := prog_1_method_6_code
def yX7_inspect : MethodName := ⟨RX7, "inspect", "(IIII)I"⟩
abbrev cX7_fix : ByteArray := prog_1_method_7_code
def yX7_fix : MethodName := ⟨RX7, "fix", "(IIII)I"⟩
abbrev cX7_claim : ByteArray := prog_1_method_8_code
def yX7_claim : MethodName := ⟨RX7, "claim", "(IIIII)I"⟩
abbrev cX7_release : ByteArray := prog_1_method_9_code
def yX7_release : MethodName := ⟨RX7, "release", "(II)I"⟩
abbrev cX7_append : ByteArray := prog_1_method_10_code
def yX7_append : MethodName := ⟨RX7, "append", "(I)I"⟩
abbrev cX7_clearBuffer : ByteArray := prog_1_method_11_code
def yX7_clearBuffer : MethodName := ⟨RX7, "clearBuffer", "()I"⟩
abbrev cX7_addHouse : ByteArray := prog_1_method_13_code
def yX7_addHouse : MethodName := ⟨RX7, "addHouse", "()I"⟩
abbrev cX7_setWinds : ByteArray := prog_1_method_14_code
def yX7_setWinds : MethodName := ⟨RX7, "setWinds", "()I"⟩
abbrev cX7_house : ByteArray := prog_1_method_16_code
def yX7_house : MethodName := ⟨RX7, "house", "(II)I"⟩
abbrev cX7_module : ByteArray := prog_1_method_17_code
def yX7_module : MethodName := ⟨RX7, "module", "(III)I"⟩
abbrev cX7_share : ByteArray := prog_1_method_18_code
def yX7_share : MethodName := ⟨RX7, "share", "(IIII)I"⟩
abbrev cX7_trade : ByteArray := prog_1_method_19_code
def yX7_trade : MethodName := ⟨RX7, "trade", "(II)I"⟩
abbrev cX7_day : ByteArray := prog_1_method_20_code
def yX7_day : MethodName := ⟨RX7, "day", "(II)I"⟩
abbrev cX7_count : ByteArray := prog_1_method_21_code
def yX7_count : MethodName := ⟨RX7, "count", "(I)I"⟩
abbrev cX7_setting : ByteArray := prog_1_method_22_code
def yX7_setting : MethodName := ⟨RX7, "setting", "(I)I"⟩
abbrev cX7_ends : ByteArray := prog_1_method_23_code
def yX7_ends : MethodName := ⟨RX7, "ends", "()I"⟩
abbrev cX7_bestDay : ByteArray := prog_1_method_24_code
def yX7_bestDay : MethodName := ⟨RX7, "bestDay", "(I)I"⟩
abbrev cX7_ifPassed : ByteArray := prog_1_method_25_code
def yX7_ifPassed : MethodName := ⟨RX7, "ifPassed", "(II)I"⟩
abbrev cX7_worstTrade : ByteArray := prog_1_method_26_code
def yX7_worstTrade : MethodName := ⟨RX7, "worstTrade", "()I"⟩
abbrev cX7_heldShare : ByteArray := prog_1_method_27_code
def yX7_heldShare : MethodName := ⟨RX7, "heldShare", "()D"⟩
abbrev cX7_placeOf : ByteArray := prog_1_method_36_code
def yX7_placeOf : MethodName := ⟨RX7, "placeOf", "(II)I"⟩
abbrev cX7_cellOf : ByteArray := prog_1_method_37_code
def yX7_cellOf : MethodName := ⟨RX7, "cellOf", "(II)I"⟩
abbrev cX7_sumOf : ByteArray := prog_1_method_38_code
def yX7_sumOf : MethodName := ⟨RX7, "sumOf", "([III)I"⟩
abbrev cX7_sumOfTrade : ByteArray := prog_1_method_39_code
def yX7_sumOfTrade : MethodName := ⟨RX7, "sumOfTrade", "([II)I"⟩
abbrev cX7_requireHouse : ByteArray := prog_1_method_40_code
def yX7_requireHouse : MethodName := ⟨RX7, "requireHouse", "(I)V"⟩
abbrev cX7_requireModule : ByteArray := prog_1_method_41_code
def yX7_requireModule : MethodName := ⟨RX7, "requireModule", "(II)V"⟩
abbrev cX7_requireSet : ByteArray := prog_1_method_42_code
def yX7_requireSet : MethodName := ⟨RX7, "requireSet", "(II)V"⟩
abbrev cX7_requireTrade : ByteArray := prog_1_method_43_code
def yX7_requireTrade : MethodName := ⟨RX7, "requireTrade", "(I)V"⟩
abbrev cX7_requireSetting : ByteArray := prog_1_method_44_code
def yX7_requireSetting : MethodName := ⟨RX7, "requireSetting", "(I)V"⟩
abbrev cX7_requirePassedDays : ByteArray := prog_1_method_45_code
def yX7_requirePassedDays : MethodName := ⟨RX7, "requirePassedDays", "(I)V"⟩
abbrev cX7_requireWhat : ByteArray := prog_1_method_46_code
def yX7_requireWhat : MethodName := ⟨RX7, "requireWhat", "(II)V"⟩
abbrev cX7_isDigit : ByteArray := prog_1_method_47_code
def yX7_isDigit : MethodName := ⟨RX7, "isDigit", "(I)Z"⟩
def RX8 : String := "ModuleYardModel"
def TX8 : u_T := fun k => match k with
  | _ => ("", "", "", false)
def tyX8 : Nat → FieldType := fun k => match k with
  | _ => .int
abbrev wsX80 : List Cond := u_ws RX8 TX8 0
theorem nmX8 : ∀ a, a < 0 → ∀ b, b < 0 → a ≠ b → (TX8 a).2.1 ≠ (TX8 b).2.1 := by decide +kernel
theorem tyX8_ok : ∀ k, k < 0 → parseFieldDescriptor (TX8 k).2.2.1 = some (tyX8 k) := by decide +kernel
def RJx145de : String := "java/io/Serializable"
def TJx145de : u_T := fun k => match k with
  | _ => ("", "", "", false)
def tyJx145de : Nat → FieldType := fun k => match k with
  | _ => .int
abbrev wsJx145de0 : List Cond := u_ws RJx145de TJx145de 0
theorem nmJx145de : ∀ a, a < 0 → ∀ b, b < 0 → a ≠ b → (TJx145de a).2.1 ≠ (TJx145de b).2.1 := by decide +kernel
theorem tyJx145de_ok : ∀ k, k < 0 → parseFieldDescriptor (TJx145de k).2.2.1 = some (tyJx145de k) := by decide +kernel
def RJ9 : String := "java/lang/Math"
def TJ9 : u_T := fun k => match k with
  | _ => ("", "", "", false)
def tyJ9 : Nat → FieldType := fun k => match k with
  | _ => .int
abbrev wsJ90 : List Cond := u_ws RJ9 TJ9 0
theorem nmJ9 : ∀ a, a < 0 → ∀ b, b < 0 → a ≠ b → (TJ9 a).2.1 ≠ (TJ9 b).2.1 := by decide +kernel
theorem tyJ9_ok : ∀ k, k < 0 → parseFieldDescriptor (TJ9 k).2.2.1 = some (tyJ9 k) := by decide +kernel
abbrev cJ9_max_7cf53 : ByteArray := prog_15_method_65_code
def yJ9_max_7cf53 : MethodName := ⟨RJ9, "max", "(II)I"⟩
abbrev cJ9_min_7cf53 : ByteArray := prog_15_method_69_code
def yJ9_min_7cf53 : MethodName := ⟨RJ9, "min", "(II)I"⟩
def RJ0 : String := "java/lang/String"
def TJ0 : u_T := fun k => match k with
  | _ => ("", "", "", false)
def tyJ0 : Nat → FieldType := fun k => match k with
  | _ => .int
abbrev wsJ00 : List Cond := u_ws RJ0 TJ0 0
theorem nmJ0 : ∀ a, a < 0 → ∀ b, b < 0 → a ≠ b → (TJ0 a).2.1 ≠ (TJ0 b).2.1 := by decide +kernel
theorem tyJ0_ok : ∀ k, k < 0 → parseFieldDescriptor (TJ0 k).2.2.1 = some (tyJ0 k) := by decide +kernel
def RJ10 : String := "java/lang/System"
def TJ10 : u_T := fun k => match k with
  | _ => ("", "", "", false)
def tyJ10 : Nat → FieldType := fun k => match k with
  | _ => .int
abbrev wsJ100 : List Cond := u_ws RJ10 TJ10 0
theorem nmJ10 : ∀ a, a < 0 → ∀ b, b < 0 → a ≠ b → (TJ10 a).2.1 ≠ (TJ10 b).2.1 := by decide +kernel
theorem tyJ10_ok : ∀ k, k < 0 → parseFieldDescriptor (TJ10 k).2.2.1 = some (tyJ10 k) := by decide +kernel
def RJ7 : String := "java/util/Arrays"
def TJ7 : u_T := fun k => match k with
  | _ => ("", "", "", false)
def tyJ7 : Nat → FieldType := fun k => match k with
  | _ => .int
abbrev wsJ70 : List Cond := u_ws RJ7 TJ7 0
theorem nmJ7 : ∀ a, a < 0 → ∀ b, b < 0 → a ≠ b → (TJ7 a).2.1 ≠ (TJ7 b).2.1 := by decide +kernel
theorem tyJ7_ok : ∀ k, k < 0 → parseFieldDescriptor (TJ7 k).2.2.1 = some (tyJ7 k) := by decide +kernel
abbrev cJ7_fill_53178 : ByteArray := prog_20_method_103_code
def yJ7_fill_53178 : MethodName := ⟨RJ7, "fill", "([II)V"⟩
def RL : String := "ModuleYardLaw"
abbrev cL_cell : ByteArray := method_2_code
def yL_cell : MethodName := ⟨RL, "cell", "([II)I"⟩
abbrev cL_at : ByteArray := method_3_code
def yL_at : MethodName := ⟨RL, "at", "(II)I"⟩
abbrev cL_there : ByteArray := method_4_code
def yL_there : MethodName := ⟨RL, "there", "(I[I)Z"⟩
abbrev cL_wind : ByteArray := method_5_code
def yL_wind : MethodName := ⟨RL, "wind", "(I[I[I)I"⟩
abbrev cL_load : ByteArray := method_6_code
def yL_load : MethodName := ⟨RL, "load", "(IZ[I[I)I"⟩
abbrev cL_room : ByteArray := method_7_code
def yL_room : MethodName := ⟨RL, "room", "(II[I[I[I)Z"⟩
abbrev cL_next : ByteArray := method_8_code
def yL_next : MethodName := ⟨RL, "next", "(I[I[I)I"⟩
abbrev cL_sum : ByteArray := method_9_code
def yL_sum : MethodName := ⟨RL, "sum", "([II)I"⟩
abbrev cL_first : ByteArray := method_10_code
def yL_first : MethodName := ⟨RL, "first", "(III[I[I)I"⟩
abbrev cL_day : ByteArray := method_11_code
def yL_day : MethodName := ⟨RL, "day", "([I[I[I[I[I[I)I"⟩
abbrev cL_houses : ByteArray := method_12_code
def yL_houses : MethodName := ⟨RL, "houses", "(LModuleYard;[I[I[I[I[I)Z"⟩
abbrev cL_told : ByteArray := method_13_code
def yL_told : MethodName := ⟨RL, "told", "(LModuleYard;I[I[I[I[I[I[I[I[I)Z"⟩
abbrev cL_same : ByteArray := method_14_code
def yL_same : MethodName := ⟨RL, "same", "([I[I)V"⟩
abbrev cL_open : ByteArray := method_15_code
def yL_open : MethodName := ⟨RL, "open", "([I[I)Z"⟩
abbrev cL_ahead : ByteArray := method_16_code
def yL_ahead : MethodName := ⟨RL, "ahead", "(LModuleYard;I[I[I[I[I[I[I)Z"⟩
abbrev cL_number : ByteArray := method_17_code
def yL_number : MethodName := ⟨RL, "number", "(LModuleYard;I)Z"⟩
abbrev cL_adds : ByteArray := method_18_code
def yL_adds : MethodName := ⟨RL, "adds", "(LModuleYard;II[I[I)Z"⟩
abbrev cL_winds : ByteArray := method_19_code
def yL_winds : MethodName := ⟨RL, "winds", "(LModuleYard;II[I[I)Z"⟩
abbrev cL_money : ByteArray := method_20_code
def yL_money : MethodName := ⟨RL, "money", "(LModuleYard;III[I[I[I[I[I[I[I)Z"⟩
abbrev cL_act : ByteArray := method_21_code
def yL_act : MethodName := ⟨RL, "act", "(LModuleYard;III[I[I[I[I[I[I[I[I)Z"⟩
abbrev cL_law : ByteArray := code
def yL_law : MethodName := ⟨RL, "law", "([I)Z"⟩
