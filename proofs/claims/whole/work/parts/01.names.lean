def RX0 : String := "LaceWorks$Board"
def TX0 : u_T := fun k => match k with
  | 0 => ("LaceWorks$Board", "lying", "[I", true)
  | _ => ("LaceWorks$Board", "turned", "[I", true)
def tyX0 : Nat → FieldType := fun k => match k with
  | 0 => .array .int
  | _ => .array .int
abbrev wsX00 : List Cond := u_ws RX0 TX0 2
theorem nmX0 : ∀ a, a < 2 → ∀ b, b < 2 → a ≠ b → (TX0 a).2.1 ≠ (TX0 b).2.1 := by decide +kernel
theorem tyX0_ok : ∀ k, k < 2 → parseFieldDescriptor (TX0 k).2.2.1 = some (tyX0 k) := by decide +kernel
abbrev cX0_init : ByteArray := prog_2_method_1_code
def yX0_init : MethodName := ⟨RX0, "<init>", "()V"⟩
abbrev cX0_layAsAtFirst : ByteArray := prog_2_method_2_code
def yX0_layAsAtFirst : MethodName := ⟨RX0, "layAsAtFirst", "()V"⟩
abbrev cX0_layBehind : ByteArray := prog_2_method_3_code
def yX0_layBehind : MethodName := ⟨RX0, "layBehind", "(LLaceWorks$Row;)V"⟩
abbrev cX0_bobbinAt : ByteArray := prog_2_method_4_code
def yX0_bobbinAt : MethodName := ⟨RX0, "bobbinAt", "(I)I"⟩
abbrev cX0_upper : ByteArray := prog_2_method_5_code
def yX0_upper : MethodName := ⟨RX0, "upper", "(I)I"⟩
abbrev cX0_lower : ByteArray := prog_2_method_6_code
def yX0_lower : MethodName := ⟨RX0, "lower", "(I)I"⟩
abbrev cX0_swap : ByteArray := prog_2_method_7_code
def yX0_swap : MethodName := ⟨RX0, "swap", "(I)V"⟩
abbrev cX0_lyingAsAtFirst : ByteArray := prog_2_method_8_code
def yX0_lyingAsAtFirst : MethodName := ⟨RX0, "lyingAsAtFirst", "()I"⟩
abbrev cX0_turnsTillAsAtFirst : ByteArray := prog_2_method_9_code
def yX0_turnsTillAsAtFirst : MethodName := ⟨RX0, "turnsTillAsAtFirst", "()I"⟩
abbrev cX0_turnOnce : ByteArray := prog_2_method_10_code
def yX0_turnOnce : MethodName := ⟨RX0, "turnOnce", "()Z"⟩
def RX1 : String := "LaceWorks$Reader"
def TX1 : u_T := fun k => match k with
  | 0 => ("LaceWorks$Reader", "spot", "I", false)
  | _ => ("LaceWorks$Reader", "tooMany", "Z", false)
def tyX1 : Nat → FieldType := fun k => match k with
  | 0 => .int
  | _ => .boolean
abbrev wsX10 : List Cond := u_ws RX1 TX1 2
theorem nmX1 : ∀ a, a < 2 → ∀ b, b < 2 → a ≠ b → (TX1 a).2.1 ≠ (TX1 b).2.1 := by decide +kernel
theorem tyX1_ok : ∀ k, k < 2 → parseFieldDescriptor (TX1 k).2.2.1 = some (tyX1 k) := by decide +kernel
abbrev cX1_init : ByteArray := prog_3_method_1_code
def yX1_init : MethodName := ⟨RX1, "<init>", "()V"⟩
abbrev cX1_faultPlace : ByteArray := prog_3_method_2_code
def yX1_faultPlace : MethodName := ⟨RX1, "faultPlace", "(LLaceWorks$Row;)I"⟩
abbrev cX1_canStand : ByteArray := prog_3_method_3_code
def yX1_canStand : MethodName := ⟨RX1, "canStand", "(IIZ)Z"⟩
abbrev cX1_isSpot : ByteArray := prog_3_method_4_code
def yX1_isSpot : MethodName := ⟨RX1, "isSpot", "(I)Z"⟩
abbrev cX1_readSteps : ByteArray := prog_3_method_5_code
def yX1_readSteps : MethodName := ⟨RX1, "readSteps", "(LLaceWorks$Row;LLaceWorks$Row;)Z"⟩
abbrev cX1_readText : ByteArray := prog_3_method_6_code
def yX1_readText : MethodName := ⟨RX1, "readText", "(LLaceWorks$Row;LLaceWorks$Row;II)I"⟩
abbrev cX1_readPart : ByteArray := prog_3_method_7_code
def yX1_readPart : MethodName := ⟨RX1, "readPart", "(LLaceWorks$Row;LLaceWorks$Row;II)I"⟩
abbrev cX1_readSign : ByteArray := prog_3_method_8_code
def yX1_readSign : MethodName := ⟨RX1, "readSign", "(ILLaceWorks$Row;)V"⟩
def RX2 : String := "LaceWorks$Row"
def TX2 : u_T := fun k => match k with
  | 0 => ("LaceWorks$Row", "items", "[I", true)
  | _ => ("LaceWorks$Row", "size", "I", false)
def tyX2 : Nat → FieldType := fun k => match k with
  | 0 => .array .int
  | _ => .int
abbrev wsX20 : List Cond := u_ws RX2 TX2 2
theorem nmX2 : ∀ a, a < 2 → ∀ b, b < 2 → a ≠ b → (TX2 a).2.1 ≠ (TX2 b).2.1 := by decide +kernel
theorem tyX2_ok : ∀ k, k < 2 → parseFieldDescriptor (TX2 k).2.2.1 = some (tyX2 k) := by decide +kernel
abbrev cX2_init : ByteArray := prog_4_method_1_code
def yX2_init : MethodName := ⟨RX2, "<init>", "(I)V"⟩
abbrev cX2_size : ByteArray := prog_4_method_2_code
def yX2_size : MethodName := ⟨RX2, "size", "()I"⟩
abbrev cX2_get : ByteArray := prog_4_method_3_code
def yX2_get : MethodName := ⟨RX2, "get", "(I)I"⟩
abbrev cX2_add : ByteArray := prog_4_method_4_code
def yX2_add : MethodName := ⟨RX2, "add", "(I)Z"⟩
abbrev cX2_clear : ByteArray := prog_4_method_5_code
def yX2_clear : MethodName := ⟨RX2, "clear", "()V"⟩
abbrev cX2_addAll : ByteArray := prog_4_method_6_code
def yX2_addAll : MethodName := ⟨RX2, "addAll", "(LLaceWorks$Row;)V"⟩
abbrev cX2_become : ByteArray := prog_4_method_7_code
def yX2_become : MethodName := ⟨RX2, "become", "(LLaceWorks$Row;)V"⟩
abbrev cX2_isLike : ByteArray := prog_4_method_8_code
def yX2_isLike : MethodName := ⟨RX2, "isLike", "(LLaceWorks$Row;)Z"⟩
abbrev cX2_comesAgainAfter : ByteArray := prog_4_method_9_code
def yX2_comesAgainAfter : MethodName := ⟨RX2, "comesAgainAfter", "(I)Z"⟩
def RX3 : String := "LaceWorks$Shortener"
def TX3 : u_T := fun k => match k with
  | 0 => ("LaceWorks$Shortener", "before", "[I", true)
  | 1 => ("LaceWorks$Shortener", "stays", "[Z", true)
  | 2 => ("LaceWorks$Shortener", "last", "[I", true)
  | _ => ("LaceWorks$Shortener", "next", "[I", true)
def tyX3 : Nat → FieldType := fun k => match k with
  | 0 => .array .int
  | 1 => .array .boolean
  | 2 => .array .int
  | _ => .array .int
abbrev wsX30 : List Cond := u_ws RX3 TX3 4
theorem nmX3 : ∀ a, a < 4 → ∀ b, b < 4 → a ≠ b → (TX3 a).2.1 ≠ (TX3 b).2.1 := by decide +kernel
theorem tyX3_ok : ∀ k, k < 4 → parseFieldDescriptor (TX3 k).2.2.1 = some (tyX3 k) := by decide +kernel
abbrev cX3_init : ByteArray := prog_5_method_1_code
def yX3_init : MethodName := ⟨RX3, "<init>", "()V"⟩
abbrev cX3_shortForm : ByteArray := prog_5_method_2_code
def yX3_shortForm : MethodName := ⟨RX3, "shortForm", "(LLaceWorks$Row;LLaceWorks$Row;)V"⟩
abbrev cX3_markWhatStays : ByteArray := prog_5_method_3_code
def yX3_markWhatStays : MethodName := ⟨RX3, "markWhatStays", "(LLaceWorks$Row;)V"⟩
abbrev cX3_isFree : ByteArray := prog_5_method_4_code
def yX3_isFree : MethodName := ⟨RX3, "isFree", "(I)Z"⟩
abbrev cX3_putLeastFirst : ByteArray := prog_5_method_5_code
def yX3_putLeastFirst : MethodName := ⟨RX3, "putLeastFirst", "(LLaceWorks$Row;LLaceWorks$Row;)V"⟩
abbrev cX3_nextThatStays : ByteArray := prog_5_method_6_code
def yX3_nextThatStays : MethodName := ⟨RX3, "nextThatStays", "(LLaceWorks$Row;II)I"⟩
abbrev cX3_leastPlaceThatCanCome : ByteArray := prog_5_method_7_code
def yX3_leastPlaceThatCanCome : MethodName := ⟨RX3, "leastPlaceThatCanCome", "(I)I"⟩
def RX4 : String := "LaceWorks$Works"
def TX4 : u_T := fun k => match k with
  | _ => ("LaceWorks$Works", "rows", "[LLaceWorks$Row;", true)
def tyX4 : Nat → FieldType := fun k => match k with
  | _ => .array (.object "LaceWorks$Row")
abbrev wsX40 : List Cond := u_ws RX4 TX4 1
theorem nmX4 : ∀ a, a < 1 → ∀ b, b < 1 → a ≠ b → (TX4 a).2.1 ≠ (TX4 b).2.1 := by decide +kernel
theorem tyX4_ok : ∀ k, k < 1 → parseFieldDescriptor (TX4 k).2.2.1 = some (tyX4 k) := by decide +kernel
abbrev cX4_init : ByteArray := prog_6_method_1_code
def yX4_init : MethodName := ⟨RX4, "<init>", "()V"⟩
abbrev cX4_row : ByteArray := prog_6_method_2_code
def yX4_row : MethodName := ⟨RX4, "row", "(I)LLaceWorks$Row;"⟩
abbrev cX4_become : ByteArray := prog_6_method_3_code
def yX4_become : MethodName := ⟨RX4, "become", "(LLaceWorks$Works;)V"⟩
abbrev cX4_stepsInAll : ByteArray := prog_6_method_4_code
def yX4_stepsInAll : MethodName := ⟨RX4, "stepsInAll", "()I"⟩
def RX5 : String := "LaceWorks"
def TX5 : u_T := fun k => match k with
  | 0 => ("LaceWorks", "pad", "LLaceWorks$Row;", true)
  | 1 => ("LaceWorks", "draft", "LLaceWorks$Row;", true)
  | 2 => ("LaceWorks", "script", "LLaceWorks$Row;", true)
  | 3 => ("LaceWorks", "letters", "LLaceWorks$Row;", true)
  | 4 => ("LaceWorks", "letterSteps", "LLaceWorks$Row;", true)
  | 5 => ("LaceWorks", "shortOne", "LLaceWorks$Row;", true)
  | 6 => ("LaceWorks", "shortOther", "LLaceWorks$Row;", true)
  | 7 => ("LaceWorks", "works", "LLaceWorks$Works;", true)
  | 8 => ("LaceWorks", "images", "[LLaceWorks$Works;", true)
  | 9 => ("LaceWorks", "reader", "LLaceWorks$Reader;", true)
  | 10 => ("LaceWorks", "shortener", "LLaceWorks$Shortener;", true)
  | 11 => ("LaceWorks", "board", "LLaceWorks$Board;", true)
  | 12 => ("LaceWorks", "keptImages", "I", false)
  | _ => ("LaceWorks", "toldFault", "I", false)
def tyX5 : Nat → FieldType := fun k => match k with
  | 0 => .object "LaceWorks$Row"
  | 1 => .object "LaceWorks$Row"
  | 2 => .object "LaceWorks$Row"
  | 3 => .object "LaceWorks$Row"
  | 4 => .object "LaceWorks$Row"
  | 5 => .object "LaceWorks$Row"
  | 6 => .object "LaceWorks$Row"
  | 7 => .object "LaceWorks$Works"
  | 8 => .array (.object "LaceWorks$Works")
  | 9 => .object "LaceWorks$Reader"
  | 10 => .object "LaceWorks$Shortener"
  | 11 => .object "LaceWorks$Board"
  | 12 => .int
  | _ => .int
abbrev wsX50 : List Cond := u_ws RX5 TX5 14
theorem nmX5 : ∀ a, a < 14 → ∀ b, b < 14 → a ≠ b → (TX5 a).2.1 ≠ (TX5 b).2.1 := by decide +kernel
theorem tyX5_ok : ∀ k, k < 14 → parseFieldDescriptor (TX5 k).2.2.1 = some (tyX5 k) := by decide +kernel
abbrev cX5_init : ByteArray := prog_1_method_1_code
def yX5_init : MethodName := ⟨RX5, "<init>", "()V"⟩
abbrev cX5_say : ByteArray := prog_1_method_2_code
def yX5_say : MethodName := ⟨RX5, "say", "(I)I"⟩
abbrev cX5_wipe : ByteArray := prog_1_method_3_code
def yX5_wipe : MethodName := ⟨RX5, "wipe", "()I"⟩
abbrev cX5_fault : ByteArray := prog_1_method_4_code
def yX5_fault : MethodName := ⟨RX5, "fault", "()I"⟩
abbrev cX5_work : ByteArray := prog_1_method_5_code
def yX5_work : MethodName := ⟨RX5, "work", "(I)I"⟩
abbrev cX5_join : ByteArray := prog_1_method_6_code
def yX5_join : MethodName := ⟨RX5, "join", "(III)I"⟩
abbrev cX5_undone : ByteArray := prog_1_method_7_code
def yX5_undone : MethodName := ⟨RX5, "undone", "(II)I"⟩
abbrev cX5_step : ByteArray := prog_1_method_8_code
def yX5_step : MethodName := ⟨RX5, "step", "(III)I"⟩
abbrev cX5_written : ByteArray := prog_1_method_9_code
def yX5_written : MethodName := ⟨RX5, "written", "(II)I"⟩
abbrev cX5_at : ByteArray := prog_1_method_10_code
def yX5_at : MethodName := ⟨RX5, "at", "(III)I"⟩
abbrev cX5_met : ByteArray := prog_1_method_11_code
def yX5_met : MethodName := ⟨RX5, "met", "(IIII)I"⟩
abbrev cX5_told : ByteArray := prog_1_method_12_code
def yX5_told : MethodName := ⟨RX5, "told", "(II)I"⟩
abbrev cX5_pin : ByteArray := prog_1_method_13_code
def yX5_pin : MethodName := ⟨RX5, "pin", "(III)I"⟩
abbrev cX5_letter : ByteArray := prog_1_method_14_code
def yX5_letter : MethodName := ⟨RX5, "letter", "(II)I"⟩
abbrev cX5_shortest : ByteArray := prog_1_method_15_code
def yX5_shortest : MethodName := ⟨RX5, "shortest", "(II)I"⟩
abbrev cX5_same : ByteArray := prog_1_method_16_code
def yX5_same : MethodName := ⟨RX5, "same", "(II)I"⟩
abbrev cX5_part : ByteArray := prog_1_method_17_code
def yX5_part : MethodName := ⟨RX5, "part", "(I)I"⟩
abbrev cX5_image : ByteArray := prog_1_method_18_code
def yX5_image : MethodName := ⟨RX5, "image", "(I)I"⟩
abbrev cX5_restore : ByteArray := prog_1_method_19_code
def yX5_restore : MethodName := ⟨RX5, "restore", "(I)I"⟩
abbrev cX5_count : ByteArray := prog_1_method_20_code
def yX5_count : MethodName := ⟨RX5, "count", "(I)I"⟩
abbrev cX5_stepOf : ByteArray := prog_1_method_21_code
def yX5_stepOf : MethodName := ⟨RX5, "stepOf", "(II)I"⟩
abbrev cX5_kindOf : ByteArray := prog_1_method_22_code
def yX5_kindOf : MethodName := ⟨RX5, "kindOf", "(I)I"⟩
abbrev cX5_spotOf : ByteArray := prog_1_method_23_code
def yX5_spotOf : MethodName := ⟨RX5, "spotOf", "(I)I"⟩
abbrev cX5_opposite : ByteArray := prog_1_method_24_code
def yX5_opposite : MethodName := ⟨RX5, "opposite", "(I)I"⟩
abbrev cX5_changesIn : ByteArray := prog_1_method_25_code
def yX5_changesIn : MethodName := ⟨RX5, "changesIn", "(I)I"⟩
abbrev cX5_letterOf : ByteArray := prog_1_method_26_code
def yX5_letterOf : MethodName := ⟨RX5, "letterOf", "(II)I"⟩
abbrev cX5_placeOf : ByteArray := prog_1_method_27_code
def yX5_placeOf : MethodName := ⟨RX5, "placeOf", "(I)I"⟩
abbrev cX5_isRightOver : ByteArray := prog_1_method_28_code
def yX5_isRightOver : MethodName := ⟨RX5, "isRightOver", "(I)Z"⟩
abbrev cX5_isPlace : ByteArray := prog_1_method_29_code
def yX5_isPlace : MethodName := ⟨RX5, "isPlace", "(I)Z"⟩
abbrev cX5_sizeOrItem : ByteArray := prog_1_method_30_code
def yX5_sizeOrItem : MethodName := ⟨RX5, "sizeOrItem", "(LLaceWorks$Row;I)I"⟩
abbrev cX5_writeOut : ByteArray := prog_1_method_31_code
def yX5_writeOut : MethodName := ⟨RX5, "writeOut", "(LLaceWorks$Row;)V"⟩
abbrev cX5_signOf : ByteArray := prog_1_method_32_code
def yX5_signOf : MethodName := ⟨RX5, "signOf", "(I)I"⟩
abbrev cX5_spell : ByteArray := prog_1_method_33_code
def yX5_spell : MethodName := ⟨RX5, "spell", "(LLaceWorks$Row;I)V"⟩
abbrev cX5_shorten : ByteArray := prog_1_method_34_code
def yX5_shorten : MethodName := ⟨RX5, "shorten", "(LLaceWorks$Row;LLaceWorks$Row;)V"⟩
abbrev cX5_meetings : ByteArray := prog_1_method_35_code
def yX5_meetings : MethodName := ⟨RX5, "meetings", "(III)I"⟩
abbrev cX5_neverChanged : ByteArray := prog_1_method_36_code
def yX5_neverChanged : MethodName := ⟨RX5, "neverChanged", "()I"⟩
abbrev cX5_pinsIn : ByteArray := prog_1_method_37_code
def yX5_pinsIn : MethodName := ⟨RX5, "pinsIn", "(LLaceWorks$Row;)I"⟩
abbrev cX5_pinStep : ByteArray := prog_1_method_38_code
def yX5_pinStep : MethodName := ⟨RX5, "pinStep", "(LLaceWorks$Row;I)I"⟩
def RX6 : String := "LaceWorksModel"
def TX6 : u_T := fun k => match k with
  | 0 => ("LaceWorksModel", "state", "[I", true)
  | 1 => ("LaceWorksModel", "images", "[I", true)
  | 2 => ("LaceWorksModel", "isKept", "[Z", true)
  | 3 => ("LaceWorksModel", "pad", "[I", true)
  | 4 => ("LaceWorksModel", "said", "I", false)
  | 5 => ("LaceWorksModel", "told", "I", false)
  | 6 => ("LaceWorksModel", "begins", "[I", true)
  | 7 => ("LaceWorksModel", "times", "[I", true)
  | 8 => ("LaceWorksModel", "made", "[I", true)
  | 9 => ("LaceWorksModel", "row", "[I", true)
  | 10 => ("LaceWorksModel", "letters", "[I", true)
  | 11 => ("LaceWorksModel", "stepOf", "[I", true)
  | 12 => ("LaceWorksModel", "letterMany", "I", false)
  | 13 => ("LaceWorksModel", "bobbins", "[I", true)
  | 14 => ("LaceWorksModel", "left", "[I", true)
  | 15 => ("LaceWorksModel", "leftMany", "I", false)
  | 16 => ("LaceWorksModel", "shortRow", "[I", true)
  | 17 => ("LaceWorksModel", "shortMany", "I", false)
  | _ => ("LaceWorksModel", "otherRow", "[I", true)
def tyX6 : Nat → FieldType := fun k => match k with
  | 0 => .array .int
  | 1 => .array .int
  | 2 => .array .boolean
  | 3 => .array .int
  | 4 => .int
  | 5 => .int
  | 6 => .array .int
  | 7 => .array .int
  | 8 => .array .int
  | 9 => .array .int
  | 10 => .array .int
  | 11 => .array .int
  | 12 => .int
  | 13 => .array .int
  | 14 => .array .int
  | 15 => .int
  | 16 => .array .int
  | 17 => .int
  | _ => .array .int
abbrev wsX60 : List Cond := u_ws RX6 TX6 19
theorem nmX6 : ∀ a, a < 19 → ∀ b, b < 19 → a ≠ b → (TX6 a).2.1 ≠ (TX6 b).2.1 := by decide +kernel
theorem tyX6_ok : ∀ k, k < 19 → parseFieldDescriptor (TX6 k).2.2.1 = some (tyX6 k) := by decide +kernel
abbrev cX6_init : ByteArray := prog_8_method_1_code
def yX6_init : MethodName := ⟨RX6, "<init>", "()V"⟩
abbrev cX6_in : ByteArray := prog_8_method_2_code
def yX6_in : MethodName := ⟨RX6, "in", "(III)Z"⟩
abbrev cX6_isWork : ByteArray := prog_8_method_3_code
def yX6_isWork : MethodName := ⟨RX6, "isWork", "(I)Z"⟩
abbrev cX6_many : ByteArray := prog_8_method_4_code
def yX6_many : MethodName := ⟨RX6, "many", "(I)I"⟩
abbrev cX6_kindOf : ByteArray := prog_8_method_5_code
def yX6_kindOf : MethodName := ⟨RX6, "kindOf", "(II)I"⟩
abbrev cX6_spotOf : ByteArray := prog_8_method_6_code
def yX6_spotOf : MethodName := ⟨RX6, "spotOf", "(II)I"⟩
abbrev cX6_say : ByteArray := prog_8_method_7_code
def yX6_say : MethodName := ⟨RX6, "say", "(I)I"⟩
abbrev cX6_wipe : ByteArray := prog_8_method_8_code
def yX6_wipe : MethodName := ⟨RX6, "wipe", "()I"⟩
abbrev cX6_kindBy : ByteArray := prog_8_method_9_code
def yX6_kindBy : MethodName := ⟨RX6, "kindBy", "(I)I"⟩
abbrev cX6_fault : ByteArray := prog_8_method_10_code
def yX6_fault : MethodName := ⟨RX6, "fault", "()I"⟩
abbrev cX6_endOf : ByteArray := prog_8_method_11_code
def yX6_endOf : MethodName := ⟨RX6, "endOf", "(I)I"⟩
abbrev cX6_unfold : ByteArray := prog_8_method_12_code
def yX6_unfold : MethodName := ⟨RX6, "unfold", "()I"⟩
abbrev cX6_take : ByteArray := prog_8_method_13_code
def yX6_take : MethodName := ⟨RX6, "take", "(II)I"⟩
abbrev cX6_work : ByteArray := prog_8_method_14_code
def yX6_work : MethodName := ⟨RX6, "work", "(I)I"⟩
abbrev cX6_join : ByteArray := prog_8_method_15_code
def yX6_join : MethodName := ⟨RX6, "join", "(III)I"⟩
abbrev cX6_undone : ByteArray := prog_8_method_16_code
def yX6_undone : MethodName := ⟨RX6, "undone", "(II)I"⟩
abbrev cX6_step : ByteArray := prog_8_method_17_code
def yX6_step : MethodName := ⟨RX6, "step", "(III)I"⟩
abbrev cX6_signOf : ByteArray := prog_8_method_18_code
def yX6_signOf : MethodName := ⟨RX6, "signOf", "(I)I"⟩
abbrev cX6_written : ByteArray := prog_8_method_19_code
def yX6_written : MethodName := ⟨RX6, "written", "(II)I"⟩
abbrev cX6_addLetter : ByteArray := prog_8_method_20_code
def yX6_addLetter : MethodName := ⟨RX6, "addLetter", "(III)V"⟩
abbrev cX6_layLetters : ByteArray := prog_8_method_21_code
def yX6_layLetters : MethodName := ⟨RX6, "layLetters", "(I)V"⟩
abbrev cX6_begin : ByteArray := prog_8_method_22_code
def yX6_begin : MethodName := ⟨RX6, "begin", "()V"⟩
abbrev cX6_change : ByteArray := prog_8_method_23_code
def yX6_change : MethodName := ⟨RX6, "change", "(I)V"⟩
abbrev cX6_goTo : ByteArray := prog_8_method_24_code
def yX6_goTo : MethodName := ⟨RX6, "goTo", "(II)V"⟩
abbrev cX6_at : ByteArray := prog_8_method_25_code
def yX6_at : MethodName := ⟨RX6, "at", "(III)I"⟩
abbrev cX6_met : ByteArray := prog_8_method_26_code
def yX6_met : MethodName := ⟨RX6, "met", "(IIII)I"⟩
abbrev cX6_pins : ByteArray := prog_8_method_27_code
def yX6_pins : MethodName := ⟨RX6, "pins", "(I)I"⟩
abbrev cX6_asAtFirst : ByteArray := prog_8_method_28_code
def yX6_asAtFirst : MethodName := ⟨RX6, "asAtFirst", "()I"⟩
abbrev cX6_timesOf : ByteArray := prog_8_method_29_code
def yX6_timesOf : MethodName := ⟨RX6, "timesOf", "(I)I"⟩
abbrev cX6_still : ByteArray := prog_8_method_30_code
def yX6_still : MethodName := ⟨RX6, "still", "(I)I"⟩
abbrev cX6_told : ByteArray := prog_8_method_31_code
def yX6_told : MethodName := ⟨RX6, "told", "(II)I"⟩
abbrev cX6_pin : ByteArray := prog_8_method_32_code
def yX6_pin : MethodName := ⟨RX6, "pin", "(III)I"⟩
abbrev cX6_letter : ByteArray := prog_8_method_33_code
def yX6_letter : MethodName := ⟨RX6, "letter", "(II)I"⟩
abbrev cX6_apart : ByteArray := prog_8_method_34_code
def yX6_apart : MethodName := ⟨RX6, "apart", "(II)Z"⟩
abbrev cX6_removeAt : ByteArray := prog_8_method_35_code
def yX6_removeAt : MethodName := ⟨RX6, "removeAt", "([III)V"⟩
abbrev cX6_addLeft : ByteArray := prog_8_method_36_code
def yX6_addLeft : MethodName := ⟨RX6, "addLeft", "(I)V"⟩
abbrev cX6_front : ByteArray := prog_8_method_37_code
def yX6_front : MethodName := ⟨RX6, "front", "()I"⟩
abbrev cX6_layShort : ByteArray := prog_8_method_38_code
def yX6_layShort : MethodName := ⟨RX6, "layShort", "(I)V"⟩
abbrev cX6_shortest : ByteArray := prog_8_method_39_code
def yX6_shortest : MethodName := ⟨RX6, "shortest", "(II)I"⟩
abbrev cX6_same : ByteArray := prog_8_method_40_code
def yX6_same : MethodName := ⟨RX6, "same", "(II)I"⟩
abbrev cX6_comesAgain : ByteArray := prog_8_method_41_code
def yX6_comesAgain : MethodName := ⟨RX6, "comesAgain", "(II)Z"⟩
abbrev cX6_part : ByteArray := prog_8_method_42_code
def yX6_part : MethodName := ⟨RX6, "part", "(I)I"⟩
abbrev cX6_image : ByteArray := prog_8_method_43_code
def yX6_image : MethodName := ⟨RX6, "image", "(I)I"⟩
abbrev cX6_restore : ByteArray := prog_8_method_44_code
def yX6_restore : MethodName := ⟨RX6, "restore", "(I)I"⟩
abbrev cX6_count : ByteArray := prog_8_method_45_code
def yX6_count : MethodName := ⟨RX6, "count", "(I)I"⟩
def RJx145de : String := "java/io/Serializable"
def TJx145de : u_T := fun k => match k with
  | _ => ("", "", "", false)
def tyJx145de : Nat → FieldType := fun k => match k with
  | _ => .int
abbrev wsJx145de0 : List Cond := u_ws RJx145de TJx145de 0
theorem nmJx145de : ∀ a, a < 0 → ∀ b, b < 0 → a ≠ b → (TJx145de a).2.1 ≠ (TJx145de b).2.1 := by decide +kernel
theorem tyJx145de_ok : ∀ k, k < 0 → parseFieldDescriptor (TJx145de k).2.2.1 = some (tyJx145de k) := by decide +kernel
def RJx9f9b0 : String := "java/lang/CharSequence"
def TJx9f9b0 : u_T := fun k => match k with
  | _ => ("", "", "", false)
def tyJx9f9b0 : Nat → FieldType := fun k => match k with
  | _ => .int
abbrev wsJx9f9b00 : List Cond := u_ws RJx9f9b0 TJx9f9b0 0
theorem nmJx9f9b0 : ∀ a, a < 0 → ∀ b, b < 0 → a ≠ b → (TJx9f9b0 a).2.1 ≠ (TJx9f9b0 b).2.1 := by decide +kernel
theorem tyJx9f9b0_ok : ∀ k, k < 0 → parseFieldDescriptor (TJx9f9b0 k).2.2.1 = some (tyJx9f9b0 k) := by decide +kernel
def RJ11 : String := "java/lang/Character"
def TJ11 : u_T := fun k => match k with
  | _ => ("", "", "", false)
def tyJ11 : Nat → FieldType := fun k => match k with
  | _ => .int
abbrev wsJ110 : List Cond := u_ws RJ11 TJ11 0
theorem nmJ11 : ∀ a, a < 0 → ∀ b, b < 0 → a ≠ b → (TJ11 a).2.1 ≠ (TJ11 b).2.1 := by decide +kernel
theorem tyJ11_ok : ∀ k, k < 0 → parseFieldDescriptor (TJ11 k).2.2.1 = some (tyJ11 k) := by decide +kernel
abbrev cJ11_isValidCodePoint_9a6ad : ByteArray := prog_9_method_11_code
def yJ11_isValidCodePoint_9a6ad : MethodName := ⟨RJ11, "isValidCodePoint", "(I)Z"⟩
abbrev cJ11_highSurrogate_5068e : ByteArray := prog_9_method_28_code
def yJ11_highSurrogate_5068e : MethodName := ⟨RJ11, "highSurrogate", "(I)C"⟩
abbrev cJ11_lowSurrogate_5068e : ByteArray := prog_9_method_29_code
def yJ11_lowSurrogate_5068e : MethodName := ⟨RJ11, "lowSurrogate", "(I)C"⟩
def RJxb160c : String := "java/lang/Comparable"
def TJxb160c : u_T := fun k => match k with
  | _ => ("", "", "", false)
def tyJxb160c : Nat → FieldType := fun k => match k with
  | _ => .int
abbrev wsJxb160c0 : List Cond := u_ws RJxb160c TJxb160c 0
theorem nmJxb160c : ∀ a, a < 0 → ∀ b, b < 0 → a ≠ b → (TJxb160c a).2.1 ≠ (TJxb160c b).2.1 := by decide +kernel
theorem tyJxb160c_ok : ∀ k, k < 0 → parseFieldDescriptor (TJxb160c k).2.2.1 = some (tyJxb160c k) := by decide +kernel
def RJ9 : String := "java/lang/Math"
def TJ9 : u_T := fun k => match k with
  | _ => ("", "", "", false)
def tyJ9 : Nat → FieldType := fun k => match k with
  | _ => .int
abbrev wsJ90 : List Cond := u_ws RJ9 TJ9 0
theorem nmJ9 : ∀ a, a < 0 → ∀ b, b < 0 → a ≠ b → (TJ9 a).2.1 ≠ (TJ9 b).2.1 := by decide +kernel
theorem tyJ9_ok : ∀ k, k < 0 → parseFieldDescriptor (TJ9 k).2.2.1 = some (tyJ9 k) := by decide +kernel
abbrev cJ9_max_7cf53 : ByteArray := prog_10_method_65_code
def yJ9_max_7cf53 : MethodName := ⟨RJ9, "max", "(II)I"⟩
abbrev cJ9_min_7cf53 : ByteArray := prog_10_method_69_code
def yJ9_min_7cf53 : MethodName := ⟨RJ9, "min", "(II)I"⟩
def RJ0 : String := "java/lang/String"
def TJ0 : u_T := fun k => match k with
  | _ => ("", "", "", false)
def tyJ0 : Nat → FieldType := fun k => match k with
  | _ => .int
abbrev wsJ00 : List Cond := u_ws RJ0 TJ0 0
theorem nmJ0 : ∀ a, a < 0 → ∀ b, b < 0 → a ≠ b → (TJ0 a).2.1 ≠ (TJ0 b).2.1 := by decide +kernel
theorem tyJ0_ok : ∀ k, k < 0 → parseFieldDescriptor (TJ0 k).2.2.1 = some (tyJ0 k) := by decide +kernel
abbrev cJ0_length_8abf5 : ByteArray := prog_11_method_54_code
def yJ0_length_8abf5 : MethodName := ⟨RJ0, "length", "()I"⟩
abbrev cJ0_charAt_5068e : ByteArray := prog_11_method_56_code
def yJ0_charAt_5068e : MethodName := ⟨RJ0, "charAt", "(I)C"⟩
abbrev cJ0_indexOf_0f7a4 : ByteArray := prog_11_method_79_code
def yJ0_indexOf_0f7a4 : MethodName := ⟨RJ0, "indexOf", "(I)I"⟩
abbrev cJ0_indexOf_7cf53 : ByteArray := prog_11_method_80_code
def yJ0_indexOf_7cf53 : MethodName := ⟨RJ0, "indexOf", "(II)I"⟩
abbrev cJ0_coder_7d493 : ByteArray := prog_11_method_152_code
def yJ0_coder_7d493 : MethodName := ⟨RJ0, "coder", "()B"⟩
abbrev cJ0_isLatin1_aae02 : ByteArray := prog_11_method_154_code
def yJ0_isLatin1_aae02 : MethodName := ⟨RJ0, "isLatin1", "()Z"⟩
abbrev cJ0_checkIndex_df160 : ByteArray := prog_11_method_155_code
def yJ0_checkIndex_df160 : MethodName := ⟨RJ0, "checkIndex", "(II)V"⟩
abbrev cJ0_checkBoundsBeginEnd_23922 : ByteArray := prog_11_method_158_code
def yJ0_checkBoundsBeginEnd_23922 : MethodName := ⟨RJ0, "checkBoundsBeginEnd", "(III)V"⟩
def RJ1 : String := "java/lang/StringLatin1"
def TJ1 : u_T := fun k => match k with
  | _ => ("", "", "", false)
def tyJ1 : Nat → FieldType := fun k => match k with
  | _ => .int
abbrev wsJ10 : List Cond := u_ws RJ1 TJ1 0
theorem nmJ1 : ∀ a, a < 0 → ∀ b, b < 0 → a ≠ b → (TJ1 a).2.1 ≠ (TJ1 b).2.1 := by decide +kernel
theorem tyJ1_ok : ∀ k, k < 0 → parseFieldDescriptor (TJ1 k).2.2.1 = some (tyJ1 k) := by decide +kernel
abbrev cJ1_charAt_3b067 : ByteArray := prog_12_method_2_code
def yJ1_charAt_3b067 : MethodName := ⟨RJ1, "charAt", "([BI)C"⟩
abbrev cJ1_canEncode_9a6ad : ByteArray := prog_12_method_4_code
def yJ1_canEncode_9a6ad : MethodName := ⟨RJ1, "canEncode", "(I)Z"⟩
abbrev cJ1_indexOf_4cfef : ByteArray := prog_12_method_22_code
def yJ1_indexOf_4cfef : MethodName := ⟨RJ1, "indexOf", "([BIII)I"⟩
abbrev cJ1_indexOfChar_4cfef : ByteArray := prog_12_method_23_code
def yJ1_indexOfChar_4cfef : MethodName := ⟨RJ1, "indexOfChar", "([BIII)I"⟩
def RJ2 : String := "java/lang/StringUTF16"
def TJ2 : u_T := fun k => match k with
  | _ => ("", "", "", false)
def tyJ2 : Nat → FieldType := fun k => match k with
  | _ => .int
abbrev wsJ20 : List Cond := u_ws RJ2 TJ2 0
theorem nmJ2 : ∀ a, a < 0 → ∀ b, b < 0 → a ≠ b → (TJ2 a).2.1 ≠ (TJ2 b).2.1 := by decide +kernel
theorem tyJ2_ok : ∀ k, k < 0 → parseFieldDescriptor (TJ2 k).2.2.1 = some (tyJ2 k) := by decide +kernel
abbrev cJ2_getChar_3b067 : ByteArray := prog_13_method_5_code
def yJ2_getChar_3b067 : MethodName := ⟨RJ2, "getChar", "([BI)C"⟩
abbrev cJ2_length_9d52b : ByteArray := prog_13_method_6_code
def yJ2_length_9d52b : MethodName := ⟨RJ2, "length", "([B)I"⟩
abbrev cJ2_indexOf_4cfef : ByteArray := prog_13_method_40_code
def yJ2_indexOf_4cfef : MethodName := ⟨RJ2, "indexOf", "([BIII)I"⟩
abbrev cJ2_indexOfChar_4cfef : ByteArray := prog_13_method_47_code
def yJ2_indexOfChar_4cfef : MethodName := ⟨RJ2, "indexOfChar", "([BIII)I"⟩
abbrev cJ2_indexOfCharUnsafe_4cfef : ByteArray := prog_13_method_48_code
def yJ2_indexOfCharUnsafe_4cfef : MethodName := ⟨RJ2, "indexOfCharUnsafe", "([BIII)I"⟩
abbrev cJ2_indexOfSupplementary_4cfef : ByteArray := prog_13_method_49_code
def yJ2_indexOfSupplementary_4cfef : MethodName := ⟨RJ2, "indexOfSupplementary", "([BIII)I"⟩
abbrev cJ2_charAt_3b067 : ByteArray := prog_13_method_83_code
def yJ2_charAt_3b067 : MethodName := ⟨RJ2, "charAt", "([BI)C"⟩
abbrev cJ2_checkIndex_2214a : ByteArray := prog_13_method_91_code
def yJ2_checkIndex_2214a : MethodName := ⟨RJ2, "checkIndex", "(I[B)V"⟩
abbrev cJ2_checkBoundsBeginEnd_d044e : ByteArray := prog_13_method_93_code
def yJ2_checkBoundsBeginEnd_d044e : MethodName := ⟨RJ2, "checkBoundsBeginEnd", "(II[B)V"⟩
def RJxfd54e : String := "java/lang/constant/Constable"
def TJxfd54e : u_T := fun k => match k with
  | _ => ("", "", "", false)
def tyJxfd54e : Nat → FieldType := fun k => match k with
  | _ => .int
abbrev wsJxfd54e0 : List Cond := u_ws RJxfd54e TJxfd54e 0
theorem nmJxfd54e : ∀ a, a < 0 → ∀ b, b < 0 → a ≠ b → (TJxfd54e a).2.1 ≠ (TJxfd54e b).2.1 := by decide +kernel
theorem tyJxfd54e_ok : ∀ k, k < 0 → parseFieldDescriptor (TJxfd54e k).2.2.1 = some (tyJxfd54e k) := by decide +kernel
def RJx3cf43 : String := "java/lang/constant/ConstantDesc"
def TJx3cf43 : u_T := fun k => match k with
  | _ => ("", "", "", false)
def tyJx3cf43 : Nat → FieldType := fun k => match k with
  | _ => .int
abbrev wsJx3cf430 : List Cond := u_ws RJx3cf43 TJx3cf43 0
theorem nmJx3cf43 : ∀ a, a < 0 → ∀ b, b < 0 → a ≠ b → (TJx3cf43 a).2.1 ≠ (TJx3cf43 b).2.1 := by decide +kernel
theorem tyJx3cf43_ok : ∀ k, k < 0 → parseFieldDescriptor (TJx3cf43 k).2.2.1 = some (tyJx3cf43 k) := by decide +kernel
def RJ7 : String := "java/util/Arrays"
def TJ7 : u_T := fun k => match k with
  | _ => ("", "", "", false)
def tyJ7 : Nat → FieldType := fun k => match k with
  | _ => .int
abbrev wsJ70 : List Cond := u_ws RJ7 TJ7 0
theorem nmJ7 : ∀ a, a < 0 → ∀ b, b < 0 → a ≠ b → (TJ7 a).2.1 ≠ (TJ7 b).2.1 := by decide +kernel
theorem tyJ7_ok : ∀ k, k < 0 → parseFieldDescriptor (TJ7 k).2.2.1 = some (tyJ7 k) := by decide +kernel
abbrev cJ7_fill_53178 : ByteArray := prog_14_method_103_code
def yJ7_fill_53178 : MethodName := ⟨RJ7, "fill", "([II)V"⟩
def RJ3 : String := "jdk/internal/util/Preconditions"
def TJ3 : u_T := fun k => match k with
  | _ => ("", "", "", false)
def tyJ3 : Nat → FieldType := fun k => match k with
  | _ => .int
abbrev wsJ30 : List Cond := u_ws RJ3 TJ3 0
theorem nmJ3 : ∀ a, a < 0 → ∀ b, b < 0 → a ≠ b → (TJ3 a).2.1 ≠ (TJ3 b).2.1 := by decide +kernel
theorem tyJ3_ok : ∀ k, k < 0 → parseFieldDescriptor (TJ3 k).2.2.1 = some (tyJ3 k) := by decide +kernel
abbrev cJ3_checkIndex_8e157 : ByteArray := prog_15_method_11_code
def yJ3_checkIndex_8e157 : MethodName := ⟨RJ3, "checkIndex", "(IILjava/util/function/BiFunction;)I"⟩
abbrev cJ3_checkFromToIndex_8c36e : ByteArray := prog_15_method_12_code
def yJ3_checkFromToIndex_8c36e : MethodName := ⟨RJ3, "checkFromToIndex", "(IIILjava/util/function/BiFunction;)I"⟩
def RL : String := "LaceWorksLaw"
abbrev cL_law : ByteArray := code
def yL_law : MethodName := ⟨RL, "law", "([I)Z"⟩
abbrev vwCl : List vw_C := [(RX0, TX0, 2), (RX1, TX1, 2), (RX2, TX2, 2), (RX3, TX3, 4), (RX4, TX4, 1), (RX5, TX5, 14), (RX6, TX6, 19)]
