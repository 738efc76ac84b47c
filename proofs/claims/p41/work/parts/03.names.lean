def RX0 : String := "TinRoofScore$History"
def TX0 : u_T := fun k => match k with
  | 0 => ("TinRoofScore$History", "pages", "[LTinRoofScore$Print;", true)
  | 1 => ("TinRoofScore$History", "next", "I", false)
  | _ => ("TinRoofScore$History", "count", "I", false)
def tyX0 : Nat → FieldType := fun k => match k with
  | 0 => .array (.object "TinRoofScore$Print")
  | 1 => .int
  | _ => .int
abbrev wsX00 : List Cond := u_ws RX0 TX0 3
theorem nmX0 : ∀ a, a < 3 → ∀ b, b < 3 → a ≠ b → (TX0 a).2.1 ≠ (TX0 b).2.1 := by decide +kernel
theorem tyX0_ok : ∀ k, k < 3 → parseFieldDescriptor (TX0 k).2.2.1 = some (tyX0 k) := by decide +kernel
abbrev cX0_init : ByteArray := prog_2_method_1_code
def yX0_init : MethodName := ⟨RX0, "<init>", "()V"⟩
abbrev cX0_countOfChanges : ByteArray := prog_2_method_2_code
def yX0_countOfChanges : MethodName := ⟨RX0, "countOfChanges", "()I"⟩
abbrev cX0_keep : ByteArray := prog_2_method_3_code
def yX0_keep : MethodName := ⟨RX0, "keep", "(LTinRoofScore$Print;)V"⟩
abbrev cX0_takeBack : ByteArray := prog_2_method_4_code
def yX0_takeBack : MethodName := ⟨RX0, "takeBack", "(LTinRoofScore$Print;)V"⟩
abbrev cX0_pageAt : ByteArray := prog_2_method_6_code
def yX0_pageAt : MethodName := ⟨RX0, "pageAt", "(I)LTinRoofScore$Print;"⟩
def RX1 : String := "TinRoofScore$Judge"
def TX1 : u_T := fun k => match k with
  | 0 => ("TinRoofScore$Judge", "print", "LTinRoofScore$Print;", true)
  | 1 => ("TinRoofScore$Judge", "reason", "I", false)
  | _ => ("TinRoofScore$Judge", "detail", "I", false)
def tyX1 : Nat → FieldType := fun k => match k with
  | 0 => .object "TinRoofScore$Print"
  | 1 => .int
  | _ => .int
abbrev wsX10 : List Cond := u_ws RX1 TX1 3
theorem nmX1 : ∀ a, a < 3 → ∀ b, b < 3 → a ≠ b → (TX1 a).2.1 ≠ (TX1 b).2.1 := by decide +kernel
theorem tyX1_ok : ∀ k, k < 3 → parseFieldDescriptor (TX1 k).2.2.1 = some (tyX1 k) := by decide +kernel
abbrev cX1_init : ByteArray := prog_3_method_1_code
def yX1_init : MethodName := ⟨RX1, "<init>", "(LTinRoofScore$Print;)V"⟩
abbrev cX1_hasRefused : ByteArray := prog_3_method_2_code
def yX1_hasRefused : MethodName := ⟨RX1, "hasRefused", "()Z"⟩
abbrev cX1_latestReason : ByteArray := prog_3_method_3_code
def yX1_latestReason : MethodName := ⟨RX1, "latestReason", "()I"⟩
abbrev cX1_latestDetail : ByteArray := prog_3_method_4_code
def yX1_latestDetail : MethodName := ⟨RX1, "latestDetail", "()I"⟩
abbrev cX1_refuse : ByteArray := prog_3_method_5_code
def yX1_refuse : MethodName := ⟨RX1, "refuse", "(II)I"⟩
abbrev cX1_verdict : ByteArray := prog_3_method_6_code
def yX1_verdict : MethodName := ⟨RX1, "verdict", "(LTinRoofScore$Order;III)I"⟩
abbrev cX1_verdictOnBar : ByteArray := prog_3_method_7_code
def yX1_verdictOnBar : MethodName := ⟨RX1, "verdictOnBar", "(I)I"⟩
abbrev cX1_verdictOnTin : ByteArray := prog_3_method_8_code
def yX1_verdictOnTin : MethodName := ⟨RX1, "verdictOnTin", "(IIII)I"⟩
abbrev cX1_verdictOnDrop : ByteArray := prog_3_method_9_code
def yX1_verdictOnDrop : MethodName := ⟨RX1, "verdictOnDrop", "(III)I"⟩
abbrev cX1_verdictOnRest : ByteArray := prog_3_method_10_code
def yX1_verdictOnRest : MethodName := ⟨RX1, "verdictOnRest", "(I)I"⟩
abbrev cX1_verdictOnRoom : ByteArray := prog_3_method_11_code
def yX1_verdictOnRoom : MethodName := ⟨RX1, "verdictOnRoom", "(I)I"⟩
abbrev cX1_verdictOnLimit : ByteArray := prog_3_method_12_code
def yX1_verdictOnLimit : MethodName := ⟨RX1, "verdictOnLimit", "(I)I"⟩
abbrev cX1_verdictOnTune : ByteArray := prog_3_method_13_code
def yX1_verdictOnTune : MethodName := ⟨RX1, "verdictOnTune", "(II)I"⟩
abbrev cX1_carryOut : ByteArray := prog_3_method_14_code
def yX1_carryOut : MethodName := ⟨RX1, "carryOut", "(LTinRoofScore$Order;III)I"⟩
def RX2 : String := "TinRoofScore$Line"
def TX2 : u_T := fun k => match k with
  | 0 => ("TinRoofScore$Line", "print", "LTinRoofScore$Print;", true)
  | 1 => ("TinRoofScore$Line", "signs", "[C", true)
  | _ => ("TinRoofScore$Line", "length", "I", false)
def tyX2 : Nat → FieldType := fun k => match k with
  | 0 => .object "TinRoofScore$Print"
  | 1 => .array .char
  | _ => .int
abbrev wsX20 : List Cond := u_ws RX2 TX2 3
theorem nmX2 : ∀ a, a < 3 → ∀ b, b < 3 → a ≠ b → (TX2 a).2.1 ≠ (TX2 b).2.1 := by decide +kernel
theorem tyX2_ok : ∀ k, k < 3 → parseFieldDescriptor (TX2 k).2.2.1 = some (tyX2 k) := by decide +kernel
abbrev cX2_init : ByteArray := prog_4_method_1_code
def yX2_init : MethodName := ⟨RX2, "<init>", "(LTinRoofScore$Print;)V"⟩
abbrev cX2_hasSign : ByteArray := prog_4_method_2_code
def yX2_hasSign : MethodName := ⟨RX2, "hasSign", "(I)Z"⟩
abbrev cX2_signAt : ByteArray := prog_4_method_3_code
def yX2_signAt : MethodName := ⟨RX2, "signAt", "(I)C"⟩
abbrev cX2_writeBar : ByteArray := prog_4_method_4_code
def yX2_writeBar : MethodName := ⟨RX2, "writeBar", "(I)I"⟩
abbrev cX2_addPart : ByteArray := prog_4_method_5_code
def yX2_addPart : MethodName := ⟨RX2, "addPart", "(II)V"⟩
abbrev cX2_writeTin : ByteArray := prog_4_method_6_code
def yX2_writeTin : MethodName := ⟨RX2, "writeTin", "(I)I"⟩
abbrev cX2_addNumber : ByteArray := prog_4_method_7_code
def yX2_addNumber : MethodName := ⟨RX2, "addNumber", "(I)V"⟩
abbrev cX2_addSign : ByteArray := prog_4_method_8_code
def yX2_addSign : MethodName := ⟨RX2, "addSign", "(C)V"⟩
def RX3 : String := "TinRoofScore$Melody"
def TX3 : u_T := fun k => match k with
  | _ => ("TinRoofScore$Melody", "print", "LTinRoofScore$Print;", true)
def tyX3 : Nat → FieldType := fun k => match k with
  | _ => .object "TinRoofScore$Print"
abbrev wsX30 : List Cond := u_ws RX3 TX3 1
theorem nmX3 : ∀ a, a < 1 → ∀ b, b < 1 → a ≠ b → (TX3 a).2.1 ≠ (TX3 b).2.1 := by decide +kernel
theorem tyX3_ok : ∀ k, k < 1 → parseFieldDescriptor (TX3 k).2.2.1 = some (tyX3 k) := by decide +kernel
abbrev cX3_init : ByteArray := prog_5_method_1_code
def yX3_init : MethodName := ⟨RX3, "<init>", "(LTinRoofScore$Print;)V"⟩
abbrev cX3_way : ByteArray := prog_5_method_2_code
def yX3_way : MethodName := ⟨RX3, "way", "()I"⟩
abbrev cX3_wayBySteps : ByteArray := prog_5_method_3_code
def yX3_wayBySteps : MethodName := ⟨RX3, "wayBySteps", "()I"⟩
abbrev cX3_timesOver : ByteArray := prog_5_method_4_code
def yX3_timesOver : MethodName := ⟨RX3, "timesOver", "(I)I"⟩
abbrev cX3_riseTo : ByteArray := prog_5_method_5_code
def yX3_riseTo : MethodName := ⟨RX3, "riseTo", "(I)I"⟩
abbrev cX3_moves : ByteArray := prog_5_method_6_code
def yX3_moves : MethodName := ⟨RX3, "moves", "(Z)I"⟩
abbrev cX3_width : ByteArray := prog_5_method_7_code
def yX3_width : MethodName := ⟨RX3, "width", "()I"⟩
abbrev cX3_dropsAt : ByteArray := prog_5_method_8_code
def yX3_dropsAt : MethodName := ⟨RX3, "dropsAt", "(I)I"⟩
abbrev cX3_countOfDrops : ByteArray := prog_5_method_9_code
def yX3_countOfDrops : MethodName := ⟨RX3, "countOfDrops", "()I"⟩
abbrev cX3_sumOfPitches : ByteArray := prog_5_method_10_code
def yX3_sumOfPitches : MethodName := ⟨RX3, "sumOfPitches", "()I"⟩
def RX4 : String := "TinRoofScore$Order"
def TX4 : u_T := fun k => match k with
  | _ => ("", "", "", false)
def tyX4 : Nat → FieldType := fun k => match k with
  | _ => .int
abbrev wsX40 : List Cond := u_ws RX4 TX4 0
theorem nmX4 : ∀ a, a < 0 → ∀ b, b < 0 → a ≠ b → (TX4 a).2.1 ≠ (TX4 b).2.1 := by decide +kernel
theorem tyX4_ok : ∀ k, k < 0 → parseFieldDescriptor (TX4 k).2.2.1 = some (tyX4 k) := by decide +kernel
def RX5 : String := "TinRoofScore$Print"
def TX5 : u_T := fun k => match k with
  | 0 => ("TinRoofScore$Print", "sizes", "[I", true)
  | 1 => ("TinRoofScore$Print", "keys", "[I", true)
  | 2 => ("TinRoofScore$Print", "leaks", "[I", true)
  | 3 => ("TinRoofScore$Print", "tins", "[I", true)
  | 4 => ("TinRoofScore$Print", "heights", "[I", true)
  | 5 => ("TinRoofScore$Print", "lengths", "[I", true)
  | 6 => ("TinRoofScore$Print", "bars", "I", false)
  | 7 => ("TinRoofScore$Print", "sounds", "I", false)
  | 8 => ("TinRoofScore$Print", "farthest", "I", false)
  | 9 => ("TinRoofScore$Print", "soundsSet", "I", false)
  | _ => ("TinRoofScore$Print", "soundsTaken", "I", false)
def tyX5 : Nat → FieldType := fun k => match k with
  | 0 => .array .int
  | 1 => .array .int
  | 2 => .array .int
  | 3 => .array .int
  | 4 => .array .int
  | 5 => .array .int
  | 6 => .int
  | 7 => .int
  | 8 => .int
  | 9 => .int
  | _ => .int
abbrev wsX50 : List Cond := u_ws RX5 TX5 11
theorem nmX5 : ∀ a, a < 11 → ∀ b, b < 11 → a ≠ b → (TX5 a).2.1 ≠ (TX5 b).2.1 := by decide +kernel
theorem tyX5_ok : ∀ k, k < 11 → parseFieldDescriptor (TX5 k).2.2.1 = some (tyX5 k) := by decide +kernel
abbrev cX5_init : ByteArray := prog_7_method_1_code
def yX5_init : MethodName := ⟨RX5, "<init>", "()V"⟩
abbrev cX5_become : ByteArray := prog_7_method_2_code
def yX5_become : MethodName := ⟨RX5, "become", "(LTinRoofScore$Print;)V"⟩
abbrev cX5_addBar : ByteArray := prog_7_method_3_code
def yX5_addBar : MethodName := ⟨RX5, "addBar", "(I)I"⟩
abbrev cX5_addSound : ByteArray := prog_7_method_4_code
def yX5_addSound : MethodName := ⟨RX5, "addSound", "(III)I"⟩
abbrev cX5_takeLast : ByteArray := prog_7_method_5_code
def yX5_takeLast : MethodName := ⟨RX5, "takeLast", "()I"⟩
abbrev cX5_setKey : ByteArray := prog_7_method_6_code
def yX5_setKey : MethodName := ⟨RX5, "setKey", "(II)I"⟩
abbrev cX5_setLeak : ByteArray := prog_7_method_7_code
def yX5_setLeak : MethodName := ⟨RX5, "setLeak", "(II)I"⟩
abbrev cX5_setHeight : ByteArray := prog_7_method_8_code
def yX5_setHeight : MethodName := ⟨RX5, "setHeight", "(II)I"⟩
abbrev cX5_setFarthest : ByteArray := prog_7_method_9_code
def yX5_setFarthest : MethodName := ⟨RX5, "setFarthest", "(I)I"⟩
abbrev cX5_countOfBars : ByteArray := prog_7_method_10_code
def yX5_countOfBars : MethodName := ⟨RX5, "countOfBars", "()I"⟩
abbrev cX5_countOfSounds : ByteArray := prog_7_method_11_code
def yX5_countOfSounds : MethodName := ⟨RX5, "countOfSounds", "()I"⟩
abbrev cX5_limitNow : ByteArray := prog_7_method_12_code
def yX5_limitNow : MethodName := ⟨RX5, "limitNow", "()I"⟩
abbrev cX5_setSoFar : ByteArray := prog_7_method_13_code
def yX5_setSoFar : MethodName := ⟨RX5, "setSoFar", "()I"⟩
abbrev cX5_takenSoFar : ByteArray := prog_7_method_14_code
def yX5_takenSoFar : MethodName := ⟨RX5, "takenSoFar", "()I"⟩
abbrev cX5_hasBar : ByteArray := prog_7_method_15_code
def yX5_hasBar : MethodName := ⟨RX5, "hasBar", "(I)Z"⟩
abbrev cX5_hasSound : ByteArray := prog_7_method_16_code
def yX5_hasSound : MethodName := ⟨RX5, "hasSound", "(I)Z"⟩
abbrev cX5_keyOf : ByteArray := prog_7_method_17_code
def yX5_keyOf : MethodName := ⟨RX5, "keyOf", "(I)I"⟩
abbrev cX5_leakOf : ByteArray := prog_7_method_18_code
def yX5_leakOf : MethodName := ⟨RX5, "leakOf", "(I)I"⟩
abbrev cX5_sizeOf : ByteArray := prog_7_method_19_code
def yX5_sizeOf : MethodName := ⟨RX5, "sizeOf", "(I)I"⟩
abbrev cX5_tinOfSound : ByteArray := prog_7_method_20_code
def yX5_tinOfSound : MethodName := ⟨RX5, "tinOfSound", "(I)I"⟩
abbrev cX5_heightOf : ByteArray := prog_7_method_21_code
def yX5_heightOf : MethodName := ⟨RX5, "heightOf", "(I)I"⟩
abbrev cX5_beatsOf : ByteArray := prog_7_method_22_code
def yX5_beatsOf : MethodName := ⟨RX5, "beatsOf", "(I)I"⟩
abbrev cX5_isRest : ByteArray := prog_7_method_23_code
def yX5_isRest : MethodName := ⟨RX5, "isRest", "(I)Z"⟩
abbrev cX5_pitchOf : ByteArray := prog_7_method_24_code
def yX5_pitchOf : MethodName := ⟨RX5, "pitchOf", "(I)I"⟩
abbrev cX5_dropAhead : ByteArray := prog_7_method_25_code
def yX5_dropAhead : MethodName := ⟨RX5, "dropAhead", "(I)I"⟩
abbrev cX5_countOfRests : ByteArray := prog_7_method_26_code
def yX5_countOfRests : MethodName := ⟨RX5, "countOfRests", "()I"⟩
abbrev cX5_countOfTin : ByteArray := prog_7_method_27_code
def yX5_countOfTin : MethodName := ⟨RX5, "countOfTin", "(IZ)I"⟩
abbrev cX5_beatsOfTin : ByteArray := prog_7_method_28_code
def yX5_beatsOfTin : MethodName := ⟨RX5, "beatsOfTin", "(I)I"⟩
abbrev cX5_startOfBar : ByteArray := prog_7_method_29_code
def yX5_startOfBar : MethodName := ⟨RX5, "startOfBar", "(I)I"⟩
abbrev cX5_startOfSound : ByteArray := prog_7_method_30_code
def yX5_startOfSound : MethodName := ⟨RX5, "startOfSound", "(I)I"⟩
abbrev cX5_allBeats : ByteArray := prog_7_method_31_code
def yX5_allBeats : MethodName := ⟨RX5, "allBeats", "()I"⟩
abbrev cX5_filledBeats : ByteArray := prog_7_method_32_code
def yX5_filledBeats : MethodName := ⟨RX5, "filledBeats", "()I"⟩
abbrev cX5_freeBeats : ByteArray := prog_7_method_33_code
def yX5_freeBeats : MethodName := ⟨RX5, "freeBeats", "()I"⟩
abbrev cX5_barAt : ByteArray := prog_7_method_34_code
def yX5_barAt : MethodName := ⟨RX5, "barAt", "(I)I"⟩
abbrev cX5_soundAt : ByteArray := prog_7_method_35_code
def yX5_soundAt : MethodName := ⟨RX5, "soundAt", "(I)I"⟩
abbrev cX5_overlap : ByteArray := prog_7_method_36_code
def yX5_overlap : MethodName := ⟨RX5, "overlap", "(II)I"⟩
abbrev cX5_isTied : ByteArray := prog_7_method_37_code
def yX5_isTied : MethodName := ⟨RX5, "isTied", "(II)Z"⟩
abbrev cX5_partsOfSound : ByteArray := prog_7_method_38_code
def yX5_partsOfSound : MethodName := ⟨RX5, "partsOfSound", "(I)I"⟩
abbrev cX5_partsOfBar : ByteArray := prog_7_method_39_code
def yX5_partsOfBar : MethodName := ⟨RX5, "partsOfBar", "(I)I"⟩
abbrev cX5_allParts : ByteArray := prog_7_method_40_code
def yX5_allParts : MethodName := ⟨RX5, "allParts", "()I"⟩
abbrev cX5_beginningsIn : ByteArray := prog_7_method_41_code
def yX5_beginningsIn : MethodName := ⟨RX5, "beginningsIn", "(I)I"⟩
abbrev cX5_filledOfBar : ByteArray := prog_7_method_42_code
def yX5_filledOfBar : MethodName := ⟨RX5, "filledOfBar", "(I)I"⟩
abbrev cX5_soundOfPart : ByteArray := prog_7_method_43_code
def yX5_soundOfPart : MethodName := ⟨RX5, "soundOfPart", "(II)I"⟩
abbrev cX5_arePartsWhole : ByteArray := prog_7_method_44_code
def yX5_arePartsWhole : MethodName := ⟨RX5, "arePartsWhole", "()Z"⟩
abbrev cX5_areBarsInBounds : ByteArray := prog_7_method_45_code
def yX5_areBarsInBounds : MethodName := ⟨RX5, "areBarsInBounds", "()Z"⟩
def RX6 : String := "TinRoofScore$Proof"
def TX6 : u_T := fun k => match k with
  | _ => ("TinRoofScore$Proof", "print", "LTinRoofScore$Print;", true)
def tyX6 : Nat → FieldType := fun k => match k with
  | _ => .object "TinRoofScore$Print"
abbrev wsX60 : List Cond := u_ws RX6 TX6 1
theorem nmX6 : ∀ a, a < 1 → ∀ b, b < 1 → a ≠ b → (TX6 a).2.1 ≠ (TX6 b).2.1 := by decide +kernel
theorem tyX6_ok : ∀ k, k < 1 → parseFieldDescriptor (TX6 k).2.2.1 = some (tyX6 k) := by decide +kernel
abbrev cX6_init : ByteArray := prog_8_method_1_code
def yX6_init : MethodName := ⟨RX6, "<init>", "(LTinRoofScore$Print;)V"⟩
abbrev cX6_isFault : ByteArray := prog_8_method_2_code
def yX6_isFault : MethodName := ⟨RX6, "isFault", "(II)Z"⟩
abbrev cX6_isFar : ByteArray := prog_8_method_3_code
def yX6_isFar : MethodName := ⟨RX6, "isFar", "(I)Z"⟩
abbrev cX6_isSame : ByteArray := prog_8_method_4_code
def yX6_isSame : MethodName := ⟨RX6, "isSame", "(I)Z"⟩
abbrev cX6_mostParts : ByteArray := prog_8_method_5_code
def yX6_mostParts : MethodName := ⟨RX6, "mostParts", "(Z)I"⟩
abbrev cX6_places : ByteArray := prog_8_method_6_code
def yX6_places : MethodName := ⟨RX6, "places", "(I)I"⟩
abbrev cX6_count : ByteArray := prog_8_method_7_code
def yX6_count : MethodName := ⟨RX6, "count", "(I)I"⟩
abbrev cX6_first : ByteArray := prog_8_method_8_code
def yX6_first : MethodName := ⟨RX6, "first", "(I)I"⟩
abbrev cX6_countAll : ByteArray := prog_8_method_9_code
def yX6_countAll : MethodName := ⟨RX6, "countAll", "()I"⟩
abbrev cX6_countByBeats : ByteArray := prog_8_method_10_code
def yX6_countByBeats : MethodName := ⟨RX6, "countByBeats", "(I)I"⟩
abbrev cX6_pitchesByBeats : ByteArray := prog_8_method_11_code
def yX6_pitchesByBeats : MethodName := ⟨RX6, "pitchesByBeats", "(I)I"⟩
abbrev cX6_restsAtBars : ByteArray := prog_8_method_12_code
def yX6_restsAtBars : MethodName := ⟨RX6, "restsAtBars", "()I"⟩
abbrev cX6_tiesByBeats : ByteArray := prog_8_method_13_code
def yX6_tiesByBeats : MethodName := ⟨RX6, "tiesByBeats", "()I"⟩
abbrev cX6_countWith : ByteArray := prog_8_method_14_code
def yX6_countWith : MethodName := ⟨RX6, "countWith", "(II)I"⟩
abbrev cX6_isToldAlike : ByteArray := prog_8_method_15_code
def yX6_isToldAlike : MethodName := ⟨RX6, "isToldAlike", "()Z"⟩
def RX7 : String := "TinRoofScore$Ranking"
def TX7 : u_T := fun k => match k with
  | _ => ("TinRoofScore$Ranking", "print", "LTinRoofScore$Print;", true)
def tyX7 : Nat → FieldType := fun k => match k with
  | _ => .object "TinRoofScore$Print"
abbrev wsX70 : List Cond := u_ws RX7 TX7 1
theorem nmX7 : ∀ a, a < 1 → ∀ b, b < 1 → a ≠ b → (TX7 a).2.1 ≠ (TX7 b).2.1 := by decide +kernel
theorem tyX7_ok : ∀ k, k < 1 → parseFieldDescriptor (TX7 k).2.2.1 = some (tyX7 k) := by decide +kernel
abbrev cX7_init : ByteArray := prog_9_method_1_code
def yX7_init : MethodName := ⟨RX7, "<init>", "(LTinRoofScore$Print;)V"⟩
abbrev cX7_tinAt : ByteArray := prog_9_method_2_code
def yX7_tinAt : MethodName := ⟨RX7, "tinAt", "(I)I"⟩
abbrev cX7_placeOfTin : ByteArray := prog_9_method_3_code
def yX7_placeOfTin : MethodName := ⟨RX7, "placeOfTin", "(I)I"⟩
abbrev cX7_isTinAhead : ByteArray := prog_9_method_4_code
def yX7_isTinAhead : MethodName := ⟨RX7, "isTinAhead", "(II)Z"⟩
abbrev cX7_dropAt : ByteArray := prog_9_method_5_code
def yX7_dropAt : MethodName := ⟨RX7, "dropAt", "(I)I"⟩
abbrev cX7_placeOfDrop : ByteArray := prog_9_method_6_code
def yX7_placeOfDrop : MethodName := ⟨RX7, "placeOfDrop", "(I)I"⟩
abbrev cX7_isDropAhead : ByteArray := prog_9_method_7_code
def yX7_isDropAhead : MethodName := ⟨RX7, "isDropAhead", "(II)Z"⟩
def RX8 : String := "TinRoofScore$Text"
def TX8 : u_T := fun k => match k with
  | 0 => ("TinRoofScore$Text", "signs", "[C", true)
  | 1 => ("TinRoofScore$Text", "orders", "[LTinRoofScore$Order;", true)
  | 2 => ("TinRoofScore$Text", "numbers", "[I", true)
  | 3 => ("TinRoofScore$Text", "length", "I", false)
  | 4 => ("TinRoofScore$Text", "position", "I", false)
  | 5 => ("TinRoofScore$Text", "count", "I", false)
  | _ => ("TinRoofScore$Text", "error", "I", false)
def tyX8 : Nat → FieldType := fun k => match k with
  | 0 => .array .char
  | 1 => .array (.object "TinRoofScore$Order")
  | 2 => .array .int
  | 3 => .int
  | 4 => .int
  | 5 => .int
  | _ => .int
abbrev wsX80 : List Cond := u_ws RX8 TX8 7
theorem nmX8 : ∀ a, a < 7 → ∀ b, b < 7 → a ≠ b → (TX8 a).2.1 ≠ (TX8 b).2.1 := by decide +kernel
theorem tyX8_ok : ∀ k, k < 7 → parseFieldDescriptor (TX8 k).2.2.1 = some (tyX8 k) := by decide +kernel
abbrev cX8_init : ByteArray := prog_10_method_1_code
def yX8_init : MethodName := ⟨RX8, "<init>", "()V"⟩
abbrev cX8_isFull : ByteArray := prog_10_method_2_code
def yX8_isFull : MethodName := ⟨RX8, "isFull", "()Z"⟩
abbrev cX8_add : ByteArray := prog_10_method_3_code
def yX8_add : MethodName := ⟨RX8, "add", "(C)I"⟩
abbrev cX8_countOfSigns : ByteArray := prog_10_method_4_code
def yX8_countOfSigns : MethodName := ⟨RX8, "countOfSigns", "()I"⟩
abbrev cX8_countOfOrders : ByteArray := prog_10_method_6_code
def yX8_countOfOrders : MethodName := ⟨RX8, "countOfOrders", "()I"⟩
abbrev cX8_orderAt : ByteArray := prog_10_method_7_code
def yX8_orderAt : MethodName := ⟨RX8, "orderAt", "(I)LTinRoofScore$Order;"⟩
abbrev cX8_numberAt : ByteArray := prog_10_method_8_code
def yX8_numberAt : MethodName := ⟨RX8, "numberAt", "(II)I"⟩
abbrev cX8_read : ByteArray := prog_10_method_9_code
def yX8_read : MethodName := ⟨RX8, "read", "()Z"⟩
abbrev cX8_readOrders : ByteArray := prog_10_method_10_code
def yX8_readOrders : MethodName := ⟨RX8, "readOrders", "()Z"⟩
abbrev cX8_readOrder : ByteArray := prog_10_method_11_code
def yX8_readOrder : MethodName := ⟨RX8, "readOrder", "()Z"⟩
abbrev cX8_readWord : ByteArray := prog_10_method_12_code
def yX8_readWord : MethodName := ⟨RX8, "readWord", "()LTinRoofScore$Order;"⟩
abbrev cX8_lettersOf : ByteArray := prog_10_method_13_code
def yX8_lettersOf : MethodName := ⟨RX8, "lettersOf", "(Ljava/lang/String;)I"⟩
abbrev cX8_readNumber : ByteArray := prog_10_method_14_code
def yX8_readNumber : MethodName := ⟨RX8, "readNumber", "(I)I"⟩
abbrev cX8_readDigit : ByteArray := prog_10_method_15_code
def yX8_readDigit : MethodName := ⟨RX8, "readDigit", "()I"⟩
abbrev cX8_take : ByteArray := prog_10_method_16_code
def yX8_take : MethodName := ⟨RX8, "take", "(C)Z"⟩
abbrev cX8_isSign : ByteArray := prog_10_method_17_code
def yX8_isSign : MethodName := ⟨RX8, "isSign", "(IC)Z"⟩
def RX9 : String := "TinRoofScore"
def TX9 : u_T := fun k => match k with
  | 0 => ("TinRoofScore", "print", "LTinRoofScore$Print;", true)
  | 1 => ("TinRoofScore", "saved", "LTinRoofScore$Print;", true)
  | 2 => ("TinRoofScore", "beforeText", "LTinRoofScore$Print;", true)
  | 3 => ("TinRoofScore", "judge", "LTinRoofScore$Judge;", true)
  | 4 => ("TinRoofScore", "proof", "LTinRoofScore$Proof;", true)
  | 5 => ("TinRoofScore", "melody", "LTinRoofScore$Melody;", true)
  | 6 => ("TinRoofScore", "ranking", "LTinRoofScore$Ranking;", true)
  | 7 => ("TinRoofScore", "written", "LTinRoofScore$Line;", true)
  | 8 => ("TinRoofScore", "text", "LTinRoofScore$Text;", true)
  | 9 => ("TinRoofScore", "history", "LTinRoofScore$History;", true)
  | _ => ("TinRoofScore", "isSaved", "Z", false)
def tyX9 : Nat → FieldType := fun k => match k with
  | 0 => .object "TinRoofScore$Print"
  | 1 => .object "TinRoofScore$Print"
  | 2 => .object "TinRoofScore$Print"
  | 3 => .object "TinRoofScore$Judge"
  | 4 => .object "TinRoofScore$Proof"
  | 5 => .object "TinRoofScore$Melody"
  | 6 => .object "TinRoofScore$Ranking"
  | 7 => .object "TinRoofScore$Line"
  | 8 => .object "TinRoofScore$Text"
  | 9 => .object "TinRoofScore$History"
  | _ => .boolean
abbrev wsX90 : List Cond := u_ws RX9 TX9 11
theorem nmX9 : ∀ a, a < 11 → ∀ b, b < 11 → a ≠ b → (TX9 a).2.1 ≠ (TX9 b).2.1 := by decide +kernel
theorem tyX9_ok : ∀ k, k < 11 → parseFieldDescriptor (TX9 k).2.2.1 = some (tyX9 k) := by decide +kernel
abbrev cX9_init : ByteArray := prog_1_method_1_code
def yX9_init : MethodName := ⟨RX9, "<init>", "()V"⟩
abbrev cX9_bar : ByteArray := prog_1_method_2_code
def yX9_bar : MethodName := ⟨RX9, "bar", "(I)I"⟩
abbrev cX9_key : ByteArray := prog_1_method_3_code
def yX9_key : MethodName := ⟨RX9, "key", "(II)I"⟩
abbrev cX9_leak : ByteArray := prog_1_method_4_code
def yX9_leak : MethodName := ⟨RX9, "leak", "(II)I"⟩
abbrev cX9_drop : ByteArray := prog_1_method_5_code
def yX9_drop : MethodName := ⟨RX9, "drop", "(III)I"⟩
abbrev cX9_rest : ByteArray := prog_1_method_6_code
def yX9_rest : MethodName := ⟨RX9, "rest", "(I)I"⟩
abbrev cX9_lift : ByteArray := prog_1_method_7_code
def yX9_lift : MethodName := ⟨RX9, "lift", "()I"⟩
abbrev cX9_limit : ByteArray := prog_1_method_8_code
def yX9_limit : MethodName := ⟨RX9, "limit", "(I)I"⟩
abbrev cX9_tune : ByteArray := prog_1_method_9_code
def yX9_tune : MethodName := ⟨RX9, "tune", "(II)I"⟩
abbrev cX9_tinOf : ByteArray := prog_1_method_10_code
def yX9_tinOf : MethodName := ⟨RX9, "tinOf", "(II)I"⟩
abbrev cX9_soundOf : ByteArray := prog_1_method_11_code
def yX9_soundOf : MethodName := ⟨RX9, "soundOf", "(II)I"⟩
abbrev cX9_barOf : ByteArray := prog_1_method_12_code
def yX9_barOf : MethodName := ⟨RX9, "barOf", "(II)I"⟩
abbrev cX9_partOf : ByteArray := prog_1_method_13_code
def yX9_partOf : MethodName := ⟨RX9, "partOf", "(III)I"⟩
abbrev cX9_at : ByteArray := prog_1_method_14_code
def yX9_at : MethodName := ⟨RX9, "at", "(I)I"⟩
abbrev cX9_faults : ByteArray := prog_1_method_15_code
def yX9_faults : MethodName := ⟨RX9, "faults", "(IZ)I"⟩
abbrev cX9_firstFault : ByteArray := prog_1_method_16_code
def yX9_firstFault : MethodName := ⟨RX9, "firstFault", "(I)I"⟩
abbrev cX9_isClean : ByteArray := prog_1_method_17_code
def yX9_isClean : MethodName := ⟨RX9, "isClean", "()Z"⟩
abbrev cX9_wouldFault : ByteArray := prog_1_method_18_code
def yX9_wouldFault : MethodName := ⟨RX9, "wouldFault", "(II)I"⟩
abbrev cX9_bestHeight : ByteArray := prog_1_method_19_code
def yX9_bestHeight : MethodName := ⟨RX9, "bestHeight", "(I)I"⟩
abbrev cX9_walk : ByteArray := prog_1_method_20_code
def yX9_walk : MethodName := ⟨RX9, "walk", "(Z)I"⟩
abbrev cX9_goes : ByteArray := prog_1_method_21_code
def yX9_goes : MethodName := ⟨RX9, "goes", "(Z)I"⟩
abbrev cX9_span : ByteArray := prog_1_method_22_code
def yX9_span : MethodName := ⟨RX9, "span", "()I"⟩
abbrev cX9_withPitch : ByteArray := prog_1_method_23_code
def yX9_withPitch : MethodName := ⟨RX9, "withPitch", "(I)I"⟩
abbrev cX9_loudest : ByteArray := prog_1_method_24_code
def yX9_loudest : MethodName := ⟨RX9, "loudest", "(I)I"⟩
abbrev cX9_highest : ByteArray := prog_1_method_25_code
def yX9_highest : MethodName := ⟨RX9, "highest", "(I)I"⟩
abbrev cX9_line : ByteArray := prog_1_method_26_code
def yX9_line : MethodName := ⟨RX9, "line", "(I)I"⟩
abbrev cX9_tinLine : ByteArray := prog_1_method_27_code
def yX9_tinLine : MethodName := ⟨RX9, "tinLine", "(I)I"⟩
abbrev cX9_character : ByteArray := prog_1_method_28_code
def yX9_character : MethodName := ⟨RX9, "character", "(I)C"⟩
abbrev cX9_append : ByteArray := prog_1_method_29_code
def yX9_append : MethodName := ⟨RX9, "append", "(C)I"⟩
abbrev cX9_run : ByteArray := prog_1_method_30_code
def yX9_run : MethodName := ⟨RX9, "run", "()I"⟩
abbrev cX9_refusal : ByteArray := prog_1_method_32_code
def yX9_refusal : MethodName := ⟨RX9, "refusal", "(Z)I"⟩
abbrev cX9_account : ByteArray := prog_1_method_33_code
def yX9_account : MethodName := ⟨RX9, "account", "(I)I"⟩
abbrev cX9_isWell : ByteArray := prog_1_method_34_code
def yX9_isWell : MethodName := ⟨RX9, "isWell", "()Z"⟩
abbrev cX9_meanPitch : ByteArray := prog_1_method_35_code
def yX9_meanPitch : MethodName := ⟨RX9, "meanPitch", "()D"⟩
abbrev cX9_filledShare : ByteArray := prog_1_method_36_code
def yX9_filledShare : MethodName := ⟨RX9, "filledShare", "()F"⟩
abbrev cX9_undo : ByteArray := prog_1_method_37_code
def yX9_undo : MethodName := ⟨RX9, "undo", "()I"⟩
abbrev cX9_change : ByteArray := prog_1_method_40_code
def yX9_change : MethodName := ⟨RX9, "change", "(LTinRoofScore$Order;III)I"⟩
abbrev cX9_carryOutText : ByteArray := prog_1_method_41_code
def yX9_carryOutText : MethodName := ⟨RX9, "carryOutText", "()I"⟩
abbrev cX9_needPlace : ByteArray := prog_1_method_42_code
def yX9_needPlace : MethodName := ⟨RX9, "needPlace", "(Z)V"⟩
abbrev cX9_needRange : ByteArray := prog_1_method_43_code
def yX9_needRange : MethodName := ⟨RX9, "needRange", "(Z)V"⟩
abbrev cX9_needConsent : ByteArray := prog_1_method_44_code
def yX9_needConsent : MethodName := ⟨RX9, "needConsent", "(Z)V"⟩
abbrev cX9_needElement : ByteArray := prog_1_method_45_code
def yX9_needElement : MethodName := ⟨RX9, "needElement", "(Z)V"⟩
abbrev cX9_needState : ByteArray := prog_1_method_46_code
def yX9_needState : MethodName := ⟨RX9, "needState", "(Z)V"⟩
abbrev cX9_found : ByteArray := prog_1_method_47_code
def yX9_found : MethodName := ⟨RX9, "found", "(I)I"⟩
abbrev cX9_isWithin : ByteArray := prog_1_method_48_code
def yX9_isWithin : MethodName := ⟨RX9, "isWithin", "(III)Z"⟩
abbrev cX9_isTin : ByteArray := prog_1_method_49_code
def yX9_isTin : MethodName := ⟨RX9, "isTin", "(I)Z"⟩
abbrev cX9_cell : ByteArray := prog_1_method_50_code
def yX9_cell : MethodName := ⟨RX9, "cell", "([II)I"⟩
abbrev cX9_put : ByteArray := prog_1_method_51_code
def yX9_put : MethodName := ⟨RX9, "put", "([III)V"⟩
abbrev cX9_copyRow : ByteArray := prog_1_method_52_code
def yX9_copyRow : MethodName := ⟨RX9, "copyRow", "([I[I)V"⟩
def RX10 : String := "TinRoofScoreModel"
def TX10 : u_T := fun k => match k with
  | _ => ("", "", "", false)
def tyX10 : Nat → FieldType := fun k => match k with
  | _ => .int
abbrev wsX100 : List Cond := u_ws RX10 TX10 0
theorem nmX10 : ∀ a, a < 0 → ∀ b, b < 0 → a ≠ b → (TX10 a).2.1 ≠ (TX10 b).2.1 := by decide +kernel
theorem tyX10_ok : ∀ k, k < 0 → parseFieldDescriptor (TX10 k).2.2.1 = some (tyX10 k) := by decide +kernel
def RJx145de : String := "java/io/Serializable"
def TJx145de : u_T := fun k => match k with
  | _ => ("", "", "", false)
def tyJx145de : Nat → FieldType := fun k => match k with
  | _ => .int
abbrev wsJx145de0 : List Cond := u_ws RJx145de TJx145de 0
theorem nmJx145de : ∀ a, a < 0 → ∀ b, b < 0 → a ≠ b → (TJx145de a).2.1 ≠ (TJx145de b).2.1 := by decide +kernel
theorem tyJx145de_ok : ∀ k, k < 0 → parseFieldDescriptor (TJx145de k).2.2.1 = some (tyJx145de k) := by decide +kernel
def RJ5 : String := "java/lang/AbstractStringBuilder"
def TJ5 : u_T := fun k => match k with
  | _ => ("", "", "", false)
def tyJ5 : Nat → FieldType := fun k => match k with
  | _ => .int
abbrev wsJ50 : List Cond := u_ws RJ5 TJ5 0
theorem nmJ5 : ∀ a, a < 0 → ∀ b, b < 0 → a ≠ b → (TJ5 a).2.1 ≠ (TJ5 b).2.1 := by decide +kernel
theorem tyJ5_ok : ∀ k, k < 0 → parseFieldDescriptor (TJ5 k).2.2.1 = some (tyJ5 k) := by decide +kernel
abbrev cJ5_init_d00df : ByteArray := prog_14_method_2_code
def yJ5_init_d00df : MethodName := ⟨RJ5, "<init>", "(I)V"⟩
abbrev cJ5_length_8abf5 : ByteArray := prog_14_method_6_code
def yJ5_length_8abf5 : MethodName := ⟨RJ5, "length", "()I"⟩
abbrev cJ5_ensureCapacityInternal_d00df : ByteArray := prog_14_method_9_code
def yJ5_ensureCapacityInternal_d00df : MethodName := ⟨RJ5, "ensureCapacityInternal", "(I)V"⟩
abbrev cJ5_newCapacity_0f7a4 : ByteArray := prog_14_method_10_code
def yJ5_newCapacity_0f7a4 : MethodName := ⟨RJ5, "newCapacity", "(I)I"⟩
abbrev cJ5_inflate_da8c8 : ByteArray := prog_14_method_11_code
def yJ5_inflate_da8c8 : MethodName := ⟨RJ5, "inflate", "()V"⟩
abbrev cJ5_append_cf1ce : ByteArray := prog_14_method_22_code
def yJ5_append_cf1ce : MethodName := ⟨RJ5, "append", "(Ljava/lang/String;)Ljava/lang/AbstractStringBuilder;"⟩
abbrev cJ5_appendNull_278bc : ByteArray := prog_14_method_26_code
def yJ5_appendNull_278bc : MethodName := ⟨RJ5, "appendNull", "()Ljava/lang/AbstractStringBuilder;"⟩
abbrev cJ5_append_3fe6f : ByteArray := prog_14_method_31_code
def yJ5_append_3fe6f : MethodName := ⟨RJ5, "append", "(C)Ljava/lang/AbstractStringBuilder;"⟩
abbrev cJ5_append_c97b9 : ByteArray := prog_14_method_32_code
def yJ5_append_c97b9 : MethodName := ⟨RJ5, "append", "(I)Ljava/lang/AbstractStringBuilder;"⟩
abbrev cJ5_getValue_6d5f1 : ByteArray := prog_14_method_64_code
def yJ5_getValue_6d5f1 : MethodName := ⟨RJ5, "getValue", "()[B"⟩
abbrev cJ5_isLatin1_aae02 : ByteArray := prog_14_method_68_code
def yJ5_isLatin1_aae02 : MethodName := ⟨RJ5, "isLatin1", "()Z"⟩
abbrev cJ5_inflateIfNeededFor_a7421 : ByteArray := prog_14_method_71_code
def yJ5_inflateIfNeededFor_a7421 : MethodName := ⟨RJ5, "inflateIfNeededFor", "(Ljava/lang/String;)V"⟩
abbrev cJ5_putStringAt_47b60 : ByteArray := prog_14_method_73_code
def yJ5_putStringAt_47b60 : MethodName := ⟨RJ5, "putStringAt", "(ILjava/lang/String;)V"⟩
def RJx2cfe8 : String := "java/lang/Appendable"
def TJx2cfe8 : u_T := fun k => match k with
  | _ => ("", "", "", false)
def tyJx2cfe8 : Nat → FieldType := fun k => match k with
  | _ => .int
abbrev wsJx2cfe80 : List Cond := u_ws RJx2cfe8 TJx2cfe8 0
theorem nmJx2cfe8 : ∀ a, a < 0 → ∀ b, b < 0 → a ≠ b → (TJx2cfe8 a).2.1 ≠ (TJx2cfe8 b).2.1 := by decide +kernel
theorem tyJx2cfe8_ok : ∀ k, k < 0 → parseFieldDescriptor (TJx2cfe8 k).2.2.1 = some (tyJx2cfe8 k) := by decide +kernel
def RJx00060 : String := "java/lang/ArrayIndexOutOfBoundsException"
def TJx00060 : u_T := fun k => match k with
  | 0 => ("java/lang/Throwable", "backtrace", "Ljava/lang/Object;", false)
  | 1 => ("java/lang/Throwable", "detailMessage", "Ljava/lang/String;", false)
  | 2 => ("java/lang/Throwable", "cause", "Ljava/lang/Throwable;", false)
  | 3 => ("java/lang/Throwable", "stackTrace", "[Ljava/lang/StackTraceElement;", false)
  | 4 => ("java/lang/Throwable", "depth", "I", false)
  | _ => ("java/lang/Throwable", "suppressedExceptions", "Ljava/util/List;", false)
def tyJx00060 : Nat → FieldType := fun k => match k with
  | 0 => .object "java/lang/Object"
  | 1 => .object "java/lang/String"
  | 2 => .object "java/lang/Throwable"
  | 3 => .array (.object "java/lang/StackTraceElement")
  | 4 => .int
  | _ => .object "java/util/List"
abbrev wsJx000600 : List Cond := u_ws RJx00060 TJx00060 6
theorem nmJx00060 : ∀ a, a < 6 → ∀ b, b < 6 → a ≠ b → (TJx00060 a).2.1 ≠ (TJx00060 b).2.1 := by decide +kernel
theorem tyJx00060_ok : ∀ k, k < 6 → parseFieldDescriptor (TJx00060 k).2.2.1 = some (tyJx00060 k) := by decide +kernel
abbrev cJx00060_init_a7421 : ByteArray := prog_17_method_2_code
def yJx00060_init_a7421 : MethodName := ⟨RJx00060, "<init>", "(Ljava/lang/String;)V"⟩
def RJx9f9b0 : String := "java/lang/CharSequence"
def TJx9f9b0 : u_T := fun k => match k with
  | _ => ("", "", "", false)
def tyJx9f9b0 : Nat → FieldType := fun k => match k with
  | _ => .int
abbrev wsJx9f9b00 : List Cond := u_ws RJx9f9b0 TJx9f9b0 0
theorem nmJx9f9b0 : ∀ a, a < 0 → ∀ b, b < 0 → a ≠ b → (TJx9f9b0 a).2.1 ≠ (TJx9f9b0 b).2.1 := by decide +kernel
theorem tyJx9f9b0_ok : ∀ k, k < 0 → parseFieldDescriptor (TJx9f9b0 k).2.2.1 = some (tyJx9f9b0 k) := by decide +kernel
def RJx8e188 : String := "java/lang/Cloneable"
def TJx8e188 : u_T := fun k => match k with
  | _ => ("", "", "", false)
def tyJx8e188 : Nat → FieldType := fun k => match k with
  | _ => .int
abbrev wsJx8e1880 : List Cond := u_ws RJx8e188 TJx8e188 0
theorem nmJx8e188 : ∀ a, a < 0 → ∀ b, b < 0 → a ≠ b → (TJx8e188 a).2.1 ≠ (TJx8e188 b).2.1 := by decide +kernel
theorem tyJx8e188_ok : ∀ k, k < 0 → parseFieldDescriptor (TJx8e188 k).2.2.1 = some (tyJx8e188 k) := by decide +kernel
def RJxb160c : String := "java/lang/Comparable"
def TJxb160c : u_T := fun k => match k with
  | _ => ("", "", "", false)
def tyJxb160c : Nat → FieldType := fun k => match k with
  | _ => .int
abbrev wsJxb160c0 : List Cond := u_ws RJxb160c TJxb160c 0
theorem nmJxb160c : ∀ a, a < 0 → ∀ b, b < 0 → a ≠ b → (TJxb160c a).2.1 ≠ (TJxb160c b).2.1 := by decide +kernel
theorem tyJxb160c_ok : ∀ k, k < 0 → parseFieldDescriptor (TJxb160c k).2.2.1 = some (tyJxb160c k) := by decide +kernel
def RJx29ce0 : String := "java/lang/Enum"
def TJx29ce0 : u_T := fun k => match k with
  | _ => ("", "", "", false)
def tyJx29ce0 : Nat → FieldType := fun k => match k with
  | _ => .int
abbrev wsJx29ce00 : List Cond := u_ws RJx29ce0 TJx29ce0 0
theorem nmJx29ce0 : ∀ a, a < 0 → ∀ b, b < 0 → a ≠ b → (TJx29ce0 a).2.1 ≠ (TJx29ce0 b).2.1 := by decide +kernel
theorem tyJx29ce0_ok : ∀ k, k < 0 → parseFieldDescriptor (TJx29ce0 k).2.2.1 = some (tyJx29ce0 k) := by decide +kernel
def RJ6 : String := "java/lang/Integer"
def TJ6 : u_T := fun k => match k with
  | _ => ("", "", "", false)
def tyJ6 : Nat → FieldType := fun k => match k with
  | _ => .int
abbrev wsJ60 : List Cond := u_ws RJ6 TJ6 0
theorem nmJ6 : ∀ a, a < 0 → ∀ b, b < 0 → a ≠ b → (TJ6 a).2.1 ≠ (TJ6 b).2.1 := by decide +kernel
theorem tyJ6_ok : ∀ k, k < 0 → parseFieldDescriptor (TJ6 k).2.2.1 = some (tyJ6 k) := by decide +kernel
abbrev cJ6_getChars_ba4f3 : ByteArray := prog_26_method_12_code
def yJ6_getChars_ba4f3 : MethodName := ⟨RJ6, "getChars", "(II[B)I"⟩
abbrev cJ6_stringSize_0f7a4 : ByteArray := prog_26_method_13_code
def yJ6_stringSize_0f7a4 : MethodName := ⟨RJ6, "stringSize", "(I)I"⟩
def RJ9 : String := "java/lang/Math"
def TJ9 : u_T := fun k => match k with
  | _ => ("", "", "", false)
def tyJ9 : Nat → FieldType := fun k => match k with
  | _ => .int
abbrev wsJ90 : List Cond := u_ws RJ9 TJ9 0
theorem nmJ9 : ∀ a, a < 0 → ∀ b, b < 0 → a ≠ b → (TJ9 a).2.1 ≠ (TJ9 b).2.1 := by decide +kernel
theorem tyJ9_ok : ∀ k, k < 0 → parseFieldDescriptor (TJ9 k).2.2.1 = some (tyJ9 k) := by decide +kernel
abbrev cJ9_abs_0f7a4 : ByteArray := prog_27_method_59_code
def yJ9_abs_0f7a4 : MethodName := ⟨RJ9, "abs", "(I)I"⟩
abbrev cJ9_max_7cf53 : ByteArray := prog_27_method_65_code
def yJ9_max_7cf53 : MethodName := ⟨RJ9, "max", "(II)I"⟩
abbrev cJ9_min_7cf53 : ByteArray := prog_27_method_69_code
def yJ9_min_7cf53 : MethodName := ⟨RJ9, "min", "(II)I"⟩
def RJxd2413 : String := "java/lang/Number"
def TJxd2413 : u_T := fun k => match k with
  | _ => ("", "", "", false)
def tyJxd2413 : Nat → FieldType := fun k => match k with
  | _ => .int
abbrev wsJxd24130 : List Cond := u_ws RJxd2413 TJxd2413 0
theorem nmJxd2413 : ∀ a, a < 0 → ∀ b, b < 0 → a ≠ b → (TJxd2413 a).2.1 ≠ (TJxd2413 b).2.1 := by decide +kernel
theorem tyJxd2413_ok : ∀ k, k < 0 → parseFieldDescriptor (TJxd2413 k).2.2.1 = some (tyJxd2413 k) := by decide +kernel
def RJ0 : String := "java/lang/String"
def TJ0 : u_T := fun k => match k with
  | 0 => ("java/lang/String", "value", "[B", true)
  | 1 => ("java/lang/String", "coder", "B", true)
  | 2 => ("java/lang/String", "hash", "I", false)
  | _ => ("java/lang/String", "hashIsZero", "Z", false)
def tyJ0 : Nat → FieldType := fun k => match k with
  | 0 => .array .byte
  | 1 => .byte
  | 2 => .int
  | _ => .boolean
abbrev wsJ00 : List Cond := u_ws RJ0 TJ0 4
theorem nmJ0 : ∀ a, a < 4 → ∀ b, b < 4 → a ≠ b → (TJ0 a).2.1 ≠ (TJ0 b).2.1 := by decide +kernel
theorem tyJ0_ok : ∀ k, k < 4 → parseFieldDescriptor (TJ0 k).2.2.1 = some (tyJ0 k) := by decide +kernel
abbrev cJ0_init_81219 : ByteArray := prog_30_method_53_code
def yJ0_init_81219 : MethodName := ⟨RJ0, "<init>", "(Ljava/lang/StringBuilder;)V"⟩
abbrev cJ0_length_8abf5 : ByteArray := prog_30_method_54_code
def yJ0_length_8abf5 : MethodName := ⟨RJ0, "length", "()I"⟩
abbrev cJ0_charAt_5068e : ByteArray := prog_30_method_56_code
def yJ0_charAt_5068e : MethodName := ⟨RJ0, "charAt", "(I)C"⟩
abbrev cJ0_getBytes_840e7 : ByteArray := prog_30_method_147_code
def yJ0_getBytes_840e7 : MethodName := ⟨RJ0, "getBytes", "([BIB)V"⟩
abbrev cJ0_init_db425 : ByteArray := prog_30_method_150_code
def yJ0_init_db425 : MethodName := ⟨RJ0, "<init>", "(Ljava/lang/AbstractStringBuilder;Ljava/lang/Void;)V"⟩
abbrev cJ0_coder_7d493 : ByteArray := prog_30_method_152_code
def yJ0_coder_7d493 : MethodName := ⟨RJ0, "coder", "()B"⟩
abbrev cJ0_isLatin1_aae02 : ByteArray := prog_30_method_154_code
def yJ0_isLatin1_aae02 : MethodName := ⟨RJ0, "isLatin1", "()Z"⟩
abbrev cJ0_checkIndex_df160 : ByteArray := prog_30_method_155_code
def yJ0_checkIndex_df160 : MethodName := ⟨RJ0, "checkIndex", "(II)V"⟩
abbrev cJ0_checkBoundsOffCount_cabcc : ByteArray := prog_30_method_157_code
def yJ0_checkBoundsOffCount_cabcc : MethodName := ⟨RJ0, "checkBoundsOffCount", "(III)I"⟩
abbrev cJ0_checkBoundsBeginEnd_23922 : ByteArray := prog_30_method_158_code
def yJ0_checkBoundsBeginEnd_23922 : MethodName := ⟨RJ0, "checkBoundsBeginEnd", "(III)V"⟩
def RJ4 : String := "java/lang/StringBuilder"
def TJ4 : u_T := fun k => match k with
  | 0 => ("java/lang/AbstractStringBuilder", "value", "[B", false)
  | 1 => ("java/lang/AbstractStringBuilder", "coder", "B", false)
  | 2 => ("java/lang/AbstractStringBuilder", "maybeLatin1", "Z", false)
  | _ => ("java/lang/AbstractStringBuilder", "count", "I", false)
def tyJ4 : Nat → FieldType := fun k => match k with
  | 0 => .array .byte
  | 1 => .byte
  | 2 => .boolean
  | _ => .int
abbrev wsJ40 : List Cond := u_ws RJ4 TJ4 4
theorem nmJ4 : ∀ a, a < 4 → ∀ b, b < 4 → a ≠ b → (TJ4 a).2.1 ≠ (TJ4 b).2.1 := by decide +kernel
theorem tyJ4_ok : ∀ k, k < 4 → parseFieldDescriptor (TJ4 k).2.2.1 = some (tyJ4 k) := by decide +kernel
abbrev cJ4_init_da8c8 : ByteArray := prog_31_method_1_code
def yJ4_init_da8c8 : MethodName := ⟨RJ4, "<init>", "()V"⟩
abbrev cJ4_append_15ec4 : ByteArray := prog_31_method_7_code
def yJ4_append_15ec4 : MethodName := ⟨RJ4, "append", "(Ljava/lang/String;)Ljava/lang/StringBuilder;"⟩
abbrev cJ4_append_cf468 : ByteArray := prog_31_method_14_code
def yJ4_append_cf468 : MethodName := ⟨RJ4, "append", "(C)Ljava/lang/StringBuilder;"⟩
abbrev cJ4_append_bf812 : ByteArray := prog_31_method_15_code
def yJ4_append_bf812 : MethodName := ⟨RJ4, "append", "(I)Ljava/lang/StringBuilder;"⟩
abbrev cJ4_toString_0e30d : ByteArray := prog_31_method_42_code
def yJ4_toString_0e30d : MethodName := ⟨RJ4, "toString", "()Ljava/lang/String;"⟩
abbrev cJ4_length_8abf5 : ByteArray := prog_31_method_93_code
def yJ4_length_8abf5 : MethodName := ⟨RJ4, "length", "()I"⟩
def RJ1 : String := "java/lang/StringLatin1"
def TJ1 : u_T := fun k => match k with
  | _ => ("", "", "", false)
def tyJ1 : Nat → FieldType := fun k => match k with
  | _ => .int
abbrev wsJ10 : List Cond := u_ws RJ1 TJ1 0
theorem nmJ1 : ∀ a, a < 0 → ∀ b, b < 0 → a ≠ b → (TJ1 a).2.1 ≠ (TJ1 b).2.1 := by decide +kernel
theorem tyJ1_ok : ∀ k, k < 0 → parseFieldDescriptor (TJ1 k).2.2.1 = some (tyJ1 k) := by decide +kernel
abbrev cJ1_charAt_3b067 : ByteArray := prog_32_method_2_code
def yJ1_charAt_3b067 : MethodName := ⟨RJ1, "charAt", "([BI)C"⟩
abbrev cJ1_canEncode_fc78d : ByteArray := prog_32_method_3_code
def yJ1_canEncode_fc78d : MethodName := ⟨RJ1, "canEncode", "(C)Z"⟩
abbrev cJ1_inflate_0e8fd : ByteArray := prog_32_method_50_code
def yJ1_inflate_0e8fd : MethodName := ⟨RJ1, "inflate", "([BI[BII)V"⟩
def RJ2 : String := "java/lang/StringUTF16"
def TJ2 : u_T := fun k => match k with
  | _ => ("", "", "", false)
def tyJ2 : Nat → FieldType := fun k => match k with
  | _ => .int
abbrev wsJ20 : List Cond := u_ws RJ2 TJ2 0
theorem nmJ2 : ∀ a, a < 0 → ∀ b, b < 0 → a ≠ b → (TJ2 a).2.1 ≠ (TJ2 b).2.1 := by decide +kernel
theorem tyJ2_ok : ∀ k, k < 0 → parseFieldDescriptor (TJ2 k).2.2.1 = some (tyJ2 k) := by decide +kernel
abbrev cJ2_newBytesFor_77867 : ByteArray := prog_33_method_2_code
def yJ2_newBytesFor_77867 : MethodName := ⟨RJ2, "newBytesFor", "(I)[B"⟩
abbrev cJ2_newBytesLength_0f7a4 : ByteArray := prog_33_method_3_code
def yJ2_newBytesLength_0f7a4 : MethodName := ⟨RJ2, "newBytesLength", "(I)I"⟩
abbrev cJ2_putChar_b72d1 : ByteArray := prog_33_method_4_code
def yJ2_putChar_b72d1 : MethodName := ⟨RJ2, "putChar", "([BII)V"⟩
abbrev cJ2_getChar_3b067 : ByteArray := prog_33_method_5_code
def yJ2_getChar_3b067 : MethodName := ⟨RJ2, "getChar", "([BI)C"⟩
abbrev cJ2_length_9d52b : ByteArray := prog_33_method_6_code
def yJ2_length_9d52b : MethodName := ⟨RJ2, "length", "([B)I"⟩
abbrev cJ2_coderFromArrayLen_85cad : ByteArray := prog_33_method_15_code
def yJ2_coderFromArrayLen_85cad : MethodName := ⟨RJ2, "coderFromArrayLen", "([BI)B"⟩
abbrev cJ2_compress_39247 : ByteArray := prog_33_method_17_code
def yJ2_compress_39247 : MethodName := ⟨RJ2, "compress", "([BII)[B"⟩
abbrev cJ2_compress_5af95 : ByteArray := prog_33_method_22_code
def yJ2_compress_5af95 : MethodName := ⟨RJ2, "compress", "([BI[BII)I"⟩
abbrev cJ2_putCharSB_b72d1 : ByteArray := prog_33_method_71_code
def yJ2_putCharSB_b72d1 : MethodName := ⟨RJ2, "putCharSB", "([BII)V"⟩
abbrev cJ2_getChars_46870 : ByteArray := prog_33_method_77_code
def yJ2_getChars_46870 : MethodName := ⟨RJ2, "getChars", "(III[B)I"⟩
abbrev cJ2_putCharsAt_cd4e5 : ByteArray := prog_33_method_81_code
def yJ2_putCharsAt_cd4e5 : MethodName := ⟨RJ2, "putCharsAt", "([BICCCC)I"⟩
abbrev cJ2_charAt_3b067 : ByteArray := prog_33_method_83_code
def yJ2_charAt_3b067 : MethodName := ⟨RJ2, "charAt", "([BI)C"⟩
abbrev cJ2_inflate_0e8fd : ByteArray := prog_33_method_86_code
def yJ2_inflate_0e8fd : MethodName := ⟨RJ2, "inflate", "([BI[BII)V"⟩
abbrev cJ2_getChars_ba4f3 : ByteArray := prog_33_method_89_code
def yJ2_getChars_ba4f3 : MethodName := ⟨RJ2, "getChars", "(II[B)I"⟩
abbrev cJ2_checkIndex_2214a : ByteArray := prog_33_method_91_code
def yJ2_checkIndex_2214a : MethodName := ⟨RJ2, "checkIndex", "(I[B)V"⟩
abbrev cJ2_checkBoundsBeginEnd_d044e : ByteArray := prog_33_method_93_code
def yJ2_checkBoundsBeginEnd_d044e : MethodName := ⟨RJ2, "checkBoundsBeginEnd", "(II[B)V"⟩
abbrev cJ2_checkBoundsOffCount_d044e : ByteArray := prog_33_method_94_code
def yJ2_checkBoundsOffCount_d044e : MethodName := ⟨RJ2, "checkBoundsOffCount", "(II[B)V"⟩
def RJ10 : String := "java/lang/System"
def TJ10 : u_T := fun k => match k with
  | _ => ("", "", "", false)
def tyJ10 : Nat → FieldType := fun k => match k with
  | _ => .int
abbrev wsJ100 : List Cond := u_ws RJ10 TJ10 0
theorem nmJ10 : ∀ a, a < 0 → ∀ b, b < 0 → a ≠ b → (TJ10 a).2.1 ≠ (TJ10 b).2.1 := by decide +kernel
theorem tyJ10_ok : ∀ k, k < 0 → parseFieldDescriptor (TJ10 k).2.2.1 = some (tyJ10 k) := by decide +kernel
def RJxfd54e : String := "java/lang/constant/Constable"
def TJxfd54e : u_T := fun k => match k with
  | _ => ("", "", "", false)
def tyJxfd54e : Nat → FieldType := fun k => match k with
  | _ => .int
abbrev wsJxfd54e0 : List Cond := u_ws RJxfd54e TJxfd54e 0
theorem nmJxfd54e : ∀ a, a < 0 → ∀ b, b < 0 → a ≠ b → (TJxfd54e a).2.1 ≠ (TJxfd54e b).2.1 := by decide +kernel
theorem tyJxfd54e_ok : ∀ k, k < 0 → parseFieldDescriptor (TJxfd54e k).2.2.1 = some (tyJxfd54e k) := by decide +kernel
def RJx3cf43 : String := "java/lang/constant/ConstantDesc"
def TJx3cf43 : u_T := fun k => match k with
  | _ => ("", "", "", false)
def tyJx3cf43 : Nat → FieldType := fun k => match k with
  | _ => .int
abbrev wsJx3cf430 : List Cond := u_ws RJx3cf43 TJx3cf43 0
theorem nmJx3cf43 : ∀ a, a < 0 → ∀ b, b < 0 → a ≠ b → (TJx3cf43 a).2.1 ≠ (TJx3cf43 b).2.1 := by decide +kernel
theorem tyJx3cf43_ok : ∀ k, k < 0 → parseFieldDescriptor (TJx3cf43 k).2.2.1 = some (tyJx3cf43 k) := by decide +kernel
def RJ7 : String := "java/util/Arrays"
def TJ7 : u_T := fun k => match k with
  | _ => ("", "", "", false)
def tyJ7 : Nat → FieldType := fun k => match k with
  | _ => .int
abbrev wsJ70 : List Cond := u_ws RJ7 TJ7 0
theorem nmJ7 : ∀ a, a < 0 → ∀ b, b < 0 → a ≠ b → (TJ7 a).2.1 ≠ (TJ7 b).2.1 := by decide +kernel
theorem tyJ7_ok : ∀ k, k < 0 → parseFieldDescriptor (TJ7 k).2.2.1 = some (tyJ7 k) := by decide +kernel
abbrev cJ7_copyOf_9075b : ByteArray := prog_39_method_121_code
def yJ7_copyOf_9075b : MethodName := ⟨RJ7, "copyOf", "([BI)[B"⟩
abbrev cJ7_checkLength_df160 : ByteArray := prog_39_method_131_code
def yJ7_checkLength_df160 : MethodName := ⟨RJ7, "checkLength", "(II)V"⟩
abbrev cJ7_copyOfRange_39247 : ByteArray := prog_39_method_132_code
def yJ7_copyOfRange_39247 : MethodName := ⟨RJ7, "copyOfRange", "([BII)[B"⟩
abbrev cJ7_copyOfRangeByte_39247 : ByteArray := prog_39_method_133_code
def yJ7_copyOfRangeByte_39247 : MethodName := ⟨RJ7, "copyOfRangeByte", "([BII)[B"⟩
def RJ8 : String := "jdk/internal/util/ArraysSupport"
def TJ8 : u_T := fun k => match k with
  | _ => ("", "", "", false)
def tyJ8 : Nat → FieldType := fun k => match k with
  | _ => .int
abbrev wsJ80 : List Cond := u_ws RJ8 TJ8 0
theorem nmJ8 : ∀ a, a < 0 → ∀ b, b < 0 → a ≠ b → (TJ8 a).2.1 ≠ (TJ8 b).2.1 := by decide +kernel
theorem tyJ8_ok : ∀ k, k < 0 → parseFieldDescriptor (TJ8 k).2.2.1 = some (tyJ8 k) := by decide +kernel
abbrev cJ8_newLength_cabcc : ByteArray := prog_41_method_27_code
def yJ8_newLength_cabcc : MethodName := ⟨RJ8, "newLength", "(III)I"⟩
abbrev cJ8_hugeLength_7cf53 : ByteArray := prog_41_method_28_code
def yJ8_hugeLength_7cf53 : MethodName := ⟨RJ8, "hugeLength", "(II)I"⟩
def RJ3 : String := "jdk/internal/util/Preconditions"
def TJ3 : u_T := fun k => match k with
  | _ => ("", "", "", false)
def tyJ3 : Nat → FieldType := fun k => match k with
  | _ => .int
abbrev wsJ30 : List Cond := u_ws RJ3 TJ3 0
theorem nmJ3 : ∀ a, a < 0 → ∀ b, b < 0 → a ≠ b → (TJ3 a).2.1 ≠ (TJ3 b).2.1 := by decide +kernel
theorem tyJ3_ok : ∀ k, k < 0 → parseFieldDescriptor (TJ3 k).2.2.1 = some (tyJ3 k) := by decide +kernel
abbrev cJ3_checkIndex_8e157 : ByteArray := prog_42_method_11_code
def yJ3_checkIndex_8e157 : MethodName := ⟨RJ3, "checkIndex", "(IILjava/util/function/BiFunction;)I"⟩
abbrev cJ3_checkFromToIndex_8c36e : ByteArray := prog_42_method_12_code
def yJ3_checkFromToIndex_8c36e : MethodName := ⟨RJ3, "checkFromToIndex", "(IIILjava/util/function/BiFunction;)I"⟩
abbrev cJ3_checkFromIndexSize_8c36e : ByteArray := prog_42_method_13_code
def yJ3_checkFromIndexSize_8c36e : MethodName := ⟨RJ3, "checkFromIndexSize", "(IIILjava/util/function/BiFunction;)I"⟩
def RL : String := "TinRoofScoreLaw"
abbrev cL_cell : ByteArray := method_2_code
def yL_cell : MethodName := ⟨RL, "cell", "([II)I"⟩
abbrev cL_bar : ByteArray := method_3_code
def yL_bar : MethodName := ⟨RL, "bar", "(LTinRoofScore;I)I"⟩
abbrev cL_key : ByteArray := method_4_code
def yL_key : MethodName := ⟨RL, "key", "(LTinRoofScore;II)I"⟩
abbrev cL_leak : ByteArray := method_5_code
def yL_leak : MethodName := ⟨RL, "leak", "(LTinRoofScore;II)I"⟩
abbrev cL_drop : ByteArray := method_6_code
def yL_drop : MethodName := ⟨RL, "drop", "(LTinRoofScore;III)I"⟩
abbrev cL_rest : ByteArray := method_7_code
def yL_rest : MethodName := ⟨RL, "rest", "(LTinRoofScore;I)I"⟩
abbrev cL_lift : ByteArray := method_8_code
def yL_lift : MethodName := ⟨RL, "lift", "(LTinRoofScore;)I"⟩
abbrev cL_limit : ByteArray := method_9_code
def yL_limit : MethodName := ⟨RL, "limit", "(LTinRoofScore;I)I"⟩
abbrev cL_tune : ByteArray := method_10_code
def yL_tune : MethodName := ⟨RL, "tune", "(LTinRoofScore;II)I"⟩
abbrev cL_tinOf : ByteArray := method_11_code
def yL_tinOf : MethodName := ⟨RL, "tinOf", "(LTinRoofScore;II)I"⟩
abbrev cL_of : ByteArray := method_12_code
def yL_of : MethodName := ⟨RL, "of", "(LTinRoofScore;II)I"⟩
abbrev cL_barOf : ByteArray := method_13_code
def yL_barOf : MethodName := ⟨RL, "barOf", "(LTinRoofScore;II)I"⟩
abbrev cL_part : ByteArray := method_14_code
def yL_part : MethodName := ⟨RL, "part", "(LTinRoofScore;III)I"⟩
abbrev cL_at : ByteArray := method_15_code
def yL_at : MethodName := ⟨RL, "at", "(LTinRoofScore;I)I"⟩
abbrev cL_faults : ByteArray := method_16_code
def yL_faults : MethodName := ⟨RL, "faults", "(LTinRoofScore;IZ)I"⟩
abbrev cL_firstFault : ByteArray := method_17_code
def yL_firstFault : MethodName := ⟨RL, "firstFault", "(LTinRoofScore;I)I"⟩
abbrev cL_wouldFault : ByteArray := method_18_code
def yL_wouldFault : MethodName := ⟨RL, "wouldFault", "(LTinRoofScore;II)I"⟩
abbrev cL_bestHeight : ByteArray := method_19_code
def yL_bestHeight : MethodName := ⟨RL, "bestHeight", "(LTinRoofScore;I)I"⟩
abbrev cL_withPitch : ByteArray := method_20_code
def yL_withPitch : MethodName := ⟨RL, "withPitch", "(LTinRoofScore;I)I"⟩
abbrev cL_loudest : ByteArray := method_21_code
def yL_loudest : MethodName := ⟨RL, "loudest", "(LTinRoofScore;I)I"⟩
abbrev cL_highest : ByteArray := method_22_code
def yL_highest : MethodName := ⟨RL, "highest", "(LTinRoofScore;I)I"⟩
abbrev cL_line : ByteArray := method_23_code
def yL_line : MethodName := ⟨RL, "line", "(LTinRoofScore;I)I"⟩
abbrev cL_tinLine : ByteArray := method_24_code
def yL_tinLine : MethodName := ⟨RL, "tinLine", "(LTinRoofScore;I)I"⟩
abbrev cL_character : ByteArray := method_25_code
def yL_character : MethodName := ⟨RL, "character", "(LTinRoofScore;I)I"⟩
abbrev cL_append : ByteArray := method_26_code
def yL_append : MethodName := ⟨RL, "append", "(LTinRoofScore;C)I"⟩
abbrev cL_runs : ByteArray := method_27_code
def yL_runs : MethodName := ⟨RL, "runs", "(LTinRoofScore;)I"⟩
abbrev cL_refusal : ByteArray := method_28_code
def yL_refusal : MethodName := ⟨RL, "refusal", "(LTinRoofScore;Z)I"⟩
abbrev cL_undo : ByteArray := method_29_code
def yL_undo : MethodName := ⟨RL, "undo", "(LTinRoofScore;)I"⟩
abbrev cL_run : ByteArray := method_30_code
def yL_run : MethodName := ⟨RL, "run", "(LTinRoofScore;Ljava/lang/String;)I"⟩
abbrev cL_drawn : ByteArray := method_31_code
def yL_drawn : MethodName := ⟨RL, "drawn", "([I)LTinRoofScore;"⟩
abbrev cL_sounds : ByteArray := method_32_code
def yL_sounds : MethodName := ⟨RL, "sounds", "(LTinRoofScore;)[[I"⟩
abbrev cL_ahead : ByteArray := method_33_code
def yL_ahead : MethodName := ⟨RL, "ahead", "([[II)[I"⟩
abbrev cL_isFault : ByteArray := method_34_code
def yL_isFault : MethodName := ⟨RL, "isFault", "(LTinRoofScore;[[III)Z"⟩
abbrev cL_faultsOf : ByteArray := method_35_code
def yL_faultsOf : MethodName := ⟨RL, "faultsOf", "(LTinRoofScore;[[II)I"⟩
abbrev cL_allFaults : ByteArray := method_36_code
def yL_allFaults : MethodName := ⟨RL, "allFaults", "(LTinRoofScore;[[I)I"⟩
abbrev cL_law : ByteArray := code
def yL_law : MethodName := ⟨RL, "law", "([I)Z"⟩
abbrev cL_parts : ByteArray := method_38_code
def yL_parts : MethodName := ⟨RL, "parts", "(LTinRoofScore;)Z"⟩
abbrev cL_faulty : ByteArray := method_39_code
def yL_faulty : MethodName := ⟨RL, "faulty", "(LTinRoofScore;)Z"⟩
abbrev cL_tunes : ByteArray := method_40_code
def yL_tunes : MethodName := ⟨RL, "tunes", "(LTinRoofScore;)Z"⟩
abbrev cL_ranks : ByteArray := method_41_code
def yL_ranks : MethodName := ⟨RL, "ranks", "(LTinRoofScore;)Z"⟩
abbrev cL_spells : ByteArray := method_42_code
def yL_spells : MethodName := ⟨RL, "spells", "(LTinRoofScore;ILjava/lang/String;)Z"⟩
abbrev cL_lines : ByteArray := method_43_code
def yL_lines : MethodName := ⟨RL, "lines", "(LTinRoofScore;)Z"⟩
abbrev cL_sum : ByteArray := method_44_code
def yL_sum : MethodName := ⟨RL, "sum", "(LTinRoofScore;)J"⟩
abbrev cL_undone : ByteArray := method_45_code
def yL_undone : MethodName := ⟨RL, "undone", "([ILTinRoofScore;)Z"⟩
abbrev vwCl : List vw_C := [(RJ0, TJ0, 4), (RJx00060, TJx00060, 6), (RX0, TX0, 3), (RX1, TX1, 3), (RX2, TX2, 3), (RX3, TX3, 1), (RX5, TX5, 11), (RX6, TX6, 1), (RX7, TX7, 1), (RX8, TX8, 7), (RX9, TX9, 11), (RJ4, TJ4, 4)]
