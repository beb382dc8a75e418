def RX0 : String := "SevenAsks$AskingText"
def TX0 : u_T := fun k => match k with
  | 0 => ("SevenAsks$AskingText", "signs", "[I", true)
  | _ => ("SevenAsks$AskingText", "size", "I", false)
def tyX0 : Nat → FieldType := fun k => match k with
  | 0 => .array .int
  | _ => .int
abbrev wsX00 : List Cond := u_ws RX0 TX0 2
theorem nmX0 : ∀ a, a < 2 → ∀ b, b < 2 → a ≠ b → (TX0 a).2.1 ≠ (TX0 b).2.1 := by decide +kernel
theorem tyX0_ok : ∀ k, k < 2 → parseFieldDescriptor (TX0 k).2.2.1 = some (tyX0 k) := by decide +kernel
abbrev cX0_init : ByteArray := prog_2_method_1_code
def yX0_init : MethodName := ⟨RX0, "<init>", "()V"⟩
def RX1 : String := "SevenAsks$BedLaying"
def TX1 : u_T := fun k => match k with
  | _ => ("SevenAsks$BedLaying", "busyUntil", "[I", true)
def tyX1 : Nat → FieldType := fun k => match k with
  | _ => .array .int
abbrev wsX10 : List Cond := u_ws RX1 TX1 1
theorem nmX1 : ∀ a, a < 1 → ∀ b, b < 1 → a ≠ b → (TX1 a).2.1 ≠ (TX1 b).2.1 := by decide +kernel
theorem tyX1_ok : ∀ k, k < 1 → parseFieldDescriptor (TX1 k).2.2.1 = some (tyX1 k) := by decide +kernel
abbrev cX1_init : ByteArray := prog_3_method_1_code
def yX1_init : MethodName := ⟨RX1, "<init>", "()V"⟩
abbrev cX1_bedsFor : ByteArray := prog_3_method_2_code
def yX1_bedsFor : MethodName := ⟨RX1, "bedsFor", "(LSevenAsks$Night;)I"⟩
abbrev cX1_lay : ByteArray := prog_3_method_3_code
def yX1_lay : MethodName := ⟨RX1, "lay", "(II)I"⟩
def RX2 : String := "SevenAsks$Grid"
def TX2 : u_T := fun k => match k with
  | 0 => ("SevenAsks$Grid", "rows", "I", true)
  | 1 => ("SevenAsks$Grid", "columns", "I", true)
  | _ => ("SevenAsks$Grid", "numbers", "[I", true)
def tyX2 : Nat → FieldType := fun k => match k with
  | 0 => .int
  | 1 => .int
  | _ => .array .int
abbrev wsX20 : List Cond := u_ws RX2 TX2 3
theorem nmX2 : ∀ a, a < 3 → ∀ b, b < 3 → a ≠ b → (TX2 a).2.1 ≠ (TX2 b).2.1 := by decide +kernel
theorem tyX2_ok : ∀ k, k < 3 → parseFieldDescriptor (TX2 k).2.2.1 = some (tyX2 k) := by decide +kernel
abbrev cX2_init : ByteArray := prog_4_method_1_code
def yX2_init : MethodName := ⟨RX2, "<init>", "(II)V"⟩
abbrev cX2_get : ByteArray := prog_4_method_2_code
def yX2_get : MethodName := ⟨RX2, "get", "(II)I"⟩
abbrev cX2_put : ByteArray := prog_4_method_3_code
def yX2_put : MethodName := ⟨RX2, "put", "(III)V"⟩
abbrev cX2_raise : ByteArray := prog_4_method_4_code
def yX2_raise : MethodName := ⟨RX2, "raise", "(III)V"⟩
abbrev cX2_fill : ByteArray := prog_4_method_5_code
def yX2_fill : MethodName := ⟨RX2, "fill", "(I)V"⟩
abbrev cX2_copyFrom : ByteArray := prog_4_method_6_code
def yX2_copyFrom : MethodName := ⟨RX2, "copyFrom", "(LSevenAsks$Grid;)V"⟩
def RX3 : String := "SevenAsks$House"
def TX3 : u_T := fun k => match k with
  | 0 => ("SevenAsks$House", "night", "LSevenAsks$Night;", true)
  | 1 => ("SevenAsks$House", "lodgers", "LSevenAsks$Grid;", true)
  | 2 => ("SevenAsks$House", "accounts", "LSevenAsks$Grid;", true)
  | _ => ("SevenAsks$House", "reasons", "LSevenAsks$Grid;", true)
def tyX3 : Nat → FieldType := fun k => match k with
  | 0 => .object "SevenAsks$Night"
  | 1 => .object "SevenAsks$Grid"
  | 2 => .object "SevenAsks$Grid"
  | _ => .object "SevenAsks$Grid"
abbrev wsX30 : List Cond := u_ws RX3 TX3 4
theorem nmX3 : ∀ a, a < 4 → ∀ b, b < 4 → a ≠ b → (TX3 a).2.1 ≠ (TX3 b).2.1 := by decide +kernel
theorem tyX3_ok : ∀ k, k < 4 → parseFieldDescriptor (TX3 k).2.2.1 = some (tyX3 k) := by decide +kernel
abbrev cX3_init : ByteArray := prog_5_method_1_code
def yX3_init : MethodName := ⟨RX3, "<init>", "()V"⟩
abbrev cX3_copyFrom : ByteArray := prog_5_method_2_code
def yX3_copyFrom : MethodName := ⟨RX3, "copyFrom", "(LSevenAsks$House;)V"⟩
abbrev cX3_account : ByteArray := prog_5_method_3_code
def yX3_account : MethodName := ⟨RX3, "account", "(I)I"⟩
abbrev cX3_refusedFor : ByteArray := prog_5_method_4_code
def yX3_refusedFor : MethodName := ⟨RX3, "refusedFor", "(I)I"⟩
abbrev cX3_lodgerNumber : ByteArray := prog_5_method_5_code
def yX3_lodgerNumber : MethodName := ⟨RX3, "lodgerNumber", "(II)I"⟩
abbrev cX3_shareLent : ByteArray := prog_5_method_6_code
def yX3_shareLent : MethodName := ⟨RX3, "shareLent", "()D"⟩
abbrev cX3_poorestLodger : ByteArray := prog_5_method_7_code
def yX3_poorestLodger : MethodName := ⟨RX3, "poorestLodger", "()I"⟩
abbrev cX3_isPoorer : ByteArray := prog_5_method_8_code
def yX3_isPoorer : MethodName := ⟨RX3, "isPoorer", "(II)Z"⟩
abbrev cX3_answerTo : ByteArray := prog_5_method_9_code
def yX3_answerTo : MethodName := ⟨RX3, "answerTo", "(III)I"⟩
abbrev cX3_isEighth : ByteArray := prog_5_method_10_code
def yX3_isEighth : MethodName := ⟨RX3, "isEighth", "(I)Z"⟩
abbrev cX3_hasTooLittleNeed : ByteArray := prog_5_method_11_code
def yX3_hasTooLittleNeed : MethodName := ⟨RX3, "hasTooLittleNeed", "(I)Z"⟩
abbrev cX3_wouldBePutOut : ByteArray := prog_5_method_12_code
def yX3_wouldBePutOut : MethodName := ⟨RX3, "wouldBePutOut", "(III)I"⟩
abbrev cX3_takeAsking : ByteArray := prog_5_method_13_code
def yX3_takeAsking : MethodName := ⟨RX3, "takeAsking", "(III)I"⟩
abbrev cX3_refuse : ByteArray := prog_5_method_14_code
def yX3_refuse : MethodName := ⟨RX3, "refuse", "(II)V"⟩
abbrev cX3_countRefusal : ByteArray := prog_5_method_15_code
def yX3_countRefusal : MethodName := ⟨RX3, "countRefusal", "(I)V"⟩
abbrev cX3_grant : ByteArray := prog_5_method_16_code
def yX3_grant : MethodName := ⟨RX3, "grant", "(IIII)V"⟩
abbrev cX3_countPutOut : ByteArray := prog_5_method_17_code
def yX3_countPutOut : MethodName := ⟨RX3, "countPutOut", "(I)V"⟩
abbrev cX3_takeBack : ByteArray := prog_5_method_18_code
def yX3_takeBack : MethodName := ⟨RX3, "takeBack", "(II)I"⟩
abbrev cX3_giveFavour : ByteArray := prog_5_method_19_code
def yX3_giveFavour : MethodName := ⟨RX3, "giveFavour", "(I)I"⟩
abbrev cX3_changeNeed : ByteArray := prog_5_method_20_code
def yX3_changeNeed : MethodName := ⟨RX3, "changeNeed", "(II)I"⟩
abbrev cX3_changeSetting : ByteArray := prog_5_method_21_code
def yX3_changeSetting : MethodName := ⟨RX3, "changeSetting", "(I)I"⟩
abbrev cX3_canLetHourGo : ByteArray := prog_5_method_22_code
def yX3_canLetHourGo : MethodName := ⟨RX3, "canLetHourGo", "()Z"⟩
abbrev cX3_letHourGo : ByteArray := prog_5_method_23_code
def yX3_letHourGo : MethodName := ⟨RX3, "letHourGo", "()I"⟩
def RX4 : String := "SevenAsks$Night"
def TX4 : u_T := fun k => match k with
  | 0 => ("SevenAsks$Night", "holders", "LSevenAsks$Grid;", true)
  | _ => ("SevenAsks$Night", "gone", "I", false)
def tyX4 : Nat → FieldType := fun k => match k with
  | 0 => .object "SevenAsks$Grid"
  | _ => .int
abbrev wsX40 : List Cond := u_ws RX4 TX4 2
theorem nmX4 : ∀ a, a < 2 → ∀ b, b < 2 → a ≠ b → (TX4 a).2.1 ≠ (TX4 b).2.1 := by decide +kernel
theorem tyX4_ok : ∀ k, k < 2 → parseFieldDescriptor (TX4 k).2.2.1 = some (tyX4 k) := by decide +kernel
abbrev cX4_init : ByteArray := prog_6_method_1_code
def yX4_init : MethodName := ⟨RX4, "<init>", "()V"⟩
abbrev cX4_copyFrom : ByteArray := prog_6_method_2_code
def yX4_copyFrom : MethodName := ⟨RX4, "copyFrom", "(LSevenAsks$Night;)V"⟩
abbrev cX4_goneHours : ByteArray := prog_6_method_3_code
def yX4_goneHours : MethodName := ⟨RX4, "goneHours", "()I"⟩
abbrev cX4_wentBy : ByteArray := prog_6_method_4_code
def yX4_wentBy : MethodName := ⟨RX4, "wentBy", "(I)Z"⟩
abbrev cX4_advance : ByteArray := prog_6_method_5_code
def yX4_advance : MethodName := ⟨RX4, "advance", "()V"⟩
abbrev cX4_holder : ByteArray := prog_6_method_6_code
def yX4_holder : MethodName := ⟨RX4, "holder", "(II)I"⟩
abbrev cX4_lend : ByteArray := prog_6_method_7_code
def yX4_lend : MethodName := ⟨RX4, "lend", "(IIII)V"⟩
abbrev cX4_lentBeds : ByteArray := prog_6_method_8_code
def yX4_lentBeds : MethodName := ⟨RX4, "lentBeds", "(I)I"⟩
abbrev cX4_mostLentBeds : ByteArray := prog_6_method_9_code
def yX4_mostLentBeds : MethodName := ⟨RX4, "mostLentBeds", "()I"⟩
abbrev cX4_lentHours : ByteArray := prog_6_method_10_code
def yX4_lentHours : MethodName := ⟨RX4, "lentHours", "()I"⟩
abbrev cX4_bedOf : ByteArray := prog_6_method_11_code
def yX4_bedOf : MethodName := ⟨RX4, "bedOf", "(II)I"⟩
abbrev cX4_hoursWithBed : ByteArray := prog_6_method_12_code
def yX4_hoursWithBed : MethodName := ⟨RX4, "hoursWithBed", "(III)I"⟩
abbrev cX4_lentHoursIn : ByteArray := prog_6_method_13_code
def yX4_lentHoursIn : MethodName := ⟨RX4, "lentHoursIn", "(III)I"⟩
abbrev cX4_leastLentBed : ByteArray := prog_6_method_14_code
def yX4_leastLentBed : MethodName := ⟨RX4, "leastLentBed", "(II)I"⟩
abbrev cX4_holdersMask : ByteArray := prog_6_method_15_code
def yX4_holdersMask : MethodName := ⟨RX4, "holdersMask", "(III)I"⟩
abbrev cX4_startsPiece : ByteArray := prog_6_method_16_code
def yX4_startsPiece : MethodName := ⟨RX4, "startsPiece", "(II)Z"⟩
abbrev cX4_pieceEnd : ByteArray := prog_6_method_17_code
def yX4_pieceEnd : MethodName := ⟨RX4, "pieceEnd", "(II)I"⟩
abbrev cX4_freePieceFrom : ByteArray := prog_6_method_18_code
def yX4_freePieceFrom : MethodName := ⟨RX4, "freePieceFrom", "(II)I"⟩
abbrev cX4_freePiecesIn : ByteArray := prog_6_method_19_code
def yX4_freePiecesIn : MethodName := ⟨RX4, "freePiecesIn", "(III)I"⟩
abbrev cX4_longestFor : ByteArray := prog_6_method_20_code
def yX4_longestFor : MethodName := ⟨RX4, "longestFor", "(II)I"⟩
abbrev cX4_isOpenTo : ByteArray := prog_6_method_21_code
def yX4_isOpenTo : MethodName := ⟨RX4, "isOpenTo", "(III)Z"⟩
def RX5 : String := "SevenAsks$Shelf"
def TX5 : u_T := fun k => match k with
  | 0 => ("SevenAsks$Shelf", "houses", "[LSevenAsks$House;", true)
  | _ => ("SevenAsks$Shelf", "filled", "[Z", true)
def tyX5 : Nat → FieldType := fun k => match k with
  | 0 => .array (.object "SevenAsks$House")
  | _ => .array .boolean
abbrev wsX50 : List Cond := u_ws RX5 TX5 2
theorem nmX5 : ∀ a, a < 2 → ∀ b, b < 2 → a ≠ b → (TX5 a).2.1 ≠ (TX5 b).2.1 := by decide +kernel
theorem tyX5_ok : ∀ k, k < 2 → parseFieldDescriptor (TX5 k).2.2.1 = some (tyX5 k) := by decide +kernel
abbrev cX5_init : ByteArray := prog_7_method_1_code
def yX5_init : MethodName := ⟨RX5, "<init>", "(I)V"⟩
abbrev cX5_houseIn : ByteArray := prog_7_method_2_code
def yX5_houseIn : MethodName := ⟨RX5, "houseIn", "(I)LSevenAsks$House;"⟩
abbrev cX5_store : ByteArray := prog_7_method_4_code
def yX5_store : MethodName := ⟨RX5, "store", "(ILSevenAsks$House;)V"⟩
abbrev cX5_restore : ByteArray := prog_7_method_5_code
def yX5_restore : MethodName := ⟨RX5, "restore", "(ILSevenAsks$House;)V"⟩
def RX6 : String := "SevenAsks"
def TX6 : u_T := fun k => match k with
  | 0 => ("SevenAsks", "house", "LSevenAsks$House;", true)
  | 1 => ("SevenAsks", "slots", "LSevenAsks$Shelf;", true)
  | 2 => ("SevenAsks", "saved", "LSevenAsks$Shelf;", true)
  | 3 => ("SevenAsks", "laying", "LSevenAsks$BedLaying;", true)
  | 4 => ("SevenAsks", "text", "LSevenAsks$AskingText;", true)
  | 5 => ("SevenAsks", "savedCount", "I", false)
  | _ => ("SevenAsks", "nextSaved", "I", false)
def tyX6 : Nat → FieldType := fun k => match k with
  | 0 => .object "SevenAsks$House"
  | 1 => .object "SevenAsks$Shelf"
  | 2 => .object "SevenAsks$Shelf"
  | 3 => .object "SevenAsks$BedLaying"
  | 4 => .object "SevenAsks$AskingText"
  | 5 => .int
  | _ => .int
abbrev wsX60 : List Cond := u_ws RX6 TX6 7
theorem nmX6 : ∀ a, a < 7 → ∀ b, b < 7 → a ≠ b → (TX6 a).2.1 ≠ (TX6 b).2.1 := by decide +kernel
theorem tyX6_ok : ∀ k, k < 7 → parseFieldDescriptor (TX6 k).2.2.1 = some (tyX6 k) := by decide +kernel
abbrev cX6_init : ByteArray := prog_1_method_1_code
def yX6_init : MethodName := ⟨RX6, "<init>", "()V"⟩
abbrev cX6_ask : ByteArray := prog_1_method_2_code
def yX6_ask : MethodName := ⟨RX6, "ask", "(III)I"⟩
abbrev cX6_giveBack : ByteArray := prog_1_method_3_code
def yX6_giveBack : MethodName := ⟨RX6, "giveBack", "(II)I"⟩
abbrev cX6_favour : ByteArray := prog_1_method_4_code
def yX6_favour : MethodName := ⟨RX6, "favour", "(I)I"⟩
abbrev cX6_need : ByteArray := prog_1_method_5_code
def yX6_need : MethodName := ⟨RX6, "need", "(II)I"⟩
abbrev cX6_pass : ByteArray := prog_1_method_6_code
def yX6_pass : MethodName := ⟨RX6, "pass", "()I"⟩
abbrev cX6_set : ByteArray := prog_1_method_7_code
def yX6_set : MethodName := ⟨RX6, "set", "(I)I"⟩
abbrev cX6_undo : ByteArray := prog_1_method_14_code
def yX6_undo : MethodName := ⟨RX6, "undo", "()I"⟩
abbrev cX6_at : ByteArray := prog_1_method_15_code
def yX6_at : MethodName := ⟨RX6, "at", "(II)I"⟩
abbrev cX6_lodgerOf : ByteArray := prog_1_method_16_code
def yX6_lodgerOf : MethodName := ⟨RX6, "lodgerOf", "(II)I"⟩
abbrev cX6_count : ByteArray := prog_1_method_17_code
def yX6_count : MethodName := ⟨RX6, "count", "(I)I"⟩
abbrev cX6_refused : ByteArray := prog_1_method_18_code
def yX6_refused : MethodName := ⟨RX6, "refused", "(I)I"⟩
abbrev cX6_ifAsked : ByteArray := prog_1_method_19_code
def yX6_ifAsked : MethodName := ⟨RX6, "ifAsked", "(III)I"⟩
abbrev cX6_ifPutOut : ByteArray := prog_1_method_20_code
def yX6_ifPutOut : MethodName := ⟨RX6, "ifPutOut", "(III)I"⟩
abbrev cX6_fewestBeds : ByteArray := prog_1_method_21_code
def yX6_fewestBeds : MethodName := ⟨RX6, "fewestBeds", "(I)I"⟩
abbrev cX6_longest : ByteArray := prog_1_method_22_code
def yX6_longest : MethodName := ⟨RX6, "longest", "(II)I"⟩
abbrev cX6_poorest : ByteArray := prog_1_method_23_code
def yX6_poorest : MethodName := ⟨RX6, "poorest", "()I"⟩
abbrev cX6_fullness : ByteArray := prog_1_method_24_code
def yX6_fullness : MethodName := ⟨RX6, "fullness", "()D"⟩
abbrev cX6_checkLodger : ByteArray := prog_1_method_32_code
def yX6_checkLodger : MethodName := ⟨RX6, "checkLodger", "(I)V"⟩
abbrev cX6_checkHour : ByteArray := prog_1_method_33_code
def yX6_checkHour : MethodName := ⟨RX6, "checkHour", "(I)V"⟩
abbrev cX6_checkNeed : ByteArray := prog_1_method_34_code
def yX6_checkNeed : MethodName := ⟨RX6, "checkNeed", "(I)V"⟩
abbrev cX6_checkRange : ByteArray := prog_1_method_36_code
def yX6_checkRange : MethodName := ⟨RX6, "checkRange", "(III)V"⟩
abbrev cX6_checkAsking : ByteArray := prog_1_method_37_code
def yX6_checkAsking : MethodName := ⟨RX6, "checkAsking", "(III)V"⟩
abbrev cX6_isWithinNight : ByteArray := prog_1_method_38_code
def yX6_isWithinNight : MethodName := ⟨RX6, "isWithinNight", "(II)Z"⟩
abbrev cX6_accountOf : ByteArray := prog_1_method_39_code
def yX6_accountOf : MethodName := ⟨RX6, "accountOf", "(I)I"⟩
abbrev cX6_saveState : ByteArray := prog_1_method_40_code
def yX6_saveState : MethodName := ⟨RX6, "saveState", "()V"⟩
def RX7 : String := "SevenAsksModel"
def TX7 : u_T := fun k => match k with
  | _ => ("", "", "", false)
def tyX7 : Nat → FieldType := fun k => match k with
  | _ => .int
abbrev wsX70 : List Cond := u_ws RX7 TX7 0
theorem nmX7 : ∀ a, a < 0 → ∀ b, b < 0 → a ≠ b → (TX7 a).2.1 ≠ (TX7 b).2.1 := by decide +kernel
theorem tyX7_ok : ∀ k, k < 0 → parseFieldDescriptor (TX7 k).2.2.1 = some (tyX7 k) := by decide +kernel
def RJx145de : String := "java/io/Serializable"
def TJx145de : u_T := fun k => match k with
  | _ => ("", "", "", false)
def tyJx145de : Nat → FieldType := fun k => match k with
  | _ => .int
abbrev wsJx145de0 : List Cond := u_ws RJx145de TJx145de 0
theorem nmJx145de : ∀ a, a < 0 → ∀ b, b < 0 → a ≠ b → (TJx145de a).2.1 ≠ (TJx145de b).2.1 := by decide +kernel
theorem tyJx145de_ok : ∀ k, k < 0 → parseFieldDescriptor (TJx145de k).2.2.1 = some (tyJx145de k) := by decide +kernel
def RJ6 : String := "java/lang/Integer"
def TJ6 : u_T := fun k => match k with
  | _ => ("", "", "", false)
def tyJ6 : Nat → FieldType := fun k => match k with
  | _ => .int
abbrev wsJ60 : List Cond := u_ws RJ6 TJ6 0
theorem nmJ6 : ∀ a, a < 0 → ∀ b, b < 0 → a ≠ b → (TJ6 a).2.1 ≠ (TJ6 b).2.1 := by decide +kernel
theorem tyJ6_ok : ∀ k, k < 0 → parseFieldDescriptor (TJ6 k).2.2.1 = some (tyJ6 k) := by decide +kernel
abbrev cJ6_bitCount_0f7a4 : ByteArray := prog_14_method_49_code
def yJ6_bitCount_0f7a4 : MethodName := ⟨RJ6, "bitCount", "(I)I"⟩
def RJ9 : String := "java/lang/Math"
def TJ9 : u_T := fun k => match k with
  | _ => ("", "", "", false)
def tyJ9 : Nat → FieldType := fun k => match k with
  | _ => .int
abbrev wsJ90 : List Cond := u_ws RJ9 TJ9 0
theorem nmJ9 : ∀ a, a < 0 → ∀ b, b < 0 → a ≠ b → (TJ9 a).2.1 ≠ (TJ9 b).2.1 := by decide +kernel
theorem tyJ9_ok : ∀ k, k < 0 → parseFieldDescriptor (TJ9 k).2.2.1 = some (tyJ9 k) := by decide +kernel
abbrev cJ9_max_7cf53 : ByteArray := prog_15_method_65_code
def yJ9_max_7cf53 : MethodName := ⟨RJ9, "max", "(II)I"⟩
abbrev cJ9_min_7cf53 : ByteArray := prog_15_method_69_code
def yJ9_min_7cf53 : MethodName := ⟨RJ9, "min", "(II)I"⟩
def RJ0 : String := "java/lang/String"
def TJ0 : u_T := fun k => match k with
  | _ => ("", "", "", false)
def tyJ0 : Nat → FieldType := fun k => match k with
  | _ => .int
abbrev wsJ00 : List Cond := u_ws RJ0 TJ0 0
theorem nmJ0 : ∀ a, a < 0 → ∀ b, b < 0 → a ≠ b → (TJ0 a).2.1 ≠ (TJ0 b).2.1 := by decide +kernel
theorem tyJ0_ok : ∀ k, k < 0 → parseFieldDescriptor (TJ0 k).2.2.1 = some (tyJ0 k) := by decide +kernel
def RJ10 : String := "java/lang/System"
def TJ10 : u_T := fun k => match k with
  | _ => ("", "", "", false)
def tyJ10 : Nat → FieldType := fun k => match k with
  | _ => .int
abbrev wsJ100 : List Cond := u_ws RJ10 TJ10 0
theorem nmJ10 : ∀ a, a < 0 → ∀ b, b < 0 → a ≠ b → (TJ10 a).2.1 ≠ (TJ10 b).2.1 := by decide +kernel
theorem tyJ10_ok : ∀ k, k < 0 → parseFieldDescriptor (TJ10 k).2.2.1 = some (tyJ10 k) := by decide +kernel
def RJ7 : String := "java/util/Arrays"
def TJ7 : u_T := fun k => match k with
  | _ => ("", "", "", false)
def tyJ7 : Nat → FieldType := fun k => match k with
  | _ => .int
abbrev wsJ70 : List Cond := u_ws RJ7 TJ7 0
theorem nmJ7 : ∀ a, a < 0 → ∀ b, b < 0 → a ≠ b → (TJ7 a).2.1 ≠ (TJ7 b).2.1 := by decide +kernel
theorem tyJ7_ok : ∀ k, k < 0 → parseFieldDescriptor (TJ7 k).2.2.1 = some (tyJ7 k) := by decide +kernel
abbrev cJ7_fill_53178 : ByteArray := prog_20_method_103_code
def yJ7_fill_53178 : MethodName := ⟨RJ7, "fill", "([II)V"⟩
def RL : String := "SevenAsksLaw"
abbrev cL_cell : ByteArray := method_2_code
def yL_cell : MethodName := ⟨RL, "cell", "([II)I"⟩
abbrev cL_low : ByteArray := method_3_code
def yL_low : MethodName := ⟨RL, "low", "(II)I"⟩
abbrev cL_asks : ByteArray := method_4_code
def yL_asks : MethodName := ⟨RL, "asks", "(LSevenAsks;III[I)I"⟩
abbrev cL_changes : ByteArray := method_5_code
def yL_changes : MethodName := ⟨RL, "changes", "(LSevenAsks;III[I)I"⟩
abbrev cL_act : ByteArray := method_6_code
def yL_act : MethodName := ⟨RL, "act", "(LSevenAsks;I[I)I"⟩
abbrev cL_areAlike : ByteArray := method_7_code
def yL_areAlike : MethodName := ⟨RL, "areAlike", "(LSevenAsks;LSevenAsks;)Z"⟩
abbrev cL_areSums : ByteArray := method_8_code
def yL_areSums : MethodName := ⟨RL, "areSums", "(LSevenAsks;)Z"⟩
abbrev cL_isFree : ByteArray := method_9_code
def yL_isFree : MethodName := ⟨RL, "isFree", "(LSevenAsks;III)Z"⟩
abbrev cL_has : ByteArray := method_10_code
def yL_has : MethodName := ⟨RL, "has", "(LSevenAsks;III)Z"⟩
abbrev cL_isAskingSo : ByteArray := method_11_code
def yL_isAskingSo : MethodName := ⟨RL, "isAskingSo", "(LSevenAsks;III)Z"⟩
abbrev cL_isLongestSo : ByteArray := method_12_code
def yL_isLongestSo : MethodName := ⟨RL, "isLongestSo", "(LSevenAsks;II)Z"⟩
abbrev cL_law : ByteArray := code
def yL_law : MethodName := ⟨RL, "law", "([I)Z"⟩
abbrev vwCl : List vw_C := [(RX0, TX0, 2), (RX1, TX1, 1), (RX2, TX2, 3), (RX3, TX3, 4), (RX4, TX4, 2), (RX5, TX5, 2), (RX6, TX6, 7)]
