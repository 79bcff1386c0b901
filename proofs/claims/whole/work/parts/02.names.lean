/-! ===== BEGIN printed: names, fields, word lists, decode rows ===== -/
def RX0 : String := "Hatpitch$Act"
def TX0 : u_T := fun k => match k with
  | 0 => ("Hatpitch$Act", "number", "I", true)
  | 1 => ("Hatpitch$Act", "minutes", "I", true)
  | 2 => ("Hatpitch$Act", "loudness", "I", true)
  | 3 => ("Hatpitch$Act", "skill", "I", true)
  | 4 => ("Hatpitch$Act", "hasFire", "Z", true)
  | 5 => ("Hatpitch$Act", "line", "I", false)
  | 6 => ("Hatpitch$Act", "hasPermit", "Z", false)
  | 7 => ("Hatpitch$Act", "money", "I", false)
  | _ => ("Hatpitch$Act", "partners", "I", false)
def tyX0 : Nat → FieldType := fun k => match k with
  | 0 => .int
  | 1 => .int
  | 2 => .int
  | 3 => .int
  | 4 => .boolean
  | 5 => .int
  | 6 => .boolean
  | 7 => .int
  | _ => .int
abbrev wsX00 : List Cond := u_ws RX0 TX0 9
theorem nmX0 : ∀ a, a < 9 → ∀ b, b < 9 → a ≠ b → (TX0 a).2.1 ≠ (TX0 b).2.1 := by decide +kernel
theorem tyX0_ok : ∀ k, k < 9 → parseFieldDescriptor (TX0 k).2.2.1 = some (tyX0 k) := by decide +kernel
abbrev cX0_init : ByteArray := prog_2_method_1_code
def yX0_init : MethodName := ⟨RX0, "<init>", "(IIIIIZ)V"⟩
abbrev cX0_isUnlawfulFire : ByteArray := prog_2_method_2_code
def yX0_isUnlawfulFire : MethodName := ⟨RX0, "isUnlawfulFire", "()Z"⟩
def RX1 : String := "Hatpitch$Customs"
def TX1 : u_T := fun k => match k with
  | 0 => ("Hatpitch$Customs", "ahead", "[I", true)
  | _ => ("Hatpitch$Customs", "ways", "[I", true)
def tyX1 : Nat → FieldType := fun k => match k with
  | 0 => .array .int
  | _ => .array .int
abbrev wsX10 : List Cond := u_ws RX1 TX1 2
theorem nmX1 : ∀ a, a < 2 → ∀ b, b < 2 → a ≠ b → (TX1 a).2.1 ≠ (TX1 b).2.1 := by decide +kernel
theorem tyX1_ok : ∀ k, k < 2 → parseFieldDescriptor (TX1 k).2.2.1 = some (tyX1 k) := by decide +kernel
abbrev cX1_init : ByteArray := prog_3_method_1_code
def yX1_init : MethodName := ⟨RX1, "<init>", "()V"⟩
abbrev cX1_has : ByteArray := prog_3_method_2_code
def yX1_has : MethodName := ⟨RX1, "has", "(II)Z"⟩
abbrev cX1_put : ByteArray := prog_3_method_3_code
def yX1_put : MethodName := ⟨RX1, "put", "(II)V"⟩
abbrev cX1_take : ByteArray := prog_3_method_4_code
def yX1_take : MethodName := ⟨RX1, "take", "(II)V"⟩
abbrev cX1_leads : ByteArray := prog_3_method_5_code
def yX1_leads : MethodName := ⟨RX1, "leads", "(II)Z"⟩
abbrev cX1_countOrders : ByteArray := prog_3_method_6_code
def yX1_countOrders : MethodName := ⟨RX1, "countOrders", "(I)I"⟩
abbrev cX1_fillWays : ByteArray := prog_3_method_7_code
def yX1_fillWays : MethodName := ⟨RX1, "fillWays", "(I)V"⟩
abbrev cX1_isNext : ByteArray := prog_3_method_8_code
def yX1_isNext : MethodName := ⟨RX1, "isNext", "(II)Z"⟩
abbrev cX1_actOfOrder : ByteArray := prog_3_method_9_code
def yX1_actOfOrder : MethodName := ⟨RX1, "actOfOrder", "(III)I"⟩
def RX2 : String := "Hatpitch$Day"
def TX2 : u_T := fun k => match k with
  | 0 => ("Hatpitch$Day", "street", "LHatpitch$Street;", true)
  | 1 => ("Hatpitch$Day", "weather", "LHatpitch$Weather;", true)
  | 2 => ("Hatpitch$Day", "law", "LHatpitch$Law;", true)
  | 3 => ("Hatpitch$Day", "visits", "Ljava/util/ArrayList;", true)
  | 4 => ("Hatpitch$Day", "isPlayed", "Z", false)
  | 5 => ("Hatpitch$Day", "number", "I", false)
  | 6 => ("Hatpitch$Day", "given", "I", false)
  | 7 => ("Hatpitch$Day", "givenInAll", "I", false)
  | _ => ("Hatpitch$Day", "finesInAll", "I", false)
def tyX2 : Nat → FieldType := fun k => match k with
  | 0 => .object "Hatpitch$Street"
  | 1 => .object "Hatpitch$Weather"
  | 2 => .object "Hatpitch$Law"
  | 3 => .object "java/util/ArrayList"
  | 4 => .boolean
  | 5 => .int
  | 6 => .int
  | 7 => .int
  | _ => .int
abbrev wsX20 : List Cond := u_ws RX2 TX2 9
theorem nmX2 : ∀ a, a < 9 → ∀ b, b < 9 → a ≠ b → (TX2 a).2.1 ≠ (TX2 b).2.1 := by decide +kernel
theorem tyX2_ok : ∀ k, k < 9 → parseFieldDescriptor (TX2 k).2.2.1 = some (tyX2 k) := by decide +kernel
abbrev cX2_init : ByteArray := prog_4_method_1_code
def yX2_init : MethodName := ⟨RX2, "<init>", "(LHatpitch$Street;LHatpitch$Weather;LHatpitch$Law;)V"⟩
abbrev cX2_begin : ByteArray := prog_4_method_2_code
def yX2_begin : MethodName := ⟨RX2, "begin", "()V"⟩
abbrev cX2_run : ByteArray := prog_4_method_3_code
def yX2_run : MethodName := ⟨RX2, "run", "()V"⟩
abbrev cX2_payVisits : ByteArray := prog_4_method_4_code
def yX2_payVisits : MethodName := ⟨RX2, "payVisits", "(I)V"⟩
abbrev cX2_judge : ByteArray := prog_4_method_5_code
def yX2_judge : MethodName := ⟨RX2, "judge", "(LHatpitch$Visit;LHatpitch$Act;)V"⟩
abbrev cX2_playMinute : ByteArray := prog_4_method_6_code
def yX2_playMinute : MethodName := ⟨RX2, "playMinute", "(I)V"⟩
abbrev cX2_gather : ByteArray := prog_4_method_7_code
def yX2_gather : MethodName := ⟨RX2, "gather", "(LHatpitch$Pitch;LHatpitch$Turn;I)V"⟩
abbrev cX2_endIfDue : ByteArray := prog_4_method_8_code
def yX2_endIfDue : MethodName := ⟨RX2, "endIfDue", "(LHatpitch$Turn;I)V"⟩
def RX3 : String := "Hatpitch$Diary"
def TX3 : u_T := fun k => match k with
  | 0 => ("Hatpitch$Diary", "given", "[I", true)
  | _ => ("Hatpitch$Diary", "size", "I", false)
def tyX3 : Nat → FieldType := fun k => match k with
  | 0 => .array .int
  | _ => .int
abbrev wsX30 : List Cond := u_ws RX3 TX3 2
theorem nmX3 : ∀ a, a < 2 → ∀ b, b < 2 → a ≠ b → (TX3 a).2.1 ≠ (TX3 b).2.1 := by decide +kernel
theorem tyX3_ok : ∀ k, k < 2 → parseFieldDescriptor (TX3 k).2.2.1 = some (tyX3 k) := by decide +kernel
abbrev cX3_init : ByteArray := prog_5_method_1_code
def yX3_init : MethodName := ⟨RX3, "<init>", "()V"⟩
abbrev cX3_write : ByteArray := prog_5_method_2_code
def yX3_write : MethodName := ⟨RX3, "write", "(I)V"⟩
def RX4 : String := "Hatpitch$Law"
def TX4 : u_T := fun k => match k with
  | 0 => ("Hatpitch$Law", "limit", "I", false)
  | _ => ("Hatpitch$Law", "distance", "I", false)
def tyX4 : Nat → FieldType := fun k => match k with
  | 0 => .int
  | _ => .int
abbrev wsX40 : List Cond := u_ws RX4 TX4 2
theorem nmX4 : ∀ a, a < 2 → ∀ b, b < 2 → a ≠ b → (TX4 a).2.1 ≠ (TX4 b).2.1 := by decide +kernel
theorem tyX4_ok : ∀ k, k < 2 → parseFieldDescriptor (TX4 k).2.2.1 = some (tyX4 k) := by decide +kernel
abbrev cX4_init : ByteArray := prog_6_method_1_code
def yX4_init : MethodName := ⟨RX4, "<init>", "()V"⟩
def RX5 : String := "Hatpitch$Lots"
def TX5 : u_T := fun k => match k with
  | 0 => ("Hatpitch$Lots", "drawn", "[I", true)
  | 1 => ("Hatpitch$Lots", "aheadThen", "[I", true)
  | 2 => ("Hatpitch$Lots", "hat", "[I", true)
  | 3 => ("Hatpitch$Lots", "size", "I", false)
  | 4 => ("Hatpitch$Lots", "isDrawn", "Z", false)
  | _ => ("Hatpitch$Lots", "z", "I", false)
def tyX5 : Nat → FieldType := fun k => match k with
  | 0 => .array .int
  | 1 => .array .int
  | 2 => .array .int
  | 3 => .int
  | 4 => .boolean
  | _ => .int
abbrev wsX50 : List Cond := u_ws RX5 TX5 6
theorem nmX5 : ∀ a, a < 6 → ∀ b, b < 6 → a ≠ b → (TX5 a).2.1 ≠ (TX5 b).2.1 := by decide +kernel
theorem tyX5_ok : ∀ k, k < 6 → parseFieldDescriptor (TX5 k).2.2.1 = some (tyX5 k) := by decide +kernel
abbrev cX5_init : ByteArray := prog_7_method_1_code
def yX5_init : MethodName := ⟨RX5, "<init>", "()V"⟩
abbrev cX5_draw : ByteArray := prog_7_method_2_code
def yX5_draw : MethodName := ⟨RX5, "draw", "(LHatpitch$Customs;I)V"⟩
abbrev cX5_drawOne : ByteArray := prog_7_method_3_code
def yX5_drawOne : MethodName := ⟨RX5, "drawOne", "(II)I"⟩
abbrev cX5_isFree : ByteArray := prog_7_method_4_code
def yX5_isFree : MethodName := ⟨RX5, "isFree", "(II)Z"⟩
abbrev cX5_isAllowed : ByteArray := prog_7_method_5_code
def yX5_isAllowed : MethodName := ⟨RX5, "isAllowed", "()Z"⟩
def RX6 : String := "Hatpitch$Pitch"
def TX6 : u_T := fun k => match k with
  | 0 => ("Hatpitch$Pitch", "yard", "I", true)
  | 1 => ("Hatpitch$Pitch", "echo", "I", true)
  | 2 => ("Hatpitch$Pitch", "isShaded", "Z", true)
  | 3 => ("Hatpitch$Pitch", "passers", "[I", true)
  | 4 => ("Hatpitch$Pitch", "turns", "Ljava/util/ArrayList;", true)
  | 5 => ("Hatpitch$Pitch", "next", "I", false)
  | 6 => ("Hatpitch$Pitch", "nextBegin", "I", false)
  | _ => ("Hatpitch$Pitch", "playing", "LHatpitch$Turn;", false)
def tyX6 : Nat → FieldType := fun k => match k with
  | 0 => .int
  | 1 => .int
  | 2 => .boolean
  | 3 => .array .int
  | 4 => .object "java/util/ArrayList"
  | 5 => .int
  | 6 => .int
  | _ => .object "Hatpitch$Turn"
abbrev wsX60 : List Cond := u_ws RX6 TX6 8
theorem nmX6 : ∀ a, a < 8 → ∀ b, b < 8 → a ≠ b → (TX6 a).2.1 ≠ (TX6 b).2.1 := by decide +kernel
theorem tyX6_ok : ∀ k, k < 8 → parseFieldDescriptor (TX6 k).2.2.1 = some (tyX6 k) := by decide +kernel
abbrev cX6_init : ByteArray := prog_8_method_1_code
def yX6_init : MethodName := ⟨RX6, "<init>", "(IIZ)V"⟩
abbrev cX6_passersIn : ByteArray := prog_8_method_2_code
def yX6_passersIn : MethodName := ⟨RX6, "passersIn", "(I)I"⟩
abbrev cX6_yardsTo : ByteArray := prog_8_method_3_code
def yX6_yardsTo : MethodName := ⟨RX6, "yardsTo", "(LHatpitch$Pitch;)I"⟩
abbrev cX6_loudnessAt : ByteArray := prog_8_method_4_code
def yX6_loudnessAt : MethodName := ⟨RX6, "loudnessAt", "(LHatpitch$Pitch;LHatpitch$Act;)I"⟩
abbrev cX6_openDay : ByteArray := prog_8_method_5_code
def yX6_openDay : MethodName := ⟨RX6, "openDay", "()V"⟩
abbrev cX6_openMinute : ByteArray := prog_8_method_6_code
def yX6_openMinute : MethodName := ⟨RX6, "openMinute", "(I)V"⟩
abbrev cX6_beginNext : ByteArray := prog_8_method_7_code
def yX6_beginNext : MethodName := ⟨RX6, "beginNext", "(I)V"⟩
abbrev cX6_isOver : ByteArray := prog_8_method_8_code
def yX6_isOver : MethodName := ⟨RX6, "isOver", "()Z"⟩
abbrev cX6_actsOfTurns : ByteArray := prog_8_method_9_code
def yX6_actsOfTurns : MethodName := ⟨RX6, "actsOfTurns", "()I"⟩
abbrev cX6_hasTurnsApart : ByteArray := prog_8_method_10_code
def yX6_hasTurnsApart : MethodName := ⟨RX6, "hasTurnsApart", "()Z"⟩
def RX7 : String := "Hatpitch$Street"
def TX7 : u_T := fun k => match k with
  | 0 => ("Hatpitch$Street", "pitches", "Ljava/util/ArrayList;", true)
  | _ => ("Hatpitch$Street", "acts", "Ljava/util/ArrayList;", true)
def tyX7 : Nat → FieldType := fun k => match k with
  | 0 => .object "java/util/ArrayList"
  | _ => .object "java/util/ArrayList"
abbrev wsX70 : List Cond := u_ws RX7 TX7 2
theorem nmX7 : ∀ a, a < 2 → ∀ b, b < 2 → a ≠ b → (TX7 a).2.1 ≠ (TX7 b).2.1 := by decide +kernel
theorem tyX7_ok : ∀ k, k < 2 → parseFieldDescriptor (TX7 k).2.2.1 = some (tyX7 k) := by decide +kernel
abbrev cX7_init : ByteArray := prog_9_method_1_code
def yX7_init : MethodName := ⟨RX7, "<init>", "()V"⟩
abbrev cX7_hasPitchAt : ByteArray := prog_9_method_2_code
def yX7_hasPitchAt : MethodName := ⟨RX7, "hasPitchAt", "(I)Z"⟩
abbrev cX7_hasTurnElsewhere : ByteArray := prog_9_method_3_code
def yX7_hasTurnElsewhere : MethodName := ⟨RX7, "hasTurnElsewhere", "(II)Z"⟩
abbrev cX7_clearTurns : ByteArray := prog_9_method_4_code
def yX7_clearTurns : MethodName := ⟨RX7, "clearTurns", "()V"⟩
abbrev cX7_makePartners : ByteArray := prog_9_method_5_code
def yX7_makePartners : MethodName := ⟨RX7, "makePartners", "(LHatpitch$Act;LHatpitch$Act;)I"⟩
abbrev cX7_share : ByteArray := prog_9_method_6_code
def yX7_share : MethodName := ⟨RX7, "share", "(ILHatpitch$Act;)V"⟩
abbrev cX7_openDay : ByteArray := prog_9_method_7_code
def yX7_openDay : MethodName := ⟨RX7, "openDay", "()V"⟩
abbrev cX7_openMinute : ByteArray := prog_9_method_8_code
def yX7_openMinute : MethodName := ⟨RX7, "openMinute", "(I)V"⟩
abbrev cX7_isOver : ByteArray := prog_9_method_9_code
def yX7_isOver : MethodName := ⟨RX7, "isOver", "()Z"⟩
abbrev cX7_isDrowned : ByteArray := prog_9_method_10_code
def yX7_isDrowned : MethodName := ⟨RX7, "isDrowned", "(LHatpitch$Act;LHatpitch$Pitch;)Z"⟩
abbrev cX7_hasPlayingNearer : ByteArray := prog_9_method_11_code
def yX7_hasPlayingNearer : MethodName := ⟨RX7, "hasPlayingNearer", "(LHatpitch$Pitch;I)Z"⟩
abbrev cX7_countTurns : ByteArray := prog_9_method_12_code
def yX7_countTurns : MethodName := ⟨RX7, "countTurns", "()I"⟩
abbrev cX7_countGoodTurns : ByteArray := prog_9_method_13_code
def yX7_countGoodTurns : MethodName := ⟨RX7, "countGoodTurns", "()I"⟩
abbrev cX7_sumMoney : ByteArray := prog_9_method_14_code
def yX7_sumMoney : MethodName := ⟨RX7, "sumMoney", "()I"⟩
abbrev cX7_hasActsOnOnePitch : ByteArray := prog_9_method_15_code
def yX7_hasActsOnOnePitch : MethodName := ⟨RX7, "hasActsOnOnePitch", "()Z"⟩
abbrev cX7_hasTurnsApart : ByteArray := prog_9_method_16_code
def yX7_hasTurnsApart : MethodName := ⟨RX7, "hasTurnsApart", "()Z"⟩
def RX8 : String := "Hatpitch$Turn"
def TX8 : u_T := fun k => match k with
  | 0 => ("Hatpitch$Turn", "act", "LHatpitch$Act;", true)
  | 1 => ("Hatpitch$Turn", "begin", "I", false)
  | 2 => ("Hatpitch$Turn", "last", "I", false)
  | 3 => ("Hatpitch$Turn", "standing", "I", false)
  | 4 => ("Hatpitch$Turn", "most", "I", false)
  | 5 => ("Hatpitch$Turn", "given", "I", false)
  | 6 => ("Hatpitch$Turn", "drownedMinutes", "I", false)
  | 7 => ("Hatpitch$Turn", "wasPlayed", "Z", false)
  | _ => ("Hatpitch$Turn", "hasBroken", "Z", false)
def tyX8 : Nat → FieldType := fun k => match k with
  | 0 => .object "Hatpitch$Act"
  | 1 => .int
  | 2 => .int
  | 3 => .int
  | 4 => .int
  | 5 => .int
  | 6 => .int
  | 7 => .boolean
  | _ => .boolean
abbrev wsX80 : List Cond := u_ws RX8 TX8 9
theorem nmX8 : ∀ a, a < 9 → ∀ b, b < 9 → a ≠ b → (TX8 a).2.1 ≠ (TX8 b).2.1 := by decide +kernel
theorem tyX8_ok : ∀ k, k < 9 → parseFieldDescriptor (TX8 k).2.2.1 = some (tyX8 k) := by decide +kernel
abbrev cX8_init : ByteArray := prog_10_method_1_code
def yX8_init : MethodName := ⟨RX8, "<init>", "(LHatpitch$Act;)V"⟩
abbrev cX8_open : ByteArray := prog_10_method_2_code
def yX8_open : MethodName := ⟨RX8, "open", "(I)V"⟩
abbrev cX8_lastIfBegunAt : ByteArray := prog_10_method_3_code
def yX8_lastIfBegunAt : MethodName := ⟨RX8, "lastIfBegunAt", "(I)I"⟩
abbrev cX8_move : ByteArray := prog_10_method_4_code
def yX8_move : MethodName := ⟨RX8, "move", "(II)V"⟩
abbrev cX8_breaksNow : ByteArray := prog_10_method_5_code
def yX8_breaksNow : MethodName := ⟨RX8, "breaksNow", "()Z"⟩
abbrev cX8_breakAt : ByteArray := prog_10_method_6_code
def yX8_breakAt : MethodName := ⟨RX8, "breakAt", "(I)V"⟩
abbrev cX8_passHat : ByteArray := prog_10_method_7_code
def yX8_passHat : MethodName := ⟨RX8, "passHat", "(Z)V"⟩
abbrev cX8_wasGood : ByteArray := prog_10_method_8_code
def yX8_wasGood : MethodName := ⟨RX8, "wasGood", "()Z"⟩
abbrev cX8_tell : ByteArray := prog_10_method_9_code
def yX8_tell : MethodName := ⟨RX8, "tell", "(C)I"⟩
def RX9 : String := "Hatpitch$Visit"
def TX9 : u_T := fun k => match k with
  | 0 => ("Hatpitch$Visit", "pitch", "LHatpitch$Pitch;", true)
  | 1 => ("Hatpitch$Visit", "minute", "I", true)
  | 2 => ("Hatpitch$Visit", "why", "C", false)
  | _ => ("Hatpitch$Visit", "sum", "I", false)
def tyX9 : Nat → FieldType := fun k => match k with
  | 0 => .object "Hatpitch$Pitch"
  | 1 => .int
  | 2 => .char
  | _ => .int
abbrev wsX90 : List Cond := u_ws RX9 TX9 4
theorem nmX9 : ∀ a, a < 4 → ∀ b, b < 4 → a ≠ b → (TX9 a).2.1 ≠ (TX9 b).2.1 := by decide +kernel
theorem tyX9_ok : ∀ k, k < 4 → parseFieldDescriptor (TX9 k).2.2.1 = some (tyX9 k) := by decide +kernel
abbrev cX9_init : ByteArray := prog_11_method_1_code
def yX9_init : MethodName := ⟨RX9, "<init>", "(LHatpitch$Pitch;I)V"⟩
abbrev cX9_fine : ByteArray := prog_11_method_2_code
def yX9_fine : MethodName := ⟨RX9, "fine", "(CI)V"⟩
def RX10 : String := "Hatpitch$Weather"
def TX10 : u_T := fun k => match k with
  | 0 => ("Hatpitch$Weather", "rainFrom", "I", false)
  | 1 => ("Hatpitch$Weather", "rainTo", "I", false)
  | _ => ("Hatpitch$Weather", "cold", "I", false)
def tyX10 : Nat → FieldType := fun k => match k with
  | 0 => .int
  | 1 => .int
  | _ => .int
abbrev wsX100 : List Cond := u_ws RX10 TX10 3
theorem nmX10 : ∀ a, a < 3 → ∀ b, b < 3 → a ≠ b → (TX10 a).2.1 ≠ (TX10 b).2.1 := by decide +kernel
theorem tyX10_ok : ∀ k, k < 3 → parseFieldDescriptor (TX10 k).2.2.1 = some (tyX10 k) := by decide +kernel
abbrev cX10_init : ByteArray := prog_12_method_1_code
def yX10_init : MethodName := ⟨RX10, "<init>", "()V"⟩
abbrev cX10_isRaining : ByteArray := prog_12_method_2_code
def yX10_isRaining : MethodName := ⟨RX10, "isRaining", "(I)Z"⟩
abbrev cX10_rainMinutes : ByteArray := prog_12_method_3_code
def yX10_rainMinutes : MethodName := ⟨RX10, "rainMinutes", "()I"⟩
abbrev cX10_endRain : ByteArray := prog_12_method_4_code
def yX10_endRain : MethodName := ⟨RX10, "endRain", "()V"⟩
def RX11 : String := "Hatpitch"
def TX11 : u_T := fun k => match k with
  | 0 => ("Hatpitch", "street", "LHatpitch$Street;", true)
  | 1 => ("Hatpitch", "customs", "LHatpitch$Customs;", true)
  | 2 => ("Hatpitch", "lots", "LHatpitch$Lots;", true)
  | 3 => ("Hatpitch", "weather", "LHatpitch$Weather;", true)
  | 4 => ("Hatpitch", "law", "LHatpitch$Law;", true)
  | 5 => ("Hatpitch", "day", "LHatpitch$Day;", true)
  | _ => ("Hatpitch", "pages", "LHatpitch$Diary;", true)
def tyX11 : Nat → FieldType := fun k => match k with
  | 0 => .object "Hatpitch$Street"
  | 1 => .object "Hatpitch$Customs"
  | 2 => .object "Hatpitch$Lots"
  | 3 => .object "Hatpitch$Weather"
  | 4 => .object "Hatpitch$Law"
  | 5 => .object "Hatpitch$Day"
  | _ => .object "Hatpitch$Diary"
abbrev wsX110 : List Cond := u_ws RX11 TX11 7
theorem nmX11 : ∀ a, a < 7 → ∀ b, b < 7 → a ≠ b → (TX11 a).2.1 ≠ (TX11 b).2.1 := by decide +kernel
theorem tyX11_ok : ∀ k, k < 7 → parseFieldDescriptor (TX11 k).2.2.1 = some (tyX11 k) := by decide +kernel
abbrev cX11_init : ByteArray := prog_1_method_1_code
def yX11_init : MethodName := ⟨RX11, "<init>", "()V"⟩
abbrev cX11_addPitch : ByteArray := prog_1_method_2_code
def yX11_addPitch : MethodName := ⟨RX11, "addPitch", "(IIZ)I"⟩
abbrev cX11_setPassers : ByteArray := prog_1_method_3_code
def yX11_setPassers : MethodName := ⟨RX11, "setPassers", "(III)I"⟩
abbrev cX11_passersAt : ByteArray := prog_1_method_4_code
def yX11_passersAt : MethodName := ⟨RX11, "passersAt", "(II)I"⟩
abbrev cX11_addAct : ByteArray := prog_1_method_5_code
def yX11_addAct : MethodName := ⟨RX11, "addAct", "(IIIIZ)I"⟩
abbrev cX11_setLine : ByteArray := prog_1_method_6_code
def yX11_setLine : MethodName := ⟨RX11, "setLine", "(II)I"⟩
abbrev cX11_setPermit : ByteArray := prog_1_method_7_code
def yX11_setPermit : MethodName := ⟨RX11, "setPermit", "(IZ)Z"⟩
abbrev cX11_addCustom : ByteArray := prog_1_method_8_code
def yX11_addCustom : MethodName := ⟨RX11, "addCustom", "(II)Z"⟩
abbrev cX11_endCustom : ByteArray := prog_1_method_9_code
def yX11_endCustom : MethodName := ⟨RX11, "endCustom", "(II)Z"⟩
abbrev cX11_orders : ByteArray := prog_1_method_10_code
def yX11_orders : MethodName := ⟨RX11, "orders", "()I"⟩
abbrev cX11_orderAt : ByteArray := prog_1_method_11_code
def yX11_orderAt : MethodName := ⟨RX11, "orderAt", "(II)I"⟩
abbrev cX11_drawLots : ByteArray := prog_1_method_12_code
def yX11_drawLots : MethodName := ⟨RX11, "drawLots", "()I"⟩
abbrev cX11_lotAt : ByteArray := prog_1_method_13_code
def yX11_lotAt : MethodName := ⟨RX11, "lotAt", "(I)I"⟩
abbrev cX11_seed : ByteArray := prog_1_method_14_code
def yX11_seed : MethodName := ⟨RX11, "seed", "(I)I"⟩
abbrev cX11_addTurn : ByteArray := prog_1_method_15_code
def yX11_addTurn : MethodName := ⟨RX11, "addTurn", "(II)I"⟩
abbrev cX11_turnsByLots : ByteArray := prog_1_method_16_code
def yX11_turnsByLots : MethodName := ⟨RX11, "turnsByLots", "()I"⟩
abbrev cX11_exchange : ByteArray := prog_1_method_17_code
def yX11_exchange : MethodName := ⟨RX11, "exchange", "(III)Z"⟩
abbrev cX11_turnAt : ByteArray := prog_1_method_18_code
def yX11_turnAt : MethodName := ⟨RX11, "turnAt", "(II)I"⟩
abbrev cX11_setRain : ByteArray := prog_1_method_19_code
def yX11_setRain : MethodName := ⟨RX11, "setRain", "(II)I"⟩
abbrev cX11_setCold : ByteArray := prog_1_method_20_code
def yX11_setCold : MethodName := ⟨RX11, "setCold", "(I)I"⟩
abbrev cX11_setLaw : ByteArray := prog_1_method_21_code
def yX11_setLaw : MethodName := ⟨RX11, "setLaw", "(II)I"⟩
abbrev cX11_addVisit : ByteArray := prog_1_method_22_code
def yX11_addVisit : MethodName := ⟨RX11, "addVisit", "(II)I"⟩
abbrev cX11_join : ByteArray := prog_1_method_23_code
def yX11_join : MethodName := ⟨RX11, "join", "(II)I"⟩
abbrev cX11_play : ByteArray := prog_1_method_24_code
def yX11_play : MethodName := ⟨RX11, "play", "()I"⟩
abbrev cX11_of : ByteArray := prog_1_method_25_code
def yX11_of : MethodName := ⟨RX11, "of", "(IIC)I"⟩
abbrev cX11_isBroken : ByteArray := prog_1_method_26_code
def yX11_isBroken : MethodName := ⟨RX11, "isBroken", "(II)Z"⟩
abbrev cX11_fineAt : ByteArray := prog_1_method_27_code
def yX11_fineAt : MethodName := ⟨RX11, "fineAt", "(I)C"⟩
abbrev cX11_sumAt : ByteArray := prog_1_method_28_code
def yX11_sumAt : MethodName := ⟨RX11, "sumAt", "(I)I"⟩
abbrev cX11_money : ByteArray := prog_1_method_29_code
def yX11_money : MethodName := ⟨RX11, "money", "(I)I"⟩
abbrev cX11_fines : ByteArray := prog_1_method_30_code
def yX11_fines : MethodName := ⟨RX11, "fines", "()I"⟩
abbrev cX11_nextDay : ByteArray := prog_1_method_31_code
def yX11_nextDay : MethodName := ⟨RX11, "nextDay", "()I"⟩
abbrev cX11_diary : ByteArray := prog_1_method_32_code
def yX11_diary : MethodName := ⟨RX11, "diary", "(I)I"⟩
abbrev cX11_checksum : ByteArray := prog_1_method_33_code
def yX11_checksum : MethodName := ⟨RX11, "checksum", "()J"⟩
abbrev cX11_goodShare : ByteArray := prog_1_method_34_code
def yX11_goodShare : MethodName := ⟨RX11, "goodShare", "()F"⟩
abbrev cX11_meanMoney : ByteArray := prog_1_method_35_code
def yX11_meanMoney : MethodName := ⟨RX11, "meanMoney", "()D"⟩
abbrev cX11_isSound : ByteArray := prog_1_method_36_code
def yX11_isSound : MethodName := ⟨RX11, "isSound", "()Z"⟩
abbrev cX11_isIndex : ByteArray := prog_1_method_37_code
def yX11_isIndex : MethodName := ⟨RX11, "isIndex", "(II)Z"⟩
abbrev cX11_requireRange : ByteArray := prog_1_method_38_code
def yX11_requireRange : MethodName := ⟨RX11, "requireRange", "(III)V"⟩
abbrev cX11_requireThing : ByteArray := prog_1_method_39_code
def yX11_requireThing : MethodName := ⟨RX11, "requireThing", "(C)V"⟩
abbrev cX11_requirePitch : ByteArray := prog_1_method_40_code
def yX11_requirePitch : MethodName := ⟨RX11, "requirePitch", "(I)V"⟩
abbrev cX11_requireAct : ByteArray := prog_1_method_41_code
def yX11_requireAct : MethodName := ⟨RX11, "requireAct", "(I)V"⟩
abbrev cX11_requireTwoActs : ByteArray := prog_1_method_42_code
def yX11_requireTwoActs : MethodName := ⟨RX11, "requireTwoActs", "(II)V"⟩
abbrev cX11_requireNotPlayed : ByteArray := prog_1_method_43_code
def yX11_requireNotPlayed : MethodName := ⟨RX11, "requireNotPlayed", "()V"⟩
abbrev cX11_requirePlayed : ByteArray := prog_1_method_44_code
def yX11_requirePlayed : MethodName := ⟨RX11, "requirePlayed", "()V"⟩
abbrev cX11_requirePlayedTurn : ByteArray := prog_1_method_45_code
def yX11_requirePlayedTurn : MethodName := ⟨RX11, "requirePlayedTurn", "(II)V"⟩
abbrev cX11_requireVisit : ByteArray := prog_1_method_46_code
def yX11_requireVisit : MethodName := ⟨RX11, "requireVisit", "(I)V"⟩
abbrev cX11_allowsExchange : ByteArray := prog_1_method_47_code
def yX11_allowsExchange : MethodName := ⟨RX11, "allowsExchange", "(Ljava/util/ArrayList;II)Z"⟩
abbrev cX11_exchanged : ByteArray := prog_1_method_48_code
def yX11_exchanged : MethodName := ⟨RX11, "exchanged", "(III)I"⟩
def RX12 : String := "HatpitchModel$Act"
def TX12 : u_T := fun k => match k with
  | 0 => ("HatpitchModel$Act", "minutes", "I", true)
  | 1 => ("HatpitchModel$Act", "loudness", "I", true)
  | 2 => ("HatpitchModel$Act", "skill", "I", true)
  | 3 => ("HatpitchModel$Act", "line", "I", false)
  | 4 => ("HatpitchModel$Act", "hasFire", "Z", true)
  | 5 => ("HatpitchModel$Act", "hasPermit", "Z", false)
  | 6 => ("HatpitchModel$Act", "money", "I", false)
  | _ => ("HatpitchModel$Act", "group", "I", false)
def tyX12 : Nat → FieldType := fun k => match k with
  | 0 => .int
  | 1 => .int
  | 2 => .int
  | 3 => .int
  | 4 => .boolean
  | 5 => .boolean
  | 6 => .int
  | _ => .int
abbrev wsX120 : List Cond := u_ws RX12 TX12 8
theorem nmX12 : ∀ a, a < 8 → ∀ b, b < 8 → a ≠ b → (TX12 a).2.1 ≠ (TX12 b).2.1 := by decide +kernel
theorem tyX12_ok : ∀ k, k < 8 → parseFieldDescriptor (TX12 k).2.2.1 = some (tyX12 k) := by decide +kernel
abbrev cX12_init : ByteArray := prog_15_method_1_code
def yX12_init : MethodName := ⟨RX12, "<init>", "(IIIIZI)V"⟩
def RX13 : String := "HatpitchModel$Pitch"
def TX13 : u_T := fun k => match k with
  | 0 => ("HatpitchModel$Pitch", "yard", "I", true)
  | 1 => ("HatpitchModel$Pitch", "echo", "I", true)
  | 2 => ("HatpitchModel$Pitch", "isShaded", "Z", true)
  | 3 => ("HatpitchModel$Pitch", "passers", "[I", true)
  | _ => ("HatpitchModel$Pitch", "turns", "Ljava/util/ArrayList;", true)
def tyX13 : Nat → FieldType := fun k => match k with
  | 0 => .int
  | 1 => .int
  | 2 => .boolean
  | 3 => .array .int
  | _ => .object "java/util/ArrayList"
abbrev wsX130 : List Cond := u_ws RX13 TX13 5
theorem nmX13 : ∀ a, a < 5 → ∀ b, b < 5 → a ≠ b → (TX13 a).2.1 ≠ (TX13 b).2.1 := by decide +kernel
theorem tyX13_ok : ∀ k, k < 5 → parseFieldDescriptor (TX13 k).2.2.1 = some (tyX13 k) := by decide +kernel
abbrev cX13_init : ByteArray := prog_16_method_1_code
def yX13_init : MethodName := ⟨RX13, "<init>", "(IIZ)V"⟩
abbrev cX13_passers : ByteArray := prog_16_method_2_code
def yX13_passers : MethodName := ⟨RX13, "passers", "(I)I"⟩
abbrev cX13_at : ByteArray := prog_16_method_3_code
def yX13_at : MethodName := ⟨RX13, "at", "(I)LHatpitchModel$Turn;"⟩
def RX14 : String := "HatpitchModel$Turn"
def TX14 : u_T := fun k => match k with
  | 0 => ("HatpitchModel$Turn", "act", "I", true)
  | 1 => ("HatpitchModel$Turn", "begin", "I", false)
  | 2 => ("HatpitchModel$Turn", "last", "I", false)
  | 3 => ("HatpitchModel$Turn", "stand", "I", false)
  | 4 => ("HatpitchModel$Turn", "most", "I", false)
  | 5 => ("HatpitchModel$Turn", "given", "I", false)
  | 6 => ("HatpitchModel$Turn", "drowned", "I", false)
  | _ => ("HatpitchModel$Turn", "isBroken", "Z", false)
def tyX14 : Nat → FieldType := fun k => match k with
  | 0 => .int
  | 1 => .int
  | 2 => .int
  | 3 => .int
  | 4 => .int
  | 5 => .int
  | 6 => .int
  | _ => .boolean
abbrev wsX140 : List Cond := u_ws RX14 TX14 8
theorem nmX14 : ∀ a, a < 8 → ∀ b, b < 8 → a ≠ b → (TX14 a).2.1 ≠ (TX14 b).2.1 := by decide +kernel
theorem tyX14_ok : ∀ k, k < 8 → parseFieldDescriptor (TX14 k).2.2.1 = some (tyX14 k) := by decide +kernel
abbrev cX14_init : ByteArray := prog_17_method_1_code
def yX14_init : MethodName := ⟨RX14, "<init>", "(I)V"⟩
def RX15 : String := "HatpitchModel$Visit"
def TX15 : u_T := fun k => match k with
  | 0 => ("HatpitchModel$Visit", "pitch", "I", true)
  | 1 => ("HatpitchModel$Visit", "minute", "I", true)
  | 2 => ("HatpitchModel$Visit", "kind", "C", false)
  | _ => ("HatpitchModel$Visit", "sum", "I", false)
def tyX15 : Nat → FieldType := fun k => match k with
  | 0 => .int
  | 1 => .int
  | 2 => .char
  | _ => .int
abbrev wsX150 : List Cond := u_ws RX15 TX15 4
theorem nmX15 : ∀ a, a < 4 → ∀ b, b < 4 → a ≠ b → (TX15 a).2.1 ≠ (TX15 b).2.1 := by decide +kernel
theorem tyX15_ok : ∀ k, k < 4 → parseFieldDescriptor (TX15 k).2.2.1 = some (tyX15 k) := by decide +kernel
abbrev cX15_init : ByteArray := prog_18_method_1_code
def yX15_init : MethodName := ⟨RX15, "<init>", "(II)V"⟩
def RX16 : String := "HatpitchModel"
def TX16 : u_T := fun k => match k with
  | 0 => ("HatpitchModel", "thrown", "I", false)
  | 1 => ("HatpitchModel", "pitches", "Ljava/util/ArrayList;", true)
  | 2 => ("HatpitchModel", "acts", "Ljava/util/ArrayList;", true)
  | 3 => ("HatpitchModel", "visits", "Ljava/util/ArrayList;", true)
  | 4 => ("HatpitchModel", "lots", "Ljava/util/ArrayList;", true)
  | 5 => ("HatpitchModel", "days", "Ljava/util/ArrayList;", true)
  | 6 => ("HatpitchModel", "isCustom", "[[Z", true)
  | 7 => ("HatpitchModel", "isDrawn", "Z", false)
  | 8 => ("HatpitchModel", "isPlayed", "Z", false)
  | 9 => ("HatpitchModel", "z", "I", false)
  | 10 => ("HatpitchModel", "rainFrom", "I", false)
  | 11 => ("HatpitchModel", "rainTo", "I", false)
  | 12 => ("HatpitchModel", "cold", "I", false)
  | 13 => ("HatpitchModel", "limit", "I", false)
  | 14 => ("HatpitchModel", "distance", "I", false)
  | 15 => ("HatpitchModel", "day", "I", false)
  | 16 => ("HatpitchModel", "given", "I", false)
  | _ => ("HatpitchModel", "fines", "I", false)
def tyX16 : Nat → FieldType := fun k => match k with
  | 0 => .int
  | 1 => .object "java/util/ArrayList"
  | 2 => .object "java/util/ArrayList"
  | 3 => .object "java/util/ArrayList"
  | 4 => .object "java/util/ArrayList"
  | 5 => .object "java/util/ArrayList"
  | 6 => .array (.array .boolean)
  | 7 => .boolean
  | 8 => .boolean
  | 9 => .int
  | 10 => .int
  | 11 => .int
  | 12 => .int
  | 13 => .int
  | 14 => .int
  | 15 => .int
  | 16 => .int
  | _ => .int
abbrev wsX160 : List Cond := u_ws RX16 TX16 18
theorem nmX16 : ∀ a, a < 18 → ∀ b, b < 18 → a ≠ b → (TX16 a).2.1 ≠ (TX16 b).2.1 := by decide +kernel
theorem tyX16_ok : ∀ k, k < 18 → parseFieldDescriptor (TX16 k).2.2.1 = some (tyX16 k) := by decide +kernel
abbrev cX16_in : ByteArray := prog_14_method_1_code
def yX16_in : MethodName := ⟨RX16, "in", "(JJJ)Z"⟩
abbrev cX16_init : ByteArray := prog_14_method_2_code
def yX16_init : MethodName := ⟨RX16, "<init>", "()V"⟩
abbrev cX16_thrown : ByteArray := prog_14_method_3_code
def yX16_thrown : MethodName := ⟨RX16, "thrown", "()I"⟩
abbrev cX16_isPitch : ByteArray := prog_14_method_4_code
def yX16_isPitch : MethodName := ⟨RX16, "isPitch", "(I)Z"⟩
abbrev cX16_isAct : ByteArray := prog_14_method_5_code
def yX16_isAct : MethodName := ⟨RX16, "isAct", "(I)Z"⟩
abbrev cX16_addPitch : ByteArray := prog_14_method_6_code
def yX16_addPitch : MethodName := ⟨RX16, "addPitch", "(IIZ)I"⟩
abbrev cX16_setPassers : ByteArray := prog_14_method_7_code
def yX16_setPassers : MethodName := ⟨RX16, "setPassers", "(III)I"⟩
abbrev cX16_passersAt : ByteArray := prog_14_method_8_code
def yX16_passersAt : MethodName := ⟨RX16, "passersAt", "(II)I"⟩
abbrev cX16_addAct : ByteArray := prog_14_method_9_code
def yX16_addAct : MethodName := ⟨RX16, "addAct", "(IIIIZ)I"⟩
abbrev cX16_noAct : ByteArray := prog_14_method_10_code
def yX16_noAct : MethodName := ⟨RX16, "noAct", "(I)Z"⟩
abbrev cX16_setLine : ByteArray := prog_14_method_11_code
def yX16_setLine : MethodName := ⟨RX16, "setLine", "(II)I"⟩
abbrev cX16_setPermit : ByteArray := prog_14_method_12_code
def yX16_setPermit : MethodName := ⟨RX16, "setPermit", "(IZ)Z"⟩
abbrev cX16_comesAhead : ByteArray := prog_14_method_13_code
def yX16_comesAhead : MethodName := ⟨RX16, "comesAhead", "(II)Z"⟩
abbrev cX16_addCustom : ByteArray := prog_14_method_14_code
def yX16_addCustom : MethodName := ⟨RX16, "addCustom", "(II)Z"⟩
abbrev cX16_endCustom : ByteArray := prog_14_method_15_code
def yX16_endCustom : MethodName := ⟨RX16, "endCustom", "(II)Z"⟩
abbrev cX16_isFree : ByteArray := prog_14_method_16_code
def yX16_isFree : MethodName := ⟨RX16, "isFree", "(II)Z"⟩
abbrev cX16_counts : ByteArray := prog_14_method_17_code
def yX16_counts : MethodName := ⟨RX16, "counts", "()[I"⟩
abbrev cX16_orders : ByteArray := prog_14_method_18_code
def yX16_orders : MethodName := ⟨RX16, "orders", "()I"⟩
abbrev cX16_orderAt : ByteArray := prog_14_method_19_code
def yX16_orderAt : MethodName := ⟨RX16, "orderAt", "(II)I"⟩
abbrev cX16_drawLots : ByteArray := prog_14_method_20_code
def yX16_drawLots : MethodName := ⟨RX16, "drawLots", "()I"⟩
abbrev cX16_lotAt : ByteArray := prog_14_method_21_code
def yX16_lotAt : MethodName := ⟨RX16, "lotAt", "(I)I"⟩
abbrev cX16_seed : ByteArray := prog_14_method_22_code
def yX16_seed : MethodName := ⟨RX16, "seed", "(I)I"⟩
abbrev cX16_addTurn : ByteArray := prog_14_method_23_code
def yX16_addTurn : MethodName := ⟨RX16, "addTurn", "(II)I"⟩
abbrev cX16_turnsByLots : ByteArray := prog_14_method_24_code
def yX16_turnsByLots : MethodName := ⟨RX16, "turnsByLots", "()I"⟩
abbrev cX16_exchange : ByteArray := prog_14_method_25_code
def yX16_exchange : MethodName := ⟨RX16, "exchange", "(III)Z"⟩
abbrev cX16_turnAt : ByteArray := prog_14_method_26_code
def yX16_turnAt : MethodName := ⟨RX16, "turnAt", "(II)I"⟩
abbrev cX16_setRain : ByteArray := prog_14_method_27_code
def yX16_setRain : MethodName := ⟨RX16, "setRain", "(II)I"⟩
abbrev cX16_setCold : ByteArray := prog_14_method_28_code
def yX16_setCold : MethodName := ⟨RX16, "setCold", "(I)I"⟩
abbrev cX16_setLaw : ByteArray := prog_14_method_29_code
def yX16_setLaw : MethodName := ⟨RX16, "setLaw", "(II)I"⟩
abbrev cX16_addVisit : ByteArray := prog_14_method_30_code
def yX16_addVisit : MethodName := ⟨RX16, "addVisit", "(II)I"⟩
abbrev cX16_partners : ByteArray := prog_14_method_31_code
def yX16_partners : MethodName := ⟨RX16, "partners", "(I)I"⟩
abbrev cX16_join : ByteArray := prog_14_method_32_code
def yX16_join : MethodName := ⟨RX16, "join", "(II)I"⟩
abbrev cX16_rains : ByteArray := prog_14_method_33_code
def yX16_rains : MethodName := ⟨RX16, "rains", "(I)Z"⟩
abbrev cX16_begins : ByteArray := prog_14_method_34_code
def yX16_begins : MethodName := ⟨RX16, "begins", "(LHatpitchModel$Pitch;I)V"⟩
abbrev cX16_visits : ByteArray := prog_14_method_35_code
def yX16_visits : MethodName := ⟨RX16, "visits", "(I)V"⟩
abbrev cX16_isDrowned : ByteArray := prog_14_method_36_code
def yX16_isDrowned : MethodName := ⟨RX16, "isDrowned", "(LHatpitchModel$Pitch;LHatpitchModel$Act;I)Z"⟩
abbrev cX16_gives : ByteArray := prog_14_method_37_code
def yX16_gives : MethodName := ⟨RX16, "gives", "(LHatpitchModel$Turn;LHatpitchModel$Act;I)V"⟩
abbrev cX16_goesOn : ByteArray := prog_14_method_38_code
def yX16_goesOn : MethodName := ⟨RX16, "goesOn", "(LHatpitchModel$Pitch;LHatpitchModel$Turn;ZI)V"⟩
abbrev cX16_play : ByteArray := prog_14_method_39_code
def yX16_play : MethodName := ⟨RX16, "play", "()I"⟩
abbrev cX16_played : ByteArray := prog_14_method_40_code
def yX16_played : MethodName := ⟨RX16, "played", "(IIZ)LHatpitchModel$Turn;"⟩
abbrev cX16_of : ByteArray := prog_14_method_41_code
def yX16_of : MethodName := ⟨RX16, "of", "(IIC)I"⟩
abbrev cX16_isBroken : ByteArray := prog_14_method_42_code
def yX16_isBroken : MethodName := ⟨RX16, "isBroken", "(II)Z"⟩
abbrev cX16_noVisit : ByteArray := prog_14_method_43_code
def yX16_noVisit : MethodName := ⟨RX16, "noVisit", "(I)Z"⟩
abbrev cX16_fineAt : ByteArray := prog_14_method_44_code
def yX16_fineAt : MethodName := ⟨RX16, "fineAt", "(I)C"⟩
abbrev cX16_sumAt : ByteArray := prog_14_method_45_code
def yX16_sumAt : MethodName := ⟨RX16, "sumAt", "(I)I"⟩
abbrev cX16_money : ByteArray := prog_14_method_46_code
def yX16_money : MethodName := ⟨RX16, "money", "(I)I"⟩
abbrev cX16_fines : ByteArray := prog_14_method_47_code
def yX16_fines : MethodName := ⟨RX16, "fines", "()I"⟩
abbrev cX16_nextDay : ByteArray := prog_14_method_48_code
def yX16_nextDay : MethodName := ⟨RX16, "nextDay", "()I"⟩
abbrev cX16_diary : ByteArray := prog_14_method_49_code
def yX16_diary : MethodName := ⟨RX16, "diary", "(I)I"⟩
abbrev cX16_checksum : ByteArray := prog_14_method_50_code
def yX16_checksum : MethodName := ⟨RX16, "checksum", "()J"⟩
abbrev cX16_goodShare : ByteArray := prog_14_method_51_code
def yX16_goodShare : MethodName := ⟨RX16, "goodShare", "()F"⟩
abbrev cX16_meanMoney : ByteArray := prog_14_method_52_code
def yX16_meanMoney : MethodName := ⟨RX16, "meanMoney", "()D"⟩
abbrev cX16_isSound : ByteArray := prog_14_method_53_code
def yX16_isSound : MethodName := ⟨RX16, "isSound", "()Z"⟩
def RJx145de : String := "java/io/Serializable"
def TJx145de : u_T := fun k => match k with
  | _ => ("", "", "", false)
def tyJx145de : Nat → FieldType := fun k => match k with
  | _ => .int
abbrev wsJx145de0 : List Cond := u_ws RJx145de TJx145de 0
theorem nmJx145de : ∀ a, a < 0 → ∀ b, b < 0 → a ≠ b → (TJx145de a).2.1 ≠ (TJx145de b).2.1 := by decide +kernel
theorem tyJx145de_ok : ∀ k, k < 0 → parseFieldDescriptor (TJx145de k).2.2.1 = some (tyJx145de k) := by decide +kernel
def RJx00060 : String := "java/lang/ArrayIndexOutOfBoundsException"
def TJx00060 : u_T := fun k => match k with
  | 0 => ("java/lang/Throwable", "backtrace", "Ljava/lang/Object;", false)
  | 1 => ("java/lang/Throwable", "detailMessage", "Ljava/lang/String;", false)
  | 2 => ("java/lang/Throwable", "cause", "Ljava/lang/Throwable;", false)
  | 3 => ("java/lang/Throwable", "stackTrace", "[Ljava/lang/StackTraceElement;", false)
  | 4 => ("java/lang/Throwable", "depth", "I", false)
  | _ => ("java/lang/Throwable", "suppressedExceptions", "Ljava/util/List;", false)
def tyJx00060 : Nat → FieldType := fun k => match k with
  | 0 => .object "java/lang/Object"
  | 1 => .object "java/lang/String"
  | 2 => .object "java/lang/Throwable"
  | 3 => .array (.object "java/lang/StackTraceElement")
  | 4 => .int
  | _ => .object "java/util/List"
abbrev wsJx000600 : List Cond := u_ws RJx00060 TJx00060 6
theorem nmJx00060 : ∀ a, a < 6 → ∀ b, b < 6 → a ≠ b → (TJx00060 a).2.1 ≠ (TJx00060 b).2.1 := by decide +kernel
theorem tyJx00060_ok : ∀ k, k < 6 → parseFieldDescriptor (TJx00060 k).2.2.1 = some (tyJx00060 k) := by decide +kernel
abbrev cJx00060_init_a7421 : ByteArray := prog_21_method_2_code
def yJx00060_init_a7421 : MethodName := ⟨RJx00060, "<init>", "(Ljava/lang/String;)V"⟩
def RJx9f9b0 : String := "java/lang/CharSequence"
def TJx9f9b0 : u_T := fun k => match k with
  | _ => ("", "", "", false)
def tyJx9f9b0 : Nat → FieldType := fun k => match k with
  | _ => .int
abbrev wsJx9f9b00 : List Cond := u_ws RJx9f9b0 TJx9f9b0 0
theorem nmJx9f9b0 : ∀ a, a < 0 → ∀ b, b < 0 → a ≠ b → (TJx9f9b0 a).2.1 ≠ (TJx9f9b0 b).2.1 := by decide +kernel
theorem tyJx9f9b0_ok : ∀ k, k < 0 → parseFieldDescriptor (TJx9f9b0 k).2.2.1 = some (tyJx9f9b0 k) := by decide +kernel
def RJ11 : String := "java/lang/Character"
def TJ11 : u_T := fun k => match k with
  | _ => ("", "", "", false)
def tyJ11 : Nat → FieldType := fun k => match k with
  | _ => .int
abbrev wsJ110 : List Cond := u_ws RJ11 TJ11 0
theorem nmJ11 : ∀ a, a < 0 → ∀ b, b < 0 → a ≠ b → (TJ11 a).2.1 ≠ (TJ11 b).2.1 := by decide +kernel
theorem tyJ11_ok : ∀ k, k < 0 → parseFieldDescriptor (TJ11 k).2.2.1 = some (tyJ11 k) := by decide +kernel
abbrev cJ11_isValidCodePoint_9a6ad : ByteArray := prog_23_method_11_code
def yJ11_isValidCodePoint_9a6ad : MethodName := ⟨RJ11, "isValidCodePoint", "(I)Z"⟩
abbrev cJ11_highSurrogate_5068e : ByteArray := prog_23_method_28_code
def yJ11_highSurrogate_5068e : MethodName := ⟨RJ11, "highSurrogate", "(I)C"⟩
abbrev cJ11_lowSurrogate_5068e : ByteArray := prog_23_method_29_code
def yJ11_lowSurrogate_5068e : MethodName := ⟨RJ11, "lowSurrogate", "(I)C"⟩
def RJx8e188 : String := "java/lang/Cloneable"
def TJx8e188 : u_T := fun k => match k with
  | _ => ("", "", "", false)
def tyJx8e188 : Nat → FieldType := fun k => match k with
  | _ => .int
abbrev wsJx8e1880 : List Cond := u_ws RJx8e188 TJx8e188 0
theorem nmJx8e188 : ∀ a, a < 0 → ∀ b, b < 0 → a ≠ b → (TJx8e188 a).2.1 ≠ (TJx8e188 b).2.1 := by decide +kernel
theorem tyJx8e188_ok : ∀ k, k < 0 → parseFieldDescriptor (TJx8e188 k).2.2.1 = some (tyJx8e188 k) := by decide +kernel
def RJxb160c : String := "java/lang/Comparable"
def TJxb160c : u_T := fun k => match k with
  | _ => ("", "", "", false)
def tyJxb160c : Nat → FieldType := fun k => match k with
  | _ => .int
abbrev wsJxb160c0 : List Cond := u_ws RJxb160c TJxb160c 0
theorem nmJxb160c : ∀ a, a < 0 → ∀ b, b < 0 → a ≠ b → (TJxb160c a).2.1 ≠ (TJxb160c b).2.1 := by decide +kernel
theorem tyJxb160c_ok : ∀ k, k < 0 → parseFieldDescriptor (TJxb160c k).2.2.1 = some (tyJxb160c k) := by decide +kernel
def RJxabbfe : String := "java/lang/Integer$IntegerCache"
def TJxabbfe : u_T := fun k => match k with
  | _ => ("", "", "", false)
def tyJxabbfe : Nat → FieldType := fun k => match k with
  | _ => .int
abbrev wsJxabbfe0 : List Cond := u_ws RJxabbfe TJxabbfe 0
theorem nmJxabbfe : ∀ a, a < 0 → ∀ b, b < 0 → a ≠ b → (TJxabbfe a).2.1 ≠ (TJxabbfe b).2.1 := by decide +kernel
theorem tyJxabbfe_ok : ∀ k, k < 0 → parseFieldDescriptor (TJxabbfe k).2.2.1 = some (tyJxabbfe k) := by decide +kernel
def RJ6 : String := "java/lang/Integer"
def TJ6 : u_T := fun k => match k with
  | _ => ("java/lang/Integer", "value", "I", true)
def tyJ6 : Nat → FieldType := fun k => match k with
  | _ => .int
abbrev wsJ60 : List Cond := u_ws RJ6 TJ6 1
theorem nmJ6 : ∀ a, a < 1 → ∀ b, b < 1 → a ≠ b → (TJ6 a).2.1 ≠ (TJ6 b).2.1 := by decide +kernel
theorem tyJ6_ok : ∀ k, k < 1 → parseFieldDescriptor (TJ6 k).2.2.1 = some (tyJ6 k) := by decide +kernel
abbrev cJ6_valueOf_2dffe : ByteArray := prog_30_method_22_code
def yJ6_valueOf_2dffe : MethodName := ⟨RJ6, "valueOf", "(I)Ljava/lang/Integer;"⟩
abbrev cJ6_init_d00df : ByteArray := prog_30_method_23_code
def yJ6_init_d00df : MethodName := ⟨RJ6, "<init>", "(I)V"⟩
abbrev cJ6_intValue_8abf5 : ByteArray := prog_30_method_27_code
def yJ6_intValue_8abf5 : MethodName := ⟨RJ6, "intValue", "()I"⟩
abbrev cJ6_bitCount_0f7a4 : ByteArray := prog_30_method_49_code
def yJ6_bitCount_0f7a4 : MethodName := ⟨RJ6, "bitCount", "(I)I"⟩
def RJxab1ab : String := "java/lang/Iterable"
def TJxab1ab : u_T := fun k => match k with
  | _ => ("", "", "", false)
def tyJxab1ab : Nat → FieldType := fun k => match k with
  | _ => .int
abbrev wsJxab1ab0 : List Cond := u_ws RJxab1ab TJxab1ab 0
theorem nmJxab1ab : ∀ a, a < 0 → ∀ b, b < 0 → a ≠ b → (TJxab1ab a).2.1 ≠ (TJxab1ab b).2.1 := by decide +kernel
theorem tyJxab1ab_ok : ∀ k, k < 0 → parseFieldDescriptor (TJxab1ab k).2.2.1 = some (tyJxab1ab k) := by decide +kernel
def RJ9 : String := "java/lang/Math"
def TJ9 : u_T := fun k => match k with
  | _ => ("", "", "", false)
def tyJ9 : Nat → FieldType := fun k => match k with
  | _ => .int
abbrev wsJ90 : List Cond := u_ws RJ9 TJ9 0
theorem nmJ9 : ∀ a, a < 0 → ∀ b, b < 0 → a ≠ b → (TJ9 a).2.1 ≠ (TJ9 b).2.1 := by decide +kernel
theorem tyJ9_ok : ∀ k, k < 0 → parseFieldDescriptor (TJ9 k).2.2.1 = some (tyJ9 k) := by decide +kernel
abbrev cJ9_abs_0f7a4 : ByteArray := prog_33_method_59_code
def yJ9_abs_0f7a4 : MethodName := ⟨RJ9, "abs", "(I)I"⟩
abbrev cJ9_max_7cf53 : ByteArray := prog_33_method_65_code
def yJ9_max_7cf53 : MethodName := ⟨RJ9, "max", "(II)I"⟩
abbrev cJ9_min_7cf53 : ByteArray := prog_33_method_69_code
def yJ9_min_7cf53 : MethodName := ⟨RJ9, "min", "(II)I"⟩
def RJxd2413 : String := "java/lang/Number"
def TJxd2413 : u_T := fun k => match k with
  | _ => ("", "", "", false)
def tyJxd2413 : Nat → FieldType := fun k => match k with
  | _ => .int
abbrev wsJxd24130 : List Cond := u_ws RJxd2413 TJxd2413 0
theorem nmJxd2413 : ∀ a, a < 0 → ∀ b, b < 0 → a ≠ b → (TJxd2413 a).2.1 ≠ (TJxd2413 b).2.1 := by decide +kernel
theorem tyJxd2413_ok : ∀ k, k < 0 → parseFieldDescriptor (TJxd2413 k).2.2.1 = some (tyJxd2413 k) := by decide +kernel
abbrev cJxd2413_init_da8c8 : ByteArray := prog_34_method_1_code
def yJxd2413_init_da8c8 : MethodName := ⟨RJxd2413, "<init>", "()V"⟩
def RJ0 : String := "java/lang/String"
def TJ0 : u_T := fun k => match k with
  | 0 => ("java/lang/String", "value", "[B", true)
  | _ => ("java/lang/String", "coder", "B", true)
def tyJ0 : Nat → FieldType := fun k => match k with
  | 0 => .array .byte
  | _ => .byte
abbrev wsJ00 : List Cond := u_ws RJ0 TJ0 2
theorem nmJ0 : ∀ a, a < 2 → ∀ b, b < 2 → a ≠ b → (TJ0 a).2.1 ≠ (TJ0 b).2.1 := by decide +kernel
theorem tyJ0_ok : ∀ k, k < 2 → parseFieldDescriptor (TJ0 k).2.2.1 = some (tyJ0 k) := by decide +kernel
abbrev cJ0_length_8abf5 : ByteArray := prog_36_method_54_code
def yJ0_length_8abf5 : MethodName := ⟨RJ0, "length", "()I"⟩
abbrev cJ0_indexOf_0f7a4 : ByteArray := prog_36_method_79_code
def yJ0_indexOf_0f7a4 : MethodName := ⟨RJ0, "indexOf", "(I)I"⟩
abbrev cJ0_indexOf_7cf53 : ByteArray := prog_36_method_80_code
def yJ0_indexOf_7cf53 : MethodName := ⟨RJ0, "indexOf", "(II)I"⟩
abbrev cJ0_coder_7d493 : ByteArray := prog_36_method_152_code
def yJ0_coder_7d493 : MethodName := ⟨RJ0, "coder", "()B"⟩
abbrev cJ0_isLatin1_aae02 : ByteArray := prog_36_method_154_code
def yJ0_isLatin1_aae02 : MethodName := ⟨RJ0, "isLatin1", "()Z"⟩
abbrev cJ0_checkBoundsBeginEnd_23922 : ByteArray := prog_36_method_158_code
def yJ0_checkBoundsBeginEnd_23922 : MethodName := ⟨RJ0, "checkBoundsBeginEnd", "(III)V"⟩
def RJ1 : String := "java/lang/StringLatin1"
def TJ1 : u_T := fun k => match k with
  | _ => ("", "", "", false)
def tyJ1 : Nat → FieldType := fun k => match k with
  | _ => .int
abbrev wsJ10 : List Cond := u_ws RJ1 TJ1 0
theorem nmJ1 : ∀ a, a < 0 → ∀ b, b < 0 → a ≠ b → (TJ1 a).2.1 ≠ (TJ1 b).2.1 := by decide +kernel
theorem tyJ1_ok : ∀ k, k < 0 → parseFieldDescriptor (TJ1 k).2.2.1 = some (tyJ1 k) := by decide +kernel
abbrev cJ1_canEncode_9a6ad : ByteArray := prog_37_method_4_code
def yJ1_canEncode_9a6ad : MethodName := ⟨RJ1, "canEncode", "(I)Z"⟩
abbrev cJ1_indexOf_4cfef : ByteArray := prog_37_method_22_code
def yJ1_indexOf_4cfef : MethodName := ⟨RJ1, "indexOf", "([BIII)I"⟩
abbrev cJ1_indexOfChar_4cfef : ByteArray := prog_37_method_23_code
def yJ1_indexOfChar_4cfef : MethodName := ⟨RJ1, "indexOfChar", "([BIII)I"⟩
def RJ2 : String := "java/lang/StringUTF16"
def TJ2 : u_T := fun k => match k with
  | _ => ("", "", "", false)
def tyJ2 : Nat → FieldType := fun k => match k with
  | _ => .int
abbrev wsJ20 : List Cond := u_ws RJ2 TJ2 0
theorem nmJ2 : ∀ a, a < 0 → ∀ b, b < 0 → a ≠ b → (TJ2 a).2.1 ≠ (TJ2 b).2.1 := by decide +kernel
theorem tyJ2_ok : ∀ k, k < 0 → parseFieldDescriptor (TJ2 k).2.2.1 = some (tyJ2 k) := by decide +kernel
abbrev cJ2_getChar_3b067 : ByteArray := prog_38_method_5_code
def yJ2_getChar_3b067 : MethodName := ⟨RJ2, "getChar", "([BI)C"⟩
abbrev cJ2_length_9d52b : ByteArray := prog_38_method_6_code
def yJ2_length_9d52b : MethodName := ⟨RJ2, "length", "([B)I"⟩
abbrev cJ2_indexOf_4cfef : ByteArray := prog_38_method_40_code
def yJ2_indexOf_4cfef : MethodName := ⟨RJ2, "indexOf", "([BIII)I"⟩
abbrev cJ2_indexOfChar_4cfef : ByteArray := prog_38_method_47_code
def yJ2_indexOfChar_4cfef : MethodName := ⟨RJ2, "indexOfChar", "([BIII)I"⟩
abbrev cJ2_indexOfCharUnsafe_4cfef : ByteArray := prog_38_method_48_code
def yJ2_indexOfCharUnsafe_4cfef : MethodName := ⟨RJ2, "indexOfCharUnsafe", "([BIII)I"⟩
abbrev cJ2_indexOfSupplementary_4cfef : ByteArray := prog_38_method_49_code
def yJ2_indexOfSupplementary_4cfef : MethodName := ⟨RJ2, "indexOfSupplementary", "([BIII)I"⟩
abbrev cJ2_checkBoundsBeginEnd_d044e : ByteArray := prog_38_method_93_code
def yJ2_checkBoundsBeginEnd_d044e : MethodName := ⟨RJ2, "checkBoundsBeginEnd", "(II[B)V"⟩
def RJ10 : String := "java/lang/System"
def TJ10 : u_T := fun k => match k with
  | _ => ("", "", "", false)
def tyJ10 : Nat → FieldType := fun k => match k with
  | _ => .int
abbrev wsJ100 : List Cond := u_ws RJ10 TJ10 0
theorem nmJ10 : ∀ a, a < 0 → ∀ b, b < 0 → a ≠ b → (TJ10 a).2.1 ≠ (TJ10 b).2.1 := by decide +kernel
theorem tyJ10_ok : ∀ k, k < 0 → parseFieldDescriptor (TJ10 k).2.2.1 = some (tyJ10 k) := by decide +kernel
def RJxfd54e : String := "java/lang/constant/Constable"
def TJxfd54e : u_T := fun k => match k with
  | _ => ("", "", "", false)
def tyJxfd54e : Nat → FieldType := fun k => match k with
  | _ => .int
abbrev wsJxfd54e0 : List Cond := u_ws RJxfd54e TJxfd54e 0
theorem nmJxfd54e : ∀ a, a < 0 → ∀ b, b < 0 → a ≠ b → (TJxfd54e a).2.1 ≠ (TJxfd54e b).2.1 := by decide +kernel
theorem tyJxfd54e_ok : ∀ k, k < 0 → parseFieldDescriptor (TJxfd54e k).2.2.1 = some (tyJxfd54e k) := by decide +kernel
def RJx3cf43 : String := "java/lang/constant/ConstantDesc"
def TJx3cf43 : u_T := fun k => match k with
  | _ => ("", "", "", false)
def tyJx3cf43 : Nat → FieldType := fun k => match k with
  | _ => .int
abbrev wsJx3cf430 : List Cond := u_ws RJx3cf43 TJx3cf43 0
theorem nmJx3cf43 : ∀ a, a < 0 → ∀ b, b < 0 → a ≠ b → (TJx3cf43 a).2.1 ≠ (TJx3cf43 b).2.1 := by decide +kernel
theorem tyJx3cf43_ok : ∀ k, k < 0 → parseFieldDescriptor (TJx3cf43 k).2.2.1 = some (tyJx3cf43 k) := by decide +kernel
def RJxa1e45 : String := "java/util/AbstractCollection"
def TJxa1e45 : u_T := fun k => match k with
  | _ => ("", "", "", false)
def tyJxa1e45 : Nat → FieldType := fun k => match k with
  | _ => .int
abbrev wsJxa1e450 : List Cond := u_ws RJxa1e45 TJxa1e45 0
theorem nmJxa1e45 : ∀ a, a < 0 → ∀ b, b < 0 → a ≠ b → (TJxa1e45 a).2.1 ≠ (TJxa1e45 b).2.1 := by decide +kernel
theorem tyJxa1e45_ok : ∀ k, k < 0 → parseFieldDescriptor (TJxa1e45 k).2.2.1 = some (tyJxa1e45 k) := by decide +kernel
abbrev cJxa1e45_init_da8c8 : ByteArray := prog_44_method_1_code
def yJxa1e45_init_da8c8 : MethodName := ⟨RJxa1e45, "<init>", "()V"⟩
def RJxc12de : String := "java/util/AbstractList"
def TJxc12de : u_T := fun k => match k with
  | _ => ("", "", "", false)
def tyJxc12de : Nat → FieldType := fun k => match k with
  | _ => .int
abbrev wsJxc12de0 : List Cond := u_ws RJxc12de TJxc12de 0
theorem nmJxc12de : ∀ a, a < 0 → ∀ b, b < 0 → a ≠ b → (TJxc12de a).2.1 ≠ (TJxc12de b).2.1 := by decide +kernel
theorem tyJxc12de_ok : ∀ k, k < 0 → parseFieldDescriptor (TJxc12de k).2.2.1 = some (tyJxc12de k) := by decide +kernel
abbrev cJxc12de_init_da8c8 : ByteArray := prog_45_method_1_code
def yJxc12de_init_da8c8 : MethodName := ⟨RJxc12de, "<init>", "()V"⟩
def RJx35411 : String := "java/util/ArrayList$Itr"
def TJx35411 : u_T := fun k => match k with
  | 0 => ("java/util/ArrayList$Itr", "cursor", "I", false)
  | 1 => ("java/util/ArrayList$Itr", "lastRet", "I", false)
  | 2 => ("java/util/ArrayList$Itr", "expectedModCount", "I", false)
  | _ => ("java/util/ArrayList$Itr", "this$0", "Ljava/util/ArrayList;", true)
def tyJx35411 : Nat → FieldType := fun k => match k with
  | 0 => .int
  | 1 => .int
  | 2 => .int
  | _ => .object "java/util/ArrayList"
abbrev wsJx354110 : List Cond := u_ws RJx35411 TJx35411 4
theorem nmJx35411 : ∀ a, a < 4 → ∀ b, b < 4 → a ≠ b → (TJx35411 a).2.1 ≠ (TJx35411 b).2.1 := by decide +kernel
theorem tyJx35411_ok : ∀ k, k < 4 → parseFieldDescriptor (TJx35411 k).2.2.1 = some (tyJx35411 k) := by decide +kernel
abbrev cJx35411_init_45d68 : ByteArray := prog_47_method_1_code
def yJx35411_init_45d68 : MethodName := ⟨RJx35411, "<init>", "(Ljava/util/ArrayList;)V"⟩
abbrev cJx35411_hasNext_aae02 : ByteArray := prog_47_method_2_code
def yJx35411_hasNext_aae02 : MethodName := ⟨RJx35411, "hasNext", "()Z"⟩
abbrev cJx35411_next_0502b : ByteArray := prog_47_method_3_code
def yJx35411_next_0502b : MethodName := ⟨RJx35411, "next", "()Ljava/lang/Object;"⟩
abbrev cJx35411_checkForComodification_da8c8 : ByteArray := prog_47_method_6_code
def yJx35411_checkForComodification_da8c8 : MethodName := ⟨RJx35411, "checkForComodification", "()V"⟩
def RJx4a65c : String := "java/util/ArrayList"
def TJx4a65c : u_T := fun k => match k with
  | 0 => ("java/util/AbstractList", "modCount", "I", false)
  | 1 => ("java/util/ArrayList", "elementData", "[Ljava/lang/Object;", false)
  | _ => ("java/util/ArrayList", "size", "I", false)
def tyJx4a65c : Nat → FieldType := fun k => match k with
  | 0 => .int
  | 1 => .array (.object "java/lang/Object")
  | _ => .int
abbrev wsJx4a65c0 : List Cond := u_ws RJx4a65c TJx4a65c 3
theorem nmJx4a65c : ∀ a, a < 3 → ∀ b, b < 3 → a ≠ b → (TJx4a65c a).2.1 ≠ (TJx4a65c b).2.1 := by decide +kernel
theorem tyJx4a65c_ok : ∀ k, k < 3 → parseFieldDescriptor (TJx4a65c k).2.2.1 = some (tyJx4a65c k) := by decide +kernel
abbrev cJx4a65c_init_da8c8 : ByteArray := prog_46_method_2_code
def yJx4a65c_init_da8c8 : MethodName := ⟨RJx4a65c, "<init>", "()V"⟩
abbrev cJx4a65c_init_4bcb3 : ByteArray := prog_46_method_3_code
def yJx4a65c_init_4bcb3 : MethodName := ⟨RJx4a65c, "<init>", "(Ljava/util/Collection;)V"⟩
abbrev cJx4a65c_grow_92f84 : ByteArray := prog_46_method_6_code
def yJx4a65c_grow_92f84 : MethodName := ⟨RJx4a65c, "grow", "(I)[Ljava/lang/Object;"⟩
abbrev cJx4a65c_grow_d5877 : ByteArray := prog_46_method_7_code
def yJx4a65c_grow_d5877 : MethodName := ⟨RJx4a65c, "grow", "()[Ljava/lang/Object;"⟩
abbrev cJx4a65c_size_8abf5 : ByteArray := prog_46_method_8_code
def yJx4a65c_size_8abf5 : MethodName := ⟨RJx4a65c, "size", "()I"⟩
abbrev cJx4a65c_isEmpty_aae02 : ByteArray := prog_46_method_9_code
def yJx4a65c_isEmpty_aae02 : MethodName := ⟨RJx4a65c, "isEmpty", "()Z"⟩
abbrev cJx4a65c_toArray_d5877 : ByteArray := prog_46_method_16_code
def yJx4a65c_toArray_d5877 : MethodName := ⟨RJx4a65c, "toArray", "()[Ljava/lang/Object;"⟩
abbrev cJx4a65c_elementData_915e3 : ByteArray := prog_46_method_18_code
def yJx4a65c_elementData_915e3 : MethodName := ⟨RJx4a65c, "elementData", "(I)Ljava/lang/Object;"⟩
abbrev cJx4a65c_get_915e3 : ByteArray := prog_46_method_20_code
def yJx4a65c_get_915e3 : MethodName := ⟨RJx4a65c, "get", "(I)Ljava/lang/Object;"⟩
abbrev cJx4a65c_set_bcc79 : ByteArray := prog_46_method_23_code
def yJx4a65c_set_bcc79 : MethodName := ⟨RJx4a65c, "set", "(ILjava/lang/Object;)Ljava/lang/Object;"⟩
abbrev cJx4a65c_add_72be8 : ByteArray := prog_46_method_24_code
def yJx4a65c_add_72be8 : MethodName := ⟨RJx4a65c, "add", "(Ljava/lang/Object;[Ljava/lang/Object;I)V"⟩
abbrev cJx4a65c_add_9ea2d : ByteArray := prog_46_method_25_code
def yJx4a65c_add_9ea2d : MethodName := ⟨RJx4a65c, "add", "(Ljava/lang/Object;)Z"⟩
abbrev cJx4a65c_remove_915e3 : ByteArray := prog_46_method_29_code
def yJx4a65c_remove_915e3 : MethodName := ⟨RJx4a65c, "remove", "(I)Ljava/lang/Object;"⟩
abbrev cJx4a65c_fastRemove_b59b0 : ByteArray := prog_46_method_39_code
def yJx4a65c_fastRemove_b59b0 : MethodName := ⟨RJx4a65c, "fastRemove", "([Ljava/lang/Object;I)V"⟩
abbrev cJx4a65c_clear_da8c8 : ByteArray := prog_46_method_40_code
def yJx4a65c_clear_da8c8 : MethodName := ⟨RJx4a65c, "clear", "()V"⟩
abbrev cJx4a65c_addAll_f0b43 : ByteArray := prog_46_method_41_code
def yJx4a65c_addAll_f0b43 : MethodName := ⟨RJx4a65c, "addAll", "(Ljava/util/Collection;)Z"⟩
abbrev cJx4a65c_iterator_32c93 : ByteArray := prog_46_method_55_code
def yJx4a65c_iterator_32c93 : MethodName := ⟨RJx4a65c, "iterator", "()Ljava/util/Iterator;"⟩
def RJ7 : String := "java/util/Arrays"
def TJ7 : u_T := fun k => match k with
  | _ => ("", "", "", false)
def tyJ7 : Nat → FieldType := fun k => match k with
  | _ => .int
abbrev wsJ70 : List Cond := u_ws RJ7 TJ7 0
theorem nmJ7 : ∀ a, a < 0 → ∀ b, b < 0 → a ≠ b → (TJ7 a).2.1 ≠ (TJ7 b).2.1 := by decide +kernel
theorem tyJ7_ok : ∀ k, k < 0 → parseFieldDescriptor (TJ7 k).2.2.1 = some (tyJ7 k) := by decide +kernel
abbrev cJ7_copyOf_1904c : ByteArray := prog_48_method_119_code
def yJ7_copyOf_1904c : MethodName := ⟨RJ7, "copyOf", "([Ljava/lang/Object;I)[Ljava/lang/Object;"⟩
abbrev cJ7_copyOf_6403c : ByteArray := prog_48_method_120_code
def yJ7_copyOf_6403c : MethodName := ⟨RJ7, "copyOf", "([Ljava/lang/Object;ILjava/lang/Class;)[Ljava/lang/Object;"⟩
def RJx5ef63 : String := "java/util/Collection"
def TJx5ef63 : u_T := fun k => match k with
  | _ => ("", "", "", false)
def tyJx5ef63 : Nat → FieldType := fun k => match k with
  | _ => .int
abbrev wsJx5ef630 : List Cond := u_ws RJx5ef63 TJx5ef63 0
theorem nmJx5ef63 : ∀ a, a < 0 → ∀ b, b < 0 → a ≠ b → (TJx5ef63 a).2.1 ≠ (TJx5ef63 b).2.1 := by decide +kernel
theorem tyJx5ef63_ok : ∀ k, k < 0 → parseFieldDescriptor (TJx5ef63 k).2.2.1 = some (tyJx5ef63 k) := by decide +kernel
def RJx4d0d8 : String := "java/util/Iterator"
def TJx4d0d8 : u_T := fun k => match k with
  | _ => ("", "", "", false)
def tyJx4d0d8 : Nat → FieldType := fun k => match k with
  | _ => .int
abbrev wsJx4d0d80 : List Cond := u_ws RJx4d0d8 TJx4d0d8 0
theorem nmJx4d0d8 : ∀ a, a < 0 → ∀ b, b < 0 → a ≠ b → (TJx4d0d8 a).2.1 ≠ (TJx4d0d8 b).2.1 := by decide +kernel
theorem tyJx4d0d8_ok : ∀ k, k < 0 → parseFieldDescriptor (TJx4d0d8 k).2.2.1 = some (tyJx4d0d8 k) := by decide +kernel
def RJxbd725 : String := "java/util/List"
def TJxbd725 : u_T := fun k => match k with
  | _ => ("", "", "", false)
def tyJxbd725 : Nat → FieldType := fun k => match k with
  | _ => .int
abbrev wsJxbd7250 : List Cond := u_ws RJxbd725 TJxbd725 0
theorem nmJxbd725 : ∀ a, a < 0 → ∀ b, b < 0 → a ≠ b → (TJxbd725 a).2.1 ≠ (TJxbd725 b).2.1 := by decide +kernel
theorem tyJxbd725_ok : ∀ k, k < 0 → parseFieldDescriptor (TJxbd725 k).2.2.1 = some (tyJxbd725 k) := by decide +kernel
def RJ15 : String := "java/util/Objects"
def TJ15 : u_T := fun k => match k with
  | _ => ("", "", "", false)
def tyJ15 : Nat → FieldType := fun k => match k with
  | _ => .int
abbrev wsJ150 : List Cond := u_ws RJ15 TJ15 0
theorem nmJ15 : ∀ a, a < 0 → ∀ b, b < 0 → a ≠ b → (TJ15 a).2.1 ≠ (TJ15 b).2.1 := by decide +kernel
theorem tyJ15_ok : ∀ k, k < 0 → parseFieldDescriptor (TJ15 k).2.2.1 = some (tyJ15 k) := by decide +kernel
abbrev cJ15_checkIndex_7cf53 : ByteArray := prog_53_method_17_code
def yJ15_checkIndex_7cf53 : MethodName := ⟨RJ15, "checkIndex", "(II)I"⟩
def RJxf0a74 : String := "java/util/RandomAccess"
def TJxf0a74 : u_T := fun k => match k with
  | _ => ("", "", "", false)
def tyJxf0a74 : Nat → FieldType := fun k => match k with
  | _ => .int
abbrev wsJxf0a740 : List Cond := u_ws RJxf0a74 TJxf0a74 0
theorem nmJxf0a74 : ∀ a, a < 0 → ∀ b, b < 0 → a ≠ b → (TJxf0a74 a).2.1 ≠ (TJxf0a74 b).2.1 := by decide +kernel
theorem tyJxf0a74_ok : ∀ k, k < 0 → parseFieldDescriptor (TJxf0a74 k).2.2.1 = some (tyJxf0a74 k) := by decide +kernel
def RJxa66e6 : String := "java/util/SequencedCollection"
def TJxa66e6 : u_T := fun k => match k with
  | _ => ("", "", "", false)
def tyJxa66e6 : Nat → FieldType := fun k => match k with
  | _ => .int
abbrev wsJxa66e60 : List Cond := u_ws RJxa66e6 TJxa66e6 0
theorem nmJxa66e6 : ∀ a, a < 0 → ∀ b, b < 0 → a ≠ b → (TJxa66e6 a).2.1 ≠ (TJxa66e6 b).2.1 := by decide +kernel
theorem tyJxa66e6_ok : ∀ k, k < 0 → parseFieldDescriptor (TJxa66e6 k).2.2.1 = some (tyJxa66e6 k) := by decide +kernel
def RJ8 : String := "jdk/internal/util/ArraysSupport"
def TJ8 : u_T := fun k => match k with
  | _ => ("", "", "", false)
def tyJ8 : Nat → FieldType := fun k => match k with
  | _ => .int
abbrev wsJ80 : List Cond := u_ws RJ8 TJ8 0
theorem nmJ8 : ∀ a, a < 0 → ∀ b, b < 0 → a ≠ b → (TJ8 a).2.1 ≠ (TJ8 b).2.1 := by decide +kernel
theorem tyJ8_ok : ∀ k, k < 0 → parseFieldDescriptor (TJ8 k).2.2.1 = some (tyJ8 k) := by decide +kernel
abbrev cJ8_newLength_cabcc : ByteArray := prog_56_method_27_code
def yJ8_newLength_cabcc : MethodName := ⟨RJ8, "newLength", "(III)I"⟩
abbrev cJ8_hugeLength_7cf53 : ByteArray := prog_56_method_28_code
def yJ8_hugeLength_7cf53 : MethodName := ⟨RJ8, "hugeLength", "(II)I"⟩
def RJ3 : String := "jdk/internal/util/Preconditions"
def TJ3 : u_T := fun k => match k with
  | _ => ("", "", "", false)
def tyJ3 : Nat → FieldType := fun k => match k with
  | _ => .int
abbrev wsJ30 : List Cond := u_ws RJ3 TJ3 0
theorem nmJ3 : ∀ a, a < 0 → ∀ b, b < 0 → a ≠ b → (TJ3 a).2.1 ≠ (TJ3 b).2.1 := by decide +kernel
theorem tyJ3_ok : ∀ k, k < 0 → parseFieldDescriptor (TJ3 k).2.2.1 = some (tyJ3 k) := by decide +kernel
abbrev cJ3_checkIndex_8e157 : ByteArray := prog_57_method_11_code
def yJ3_checkIndex_8e157 : MethodName := ⟨RJ3, "checkIndex", "(IILjava/util/function/BiFunction;)I"⟩
abbrev cJ3_checkFromToIndex_8c36e : ByteArray := prog_57_method_12_code
def yJ3_checkFromToIndex_8c36e : MethodName := ⟨RJ3, "checkFromToIndex", "(IIILjava/util/function/BiFunction;)I"⟩
def RL : String := "HatpitchLaw"
abbrev cL_addPitch : ByteArray := method_3_code
def yL_addPitch : MethodName := ⟨RL, "addPitch", "(LHatpitch;IIZ[J)I"⟩
abbrev cL_setPassers : ByteArray := method_4_code
def yL_setPassers : MethodName := ⟨RL, "setPassers", "(LHatpitch;III[J)I"⟩
abbrev cL_passersAt : ByteArray := method_5_code
def yL_passersAt : MethodName := ⟨RL, "passersAt", "(LHatpitch;II[J)I"⟩
abbrev cL_addAct : ByteArray := method_6_code
def yL_addAct : MethodName := ⟨RL, "addAct", "(LHatpitch;IIIIZ[J)I"⟩
abbrev cL_setLine : ByteArray := method_7_code
def yL_setLine : MethodName := ⟨RL, "setLine", "(LHatpitch;II[J)I"⟩
abbrev cL_setPermit : ByteArray := method_8_code
def yL_setPermit : MethodName := ⟨RL, "setPermit", "(LHatpitch;IZ[J)I"⟩
abbrev cL_addCustom : ByteArray := method_9_code
def yL_addCustom : MethodName := ⟨RL, "addCustom", "(LHatpitch;II[J)I"⟩
abbrev cL_endCustom : ByteArray := method_10_code
def yL_endCustom : MethodName := ⟨RL, "endCustom", "(LHatpitch;II[J)I"⟩
abbrev cL_orderAt : ByteArray := method_11_code
def yL_orderAt : MethodName := ⟨RL, "orderAt", "(LHatpitch;II[J)I"⟩
abbrev cL_lotAt : ByteArray := method_12_code
def yL_lotAt : MethodName := ⟨RL, "lotAt", "(LHatpitch;I[J)I"⟩
abbrev cL_seed : ByteArray := method_13_code
def yL_seed : MethodName := ⟨RL, "seed", "(LHatpitch;I[J)I"⟩
abbrev cL_addTurn : ByteArray := method_14_code
def yL_addTurn : MethodName := ⟨RL, "addTurn", "(LHatpitch;II[J)I"⟩
abbrev cL_turnsByLots : ByteArray := method_15_code
def yL_turnsByLots : MethodName := ⟨RL, "turnsByLots", "(LHatpitch;[J)I"⟩
abbrev cL_exchange : ByteArray := method_16_code
def yL_exchange : MethodName := ⟨RL, "exchange", "(LHatpitch;III[J)I"⟩
abbrev cL_turnAt : ByteArray := method_17_code
def yL_turnAt : MethodName := ⟨RL, "turnAt", "(LHatpitch;II[J)I"⟩
abbrev cL_setRain : ByteArray := method_18_code
def yL_setRain : MethodName := ⟨RL, "setRain", "(LHatpitch;II[J)I"⟩
abbrev cL_setCold : ByteArray := method_19_code
def yL_setCold : MethodName := ⟨RL, "setCold", "(LHatpitch;I[J)I"⟩
abbrev cL_setLaw : ByteArray := method_20_code
def yL_setLaw : MethodName := ⟨RL, "setLaw", "(LHatpitch;II[J)I"⟩
abbrev cL_addVisit : ByteArray := method_21_code
def yL_addVisit : MethodName := ⟨RL, "addVisit", "(LHatpitch;II[J)I"⟩
abbrev cL_join : ByteArray := method_22_code
def yL_join : MethodName := ⟨RL, "join", "(LHatpitch;II[J)I"⟩
abbrev cL_play : ByteArray := method_23_code
def yL_play : MethodName := ⟨RL, "play", "(LHatpitch;[J)I"⟩
abbrev cL_of : ByteArray := method_24_code
def yL_of : MethodName := ⟨RL, "of", "(LHatpitch;IIC[J)I"⟩
abbrev cL_isBroken : ByteArray := method_25_code
def yL_isBroken : MethodName := ⟨RL, "isBroken", "(LHatpitch;II[J)I"⟩
abbrev cL_fineAt : ByteArray := method_26_code
def yL_fineAt : MethodName := ⟨RL, "fineAt", "(LHatpitch;I[J)I"⟩
abbrev cL_sumAt : ByteArray := method_27_code
def yL_sumAt : MethodName := ⟨RL, "sumAt", "(LHatpitch;I[J)I"⟩
abbrev cL_money : ByteArray := method_28_code
def yL_money : MethodName := ⟨RL, "money", "(LHatpitch;I[J)I"⟩
abbrev cL_nextDay : ByteArray := method_29_code
def yL_nextDay : MethodName := ⟨RL, "nextDay", "(LHatpitch;[J)I"⟩
abbrev cL_diary : ByteArray := method_30_code
def yL_diary : MethodName := ⟨RL, "diary", "(LHatpitch;I[J)I"⟩
abbrev cL_goodShare : ByteArray := method_31_code
def yL_goodShare : MethodName := ⟨RL, "goodShare", "(LHatpitch;[D)I"⟩
abbrev cL_meanMoney : ByteArray := method_32_code
def yL_meanMoney : MethodName := ⟨RL, "meanMoney", "(LHatpitch;[D)I"⟩
abbrev cL_law : ByteArray := code
def yL_law : MethodName := ⟨RL, "law", "([I)Z"⟩
abbrev vwCl : List vw_C := [(RJ0, TJ0, 2), (RJ6, TJ6, 1), (RJx00060, TJx00060, 6), (RJx35411, TJx35411, 4), (RJx4a65c, TJx4a65c, 3), (RX0, TX0, 9), (RX1, TX1, 2), (RX2, TX2, 9), (RX3, TX3, 2), (RX4, TX4, 2), (RX5, TX5, 6), (RX6, TX6, 8), (RX7, TX7, 2), (RX8, TX8, 9), (RX9, TX9, 4), (RX10, TX10, 3), (RX11, TX11, 7), (RX12, TX12, 8), (RX13, TX13, 5), (RX14, TX14, 8), (RX15, TX15, 4), (RX16, TX16, 18)]
