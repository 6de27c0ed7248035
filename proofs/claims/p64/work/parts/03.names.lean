def RX0 : String := "ShareVault$1"
def TX0 : u_T := fun k => match k with
  | _ => ("", "", "", false)
def tyX0 : Nat → FieldType := fun k => match k with
  | _ => .int
theorem nmX0 : ∀ a, a < 0 → ∀ b, b < 0 → a ≠ b → (TX0 a).2.1 ≠ (TX0 b).2.1 := by decide +kernel
theorem tyX0_ok : ∀ k, k < 0 → parseFieldDescriptor (TX0 k).2.2.1 = some (tyX0 k) := by decide +kernel
def RX1 : String := "ShareVault$Building"
def TX1 : u_T := fun k => match k with
  | 0 => ("ShareVault$Building", "hour", "I", false)
  | 1 => ("ShareVault$Building", "noise", "[I", true)
  | 2 => ("ShareVault$Building", "alarms", "[I", true)
  | 3 => ("ShareVault$Building", "alarmCount", "I", false)
  | 4 => ("ShareVault$Building", "guardCount", "I", false)
  | 5 => ("ShareVault$Building", "guardZones", "[I", true)
  | 6 => ("ShareVault$Building", "forwards", "[Z", true)
  | _ => ("ShareVault$Building", "periods", "[I", true)
def tyX1 : Nat → FieldType := fun k => match k with
  | 0 => .int
  | 1 => .array .int
  | 2 => .array .int
  | 3 => .int
  | 4 => .int
  | 5 => .array .int
  | 6 => .array .boolean
  | _ => .array .int
theorem nmX1 : ∀ a, a < 8 → ∀ b, b < 8 → a ≠ b → (TX1 a).2.1 ≠ (TX1 b).2.1 := by decide +kernel
theorem tyX1_ok : ∀ k, k < 8 → parseFieldDescriptor (TX1 k).2.2.1 = some (tyX1 k) := by decide +kernel
abbrev cX1_init : ByteArray := prog_3_method_1_code
def yX1_init : MethodName := ⟨RX1, "<init>", "()V"⟩
abbrev cX1_copyFrom : ByteArray := prog_3_method_2_code
def yX1_copyFrom : MethodName := ⟨RX1, "copyFrom", "(LShareVault$Building;)V"⟩
abbrev cX1_hasZone : ByteArray := prog_3_method_3_code
def yX1_hasZone : MethodName := ⟨RX1, "hasZone", "(I)Z"⟩
abbrev cX1_sumOf : ByteArray := prog_3_method_4_code
def yX1_sumOf : MethodName := ⟨RX1, "sumOf", "([I)I"⟩
abbrev cX1_hasGuard : ByteArray := prog_3_method_5_code
def yX1_hasGuard : MethodName := ⟨RX1, "hasGuard", "(I)Z"⟩
abbrev cX1_hasGuardIn : ByteArray := prog_3_method_6_code
def yX1_hasGuardIn : MethodName := ⟨RX1, "hasGuardIn", "(I)Z"⟩
abbrev cX1_hasGuardBeside : ByteArray := prog_3_method_7_code
def yX1_hasGuardBeside : MethodName := ⟨RX1, "hasGuardBeside", "(I)Z"⟩
abbrev cX1_placeGuard : ByteArray := prog_3_method_8_code
def yX1_placeGuard : MethodName := ⟨RX1, "placeGuard", "(IZI)I"⟩
abbrev cX1_beginHour : ByteArray := prog_3_method_9_code
def yX1_beginHour : MethodName := ⟨RX1, "beginHour", "()V"⟩
abbrev cX1_passOneHour : ByteArray := prog_3_method_10_code
def yX1_passOneHour : MethodName := ⟨RX1, "passOneHour", "()I"⟩
abbrev cX1_visitByRemainders : ByteArray := prog_3_method_11_code
def yX1_visitByRemainders : MethodName := ⟨RX1, "visitByRemainders", "(I)I"⟩
abbrev cX1_visitOf : ByteArray := prog_3_method_12_code
def yX1_visitOf : MethodName := ⟨RX1, "visitOf", "(II)I"⟩
abbrev cX1_zoneAtRank : ByteArray := prog_3_method_13_code
def yX1_zoneAtRank : MethodName := ⟨RX1, "zoneAtRank", "(I)I"⟩
abbrev cX1_rankOf : ByteArray := prog_3_method_14_code
def yX1_rankOf : MethodName := ⟨RX1, "rankOf", "(I)I"⟩
abbrev cX1_comesBefore : ByteArray := prog_3_method_15_code
def yX1_comesBefore : MethodName := ⟨RX1, "comesBefore", "(II)Z"⟩
def RX2 : String := "ShareVault$Commands"
def TX2 : u_T := fun k => match k with
  | 0 => ("ShareVault$Commands", "signs", "[C", true)
  | 1 => ("ShareVault$Commands", "length", "I", false)
  | 2 => ("ShareVault$Commands", "at", "I", false)
  | 3 => ("ShareVault$Commands", "count", "I", false)
  | 4 => ("ShareVault$Commands", "words", "[LShareVault$Word;", true)
  | 5 => ("ShareVault$Commands", "numbers", "[[I", true)
  | _ => ("ShareVault$Commands", "numberCount", "I", false)
def tyX2 : Nat → FieldType := fun k => match k with
  | 0 => .array .char
  | 1 => .int
  | 2 => .int
  | 3 => .int
  | 4 => .array (.object "ShareVault$Word")
  | 5 => .array (.array .int)
  | _ => .int
theorem nmX2 : ∀ a, a < 7 → ∀ b, b < 7 → a ≠ b → (TX2 a).2.1 ≠ (TX2 b).2.1 := by decide +kernel
theorem tyX2_ok : ∀ k, k < 7 → parseFieldDescriptor (TX2 k).2.2.1 = some (tyX2 k) := by decide +kernel
abbrev cX2_init : ByteArray := prog_4_method_1_code
def yX2_init : MethodName := ⟨RX2, "<init>", "()V"⟩
abbrev cX2_append : ByteArray := prog_4_method_2_code
def yX2_append : MethodName := ⟨RX2, "append", "(C)I"⟩
abbrev cX2_clear : ByteArray := prog_4_method_3_code
def yX2_clear : MethodName := ⟨RX2, "clear", "()V"⟩
abbrev cX2_parse : ByteArray := prog_4_method_4_code
def yX2_parse : MethodName := ⟨RX2, "parse", "()I"⟩
abbrev cX2_peek : ByteArray := prog_4_method_5_code
def yX2_peek : MethodName := ⟨RX2, "peek", "()I"⟩
abbrev cX2_readCommand : ByteArray := prog_4_method_6_code
def yX2_readCommand : MethodName := ⟨RX2, "readCommand", "()Z"⟩
abbrev cX2_readWord : ByteArray := prog_4_method_7_code
def yX2_readWord : MethodName := ⟨RX2, "readWord", "()LShareVault$Word;"⟩
abbrev cX2_matchingLetters : ByteArray := prog_4_method_8_code
def yX2_matchingLetters : MethodName := ⟨RX2, "matchingLetters", "(Ljava/lang/String;)I"⟩
abbrev cX2_readForm : ByteArray := prog_4_method_9_code
def yX2_readForm : MethodName := ⟨RX2, "readForm", "(Ljava/lang/String;)Z"⟩
abbrev cX2_readPart : ByteArray := prog_4_method_10_code
def yX2_readPart : MethodName := ⟨RX2, "readPart", "(C)Z"⟩
abbrev cX2_readBlank : ByteArray := prog_4_method_11_code
def yX2_readBlank : MethodName := ⟨RX2, "readBlank", "()Z"⟩
abbrev cX2_readDirection : ByteArray := prog_4_method_12_code
def yX2_readDirection : MethodName := ⟨RX2, "readDirection", "()Z"⟩
abbrev cX2_readNumber : ByteArray := prog_4_method_13_code
def yX2_readNumber : MethodName := ⟨RX2, "readNumber", "(I)Z"⟩
abbrev cX2_addNumber : ByteArray := prog_4_method_14_code
def yX2_addNumber : MethodName := ⟨RX2, "addNumber", "(I)V"⟩
def RX3 : String := "ShareVault$Door"
def TX3 : u_T := fun k => match k with
  | 0 => ("ShareVault$Door", "open", "Z", false)
  | 1 => ("ShareVault$Door", "lockedHours", "I", false)
  | 2 => ("ShareVault$Door", "failedAttempts", "I", false)
  | _ => ("ShareVault$Door", "openingCount", "I", false)
def tyX3 : Nat → FieldType := fun k => match k with
  | 0 => .boolean
  | 1 => .int
  | 2 => .int
  | _ => .int
theorem nmX3 : ∀ a, a < 4 → ∀ b, b < 4 → a ≠ b → (TX3 a).2.1 ≠ (TX3 b).2.1 := by decide +kernel
theorem tyX3_ok : ∀ k, k < 4 → parseFieldDescriptor (TX3 k).2.2.1 = some (tyX3 k) := by decide +kernel
abbrev cX3_init : ByteArray := prog_5_method_1_code
def yX3_init : MethodName := ⟨RX3, "<init>", "()V"⟩
abbrev cX3_copyFrom : ByteArray := prog_5_method_2_code
def yX3_copyFrom : MethodName := ⟨RX3, "copyFrom", "(LShareVault$Door;)V"⟩
abbrev cX3_shutAnew : ByteArray := prog_5_method_3_code
def yX3_shutAnew : MethodName := ⟨RX3, "shutAnew", "()V"⟩
abbrev cX3_swingOpen : ByteArray := prog_5_method_4_code
def yX3_swingOpen : MethodName := ⟨RX3, "swingOpen", "()V"⟩
abbrev cX3_countFailure : ByteArray := prog_5_method_5_code
def yX3_countFailure : MethodName := ⟨RX3, "countFailure", "()V"⟩
abbrev cX3_passOneHour : ByteArray := prog_5_method_6_code
def yX3_passOneHour : MethodName := ⟨RX3, "passOneHour", "()V"⟩
def RX4 : String := "ShareVault$History"
def TX4 : u_T := fun k => match k with
  | 0 => ("ShareVault$History", "states", "[LShareVault$State;", true)
  | 1 => ("ShareVault$History", "next", "I", false)
  | _ => ("ShareVault$History", "count", "I", false)
def tyX4 : Nat → FieldType := fun k => match k with
  | 0 => .array (.object "ShareVault$State")
  | 1 => .int
  | _ => .int
theorem nmX4 : ∀ a, a < 3 → ∀ b, b < 3 → a ≠ b → (TX4 a).2.1 ≠ (TX4 b).2.1 := by decide +kernel
theorem tyX4_ok : ∀ k, k < 3 → parseFieldDescriptor (TX4 k).2.2.1 = some (tyX4 k) := by decide +kernel
abbrev cX4_init : ByteArray := prog_6_method_1_code
def yX4_init : MethodName := ⟨RX4, "<init>", "()V"⟩
abbrev cX4_prepare : ByteArray := prog_6_method_2_code
def yX4_prepare : MethodName := ⟨RX4, "prepare", "(LShareVault$State;)V"⟩
abbrev cX4_prepared : ByteArray := prog_6_method_3_code
def yX4_prepared : MethodName := ⟨RX4, "prepared", "()LShareVault$State;"⟩
abbrev cX4_keep : ByteArray := prog_6_method_4_code
def yX4_keep : MethodName := ⟨RX4, "keep", "()V"⟩
abbrev cX4_takeLatest : ByteArray := prog_6_method_5_code
def yX4_takeLatest : MethodName := ⟨RX4, "takeLatest", "()LShareVault$State;"⟩
abbrev cX4_clear : ByteArray := prog_6_method_6_code
def yX4_clear : MethodName := ⟨RX4, "clear", "()V"⟩
def RX5 : String := "ShareVault$Journal"
def TX5 : u_T := fun k => match k with
  | 0 => ("ShareVault$Journal", "count", "I", false)
  | 1 => ("ShareVault$Journal", "hours", "[I", true)
  | 2 => ("ShareVault$Journal", "kinds", "[C", true)
  | _ => ("ShareVault$Journal", "details", "[I", true)
def tyX5 : Nat → FieldType := fun k => match k with
  | 0 => .int
  | 1 => .array .int
  | 2 => .array .char
  | _ => .array .int
theorem nmX5 : ∀ a, a < 4 → ∀ b, b < 4 → a ≠ b → (TX5 a).2.1 ≠ (TX5 b).2.1 := by decide +kernel
theorem tyX5_ok : ∀ k, k < 4 → parseFieldDescriptor (TX5 k).2.2.1 = some (tyX5 k) := by decide +kernel
abbrev cX5_init : ByteArray := prog_7_method_1_code
def yX5_init : MethodName := ⟨RX5, "<init>", "()V"⟩
abbrev cX5_copyFrom : ByteArray := prog_7_method_2_code
def yX5_copyFrom : MethodName := ⟨RX5, "copyFrom", "(LShareVault$Journal;)V"⟩
abbrev cX5_enter : ByteArray := prog_7_method_3_code
def yX5_enter : MethodName := ⟨RX5, "enter", "(ICI)V"⟩
abbrev cX5_dropOldest : ByteArray := prog_7_method_4_code
def yX5_dropOldest : MethodName := ⟨RX5, "dropOldest", "()V"⟩
def RX6 : String := "ShareVault$Keys"
def TX6 : u_T := fun k => match k with
  | 0 => ("ShareVault$Keys", "holderCount", "I", false)
  | 1 => ("ShareVault$Keys", "shares", "[I", true)
  | 2 => ("ShareVault$Keys", "sealed", "Z", false)
  | 3 => ("ShareVault$Keys", "threshold", "I", false)
  | 4 => ("ShareVault$Keys", "curve", "[I", true)
  | 5 => ("ShareVault$Keys", "presentedCount", "I", false)
  | _ => ("ShareVault$Keys", "presented", "[I", true)
def tyX6 : Nat → FieldType := fun k => match k with
  | 0 => .int
  | 1 => .array .int
  | 2 => .boolean
  | 3 => .int
  | 4 => .array .int
  | 5 => .int
  | _ => .array .int
theorem nmX6 : ∀ a, a < 7 → ∀ b, b < 7 → a ≠ b → (TX6 a).2.1 ≠ (TX6 b).2.1 := by decide +kernel
theorem tyX6_ok : ∀ k, k < 7 → parseFieldDescriptor (TX6 k).2.2.1 = some (tyX6 k) := by decide +kernel
abbrev cX6_init : ByteArray := prog_8_method_1_code
def yX6_init : MethodName := ⟨RX6, "<init>", "()V"⟩
abbrev cX6_copyFrom : ByteArray := prog_8_method_2_code
def yX6_copyFrom : MethodName := ⟨RX6, "copyFrom", "(LShareVault$Keys;)V"⟩
abbrev cX6_positionOf : ByteArray := prog_8_method_3_code
def yX6_positionOf : MethodName := ⟨RX6, "positionOf", "(I)I"⟩
abbrev cX6_isResidue : ByteArray := prog_8_method_4_code
def yX6_isResidue : MethodName := ⟨RX6, "isResidue", "(I)Z"⟩
abbrev cX6_hasHolder : ByteArray := prog_8_method_5_code
def yX6_hasHolder : MethodName := ⟨RX6, "hasHolder", "(I)Z"⟩
abbrev cX6_areEnough : ByteArray := prog_8_method_6_code
def yX6_areEnough : MethodName := ⟨RX6, "areEnough", "()Z"⟩
abbrev cX6_valueOn : ByteArray := prog_8_method_7_code
def yX6_valueOn : MethodName := ⟨RX6, "valueOn", "([II)I"⟩
abbrev cX6_correctShare : ByteArray := prog_8_method_8_code
def yX6_correctShare : MethodName := ⟨RX6, "correctShare", "(I)I"⟩
abbrev cX6_placeOf : ByteArray := prog_8_method_9_code
def yX6_placeOf : MethodName := ⟨RX6, "placeOf", "(I)I"⟩
abbrev cX6_join : ByteArray := prog_8_method_10_code
def yX6_join : MethodName := ⟨RX6, "join", "()I"⟩
abbrev cX6_sealWith : ByteArray := prog_8_method_11_code
def yX6_sealWith : MethodName := ⟨RX6, "sealWith", "(IIII)V"⟩
abbrev cX6_show : ByteArray := prog_8_method_12_code
def yX6_show : MethodName := ⟨RX6, "show", "(I)I"⟩
abbrev cX6_hide : ByteArray := prog_8_method_13_code
def yX6_hide : MethodName := ⟨RX6, "hide", "(I)I"⟩
abbrev cX6_toldAt : ByteArray := prog_8_method_14_code
def yX6_toldAt : MethodName := ⟨RX6, "toldAt", "(I)I"⟩
abbrev cX6_allAgree : ByteArray := prog_8_method_15_code
def yX6_allAgree : MethodName := ⟨RX6, "allAgree", "()Z"⟩
abbrev cX6_tellTheSecret : ByteArray := prog_8_method_16_code
def yX6_tellTheSecret : MethodName := ⟨RX6, "tellTheSecret", "()Z"⟩
abbrev cX6_isOneCurve : ByteArray := prog_8_method_17_code
def yX6_isOneCurve : MethodName := ⟨RX6, "isOneCurve", "([II)Z"⟩
abbrev cX6_valueThrough : ByteArray := prog_8_method_18_code
def yX6_valueThrough : MethodName := ⟨RX6, "valueThrough", "([II)I"⟩
abbrev cX6_quotientsOf : ByteArray := prog_8_method_19_code
def yX6_quotientsOf : MethodName := ⟨RX6, "quotientsOf", "([III)I"⟩
def RX7 : String := "ShareVault$Output"
def TX7 : u_T := fun k => match k with
  | 0 => ("ShareVault$Output", "signs", "[C", true)
  | _ => ("ShareVault$Output", "length", "I", false)
def tyX7 : Nat → FieldType := fun k => match k with
  | 0 => .array .char
  | _ => .int
theorem nmX7 : ∀ a, a < 2 → ∀ b, b < 2 → a ≠ b → (TX7 a).2.1 ≠ (TX7 b).2.1 := by decide +kernel
theorem tyX7_ok : ∀ k, k < 2 → parseFieldDescriptor (TX7 k).2.2.1 = some (tyX7 k) := by decide +kernel
abbrev cX7_init : ByteArray := prog_9_method_1_code
def yX7_init : MethodName := ⟨RX7, "<init>", "()V"⟩
def RX8 : String := "ShareVault$Solver"
def TX8 : u_T := fun k => match k with
  | 0 => ("ShareVault$Solver", "equations", "[[I", true)
  | 1 => ("ShareVault$Solver", "polynomial", "[I", true)
  | _ => ("ShareVault$Solver", "chosen", "[I", true)
def tyX8 : Nat → FieldType := fun k => match k with
  | 0 => .array (.array .int)
  | 1 => .array .int
  | _ => .array .int
theorem nmX8 : ∀ a, a < 3 → ∀ b, b < 3 → a ≠ b → (TX8 a).2.1 ≠ (TX8 b).2.1 := by decide +kernel
theorem tyX8_ok : ∀ k, k < 3 → parseFieldDescriptor (TX8 k).2.2.1 = some (tyX8 k) := by decide +kernel
abbrev cX8_init : ByteArray := prog_10_method_1_code
def yX8_init : MethodName := ⟨RX8, "<init>", "()V"⟩
abbrev cX8_secretOf : ByteArray := prog_10_method_2_code
def yX8_secretOf : MethodName := ⟨RX8, "secretOf", "(LShareVault$Keys;)I"⟩
abbrev cX8_mostOnCurves : ByteArray := prog_10_method_3_code
def yX8_mostOnCurves : MethodName := ⟨RX8, "mostOnCurves", "(LShareVault$Keys;)I"⟩
abbrev cX8_mostInSets : ByteArray := prog_10_method_4_code
def yX8_mostInSets : MethodName := ⟨RX8, "mostInSets", "(LShareVault$Keys;)I"⟩
abbrev cX8_choose : ByteArray := prog_10_method_5_code
def yX8_choose : MethodName := ⟨RX8, "choose", "(LShareVault$Keys;I)V"⟩
abbrev cX8_countOnCurve : ByteArray := prog_10_method_6_code
def yX8_countOnCurve : MethodName := ⟨RX8, "countOnCurve", "(LShareVault$Keys;)I"⟩
abbrev cX8_fit : ByteArray := prog_10_method_7_code
def yX8_fit : MethodName := ⟨RX8, "fit", "(LShareVault$Keys;[I)V"⟩
abbrev cX8_setEquation : ByteArray := prog_10_method_8_code
def yX8_setEquation : MethodName := ⟨RX8, "setEquation", "(IIII)V"⟩
abbrev cX8_eliminate : ByteArray := prog_10_method_9_code
def yX8_eliminate : MethodName := ⟨RX8, "eliminate", "(II)V"⟩
abbrev cX8_subtract : ByteArray := prog_10_method_10_code
def yX8_subtract : MethodName := ⟨RX8, "subtract", "([I[III)V"⟩
def RX9 : String := "ShareVault$State"
def TX9 : u_T := fun k => match k with
  | 0 => ("ShareVault$State", "keys", "LShareVault$Keys;", true)
  | 1 => ("ShareVault$State", "door", "LShareVault$Door;", true)
  | 2 => ("ShareVault$State", "building", "LShareVault$Building;", true)
  | 3 => ("ShareVault$State", "journal", "LShareVault$Journal;", true)
  | _ => ("ShareVault$State", "answer", "I", false)
def tyX9 : Nat → FieldType := fun k => match k with
  | 0 => .object "ShareVault$Keys"
  | 1 => .object "ShareVault$Door"
  | 2 => .object "ShareVault$Building"
  | 3 => .object "ShareVault$Journal"
  | _ => .int
theorem nmX9 : ∀ a, a < 5 → ∀ b, b < 5 → a ≠ b → (TX9 a).2.1 ≠ (TX9 b).2.1 := by decide +kernel
theorem tyX9_ok : ∀ k, k < 5 → parseFieldDescriptor (TX9 k).2.2.1 = some (tyX9 k) := by decide +kernel
abbrev cX9_init : ByteArray := prog_11_method_1_code
def yX9_init : MethodName := ⟨RX9, "<init>", "()V"⟩
abbrev cX9_copyFrom : ByteArray := prog_11_method_2_code
def yX9_copyFrom : MethodName := ⟨RX9, "copyFrom", "(LShareVault$State;)V"⟩
abbrev cX9_detailOf : ByteArray := prog_11_method_3_code
def yX9_detailOf : MethodName := ⟨RX9, "detailOf", "(II)I"⟩
abbrev cX9_tryHolder : ByteArray := prog_11_method_4_code
def yX9_tryHolder : MethodName := ⟨RX9, "tryHolder", "()I"⟩
abbrev cX9_trySeal : ByteArray := prog_11_method_5_code
def yX9_trySeal : MethodName := ⟨RX9, "trySeal", "(IIII)I"⟩
abbrev cX9_tryShare : ByteArray := prog_11_method_6_code
def yX9_tryShare : MethodName := ⟨RX9, "tryShare", "(II)I"⟩
abbrev cX9_tryPresent : ByteArray := prog_11_method_7_code
def yX9_tryPresent : MethodName := ⟨RX9, "tryPresent", "(I)I"⟩
abbrev cX9_tryTakeBack : ByteArray := prog_11_method_8_code
def yX9_tryTakeBack : MethodName := ⟨RX9, "tryTakeBack", "(I)I"⟩
abbrev cX9_tryOpen : ByteArray := prog_11_method_9_code
def yX9_tryOpen : MethodName := ⟨RX9, "tryOpen", "()I"⟩
abbrev cX9_verdictOnAttempt : ByteArray := prog_11_method_10_code
def yX9_verdictOnAttempt : MethodName := ⟨RX9, "verdictOnAttempt", "()I"⟩
abbrev cX9_tryClose : ByteArray := prog_11_method_11_code
def yX9_tryClose : MethodName := ⟨RX9, "tryClose", "()I"⟩
abbrev cX9_tryGuard : ByteArray := prog_11_method_12_code
def yX9_tryGuard : MethodName := ⟨RX9, "tryGuard", "(IZI)I"⟩
abbrev cX9_tryTurn : ByteArray := prog_11_method_13_code
def yX9_tryTurn : MethodName := ⟨RX9, "tryTurn", "(I)I"⟩
abbrev cX9_tryHum : ByteArray := prog_11_method_14_code
def yX9_tryHum : MethodName := ⟨RX9, "tryHum", "(II)I"⟩
abbrev cX9_tryHours : ByteArray := prog_11_method_15_code
def yX9_tryHours : MethodName := ⟨RX9, "tryHours", "(I)I"⟩
abbrev cX9_enterAlarms : ByteArray := prog_11_method_16_code
def yX9_enterAlarms : MethodName := ⟨RX9, "enterAlarms", "(I)V"⟩
abbrev cX9_tryCommand : ByteArray := prog_11_method_17_code
def yX9_tryCommand : MethodName := ⟨RX9, "tryCommand", "(LShareVault$Word;[I)I"⟩
abbrev cX9_verdictOnOutcome : ByteArray := prog_11_method_18_code
def yX9_verdictOnOutcome : MethodName := ⟨RX9, "verdictOnOutcome", "(I)I"⟩
def RX10 : String := "ShareVault$Word"
def TX10 : u_T := fun k => match k with
  | _ => ("", "", "", false)
def tyX10 : Nat → FieldType := fun k => match k with
  | _ => .int
theorem nmX10 : ∀ a, a < 0 → ∀ b, b < 0 → a ≠ b → (TX10 a).2.1 ≠ (TX10 b).2.1 := by decide +kernel
theorem tyX10_ok : ∀ k, k < 0 → parseFieldDescriptor (TX10 k).2.2.1 = some (tyX10 k) := by decide +kernel
def RX11 : String := "ShareVault"
def TX11 : u_T := fun k => match k with
  | 0 => ("ShareVault", "state", "LShareVault$State;", true)
  | 1 => ("ShareVault", "history", "LShareVault$History;", true)
  | 2 => ("ShareVault", "saved", "LShareVault$State;", true)
  | 3 => ("ShareVault", "isSaved", "Z", false)
  | 4 => ("ShareVault", "forecast", "LShareVault$Building;", true)
  | 5 => ("ShareVault", "solver", "LShareVault$Solver;", true)
  | 6 => ("ShareVault", "commands", "LShareVault$Commands;", true)
  | 7 => ("ShareVault", "output", "LShareVault$Output;", true)
  | 8 => ("ShareVault", "lastReason", "I", false)
  | 9 => ("ShareVault", "lastDetail", "I", false)
  | 10 => ("ShareVault", "lastCause", "I", false)
  | _ => ("ShareVault", "lastError", "I", false)
def tyX11 : Nat → FieldType := fun k => match k with
  | 0 => .object "ShareVault$State"
  | 1 => .object "ShareVault$History"
  | 2 => .object "ShareVault$State"
  | 3 => .boolean
  | 4 => .object "ShareVault$Building"
  | 5 => .object "ShareVault$Solver"
  | 6 => .object "ShareVault$Commands"
  | 7 => .object "ShareVault$Output"
  | 8 => .int
  | 9 => .int
  | 10 => .int
  | _ => .int
theorem nmX11 : ∀ a, a < 12 → ∀ b, b < 12 → a ≠ b → (TX11 a).2.1 ≠ (TX11 b).2.1 := by decide +kernel
theorem tyX11_ok : ∀ k, k < 12 → parseFieldDescriptor (TX11 k).2.2.1 = some (tyX11 k) := by decide +kernel
abbrev cX11_init : ByteArray := prog_1_method_1_code
def yX11_init : MethodName := ⟨RX11, "<init>", "()V"⟩
abbrev cX11_addHolder : ByteArray := prog_1_method_2_code
def yX11_addHolder : MethodName := ⟨RX11, "addHolder", "()I"⟩
abbrev cX11_seal : ByteArray := prog_1_method_3_code
def yX11_seal : MethodName := ⟨RX11, "seal", "(IIII)I"⟩
abbrev cX11_setShare : ByteArray := prog_1_method_4_code
def yX11_setShare : MethodName := ⟨RX11, "setShare", "(II)I"⟩
abbrev cX11_present : ByteArray := prog_1_method_5_code
def yX11_present : MethodName := ⟨RX11, "present", "(I)I"⟩
abbrev cX11_takeBack : ByteArray := prog_1_method_6_code
def yX11_takeBack : MethodName := ⟨RX11, "takeBack", "(I)I"⟩
abbrev cX11_openVault : ByteArray := prog_1_method_7_code
def yX11_openVault : MethodName := ⟨RX11, "openVault", "()Z"⟩
abbrev cX11_closeVault : ByteArray := prog_1_method_8_code
def yX11_closeVault : MethodName := ⟨RX11, "closeVault", "()I"⟩
abbrev cX11_addGuard : ByteArray := prog_1_method_9_code
def yX11_addGuard : MethodName := ⟨RX11, "addGuard", "(IZI)I"⟩
abbrev cX11_turnGuard : ByteArray := prog_1_method_10_code
def yX11_turnGuard : MethodName := ⟨RX11, "turnGuard", "(I)Z"⟩
abbrev cX11_hum : ByteArray := prog_1_method_11_code
def yX11_hum : MethodName := ⟨RX11, "hum", "(II)I"⟩
abbrev cX11_passHours : ByteArray := prog_1_method_12_code
def yX11_passHours : MethodName := ⟨RX11, "passHours", "(I)I"⟩
abbrev cX11_hour : ByteArray := prog_1_method_13_code
def yX11_hour : MethodName := ⟨RX11, "hour", "()I"⟩
abbrev cX11_holderCount : ByteArray := prog_1_method_14_code
def yX11_holderCount : MethodName := ⟨RX11, "holderCount", "()I"⟩
abbrev cX11_isSealed : ByteArray := prog_1_method_15_code
def yX11_isSealed : MethodName := ⟨RX11, "isSealed", "()Z"⟩
abbrev cX11_threshold : ByteArray := prog_1_method_16_code
def yX11_threshold : MethodName := ⟨RX11, "threshold", "()I"⟩
abbrev cX11_share : ByteArray := prog_1_method_17_code
def yX11_share : MethodName := ⟨RX11, "share", "(I)I"⟩
abbrev cX11_isCorrect : ByteArray := prog_1_method_18_code
def yX11_isCorrect : MethodName := ⟨RX11, "isCorrect", "(I)Z"⟩
abbrev cX11_isPresented : ByteArray := prog_1_method_19_code
def yX11_isPresented : MethodName := ⟨RX11, "isPresented", "(I)Z"⟩
abbrev cX11_presentedCount : ByteArray := prog_1_method_20_code
def yX11_presentedCount : MethodName := ⟨RX11, "presentedCount", "()I"⟩
abbrev cX11_presentedAt : ByteArray := prog_1_method_21_code
def yX11_presentedAt : MethodName := ⟨RX11, "presentedAt", "(I)I"⟩
abbrev cX11_toldSecret : ByteArray := prog_1_method_22_code
def yX11_toldSecret : MethodName := ⟨RX11, "toldSecret", "()I"⟩
abbrev cX11_toldSecretByElimination : ByteArray := prog_1_method_23_code
def yX11_toldSecretByElimination : MethodName := ⟨RX11, "toldSecretByElimination", "()I"⟩
abbrev cX11_toldValue : ByteArray := prog_1_method_24_code
def yX11_toldValue : MethodName := ⟨RX11, "toldValue", "(I)I"⟩
abbrev cX11_doAgree : ByteArray := prog_1_method_25_code
def yX11_doAgree : MethodName := ⟨RX11, "doAgree", "()Z"⟩
abbrev cX11_mostAgreeing : ByteArray := prog_1_method_26_code
def yX11_mostAgreeing : MethodName := ⟨RX11, "mostAgreeing", "()I"⟩
abbrev cX11_mostAgreeingBySets : ByteArray := prog_1_method_27_code
def yX11_mostAgreeingBySets : MethodName := ⟨RX11, "mostAgreeingBySets", "()I"⟩
abbrev cX11_isOpen : ByteArray := prog_1_method_28_code
def yX11_isOpen : MethodName := ⟨RX11, "isOpen", "()Z"⟩
abbrev cX11_lockedHours : ByteArray := prog_1_method_29_code
def yX11_lockedHours : MethodName := ⟨RX11, "lockedHours", "()I"⟩
abbrev cX11_failedAttempts : ByteArray := prog_1_method_30_code
def yX11_failedAttempts : MethodName := ⟨RX11, "failedAttempts", "()I"⟩
abbrev cX11_guardCount : ByteArray := prog_1_method_31_code
def yX11_guardCount : MethodName := ⟨RX11, "guardCount", "()I"⟩
abbrev cX11_zoneOf : ByteArray := prog_1_method_32_code
def yX11_zoneOf : MethodName := ⟨RX11, "zoneOf", "(I)I"⟩
abbrev cX11_isForwards : ByteArray := prog_1_method_33_code
def yX11_isForwards : MethodName := ⟨RX11, "isForwards", "(I)Z"⟩
abbrev cX11_noise : ByteArray := prog_1_method_34_code
def yX11_noise : MethodName := ⟨RX11, "noise", "(I)I"⟩
abbrev cX11_isGuarded : ByteArray := prog_1_method_35_code
def yX11_isGuarded : MethodName := ⟨RX11, "isGuarded", "(I)Z"⟩
abbrev cX11_hoursUntilVisit : ByteArray := prog_1_method_36_code
def yX11_hoursUntilVisit : MethodName := ⟨RX11, "hoursUntilVisit", "(I)I"⟩
abbrev cX11_hoursUntilVisitByRemainders : ByteArray := prog_1_method_37_code
def yX11_hoursUntilVisitByRemainders : MethodName := ⟨RX11, "hoursUntilVisitByRemainders", "(I)I"⟩
abbrev cX11_alarmsIn : ByteArray := prog_1_method_38_code
def yX11_alarmsIn : MethodName := ⟨RX11, "alarmsIn", "(I)I"⟩
abbrev cX11_zoneByNoise : ByteArray := prog_1_method_39_code
def yX11_zoneByNoise : MethodName := ⟨RX11, "zoneByNoise", "(I)I"⟩
abbrev cX11_alarmsOf : ByteArray := prog_1_method_40_code
def yX11_alarmsOf : MethodName := ⟨RX11, "alarmsOf", "(I)I"⟩
abbrev cX11_alarmCount : ByteArray := prog_1_method_41_code
def yX11_alarmCount : MethodName := ⟨RX11, "alarmCount", "()I"⟩
abbrev cX11_openingCount : ByteArray := prog_1_method_42_code
def yX11_openingCount : MethodName := ⟨RX11, "openingCount", "()I"⟩
abbrev cX11_logCount : ByteArray := prog_1_method_43_code
def yX11_logCount : MethodName := ⟨RX11, "logCount", "()I"⟩
abbrev cX11_logHour : ByteArray := prog_1_method_44_code
def yX11_logHour : MethodName := ⟨RX11, "logHour", "(I)I"⟩
abbrev cX11_logKind : ByteArray := prog_1_method_45_code
def yX11_logKind : MethodName := ⟨RX11, "logKind", "(I)C"⟩
abbrev cX11_logDetail : ByteArray := prog_1_method_46_code
def yX11_logDetail : MethodName := ⟨RX11, "logDetail", "(I)I"⟩
abbrev cX11_meanNoise : ByteArray := prog_1_method_47_code
def yX11_meanNoise : MethodName := ⟨RX11, "meanNoise", "()D"⟩
abbrev cX11_alarmShare : ByteArray := prog_1_method_48_code
def yX11_alarmShare : MethodName := ⟨RX11, "alarmShare", "(I)F"⟩
abbrev cX11_isConsistent : ByteArray := prog_1_method_49_code
def yX11_isConsistent : MethodName := ⟨RX11, "isConsistent", "()Z"⟩
abbrev cX11_feed : ByteArray := prog_1_method_53_code
def yX11_feed : MethodName := ⟨RX11, "feed", "(C)I"⟩
abbrev cX11_runCommands : ByteArray := prog_1_method_54_code
def yX11_runCommands : MethodName := ⟨RX11, "runCommands", "()I"⟩
abbrev cX11_undoCount : ByteArray := prog_1_method_59_code
def yX11_undoCount : MethodName := ⟨RX11, "undoCount", "()I"⟩
abbrev cX11_undo : ByteArray := prog_1_method_60_code
def yX11_undo : MethodName := ⟨RX11, "undo", "()I"⟩
abbrev cX11_save : ByteArray := prog_1_method_61_code
def yX11_save : MethodName := ⟨RX11, "save", "()I"⟩
abbrev cX11_restore : ByteArray := prog_1_method_62_code
def yX11_restore : MethodName := ⟨RX11, "restore", "()I"⟩
abbrev cX11_settle : ByteArray := prog_1_method_63_code
def yX11_settle : MethodName := ⟨RX11, "settle", "(II)I"⟩
abbrev cX11_keepRefusal : ByteArray := prog_1_method_64_code
def yX11_keepRefusal : MethodName := ⟨RX11, "keepRefusal", "(III)V"⟩
abbrev cX11_requireHolder : ByteArray := prog_1_method_65_code
def yX11_requireHolder : MethodName := ⟨RX11, "requireHolder", "(I)V"⟩
abbrev cX11_requireGuard : ByteArray := prog_1_method_66_code
def yX11_requireGuard : MethodName := ⟨RX11, "requireGuard", "(I)V"⟩
abbrev cX11_requireGuards : ByteArray := prog_1_method_67_code
def yX11_requireGuards : MethodName := ⟨RX11, "requireGuards", "()V"⟩
abbrev cX11_requireZone : ByteArray := prog_1_method_68_code
def yX11_requireZone : MethodName := ⟨RX11, "requireZone", "(I)V"⟩
abbrev cX11_requireSeal : ByteArray := prog_1_method_69_code
def yX11_requireSeal : MethodName := ⟨RX11, "requireSeal", "()V"⟩
abbrev cX11_requireEnoughKeys : ByteArray := prog_1_method_70_code
def yX11_requireEnoughKeys : MethodName := ⟨RX11, "requireEnoughKeys", "()V"⟩
abbrev cX11_requireEntry : ByteArray := prog_1_method_71_code
def yX11_requireEntry : MethodName := ⟨RX11, "requireEntry", "(I)V"⟩
abbrev cX11_visitByHours : ByteArray := prog_1_method_73_code
def yX11_visitByHours : MethodName := ⟨RX11, "visitByHours", "(I)I"⟩
abbrev cX11_doVisitsMatch : ByteArray := prog_1_method_74_code
def yX11_doVisitsMatch : MethodName := ⟨RX11, "doVisitsMatch", "()Z"⟩
abbrev cX11_doTellingsMatch : ByteArray := prog_1_method_75_code
def yX11_doTellingsMatch : MethodName := ⟨RX11, "doTellingsMatch", "()Z"⟩
def RX12 : String := "ShareVaultModel"
def TX12 : u_T := fun k => match k with
  | _ => ("", "", "", false)
def tyX12 : Nat → FieldType := fun k => match k with
  | _ => .int
theorem nmX12 : ∀ a, a < 0 → ∀ b, b < 0 → a ≠ b → (TX12 a).2.1 ≠ (TX12 b).2.1 := by decide +kernel
theorem tyX12_ok : ∀ k, k < 0 → parseFieldDescriptor (TX12 k).2.2.1 = some (tyX12 k) := by decide +kernel
def RJx145de : String := "java/io/Serializable"
def TJx145de : u_T := fun k => match k with
  | _ => ("", "", "", false)
def tyJx145de : Nat → FieldType := fun k => match k with
  | _ => .int
theorem nmJx145de : ∀ a, a < 0 → ∀ b, b < 0 → a ≠ b → (TJx145de a).2.1 ≠ (TJx145de b).2.1 := by decide +kernel
theorem tyJx145de_ok : ∀ k, k < 0 → parseFieldDescriptor (TJx145de k).2.2.1 = some (tyJx145de k) := by decide +kernel
def RJ5 : String := "java/lang/AbstractStringBuilder"
def TJ5 : u_T := fun k => match k with
  | _ => ("", "", "", false)
def tyJ5 : Nat → FieldType := fun k => match k with
  | _ => .int
theorem nmJ5 : ∀ a, a < 0 → ∀ b, b < 0 → a ≠ b → (TJ5 a).2.1 ≠ (TJ5 b).2.1 := by decide +kernel
theorem tyJ5_ok : ∀ k, k < 0 → parseFieldDescriptor (TJ5 k).2.2.1 = some (tyJ5 k) := by decide +kernel
abbrev cJ5_init_d00df : ByteArray := prog_16_method_2_code
def yJ5_init_d00df : MethodName := ⟨RJ5, "<init>", "(I)V"⟩
abbrev cJ5_length_8abf5 : ByteArray := prog_16_method_6_code
def yJ5_length_8abf5 : MethodName := ⟨RJ5, "length", "()I"⟩
abbrev cJ5_ensureCapacityInternal_d00df : ByteArray := prog_16_method_9_code
def yJ5_ensureCapacityInternal_d00df : MethodName := ⟨RJ5, "ensureCapacityInternal", "(I)V"⟩
abbrev cJ5_newCapacity_0f7a4 : ByteArray := prog_16_method_10_code
def yJ5_newCapacity_0f7a4 : MethodName := ⟨RJ5, "newCapacity", "(I)I"⟩
abbrev cJ5_inflate_da8c8 : ByteArray := prog_16_method_11_code
def yJ5_inflate_da8c8 : MethodName := ⟨RJ5, "inflate", "()V"⟩
abbrev cJ5_append_cf1ce : ByteArray := prog_16_method_22_code
def yJ5_append_cf1ce : MethodName := ⟨RJ5, "append", "(Ljava/lang/String;)Ljava/lang/AbstractStringBuilder;"⟩
abbrev cJ5_appendNull_278bc : ByteArray := prog_16_method_26_code
def yJ5_appendNull_278bc : MethodName := ⟨RJ5, "appendNull", "()Ljava/lang/AbstractStringBuilder;"⟩
abbrev cJ5_append_c97b9 : ByteArray := prog_16_method_32_code
def yJ5_append_c97b9 : MethodName := ⟨RJ5, "append", "(I)Ljava/lang/AbstractStringBuilder;"⟩
abbrev cJ5_getValue_6d5f1 : ByteArray := prog_16_method_64_code
def yJ5_getValue_6d5f1 : MethodName := ⟨RJ5, "getValue", "()[B"⟩
abbrev cJ5_isLatin1_aae02 : ByteArray := prog_16_method_68_code
def yJ5_isLatin1_aae02 : MethodName := ⟨RJ5, "isLatin1", "()Z"⟩
abbrev cJ5_inflateIfNeededFor_a7421 : ByteArray := prog_16_method_71_code
def yJ5_inflateIfNeededFor_a7421 : MethodName := ⟨RJ5, "inflateIfNeededFor", "(Ljava/lang/String;)V"⟩
abbrev cJ5_putStringAt_47b60 : ByteArray := prog_16_method_73_code
def yJ5_putStringAt_47b60 : MethodName := ⟨RJ5, "putStringAt", "(ILjava/lang/String;)V"⟩
def RJx2cfe8 : String := "java/lang/Appendable"
def TJx2cfe8 : u_T := fun k => match k with
  | _ => ("", "", "", false)
def tyJx2cfe8 : Nat → FieldType := fun k => match k with
  | _ => .int
theorem nmJx2cfe8 : ∀ a, a < 0 → ∀ b, b < 0 → a ≠ b → (TJx2cfe8 a).2.1 ≠ (TJx2cfe8 b).2.1 := by decide +kernel
theorem tyJx2cfe8_ok : ∀ k, k < 0 → parseFieldDescriptor (TJx2cfe8 k).2.2.1 = some (tyJx2cfe8 k) := by decide +kernel
def RJx00060 : String := "java/lang/ArrayIndexOutOfBoundsException"
def TJx00060 : u_T := fun k => match k with
  | 0 => ("java/lang/Throwable", "backtrace", "Ljava/lang/Object;", false)
  | 1 => ("java/lang/Throwable", "detailMessage", "Ljava/lang/String;", false)
  | 2 => ("java/lang/Throwable", "cause", "Ljava/lang/Throwable;", false)
  | 3 => ("java/lang/Throwable", "stackTrace", "[Ljava/lang/StackTraceElement;", false)
  | 4 => ("java/lang/Throwable", "depth", "I", false)
  | _ => ("java/lang/Throwable", "suppressedExceptions", "Ljava/util/List;", false)
def tyJx00060 : Nat → FieldType := fun k => match k with
  | 0 => .object "java/lang/Object"
  | 1 => .object "java/lang/String"
  | 2 => .object "java/lang/Throwable"
  | 3 => .array (.object "java/lang/StackTraceElement")
  | 4 => .int
  | _ => .object "java/util/List"
theorem nmJx00060 : ∀ a, a < 6 → ∀ b, b < 6 → a ≠ b → (TJx00060 a).2.1 ≠ (TJx00060 b).2.1 := by decide +kernel
theorem tyJx00060_ok : ∀ k, k < 6 → parseFieldDescriptor (TJx00060 k).2.2.1 = some (tyJx00060 k) := by decide +kernel
abbrev cJx00060_init_a7421 : ByteArray := prog_19_method_2_code
def yJx00060_init_a7421 : MethodName := ⟨RJx00060, "<init>", "(Ljava/lang/String;)V"⟩
def RJx9f9b0 : String := "java/lang/CharSequence"
def TJx9f9b0 : u_T := fun k => match k with
  | _ => ("", "", "", false)
def tyJx9f9b0 : Nat → FieldType := fun k => match k with
  | _ => .int
theorem nmJx9f9b0 : ∀ a, a < 0 → ∀ b, b < 0 → a ≠ b → (TJx9f9b0 a).2.1 ≠ (TJx9f9b0 b).2.1 := by decide +kernel
theorem tyJx9f9b0_ok : ∀ k, k < 0 → parseFieldDescriptor (TJx9f9b0 k).2.2.1 = some (tyJx9f9b0 k) := by decide +kernel
def RJx8e188 : String := "java/lang/Cloneable"
def TJx8e188 : u_T := fun k => match k with
  | _ => ("", "", "", false)
def tyJx8e188 : Nat → FieldType := fun k => match k with
  | _ => .int
theorem nmJx8e188 : ∀ a, a < 0 → ∀ b, b < 0 → a ≠ b → (TJx8e188 a).2.1 ≠ (TJx8e188 b).2.1 := by decide +kernel
theorem tyJx8e188_ok : ∀ k, k < 0 → parseFieldDescriptor (TJx8e188 k).2.2.1 = some (tyJx8e188 k) := by decide +kernel
def RJxb160c : String := "java/lang/Comparable"
def TJxb160c : u_T := fun k => match k with
  | _ => ("", "", "", false)
def tyJxb160c : Nat → FieldType := fun k => match k with
  | _ => .int
theorem nmJxb160c : ∀ a, a < 0 → ∀ b, b < 0 → a ≠ b → (TJxb160c a).2.1 ≠ (TJxb160c b).2.1 := by decide +kernel
theorem tyJxb160c_ok : ∀ k, k < 0 → parseFieldDescriptor (TJxb160c k).2.2.1 = some (tyJxb160c k) := by decide +kernel
def RJx29ce0 : String := "java/lang/Enum"
def TJx29ce0 : u_T := fun k => match k with
  | _ => ("", "", "", false)
def tyJx29ce0 : Nat → FieldType := fun k => match k with
  | _ => .int
theorem nmJx29ce0 : ∀ a, a < 0 → ∀ b, b < 0 → a ≠ b → (TJx29ce0 a).2.1 ≠ (TJx29ce0 b).2.1 := by decide +kernel
theorem tyJx29ce0_ok : ∀ k, k < 0 → parseFieldDescriptor (TJx29ce0 k).2.2.1 = some (tyJx29ce0 k) := by decide +kernel
abbrev cJx29ce0_ordinal_8abf5 : ByteArray := prog_23_method_2_code
def yJx29ce0_ordinal_8abf5 : MethodName := ⟨RJx29ce0, "ordinal", "()I"⟩
def RJ6 : String := "java/lang/Integer"
def TJ6 : u_T := fun k => match k with
  | _ => ("", "", "", false)
def tyJ6 : Nat → FieldType := fun k => match k with
  | _ => .int
theorem nmJ6 : ∀ a, a < 0 → ∀ b, b < 0 → a ≠ b → (TJ6 a).2.1 ≠ (TJ6 b).2.1 := by decide +kernel
theorem tyJ6_ok : ∀ k, k < 0 → parseFieldDescriptor (TJ6 k).2.2.1 = some (tyJ6 k) := by decide +kernel
abbrev cJ6_getChars_ba4f3 : ByteArray := prog_28_method_12_code
def yJ6_getChars_ba4f3 : MethodName := ⟨RJ6, "getChars", "(II[B)I"⟩
abbrev cJ6_stringSize_0f7a4 : ByteArray := prog_28_method_13_code
def yJ6_stringSize_0f7a4 : MethodName := ⟨RJ6, "stringSize", "(I)I"⟩
abbrev cJ6_bitCount_0f7a4 : ByteArray := prog_28_method_49_code
def yJ6_bitCount_0f7a4 : MethodName := ⟨RJ6, "bitCount", "(I)I"⟩
def RJ9 : String := "java/lang/Math"
def TJ9 : u_T := fun k => match k with
  | _ => ("", "", "", false)
def tyJ9 : Nat → FieldType := fun k => match k with
  | _ => .int
theorem nmJ9 : ∀ a, a < 0 → ∀ b, b < 0 → a ≠ b → (TJ9 a).2.1 ≠ (TJ9 b).2.1 := by decide +kernel
theorem tyJ9_ok : ∀ k, k < 0 → parseFieldDescriptor (TJ9 k).2.2.1 = some (tyJ9 k) := by decide +kernel
abbrev cJ9_floorMod_7cf53 : ByteArray := prog_29_method_50_code
def yJ9_floorMod_7cf53 : MethodName := ⟨RJ9, "floorMod", "(II)I"⟩
abbrev cJ9_max_7cf53 : ByteArray := prog_29_method_65_code
def yJ9_max_7cf53 : MethodName := ⟨RJ9, "max", "(II)I"⟩
abbrev cJ9_min_7cf53 : ByteArray := prog_29_method_69_code
def yJ9_min_7cf53 : MethodName := ⟨RJ9, "min", "(II)I"⟩
def RJxd2413 : String := "java/lang/Number"
def TJxd2413 : u_T := fun k => match k with
  | _ => ("", "", "", false)
def tyJxd2413 : Nat → FieldType := fun k => match k with
  | _ => .int
theorem nmJxd2413 : ∀ a, a < 0 → ∀ b, b < 0 → a ≠ b → (TJxd2413 a).2.1 ≠ (TJxd2413 b).2.1 := by decide +kernel
theorem tyJxd2413_ok : ∀ k, k < 0 → parseFieldDescriptor (TJxd2413 k).2.2.1 = some (tyJxd2413 k) := by decide +kernel
def RJ0 : String := "java/lang/String"
def TJ0 : u_T := fun k => match k with
  | 0 => ("java/lang/String", "value", "[B", true)
  | 1 => ("java/lang/String", "coder", "B", true)
  | 2 => ("java/lang/String", "hash", "I", false)
  | _ => ("java/lang/String", "hashIsZero", "Z", false)
def tyJ0 : Nat → FieldType := fun k => match k with
  | 0 => .array .byte
  | 1 => .byte
  | 2 => .int
  | _ => .boolean
theorem nmJ0 : ∀ a, a < 4 → ∀ b, b < 4 → a ≠ b → (TJ0 a).2.1 ≠ (TJ0 b).2.1 := by decide +kernel
theorem tyJ0_ok : ∀ k, k < 4 → parseFieldDescriptor (TJ0 k).2.2.1 = some (tyJ0 k) := by decide +kernel
abbrev cJ0_init_81219 : ByteArray := prog_32_method_53_code
def yJ0_init_81219 : MethodName := ⟨RJ0, "<init>", "(Ljava/lang/StringBuilder;)V"⟩
abbrev cJ0_length_8abf5 : ByteArray := prog_32_method_54_code
def yJ0_length_8abf5 : MethodName := ⟨RJ0, "length", "()I"⟩
abbrev cJ0_charAt_5068e : ByteArray := prog_32_method_56_code
def yJ0_charAt_5068e : MethodName := ⟨RJ0, "charAt", "(I)C"⟩
abbrev cJ0_getBytes_840e7 : ByteArray := prog_32_method_147_code
def yJ0_getBytes_840e7 : MethodName := ⟨RJ0, "getBytes", "([BIB)V"⟩
abbrev cJ0_init_db425 : ByteArray := prog_32_method_150_code
def yJ0_init_db425 : MethodName := ⟨RJ0, "<init>", "(Ljava/lang/AbstractStringBuilder;Ljava/lang/Void;)V"⟩
abbrev cJ0_coder_7d493 : ByteArray := prog_32_method_152_code
def yJ0_coder_7d493 : MethodName := ⟨RJ0, "coder", "()B"⟩
abbrev cJ0_isLatin1_aae02 : ByteArray := prog_32_method_154_code
def yJ0_isLatin1_aae02 : MethodName := ⟨RJ0, "isLatin1", "()Z"⟩
abbrev cJ0_checkIndex_df160 : ByteArray := prog_32_method_155_code
def yJ0_checkIndex_df160 : MethodName := ⟨RJ0, "checkIndex", "(II)V"⟩
abbrev cJ0_checkBoundsOffCount_cabcc : ByteArray := prog_32_method_157_code
def yJ0_checkBoundsOffCount_cabcc : MethodName := ⟨RJ0, "checkBoundsOffCount", "(III)I"⟩
abbrev cJ0_checkBoundsBeginEnd_23922 : ByteArray := prog_32_method_158_code
def yJ0_checkBoundsBeginEnd_23922 : MethodName := ⟨RJ0, "checkBoundsBeginEnd", "(III)V"⟩
def RJ4 : String := "java/lang/StringBuilder"
def TJ4 : u_T := fun k => match k with
  | 0 => ("java/lang/AbstractStringBuilder", "value", "[B", false)
  | 1 => ("java/lang/AbstractStringBuilder", "coder", "B", false)
  | 2 => ("java/lang/AbstractStringBuilder", "maybeLatin1", "Z", false)
  | _ => ("java/lang/AbstractStringBuilder", "count", "I", false)
def tyJ4 : Nat → FieldType := fun k => match k with
  | 0 => .array .byte
  | 1 => .byte
  | 2 => .boolean
  | _ => .int
theorem nmJ4 : ∀ a, a < 4 → ∀ b, b < 4 → a ≠ b → (TJ4 a).2.1 ≠ (TJ4 b).2.1 := by decide +kernel
theorem tyJ4_ok : ∀ k, k < 4 → parseFieldDescriptor (TJ4 k).2.2.1 = some (tyJ4 k) := by decide +kernel
abbrev cJ4_init_da8c8 : ByteArray := prog_33_method_1_code
def yJ4_init_da8c8 : MethodName := ⟨RJ4, "<init>", "()V"⟩
abbrev cJ4_append_15ec4 : ByteArray := prog_33_method_7_code
def yJ4_append_15ec4 : MethodName := ⟨RJ4, "append", "(Ljava/lang/String;)Ljava/lang/StringBuilder;"⟩
abbrev cJ4_append_bf812 : ByteArray := prog_33_method_15_code
def yJ4_append_bf812 : MethodName := ⟨RJ4, "append", "(I)Ljava/lang/StringBuilder;"⟩
abbrev cJ4_toString_0e30d : ByteArray := prog_33_method_42_code
def yJ4_toString_0e30d : MethodName := ⟨RJ4, "toString", "()Ljava/lang/String;"⟩
abbrev cJ4_length_8abf5 : ByteArray := prog_33_method_93_code
def yJ4_length_8abf5 : MethodName := ⟨RJ4, "length", "()I"⟩
def RJ1 : String := "java/lang/StringLatin1"
def TJ1 : u_T := fun k => match k with
  | _ => ("", "", "", false)
def tyJ1 : Nat → FieldType := fun k => match k with
  | _ => .int
theorem nmJ1 : ∀ a, a < 0 → ∀ b, b < 0 → a ≠ b → (TJ1 a).2.1 ≠ (TJ1 b).2.1 := by decide +kernel
theorem tyJ1_ok : ∀ k, k < 0 → parseFieldDescriptor (TJ1 k).2.2.1 = some (tyJ1 k) := by decide +kernel
abbrev cJ1_charAt_3b067 : ByteArray := prog_34_method_2_code
def yJ1_charAt_3b067 : MethodName := ⟨RJ1, "charAt", "([BI)C"⟩
abbrev cJ1_inflate_0e8fd : ByteArray := prog_34_method_50_code
def yJ1_inflate_0e8fd : MethodName := ⟨RJ1, "inflate", "([BI[BII)V"⟩
def RJ2 : String := "java/lang/StringUTF16"
def TJ2 : u_T := fun k => match k with
  | _ => ("", "", "", false)
def tyJ2 : Nat → FieldType := fun k => match k with
  | _ => .int
theorem nmJ2 : ∀ a, a < 0 → ∀ b, b < 0 → a ≠ b → (TJ2 a).2.1 ≠ (TJ2 b).2.1 := by decide +kernel
theorem tyJ2_ok : ∀ k, k < 0 → parseFieldDescriptor (TJ2 k).2.2.1 = some (tyJ2 k) := by decide +kernel
abbrev cJ2_newBytesFor_77867 : ByteArray := prog_35_method_2_code
def yJ2_newBytesFor_77867 : MethodName := ⟨RJ2, "newBytesFor", "(I)[B"⟩
abbrev cJ2_newBytesLength_0f7a4 : ByteArray := prog_35_method_3_code
def yJ2_newBytesLength_0f7a4 : MethodName := ⟨RJ2, "newBytesLength", "(I)I"⟩
abbrev cJ2_putChar_b72d1 : ByteArray := prog_35_method_4_code
def yJ2_putChar_b72d1 : MethodName := ⟨RJ2, "putChar", "([BII)V"⟩
abbrev cJ2_getChar_3b067 : ByteArray := prog_35_method_5_code
def yJ2_getChar_3b067 : MethodName := ⟨RJ2, "getChar", "([BI)C"⟩
abbrev cJ2_length_9d52b : ByteArray := prog_35_method_6_code
def yJ2_length_9d52b : MethodName := ⟨RJ2, "length", "([B)I"⟩
abbrev cJ2_coderFromArrayLen_85cad : ByteArray := prog_35_method_15_code
def yJ2_coderFromArrayLen_85cad : MethodName := ⟨RJ2, "coderFromArrayLen", "([BI)B"⟩
abbrev cJ2_compress_39247 : ByteArray := prog_35_method_17_code
def yJ2_compress_39247 : MethodName := ⟨RJ2, "compress", "([BII)[B"⟩
abbrev cJ2_compress_5af95 : ByteArray := prog_35_method_22_code
def yJ2_compress_5af95 : MethodName := ⟨RJ2, "compress", "([BI[BII)I"⟩
abbrev cJ2_getChars_46870 : ByteArray := prog_35_method_77_code
def yJ2_getChars_46870 : MethodName := ⟨RJ2, "getChars", "(III[B)I"⟩
abbrev cJ2_putCharsAt_cd4e5 : ByteArray := prog_35_method_81_code
def yJ2_putCharsAt_cd4e5 : MethodName := ⟨RJ2, "putCharsAt", "([BICCCC)I"⟩
abbrev cJ2_charAt_3b067 : ByteArray := prog_35_method_83_code
def yJ2_charAt_3b067 : MethodName := ⟨RJ2, "charAt", "([BI)C"⟩
abbrev cJ2_inflate_0e8fd : ByteArray := prog_35_method_86_code
def yJ2_inflate_0e8fd : MethodName := ⟨RJ2, "inflate", "([BI[BII)V"⟩
abbrev cJ2_getChars_ba4f3 : ByteArray := prog_35_method_89_code
def yJ2_getChars_ba4f3 : MethodName := ⟨RJ2, "getChars", "(II[B)I"⟩
abbrev cJ2_checkIndex_2214a : ByteArray := prog_35_method_91_code
def yJ2_checkIndex_2214a : MethodName := ⟨RJ2, "checkIndex", "(I[B)V"⟩
abbrev cJ2_checkBoundsBeginEnd_d044e : ByteArray := prog_35_method_93_code
def yJ2_checkBoundsBeginEnd_d044e : MethodName := ⟨RJ2, "checkBoundsBeginEnd", "(II[B)V"⟩
abbrev cJ2_checkBoundsOffCount_d044e : ByteArray := prog_35_method_94_code
def yJ2_checkBoundsOffCount_d044e : MethodName := ⟨RJ2, "checkBoundsOffCount", "(II[B)V"⟩
def RJ10 : String := "java/lang/System"
def TJ10 : u_T := fun k => match k with
  | _ => ("", "", "", false)
def tyJ10 : Nat → FieldType := fun k => match k with
  | _ => .int
theorem nmJ10 : ∀ a, a < 0 → ∀ b, b < 0 → a ≠ b → (TJ10 a).2.1 ≠ (TJ10 b).2.1 := by decide +kernel
theorem tyJ10_ok : ∀ k, k < 0 → parseFieldDescriptor (TJ10 k).2.2.1 = some (tyJ10 k) := by decide +kernel
def RJxfd54e : String := "java/lang/constant/Constable"
def TJxfd54e : u_T := fun k => match k with
  | _ => ("", "", "", false)
def tyJxfd54e : Nat → FieldType := fun k => match k with
  | _ => .int
theorem nmJxfd54e : ∀ a, a < 0 → ∀ b, b < 0 → a ≠ b → (TJxfd54e a).2.1 ≠ (TJxfd54e b).2.1 := by decide +kernel
theorem tyJxfd54e_ok : ∀ k, k < 0 → parseFieldDescriptor (TJxfd54e k).2.2.1 = some (tyJxfd54e k) := by decide +kernel
def RJx3cf43 : String := "java/lang/constant/ConstantDesc"
def TJx3cf43 : u_T := fun k => match k with
  | _ => ("", "", "", false)
def tyJx3cf43 : Nat → FieldType := fun k => match k with
  | _ => .int
theorem nmJx3cf43 : ∀ a, a < 0 → ∀ b, b < 0 → a ≠ b → (TJx3cf43 a).2.1 ≠ (TJx3cf43 b).2.1 := by decide +kernel
theorem tyJx3cf43_ok : ∀ k, k < 0 → parseFieldDescriptor (TJx3cf43 k).2.2.1 = some (tyJx3cf43 k) := by decide +kernel
def RJ7 : String := "java/util/Arrays"
def TJ7 : u_T := fun k => match k with
  | _ => ("", "", "", false)
def tyJ7 : Nat → FieldType := fun k => match k with
  | _ => .int
theorem nmJ7 : ∀ a, a < 0 → ∀ b, b < 0 → a ≠ b → (TJ7 a).2.1 ≠ (TJ7 b).2.1 := by decide +kernel
theorem tyJ7_ok : ∀ k, k < 0 → parseFieldDescriptor (TJ7 k).2.2.1 = some (tyJ7 k) := by decide +kernel
abbrev cJ7_copyOf_9075b : ByteArray := prog_41_method_121_code
def yJ7_copyOf_9075b : MethodName := ⟨RJ7, "copyOf", "([BI)[B"⟩
abbrev cJ7_checkLength_df160 : ByteArray := prog_41_method_131_code
def yJ7_checkLength_df160 : MethodName := ⟨RJ7, "checkLength", "(II)V"⟩
abbrev cJ7_copyOfRange_39247 : ByteArray := prog_41_method_132_code
def yJ7_copyOfRange_39247 : MethodName := ⟨RJ7, "copyOfRange", "([BII)[B"⟩
abbrev cJ7_copyOfRangeByte_39247 : ByteArray := prog_41_method_133_code
def yJ7_copyOfRangeByte_39247 : MethodName := ⟨RJ7, "copyOfRangeByte", "([BII)[B"⟩
def RJ8 : String := "jdk/internal/util/ArraysSupport"
def TJ8 : u_T := fun k => match k with
  | _ => ("", "", "", false)
def tyJ8 : Nat → FieldType := fun k => match k with
  | _ => .int
theorem nmJ8 : ∀ a, a < 0 → ∀ b, b < 0 → a ≠ b → (TJ8 a).2.1 ≠ (TJ8 b).2.1 := by decide +kernel
theorem tyJ8_ok : ∀ k, k < 0 → parseFieldDescriptor (TJ8 k).2.2.1 = some (tyJ8 k) := by decide +kernel
abbrev cJ8_newLength_cabcc : ByteArray := prog_43_method_27_code
def yJ8_newLength_cabcc : MethodName := ⟨RJ8, "newLength", "(III)I"⟩
abbrev cJ8_hugeLength_7cf53 : ByteArray := prog_43_method_28_code
def yJ8_hugeLength_7cf53 : MethodName := ⟨RJ8, "hugeLength", "(II)I"⟩
def RJ3 : String := "jdk/internal/util/Preconditions"
def TJ3 : u_T := fun k => match k with
  | _ => ("", "", "", false)
def tyJ3 : Nat → FieldType := fun k => match k with
  | _ => .int
theorem nmJ3 : ∀ a, a < 0 → ∀ b, b < 0 → a ≠ b → (TJ3 a).2.1 ≠ (TJ3 b).2.1 := by decide +kernel
theorem tyJ3_ok : ∀ k, k < 0 → parseFieldDescriptor (TJ3 k).2.2.1 = some (tyJ3 k) := by decide +kernel
abbrev cJ3_checkIndex_8e157 : ByteArray := prog_44_method_11_code
def yJ3_checkIndex_8e157 : MethodName := ⟨RJ3, "checkIndex", "(IILjava/util/function/BiFunction;)I"⟩
abbrev cJ3_checkFromToIndex_8c36e : ByteArray := prog_44_method_12_code
def yJ3_checkFromToIndex_8c36e : MethodName := ⟨RJ3, "checkFromToIndex", "(IIILjava/util/function/BiFunction;)I"⟩
abbrev cJ3_checkFromIndexSize_8c36e : ByteArray := prog_44_method_13_code
def yJ3_checkFromIndexSize_8c36e : MethodName := ⟨RJ3, "checkFromIndexSize", "(IIILjava/util/function/BiFunction;)I"⟩
def RL : String := "ShareVaultLaw"
abbrev cL_cell : ByteArray := method_2_code
def yL_cell : MethodName := ⟨RL, "cell", "([II)I"⟩
abbrev cL_pick : ByteArray := method_3_code
def yL_pick : MethodName := ⟨RL, "pick", "([III)I"⟩
abbrev cL_addHolder : ByteArray := method_4_code
def yL_addHolder : MethodName := ⟨RL, "addHolder", "(LShareVault;)I"⟩
abbrev cL_seal : ByteArray := method_5_code
def yL_seal : MethodName := ⟨RL, "seal", "(LShareVault;IIII)I"⟩
abbrev cL_setShare : ByteArray := method_6_code
def yL_setShare : MethodName := ⟨RL, "setShare", "(LShareVault;II)I"⟩
abbrev cL_present : ByteArray := method_7_code
def yL_present : MethodName := ⟨RL, "present", "(LShareVault;I)I"⟩
abbrev cL_takeBack : ByteArray := method_8_code
def yL_takeBack : MethodName := ⟨RL, "takeBack", "(LShareVault;I)I"⟩
abbrev cL_openVault : ByteArray := method_9_code
def yL_openVault : MethodName := ⟨RL, "openVault", "(LShareVault;)I"⟩
abbrev cL_closeVault : ByteArray := method_10_code
def yL_closeVault : MethodName := ⟨RL, "closeVault", "(LShareVault;)I"⟩
abbrev cL_addGuard : ByteArray := method_11_code
def yL_addGuard : MethodName := ⟨RL, "addGuard", "(LShareVault;IZI)I"⟩
abbrev cL_turnGuard : ByteArray := method_12_code
def yL_turnGuard : MethodName := ⟨RL, "turnGuard", "(LShareVault;I)I"⟩
abbrev cL_hum : ByteArray := method_13_code
def yL_hum : MethodName := ⟨RL, "hum", "(LShareVault;II)I"⟩
abbrev cL_passHours : ByteArray := method_14_code
def yL_passHours : MethodName := ⟨RL, "passHours", "(LShareVault;I)I"⟩
abbrev cL_threshold : ByteArray := method_15_code
def yL_threshold : MethodName := ⟨RL, "threshold", "(LShareVault;)I"⟩
abbrev cL_share : ByteArray := method_16_code
def yL_share : MethodName := ⟨RL, "share", "(LShareVault;I)I"⟩
abbrev cL_isCorrect : ByteArray := method_17_code
def yL_isCorrect : MethodName := ⟨RL, "isCorrect", "(LShareVault;I)I"⟩
abbrev cL_isPresented : ByteArray := method_18_code
def yL_isPresented : MethodName := ⟨RL, "isPresented", "(LShareVault;I)I"⟩
abbrev cL_presentedAt : ByteArray := method_19_code
def yL_presentedAt : MethodName := ⟨RL, "presentedAt", "(LShareVault;I)I"⟩
abbrev cL_toldSecret : ByteArray := method_20_code
def yL_toldSecret : MethodName := ⟨RL, "toldSecret", "(LShareVault;)I"⟩
abbrev cL_toldSecretByElimination : ByteArray := method_21_code
def yL_toldSecretByElimination : MethodName := ⟨RL, "toldSecretByElimination", "(LShareVault;)I"⟩
abbrev cL_toldValue : ByteArray := method_22_code
def yL_toldValue : MethodName := ⟨RL, "toldValue", "(LShareVault;I)I"⟩
abbrev cL_doAgree : ByteArray := method_23_code
def yL_doAgree : MethodName := ⟨RL, "doAgree", "(LShareVault;)I"⟩
abbrev cL_mostAgreeing : ByteArray := method_24_code
def yL_mostAgreeing : MethodName := ⟨RL, "mostAgreeing", "(LShareVault;)I"⟩
abbrev cL_mostAgreeingBySets : ByteArray := method_25_code
def yL_mostAgreeingBySets : MethodName := ⟨RL, "mostAgreeingBySets", "(LShareVault;)I"⟩
abbrev cL_zoneOf : ByteArray := method_26_code
def yL_zoneOf : MethodName := ⟨RL, "zoneOf", "(LShareVault;I)I"⟩
abbrev cL_isForwards : ByteArray := method_27_code
def yL_isForwards : MethodName := ⟨RL, "isForwards", "(LShareVault;I)I"⟩
abbrev cL_noise : ByteArray := method_28_code
def yL_noise : MethodName := ⟨RL, "noise", "(LShareVault;I)I"⟩
abbrev cL_isGuarded : ByteArray := method_29_code
def yL_isGuarded : MethodName := ⟨RL, "isGuarded", "(LShareVault;I)I"⟩
abbrev cL_hoursUntilVisit : ByteArray := method_30_code
def yL_hoursUntilVisit : MethodName := ⟨RL, "hoursUntilVisit", "(LShareVault;I)I"⟩
abbrev cL_hoursUntilVisitByRemainders : ByteArray := method_31_code
def yL_hoursUntilVisitByRemainders : MethodName := ⟨RL, "hoursUntilVisitByRemainders", "(LShareVault;I)I"⟩
abbrev cL_alarmsIn : ByteArray := method_32_code
def yL_alarmsIn : MethodName := ⟨RL, "alarmsIn", "(LShareVault;I)I"⟩
abbrev cL_zoneByNoise : ByteArray := method_33_code
def yL_zoneByNoise : MethodName := ⟨RL, "zoneByNoise", "(LShareVault;I)I"⟩
abbrev cL_alarmsOf : ByteArray := method_34_code
def yL_alarmsOf : MethodName := ⟨RL, "alarmsOf", "(LShareVault;I)I"⟩
abbrev cL_logHour : ByteArray := method_35_code
def yL_logHour : MethodName := ⟨RL, "logHour", "(LShareVault;I)I"⟩
abbrev cL_logKind : ByteArray := method_36_code
def yL_logKind : MethodName := ⟨RL, "logKind", "(LShareVault;I)I"⟩
abbrev cL_logDetail : ByteArray := method_37_code
def yL_logDetail : MethodName := ⟨RL, "logDetail", "(LShareVault;I)I"⟩
abbrev cL_alarmShare : ByteArray := method_38_code
def yL_alarmShare : MethodName := ⟨RL, "alarmShare", "(LShareVault;I)F"⟩
abbrev cL_feed : ByteArray := method_42_code
def yL_feed : MethodName := ⟨RL, "feed", "(LShareVault;C)I"⟩
abbrev cL_runCommands : ByteArray := method_43_code
def yL_runCommands : MethodName := ⟨RL, "runCommands", "(LShareVault;)I"⟩
abbrev cL_undo : ByteArray := method_46_code
def yL_undo : MethodName := ⟨RL, "undo", "(LShareVault;)I"⟩
abbrev cL_restore : ByteArray := method_47_code
def yL_restore : MethodName := ⟨RL, "restore", "(LShareVault;)I"⟩
abbrev cL_runs : ByteArray := method_48_code
def yL_runs : MethodName := ⟨RL, "runs", "(LShareVault;Ljava/lang/String;)I"⟩
abbrev cL_law : ByteArray := code
def yL_law : MethodName := ⟨RL, "law", "([I)Z"⟩
abbrev cL_visit : ByteArray := method_52_code
def yL_visit : MethodName := ⟨RL, "visit", "(LShareVault;I)Z"⟩
abbrev cL_areCorrect : ByteArray := method_53_code
def yL_areCorrect : MethodName := ⟨RL, "areCorrect", "(LShareVault;)Z"⟩
abbrev cL_does : ByteArray := method_54_code
def yL_does : MethodName := ⟨RL, "does", "([IIILShareVault;II)I"⟩
abbrev cL_sum : ByteArray := method_55_code
def yL_sum : MethodName := ⟨RL, "sum", "(LShareVault;)J"⟩
abbrev cL_areKeys : ByteArray := method_56_code
def yL_areKeys : MethodName := ⟨RL, "areKeys", "(LShareVault;II)Z"⟩
abbrev cL_areZones : ByteArray := method_57_code
def yL_areZones : MethodName := ⟨RL, "areZones", "(LShareVault;)Z"⟩
abbrev cL_isWhole : ByteArray := method_58_code
def yL_isWhole : MethodName := ⟨RL, "isWhole", "(LShareVault;[IIIZ)Z"⟩
abbrev cL_isKept : ByteArray := method_59_code
def yL_isKept : MethodName := ⟨RL, "isKept", "(LShareVault;[JI)Z"⟩
abbrev vwCl : List vw_C := [(RJ0, TJ0, 4), (RJ4, TJ4, 4), (RJx00060, TJx00060, 6), (RX1, TX1, 8), (RX2, TX2, 7), (RX3, TX3, 4), (RX4, TX4, 3), (RX5, TX5, 4), (RX6, TX6, 7), (RX7, TX7, 2), (RX8, TX8, 3), (RX9, TX9, 5), (RX11, TX11, 12)]
