/-! names, fields, types, bodies: out of the claim's printed names -/
def RX0 : String := "BeltRounds$Field"
def TX0 : u_T := fun k => match k with
  | 0 => ("BeltRounds$Field", "wrestlers", "I", false)
  | 1 => ("BeltRounds$Field", "rounds", "I", false)
  | 2 => ("BeltRounds$Field", "worth", "[I", true)
  | 3 => ("BeltRounds$Field", "counts", "[I", true)
  | 4 => ("BeltRounds$Field", "met", "[I", true)
  | 5 => ("BeltRounds$Field", "bouts", "I", false)
  | 6 => ("BeltRounds$Field", "reds", "[I", true)
  | 7 => ("BeltRounds$Field", "blues", "[I", true)
  | 8 => ("BeltRounds$Field", "outcomes", "[I", true)
  | 9 => ("BeltRounds$Field", "resting", "I", false)
  | 10 => ("BeltRounds$Field", "order", "[I", true)
  | _ => ("BeltRounds$Field", "metPoints", "[I", true)
def tyX0 : Nat → FieldType := fun k => match k with
  | 0 => .int
  | 1 => .int
  | 2 => .array .int
  | 3 => .array .int
  | 4 => .array .int
  | 5 => .int
  | 6 => .array .int
  | 7 => .array .int
  | 8 => .array .int
  | 9 => .int
  | 10 => .array .int
  | _ => .array .int
theorem nmX0 : ∀ a, a < 12 → ∀ b, b < 12 → a ≠ b → (TX0 a).2.1 ≠ (TX0 b).2.1 := by decide +kernel
theorem tyX0_ok : ∀ k, k < 12 → parseFieldDescriptor (TX0 k).2.2.1 = some (tyX0 k) := by decide +kernel
abbrev cX0_init : ByteArray := prog_2_method_1_code
def yX0_init : MethodName := ⟨RX0, "<init>", "()V"⟩
abbrev cX0_begin : ByteArray := prog_2_method_2_code
def yX0_begin : MethodName := ⟨RX0, "begin", "(I[I[I)V"⟩
abbrev cX0_copyFrom : ByteArray := prog_2_method_3_code
def yX0_copyFrom : MethodName := ⟨RX0, "copyFrom", "(LBeltRounds$Field;)V"⟩
abbrev cX0_hasWrestler : ByteArray := prog_2_method_4_code
def yX0_hasWrestler : MethodName := ⟨RX0, "hasWrestler", "(I)Z"⟩
abbrev cX0_hasBout : ByteArray := prog_2_method_5_code
def yX0_hasBout : MethodName := ⟨RX0, "hasBout", "(I)Z"⟩
abbrev cX0_of : ByteArray := prog_2_method_6_code
def yX0_of : MethodName := ⟨RX0, "of", "(II)I"⟩
abbrev cX0_set : ByteArray := prog_2_method_7_code
def yX0_set : MethodName := ⟨RX0, "set", "(III)V"⟩
abbrev cX0_hasCount : ByteArray := prog_2_method_8_code
def yX0_hasCount : MethodName := ⟨RX0, "hasCount", "(II)Z"⟩
abbrev cX0_add : ByteArray := prog_2_method_9_code
def yX0_add : MethodName := ⟨RX0, "add", "(III)V"⟩
abbrev cX0_meetings : ByteArray := prog_2_method_10_code
def yX0_meetings : MethodName := ⟨RX0, "meetings", "(II)I"⟩
abbrev cX0_addMeeting : ByteArray := prog_2_method_11_code
def yX0_addMeeting : MethodName := ⟨RX0, "addMeeting", "(II)V"⟩
abbrev cX0_redIn : ByteArray := prog_2_method_12_code
def yX0_redIn : MethodName := ⟨RX0, "redIn", "(I)I"⟩
abbrev cX0_blueIn : ByteArray := prog_2_method_13_code
def yX0_blueIn : MethodName := ⟨RX0, "blueIn", "(I)I"⟩
abbrev cX0_outcomeIn : ByteArray := prog_2_method_14_code
def yX0_outcomeIn : MethodName := ⟨RX0, "outcomeIn", "(I)I"⟩
abbrev cX0_countIn : ByteArray := prog_2_method_15_code
def yX0_countIn : MethodName := ⟨RX0, "countIn", "()I"⟩
abbrev cX0_countOpen : ByteArray := prog_2_method_16_code
def yX0_countOpen : MethodName := ⟨RX0, "countOpen", "()I"⟩
abbrev cX0_canPair : ByteArray := prog_2_method_17_code
def yX0_canPair : MethodName := ⟨RX0, "canPair", "()Z"⟩
abbrev cX0_rivalOf : ByteArray := prog_2_method_18_code
def yX0_rivalOf : MethodName := ⟨RX0, "rivalOf", "(I)I"⟩
abbrev cX0_pointsOfRivals : ByteArray := prog_2_method_19_code
def yX0_pointsOfRivals : MethodName := ⟨RX0, "pointsOfRivals", "(I)I"⟩
abbrev cX0_putInOrder : ByteArray := prog_2_method_20_code
def yX0_putInOrder : MethodName := ⟨RX0, "putInOrder", "()V"⟩
abbrev cX0_atPlace : ByteArray := prog_2_method_21_code
def yX0_atPlace : MethodName := ⟨RX0, "atPlace", "(I)I"⟩
abbrev cX0_placeOf : ByteArray := prog_2_method_22_code
def yX0_placeOf : MethodName := ⟨RX0, "placeOf", "(I)I"⟩
abbrev cX0_standsAhead : ByteArray := prog_2_method_23_code
def yX0_standsAhead : MethodName := ⟨RX0, "standsAhead", "(II)Z"⟩
abbrev cX0_startRound : ByteArray := prog_2_method_24_code
def yX0_startRound : MethodName := ⟨RX0, "startRound", "(LBeltRounds$Pairing;)V"⟩
abbrev cX0_startBout : ByteArray := prog_2_method_25_code
def yX0_startBout : MethodName := ⟨RX0, "startBout", "(III)V"⟩
abbrev cX0_takesRedAhead : ByteArray := prog_2_method_26_code
def yX0_takesRedAhead : MethodName := ⟨RX0, "takesRedAhead", "(II)Z"⟩
abbrev cX0_tellOutcome : ByteArray := prog_2_method_27_code
def yX0_tellOutcome : MethodName := ⟨RX0, "tellOutcome", "(II)V"⟩
abbrev cX0_tellDraw : ByteArray := prog_2_method_28_code
def yX0_tellDraw : MethodName := ⟨RX0, "tellDraw", "(I)V"⟩
def RX1 : String := "BeltRounds$Pairing"
def TX1 : u_T := fun k => match k with
  | 0 => ("BeltRounds$Pairing", "pairs", "I", false)
  | 1 => ("BeltRounds$Pairing", "rematches", "I", false)
  | 2 => ("BeltRounds$Pairing", "resting", "I", false)
  | 3 => ("BeltRounds$Pairing", "aheads", "[I", true)
  | 4 => ("BeltRounds$Pairing", "behinds", "[I", true)
  | 5 => ("BeltRounds$Pairing", "size", "I", false)
  | 6 => ("BeltRounds$Pairing", "line", "[I", true)
  | 7 => ("BeltRounds$Pairing", "metBy", "[I", true)
  | _ => ("BeltRounds$Pairing", "fewest", "[I", true)
def tyX1 : Nat → FieldType := fun k => match k with
  | 0 => .int
  | 1 => .int
  | 2 => .int
  | 3 => .array .int
  | 4 => .array .int
  | 5 => .int
  | 6 => .array .int
  | 7 => .array .int
  | _ => .array .int
theorem nmX1 : ∀ a, a < 9 → ∀ b, b < 9 → a ≠ b → (TX1 a).2.1 ≠ (TX1 b).2.1 := by decide +kernel
theorem tyX1_ok : ∀ k, k < 9 → parseFieldDescriptor (TX1 k).2.2.1 = some (tyX1 k) := by decide +kernel
abbrev cX1_init : ByteArray := prog_3_method_1_code
def yX1_init : MethodName := ⟨RX1, "<init>", "()V"⟩
abbrev cX1_find : ByteArray := prog_3_method_2_code
def yX1_find : MethodName := ⟨RX1, "find", "(LBeltRounds$Field;)V"⟩
abbrev cX1_aheadIn : ByteArray := prog_3_method_3_code
def yX1_aheadIn : MethodName := ⟨RX1, "aheadIn", "(I)I"⟩
abbrev cX1_behindIn : ByteArray := prog_3_method_4_code
def yX1_behindIn : MethodName := ⟨RX1, "behindIn", "(I)I"⟩
abbrev cX1_rivalOf : ByteArray := prog_3_method_5_code
def yX1_rivalOf : MethodName := ⟨RX1, "rivalOf", "(I)I"⟩
abbrev cX1_lineUp : ByteArray := prog_3_method_6_code
def yX1_lineUp : MethodName := ⟨RX1, "lineUp", "(LBeltRounds$Field;)V"⟩
abbrev cX1_takeOutResting : ByteArray := prog_3_method_7_code
def yX1_takeOutResting : MethodName := ⟨RX1, "takeOutResting", "(LBeltRounds$Field;)V"⟩
abbrev cX1_noteMeetings : ByteArray := prog_3_method_8_code
def yX1_noteMeetings : MethodName := ⟨RX1, "noteMeetings", "(LBeltRounds$Field;)V"⟩
abbrev cX1_secondFor : ByteArray := prog_3_method_9_code
def yX1_secondFor : MethodName := ⟨RX1, "secondFor", "(III)I"⟩
abbrev cX1_fewestRematches : ByteArray := prog_3_method_10_code
def yX1_fewestRematches : MethodName := ⟨RX1, "fewestRematches", "(II)I"⟩
abbrev cX1_reckonFewest : ByteArray := prog_3_method_11_code
def yX1_reckonFewest : MethodName := ⟨RX1, "reckonFewest", "(II)I"⟩
abbrev cX1_rematchesWith : ByteArray := prog_3_method_12_code
def yX1_rematchesWith : MethodName := ⟨RX1, "rematchesWith", "(IIII)I"⟩
abbrev cX1_has : ByteArray := prog_3_method_13_code
def yX1_has : MethodName := ⟨RX1, "has", "(II)Z"⟩
abbrev cX1_firstOf : ByteArray := prog_3_method_14_code
def yX1_firstOf : MethodName := ⟨RX1, "firstOf", "(I)I"⟩
def RX2 : String := "BeltRounds$Reader"
def TX2 : u_T := fun k => match k with
  | 0 => ("BeltRounds$Reader", "tape", "LBeltRounds$Tape;", true)
  | 1 => ("BeltRounds$Reader", "rules", "LBeltRounds$Rules;", true)
  | 2 => ("BeltRounds$Reader", "strengths", "[I", true)
  | 3 => ("BeltRounds$Reader", "names", "[I", true)
  | 4 => ("BeltRounds$Reader", "worth", "[I", true)
  | 5 => ("BeltRounds$Reader", "wrestlers", "I", false)
  | 6 => ("BeltRounds$Reader", "at", "I", false)
  | 7 => ("BeltRounds$Reader", "error", "I", false)
  | _ => ("BeltRounds$Reader", "errorAt", "I", false)
def tyX2 : Nat → FieldType := fun k => match k with
  | 0 => .object "BeltRounds$Tape"
  | 1 => .object "BeltRounds$Rules"
  | 2 => .array .int
  | 3 => .array .int
  | 4 => .array .int
  | 5 => .int
  | 6 => .int
  | 7 => .int
  | _ => .int
theorem nmX2 : ∀ a, a < 9 → ∀ b, b < 9 → a ≠ b → (TX2 a).2.1 ≠ (TX2 b).2.1 := by decide +kernel
theorem tyX2_ok : ∀ k, k < 9 → parseFieldDescriptor (TX2 k).2.2.1 = some (tyX2 k) := by decide +kernel
abbrev cX2_init : ByteArray := prog_4_method_1_code
def yX2_init : MethodName := ⟨RX2, "<init>", "()V"⟩
abbrev cX2_read : ByteArray := prog_4_method_2_code
def yX2_read : MethodName := ⟨RX2, "read", "()I"⟩
abbrev cX2_begin : ByteArray := prog_4_method_3_code
def yX2_begin : MethodName := ⟨RX2, "begin", "()V"⟩
abbrev cX2_readWrestler : ByteArray := prog_4_method_4_code
def yX2_readWrestler : MethodName := ⟨RX2, "readWrestler", "()Z"⟩
abbrev cX2_checkName : ByteArray := prog_4_method_5_code
def yX2_checkName : MethodName := ⟨RX2, "checkName", "()V"⟩
abbrev cX2_readPoints : ByteArray := prog_4_method_6_code
def yX2_readPoints : MethodName := ⟨RX2, "readPoints", "()Z"⟩
abbrev cX2_readRule : ByteArray := prog_4_method_7_code
def yX2_readRule : MethodName := ⟨RX2, "readRule", "()Z"⟩
abbrev cX2_readOutcome : ByteArray := prog_4_method_8_code
def yX2_readOutcome : MethodName := ⟨RX2, "readOutcome", "()I"⟩
abbrev cX2_readTest : ByteArray := prog_4_method_9_code
def yX2_readTest : MethodName := ⟨RX2, "readTest", "(I)Z"⟩
abbrev cX2_readBoth : ByteArray := prog_4_method_10_code
def yX2_readBoth : MethodName := ⟨RX2, "readBoth", "(I)Z"⟩
abbrev cX2_readSingle : ByteArray := prog_4_method_11_code
def yX2_readSingle : MethodName := ⟨RX2, "readSingle", "(I)Z"⟩
abbrev cX2_readNot : ByteArray := prog_4_method_12_code
def yX2_readNot : MethodName := ⟨RX2, "readNot", "(I)Z"⟩
abbrev cX2_readComparison : ByteArray := prog_4_method_13_code
def yX2_readComparison : MethodName := ⟨RX2, "readComparison", "(I)Z"⟩
abbrev cX2_comparisonSeen : ByteArray := prog_4_method_14_code
def yX2_comparisonSeen : MethodName := ⟨RX2, "comparisonSeen", "()I"⟩
abbrev cX2_readSum : ByteArray := prog_4_method_15_code
def yX2_readSum : MethodName := ⟨RX2, "readSum", "(I)Z"⟩
abbrev cX2_readProduct : ByteArray := prog_4_method_16_code
def yX2_readProduct : MethodName := ⟨RX2, "readProduct", "(I)Z"⟩
abbrev cX2_readValue : ByteArray := prog_4_method_17_code
def yX2_readValue : MethodName := ⟨RX2, "readValue", "(I)Z"⟩
abbrev cX2_readNegative : ByteArray := prog_4_method_18_code
def yX2_readNegative : MethodName := ⟨RX2, "readNegative", "(I)Z"⟩
abbrev cX2_readChoice : ByteArray := prog_4_method_19_code
def yX2_readChoice : MethodName := ⟨RX2, "readChoice", "(I)Z"⟩
abbrev cX2_readSide : ByteArray := prog_4_method_20_code
def yX2_readSide : MethodName := ⟨RX2, "readSide", "(I)Z"⟩
abbrev cX2_countSeen : ByteArray := prog_4_method_21_code
def yX2_countSeen : MethodName := ⟨RX2, "countSeen", "()I"⟩
abbrev cX2_sees : ByteArray := prog_4_method_22_code
def yX2_sees : MethodName := ⟨RX2, "sees", "(LBeltRounds$Sign;)Z"⟩
abbrev cX2_takes : ByteArray := prog_4_method_23_code
def yX2_takes : MethodName := ⟨RX2, "takes", "(LBeltRounds$Sign;)Z"⟩
abbrev cX2_takesDeeper : ByteArray := prog_4_method_24_code
def yX2_takesDeeper : MethodName := ⟨RX2, "takesDeeper", "(LBeltRounds$Sign;I)Z"⟩
abbrev cX2_takeNumber : ByteArray := prog_4_method_25_code
def yX2_takeNumber : MethodName := ⟨RX2, "takeNumber", "(II)I"⟩
abbrev cX2_noteError : ByteArray := prog_4_method_26_code
def yX2_noteError : MethodName := ⟨RX2, "noteError", "(II)V"⟩
def RX3 : String := "BeltRounds$Rules"
def TX3 : u_T := fun k => match k with
  | 0 => ("BeltRounds$Rules", "count", "I", false)
  | 1 => ("BeltRounds$Rules", "outcomes", "[I", true)
  | 2 => ("BeltRounds$Rules", "ends", "[I", true)
  | 3 => ("BeltRounds$Rules", "steps", "I", false)
  | 4 => ("BeltRounds$Rules", "operations", "[I", true)
  | 5 => ("BeltRounds$Rules", "operands", "[I", true)
  | 6 => ("BeltRounds$Rules", "top", "I", false)
  | _ => ("BeltRounds$Rules", "stack", "[I", true)
def tyX3 : Nat → FieldType := fun k => match k with
  | 0 => .int
  | 1 => .array .int
  | 2 => .array .int
  | 3 => .int
  | 4 => .array .int
  | 5 => .array .int
  | 6 => .int
  | _ => .array .int
theorem nmX3 : ∀ a, a < 8 → ∀ b, b < 8 → a ≠ b → (TX3 a).2.1 ≠ (TX3 b).2.1 := by decide +kernel
theorem tyX3_ok : ∀ k, k < 8 → parseFieldDescriptor (TX3 k).2.2.1 = some (tyX3 k) := by decide +kernel
abbrev cX3_init : ByteArray := prog_5_method_1_code
def yX3_init : MethodName := ⟨RX3, "<init>", "()V"⟩
abbrev cX3_clear : ByteArray := prog_5_method_2_code
def yX3_clear : MethodName := ⟨RX3, "clear", "()V"⟩
abbrev cX3_copyFrom : ByteArray := prog_5_method_3_code
def yX3_copyFrom : MethodName := ⟨RX3, "copyFrom", "(LBeltRounds$Rules;)V"⟩
abbrev cX3_emit : ByteArray := prog_5_method_4_code
def yX3_emit : MethodName := ⟨RX3, "emit", "(I)V"⟩
abbrev cX3_emit_ : ByteArray := prog_5_method_5_code
def yX3_emit_ : MethodName := ⟨RX3, "emit", "(II)V"⟩
abbrev cX3_endRule : ByteArray := prog_5_method_6_code
def yX3_endRule : MethodName := ⟨RX3, "endRule", "(I)V"⟩
abbrev cX3_outcomeFor : ByteArray := prog_5_method_7_code
def yX3_outcomeFor : MethodName := ⟨RX3, "outcomeFor", "(LBeltRounds$Field;I)I"⟩
abbrev cX3_holds : ByteArray := prog_5_method_8_code
def yX3_holds : MethodName := ⟨RX3, "holds", "(IILBeltRounds$Field;I)Z"⟩
abbrev cX3_doStep : ByteArray := prog_5_method_9_code
def yX3_doStep : MethodName := ⟨RX3, "doStep", "(IILBeltRounds$Field;I)V"⟩
abbrev cX3_join : ByteArray := prog_5_method_10_code
def yX3_join : MethodName := ⟨RX3, "join", "(III)I"⟩
abbrev cX3_push : ByteArray := prog_5_method_11_code
def yX3_push : MethodName := ⟨RX3, "push", "(I)V"⟩
abbrev cX3_pop : ByteArray := prog_5_method_12_code
def yX3_pop : MethodName := ⟨RX3, "pop", "()I"⟩
def RX4 : String := "BeltRounds$Sign"
def TX4 : u_T := fun k => match k with
  | _ => ("", "", "", false)
def tyX4 : Nat → FieldType := fun k => match k with
  | _ => .int
theorem nmX4 : ∀ a, a < 0 → ∀ b, b < 0 → a ≠ b → (TX4 a).2.1 ≠ (TX4 b).2.1 := by decide +kernel
theorem tyX4_ok : ∀ k, k < 0 → parseFieldDescriptor (TX4 k).2.2.1 = some (tyX4 k) := by decide +kernel
def RX5 : String := "BeltRounds$Tape"
def TX5 : u_T := fun k => match k with
  | 0 => ("BeltRounds$Tape", "bytes", "[B", true)
  | 1 => ("BeltRounds$Tape", "length", "I", false)
  | 2 => ("BeltRounds$Tape", "signs", "[LBeltRounds$Sign;", true)
  | 3 => ("BeltRounds$Tape", "starts", "[I", true)
  | 4 => ("BeltRounds$Tape", "ends", "[I", true)
  | _ => ("BeltRounds$Tape", "tokens", "I", false)
def tyX5 : Nat → FieldType := fun k => match k with
  | 0 => .array .byte
  | 1 => .int
  | 2 => .array (.object "BeltRounds$Sign")
  | 3 => .array .int
  | 4 => .array .int
  | _ => .int
theorem nmX5 : ∀ a, a < 6 → ∀ b, b < 6 → a ≠ b → (TX5 a).2.1 ≠ (TX5 b).2.1 := by decide +kernel
theorem tyX5_ok : ∀ k, k < 6 → parseFieldDescriptor (TX5 k).2.2.1 = some (tyX5 k) := by decide +kernel
abbrev cX5_init : ByteArray := prog_7_method_1_code
def yX5_init : MethodName := ⟨RX5, "<init>", "()V"⟩
abbrev cX5_append : ByteArray := prog_7_method_2_code
def yX5_append : MethodName := ⟨RX5, "append", "(I)V"⟩
abbrev cX5_scan : ByteArray := prog_7_method_3_code
def yX5_scan : MethodName := ⟨RX5, "scan", "()V"⟩
abbrev cX5_start : ByteArray := prog_7_method_4_code
def yX5_start : MethodName := ⟨RX5, "start", "(I)I"⟩
abbrev cX5_number : ByteArray := prog_7_method_5_code
def yX5_number : MethodName := ⟨RX5, "number", "(I)I"⟩
abbrev cX5_sameText : ByteArray := prog_7_method_6_code
def yX5_sameText : MethodName := ⟨RX5, "sameText", "(II)Z"⟩
abbrev cX5_hasToken : ByteArray := prog_7_method_7_code
def yX5_hasToken : MethodName := ⟨RX5, "hasToken", "(I)Z"⟩
abbrev cX5_byteAt : ByteArray := prog_7_method_8_code
def yX5_byteAt : MethodName := ⟨RX5, "byteAt", "(I)I"⟩
abbrev cX5_behindBlanks : ByteArray := prog_7_method_9_code
def yX5_behindBlanks : MethodName := ⟨RX5, "behindBlanks", "(I)I"⟩
abbrev cX5_endOfToken : ByteArray := prog_7_method_10_code
def yX5_endOfToken : MethodName := ⟨RX5, "endOfToken", "(I)I"⟩
abbrev cX5_endOfSymbol : ByteArray := prog_7_method_11_code
def yX5_endOfSymbol : MethodName := ⟨RX5, "endOfSymbol", "(I)I"⟩
abbrev cX5_signOf : ByteArray := prog_7_method_12_code
def yX5_signOf : MethodName := ⟨RX5, "signOf", "(II)LBeltRounds$Sign;"⟩
abbrev cX5_signWithText : ByteArray := prog_7_method_13_code
def yX5_signWithText : MethodName := ⟨RX5, "signWithText", "(IILBeltRounds$Sign;)LBeltRounds$Sign;"⟩
abbrev cX5_isSpelt : ByteArray := prog_7_method_14_code
def yX5_isSpelt : MethodName := ⟨RX5, "isSpelt", "(Ljava/lang/String;II)Z"⟩
abbrev cX5_isLetter : ByteArray := prog_7_method_15_code
def yX5_isLetter : MethodName := ⟨RX5, "isLetter", "(I)Z"⟩
abbrev cX5_isDigit : ByteArray := prog_7_method_16_code
def yX5_isDigit : MethodName := ⟨RX5, "isDigit", "(I)Z"⟩
def RX6 : String := "BeltRounds"
def TX6 : u_T := fun k => match k with
  | 0 => ("BeltRounds", "reader", "LBeltRounds$Reader;", true)
  | 1 => ("BeltRounds", "tape", "LBeltRounds$Tape;", true)
  | 2 => ("BeltRounds", "rules", "LBeltRounds$Rules;", true)
  | 3 => ("BeltRounds", "field", "LBeltRounds$Field;", true)
  | 4 => ("BeltRounds", "trial", "LBeltRounds$Field;", true)
  | _ => ("BeltRounds", "pairing", "LBeltRounds$Pairing;", true)
def tyX6 : Nat → FieldType := fun k => match k with
  | 0 => .object "BeltRounds$Reader"
  | 1 => .object "BeltRounds$Tape"
  | 2 => .object "BeltRounds$Rules"
  | 3 => .object "BeltRounds$Field"
  | 4 => .object "BeltRounds$Field"
  | _ => .object "BeltRounds$Pairing"
theorem nmX6 : ∀ a, a < 6 → ∀ b, b < 6 → a ≠ b → (TX6 a).2.1 ≠ (TX6 b).2.1 := by decide +kernel
theorem tyX6_ok : ∀ k, k < 6 → parseFieldDescriptor (TX6 k).2.2.1 = some (tyX6 k) := by decide +kernel
abbrev cX6_init : ByteArray := prog_1_method_1_code
def yX6_init : MethodName := ⟨RX6, "<init>", "()V"⟩
abbrev cX6_feed : ByteArray := prog_1_method_2_code
def yX6_feed : MethodName := ⟨RX6, "feed", "(IIIII)I"⟩
abbrev cX6_trim : ByteArray := prog_1_method_3_code
def yX6_trim : MethodName := ⟨RX6, "trim", "(I)I"⟩
abbrev cX6_teach : ByteArray := prog_1_method_4_code
def yX6_teach : MethodName := ⟨RX6, "teach", "()I"⟩
abbrev cX6_wrestlers : ByteArray := prog_1_method_6_code
def yX6_wrestlers : MethodName := ⟨RX6, "wrestlers", "()I"⟩
abbrev cX6_wrestlersIn : ByteArray := prog_1_method_7_code
def yX6_wrestlersIn : MethodName := ⟨RX6, "wrestlersIn", "()I"⟩
abbrev cX6_rules : ByteArray := prog_1_method_8_code
def yX6_rules : MethodName := ⟨RX6, "rules", "()I"⟩
abbrev cX6_rounds : ByteArray := prog_1_method_9_code
def yX6_rounds : MethodName := ⟨RX6, "rounds", "()I"⟩
abbrev cX6_tapeBytes : ByteArray := prog_1_method_10_code
def yX6_tapeBytes : MethodName := ⟨RX6, "tapeBytes", "()I"⟩
abbrev cX6_bouts : ByteArray := prog_1_method_11_code
def yX6_bouts : MethodName := ⟨RX6, "bouts", "()I"⟩
abbrev cX6_openBouts : ByteArray := prog_1_method_12_code
def yX6_openBouts : MethodName := ⟨RX6, "openBouts", "()I"⟩
abbrev cX6_strengthOf : ByteArray := prog_1_method_13_code
def yX6_strengthOf : MethodName := ⟨RX6, "strengthOf", "(I)I"⟩
abbrev cX6_pointsOf : ByteArray := prog_1_method_14_code
def yX6_pointsOf : MethodName := ⟨RX6, "pointsOf", "(I)I"⟩
abbrev cX6_winsOf : ByteArray := prog_1_method_15_code
def yX6_winsOf : MethodName := ⟨RX6, "winsOf", "(I)I"⟩
abbrev cX6_drawsOf : ByteArray := prog_1_method_16_code
def yX6_drawsOf : MethodName := ⟨RX6, "drawsOf", "(I)I"⟩
abbrev cX6_lossesOf : ByteArray := prog_1_method_17_code
def yX6_lossesOf : MethodName := ⟨RX6, "lossesOf", "(I)I"⟩
abbrev cX6_restsOf : ByteArray := prog_1_method_18_code
def yX6_restsOf : MethodName := ⟨RX6, "restsOf", "(I)I"⟩
abbrev cX6_beltsOf : ByteArray := prog_1_method_19_code
def yX6_beltsOf : MethodName := ⟨RX6, "beltsOf", "(I)I"⟩
abbrev cX6_floatsOf : ByteArray := prog_1_method_20_code
def yX6_floatsOf : MethodName := ⟨RX6, "floatsOf", "(I)I"⟩
abbrev cX6_pointsOfMet : ByteArray := prog_1_method_21_code
def yX6_pointsOfMet : MethodName := ⟨RX6, "pointsOfMet", "(I)I"⟩
abbrev cX6_rankOf : ByteArray := prog_1_method_22_code
def yX6_rankOf : MethodName := ⟨RX6, "rankOf", "(I)I"⟩
abbrev cX6_isIn : ByteArray := prog_1_method_23_code
def yX6_isIn : MethodName := ⟨RX6, "isIn", "(I)Z"⟩
abbrev cX6_wrestlerAt : ByteArray := prog_1_method_24_code
def yX6_wrestlerAt : MethodName := ⟨RX6, "wrestlerAt", "(I)I"⟩
abbrev cX6_timesMet : ByteArray := prog_1_method_25_code
def yX6_timesMet : MethodName := ⟨RX6, "timesMet", "(II)I"⟩
abbrev cX6_redOf : ByteArray := prog_1_method_26_code
def yX6_redOf : MethodName := ⟨RX6, "redOf", "(I)I"⟩
abbrev cX6_blueOf : ByteArray := prog_1_method_27_code
def yX6_blueOf : MethodName := ⟨RX6, "blueOf", "(I)I"⟩
abbrev cX6_outcomeOf : ByteArray := prog_1_method_28_code
def yX6_outcomeOf : MethodName := ⟨RX6, "outcomeOf", "(I)I"⟩
abbrev cX6_ruledOutcome : ByteArray := prog_1_method_29_code
def yX6_ruledOutcome : MethodName := ⟨RX6, "ruledOutcome", "(I)I"⟩
abbrev cX6_opponentOf : ByteArray := prog_1_method_30_code
def yX6_opponentOf : MethodName := ⟨RX6, "opponentOf", "(I)I"⟩
abbrev cX6_restingOne : ByteArray := prog_1_method_31_code
def yX6_restingOne : MethodName := ⟨RX6, "restingOne", "()I"⟩
abbrev cX6_pairRound : ByteArray := prog_1_method_32_code
def yX6_pairRound : MethodName := ⟨RX6, "pairRound", "()I"⟩
abbrev cX6_tell : ByteArray := prog_1_method_33_code
def yX6_tell : MethodName := ⟨RX6, "tell", "(II)I"⟩
abbrev cX6_tellByRules : ByteArray := prog_1_method_34_code
def yX6_tellByRules : MethodName := ⟨RX6, "tellByRules", "()I"⟩
abbrev cX6_turnIn : ByteArray := prog_1_method_35_code
def yX6_turnIn : MethodName := ⟨RX6, "turnIn", "(I)Z"⟩
abbrev cX6_nextOpponentOf : ByteArray := prog_1_method_36_code
def yX6_nextOpponentOf : MethodName := ⟨RX6, "nextOpponentOf", "(I)I"⟩
abbrev cX6_nextRematches : ByteArray := prog_1_method_37_code
def yX6_nextRematches : MethodName := ⟨RX6, "nextRematches", "()I"⟩
abbrev cX6_leaderAfter : ByteArray := prog_1_method_38_code
def yX6_leaderAfter : MethodName := ⟨RX6, "leaderAfter", "(I)I"⟩
abbrev cX6_pointsAfter : ByteArray := prog_1_method_39_code
def yX6_pointsAfter : MethodName := ⟨RX6, "pointsAfter", "(II)I"⟩
abbrev cX6_meanPoints : ByteArray := prog_1_method_40_code
def yX6_meanPoints : MethodName := ⟨RX6, "meanPoints", "()D"⟩
abbrev cX6_digest : ByteArray := prog_1_method_41_code
def yX6_digest : MethodName := ⟨RX6, "digest", "()J"⟩
abbrev cX6_digestWrestler : ByteArray := prog_1_method_42_code
def yX6_digestWrestler : MethodName := ⟨RX6, "digestWrestler", "(JI)J"⟩
abbrev cX6_needWrestler : ByteArray := prog_1_method_43_code
def yX6_needWrestler : MethodName := ⟨RX6, "needWrestler", "(I)V"⟩
abbrev cX6_needBout : ByteArray := prog_1_method_44_code
def yX6_needBout : MethodName := ⟨RX6, "needBout", "(I)V"⟩
abbrev cX6_needPairable : ByteArray := prog_1_method_45_code
def yX6_needPairable : MethodName := ⟨RX6, "needPairable", "()V"⟩
abbrev cX6_needRoundsAhead : ByteArray := prog_1_method_46_code
def yX6_needRoundsAhead : MethodName := ⟨RX6, "needRoundsAhead", "(I)V"⟩
abbrev cX6_tellOpenBouts : ByteArray := prog_1_method_47_code
def yX6_tellOpenBouts : MethodName := ⟨RX6, "tellOpenBouts", "(LBeltRounds$Field;)I"⟩
abbrev cX6_playTrial : ByteArray := prog_1_method_48_code
def yX6_playTrial : MethodName := ⟨RX6, "playTrial", "(I)V"⟩
def RX7 : String := "BeltRoundsLaw$Sim"
def TX7 : u_T := fun k => match k with
  | 0 => ("BeltRoundsLaw$Sim", "wrestlers", "I", false)
  | 1 => ("BeltRoundsLaw$Sim", "strength", "[I", true)
  | 2 => ("BeltRoundsLaw$Sim", "worth", "[I", true)
  | 3 => ("BeltRoundsLaw$Sim", "tells", "[I", false)
  | 4 => ("BeltRoundsLaw$Sim", "tests", "[LBeltRoundsLaw$Tree;", false)
  | 5 => ("BeltRoundsLaw$Sim", "rounds", "I", false)
  | 6 => ("BeltRoundsLaw$Sim", "isOut", "[Z", true)
  | 7 => ("BeltRoundsLaw$Sim", "all", "[[I", false)
  | _ => ("BeltRoundsLaw$Sim", "rests", "[I", false)
def tyX7 : Nat → FieldType := fun k => match k with
  | 0 => .int
  | 1 => .array .int
  | 2 => .array .int
  | 3 => .array .int
  | 4 => .array (.object "BeltRoundsLaw$Tree")
  | 5 => .int
  | 6 => .array .boolean
  | 7 => .array (.array .int)
  | _ => .array .int
theorem nmX7 : ∀ a, a < 9 → ∀ b, b < 9 → a ≠ b → (TX7 a).2.1 ≠ (TX7 b).2.1 := by decide +kernel
theorem tyX7_ok : ∀ k, k < 9 → parseFieldDescriptor (TX7 k).2.2.1 = some (tyX7 k) := by decide +kernel
abbrev cX7_init : ByteArray := prog_9_method_1_code
def yX7_init : MethodName := ⟨RX7, "<init>", "()V"⟩
abbrev cX7_with : ByteArray := prog_9_method_3_code
def yX7_with : MethodName := ⟨RX7, "with", "([[I[I)[[I"⟩
abbrev cX7_with_ : ByteArray := prog_9_method_4_code
def yX7_with_ : MethodName := ⟨RX7, "with", "([II)[I"⟩
abbrev cX7_many : ByteArray := prog_9_method_5_code
def yX7_many : MethodName := ⟨RX7, "many", "(II)I"⟩
abbrev cX7_rested : ByteArray := prog_9_method_6_code
def yX7_rested : MethodName := ⟨RX7, "rested", "(I)I"⟩
abbrev cX7_points : ByteArray := prog_9_method_7_code
def yX7_points : MethodName := ⟨RX7, "points", "(I)I"⟩
abbrev cX7_met : ByteArray := prog_9_method_8_code
def yX7_met : MethodName := ⟨RX7, "met", "(III)I"⟩
abbrev cX7_ofMet : ByteArray := prog_9_method_9_code
def yX7_ofMet : MethodName := ⟨RX7, "ofMet", "(I)I"⟩
abbrev cX7_belts : ByteArray := prog_9_method_10_code
def yX7_belts : MethodName := ⟨RX7, "belts", "(I)I"⟩
abbrev cX7_wasBlue : ByteArray := prog_9_method_11_code
def yX7_wasBlue : MethodName := ⟨RX7, "wasBlue", "(I)Z"⟩
abbrev cX7_floats : ByteArray := prog_9_method_12_code
def yX7_floats : MethodName := ⟨RX7, "floats", "(I)I"⟩
abbrev cX7_of : ByteArray := prog_9_method_13_code
def yX7_of : MethodName := ⟨RX7, "of", "(II)I"⟩
abbrev cX7_order : ByteArray := prog_9_method_14_code
def yX7_order : MethodName := ⟨RX7, "order", "()[I"⟩
abbrev cX7_in : ByteArray := prog_9_method_15_code
def yX7_in : MethodName := ⟨RX7, "in", "()I"⟩
abbrev cX7_open : ByteArray := prog_9_method_16_code
def yX7_open : MethodName := ⟨RX7, "open", "()I"⟩
abbrev cX7_canPair : ByteArray := prog_9_method_17_code
def yX7_canPair : MethodName := ⟨RX7, "canPair", "()Z"⟩
abbrev cX7_row : ByteArray := prog_9_method_18_code
def yX7_row : MethodName := ⟨RX7, "row", "()[I"⟩
abbrev cX7_tryOut : ByteArray := prog_9_method_19_code
def yX7_tryOut : MethodName := ⟨RX7, "tryOut", "([I[I[II)V"⟩
abbrev cX7_mates : ByteArray := prog_9_method_20_code
def yX7_mates : MethodName := ⟨RX7, "mates", "([I)[I"⟩
abbrev cX7_pair : ByteArray := prog_9_method_21_code
def yX7_pair : MethodName := ⟨RX7, "pair", "()V"⟩
abbrev cX7_latest : ByteArray := prog_9_method_22_code
def yX7_latest : MethodName := ⟨RX7, "latest", "()[[I"⟩
abbrev cX7_ruled : ByteArray := prog_9_method_23_code
def yX7_ruled : MethodName := ⟨RX7, "ruled", "([I)I"⟩
abbrev cX7_tellAll : ByteArray := prog_9_method_24_code
def yX7_tellAll : MethodName := ⟨RX7, "tellAll", "()I"⟩
abbrev cX7_isSame : ByteArray := prog_9_method_26_code
def yX7_isSame : MethodName := ⟨RX7, "isSame", "(LBeltRounds;)Z"⟩
def RX8 : String := "BeltRoundsLaw$Tree"
def TX8 : u_T := fun k => match k with
  | 0 => ("BeltRoundsLaw$Tree", "kind", "I", false)
  | 1 => ("BeltRoundsLaw$Tree", "number", "I", false)
  | 2 => ("BeltRoundsLaw$Tree", "a", "LBeltRoundsLaw$Tree;", false)
  | _ => ("BeltRoundsLaw$Tree", "b", "LBeltRoundsLaw$Tree;", false)
def tyX8 : Nat → FieldType := fun k => match k with
  | 0 => .int
  | 1 => .int
  | 2 => .object "BeltRoundsLaw$Tree"
  | _ => .object "BeltRoundsLaw$Tree"
theorem nmX8 : ∀ a, a < 4 → ∀ b, b < 4 → a ≠ b → (TX8 a).2.1 ≠ (TX8 b).2.1 := by decide +kernel
theorem tyX8_ok : ∀ k, k < 4 → parseFieldDescriptor (TX8 k).2.2.1 = some (tyX8 k) := by decide +kernel
abbrev cX8_init : ByteArray := prog_10_method_1_code
def yX8_init : MethodName := ⟨RX8, "<init>", "()V"⟩
abbrev cX8_of : ByteArray := prog_10_method_2_code
def yX8_of : MethodName := ⟨RX8, "of", "(LBeltRoundsLaw$Sim;[I)I"⟩
abbrev cX8_ofTwo : ByteArray := prog_10_method_3_code
def yX8_ofTwo : MethodName := ⟨RX8, "ofTwo", "(II)I"⟩
abbrev cX8_text : ByteArray := prog_10_method_4_code
def yX8_text : MethodName := ⟨RX8, "text", "()Ljava/lang/String;"⟩
def RX9 : String := "BeltRoundsModel$Plan"
def TX9 : u_T := fun k => match k with
  | _ => ("", "", "", false)
def tyX9 : Nat → FieldType := fun k => match k with
  | _ => .int
theorem nmX9 : ∀ a, a < 0 → ∀ b, b < 0 → a ≠ b → (TX9 a).2.1 ≠ (TX9 b).2.1 := by decide +kernel
theorem tyX9_ok : ∀ k, k < 0 → parseFieldDescriptor (TX9 k).2.2.1 = some (tyX9 k) := by decide +kernel
def RX10 : String := "BeltRoundsModel$State"
def TX10 : u_T := fun k => match k with
  | _ => ("", "", "", false)
def tyX10 : Nat → FieldType := fun k => match k with
  | _ => .int
theorem nmX10 : ∀ a, a < 0 → ∀ b, b < 0 → a ≠ b → (TX10 a).2.1 ≠ (TX10 b).2.1 := by decide +kernel
theorem tyX10_ok : ∀ k, k < 0 → parseFieldDescriptor (TX10 k).2.2.1 = some (tyX10 k) := by decide +kernel
def RX11 : String := "BeltRoundsModel"
def TX11 : u_T := fun k => match k with
  | _ => ("", "", "", false)
def tyX11 : Nat → FieldType := fun k => match k with
  | _ => .int
theorem nmX11 : ∀ a, a < 0 → ∀ b, b < 0 → a ≠ b → (TX11 a).2.1 ≠ (TX11 b).2.1 := by decide +kernel
theorem tyX11_ok : ∀ k, k < 0 → parseFieldDescriptor (TX11 k).2.2.1 = some (tyX11 k) := by decide +kernel
def RJx145de : String := "java/io/Serializable"
def TJx145de : u_T := fun k => match k with
  | _ => ("", "", "", false)
def tyJx145de : Nat → FieldType := fun k => match k with
  | _ => .int
theorem nmJx145de : ∀ a, a < 0 → ∀ b, b < 0 → a ≠ b → (TJx145de a).2.1 ≠ (TJx145de b).2.1 := by decide +kernel
theorem tyJx145de_ok : ∀ k, k < 0 → parseFieldDescriptor (TJx145de k).2.2.1 = some (tyJx145de k) := by decide +kernel
def RJ5 : String := "java/lang/AbstractStringBuilder"
def TJ5 : u_T := fun k => match k with
  | _ => ("", "", "", false)
def tyJ5 : Nat → FieldType := fun k => match k with
  | _ => .int
theorem nmJ5 : ∀ a, a < 0 → ∀ b, b < 0 → a ≠ b → (TJ5 a).2.1 ≠ (TJ5 b).2.1 := by decide +kernel
theorem tyJ5_ok : ∀ k, k < 0 → parseFieldDescriptor (TJ5 k).2.2.1 = some (tyJ5 k) := by decide +kernel
abbrev cJ5_init_d00df : ByteArray := prog_14_method_2_code
def yJ5_init_d00df : MethodName := ⟨RJ5, "<init>", "(I)V"⟩
abbrev cJ5_length_8abf5 : ByteArray := prog_14_method_6_code
def yJ5_length_8abf5 : MethodName := ⟨RJ5, "length", "()I"⟩
abbrev cJ5_ensureCapacityInternal_d00df : ByteArray := prog_14_method_9_code
def yJ5_ensureCapacityInternal_d00df : MethodName := ⟨RJ5, "ensureCapacityInternal", "(I)V"⟩
abbrev cJ5_newCapacity_0f7a4 : ByteArray := prog_14_method_10_code
def yJ5_newCapacity_0f7a4 : MethodName := ⟨RJ5, "newCapacity", "(I)I"⟩
abbrev cJ5_inflate_da8c8 : ByteArray := prog_14_method_11_code
def yJ5_inflate_da8c8 : MethodName := ⟨RJ5, "inflate", "()V"⟩
abbrev cJ5_append_cf1ce : ByteArray := prog_14_method_22_code
def yJ5_append_cf1ce : MethodName := ⟨RJ5, "append", "(Ljava/lang/String;)Ljava/lang/AbstractStringBuilder;"⟩
abbrev cJ5_appendNull_278bc : ByteArray := prog_14_method_26_code
def yJ5_appendNull_278bc : MethodName := ⟨RJ5, "appendNull", "()Ljava/lang/AbstractStringBuilder;"⟩
abbrev cJ5_append_c97b9 : ByteArray := prog_14_method_32_code
def yJ5_append_c97b9 : MethodName := ⟨RJ5, "append", "(I)Ljava/lang/AbstractStringBuilder;"⟩
abbrev cJ5_getValue_6d5f1 : ByteArray := prog_14_method_64_code
def yJ5_getValue_6d5f1 : MethodName := ⟨RJ5, "getValue", "()[B"⟩
abbrev cJ5_isLatin1_aae02 : ByteArray := prog_14_method_68_code
def yJ5_isLatin1_aae02 : MethodName := ⟨RJ5, "isLatin1", "()Z"⟩
abbrev cJ5_inflateIfNeededFor_a7421 : ByteArray := prog_14_method_71_code
def yJ5_inflateIfNeededFor_a7421 : MethodName := ⟨RJ5, "inflateIfNeededFor", "(Ljava/lang/String;)V"⟩
abbrev cJ5_putStringAt_47b60 : ByteArray := prog_14_method_73_code
def yJ5_putStringAt_47b60 : MethodName := ⟨RJ5, "putStringAt", "(ILjava/lang/String;)V"⟩
def RJx2cfe8 : String := "java/lang/Appendable"
def TJx2cfe8 : u_T := fun k => match k with
  | _ => ("", "", "", false)
def tyJx2cfe8 : Nat → FieldType := fun k => match k with
  | _ => .int
theorem nmJx2cfe8 : ∀ a, a < 0 → ∀ b, b < 0 → a ≠ b → (TJx2cfe8 a).2.1 ≠ (TJx2cfe8 b).2.1 := by decide +kernel
theorem tyJx2cfe8_ok : ∀ k, k < 0 → parseFieldDescriptor (TJx2cfe8 k).2.2.1 = some (tyJx2cfe8 k) := by decide +kernel
def RJx9f9b0 : String := "java/lang/CharSequence"
def TJx9f9b0 : u_T := fun k => match k with
  | _ => ("", "", "", false)
def tyJx9f9b0 : Nat → FieldType := fun k => match k with
  | _ => .int
theorem nmJx9f9b0 : ∀ a, a < 0 → ∀ b, b < 0 → a ≠ b → (TJx9f9b0 a).2.1 ≠ (TJx9f9b0 b).2.1 := by decide +kernel
theorem tyJx9f9b0_ok : ∀ k, k < 0 → parseFieldDescriptor (TJx9f9b0 k).2.2.1 = some (tyJx9f9b0 k) := by decide +kernel
def RJx8e188 : String := "java/lang/Cloneable"
def TJx8e188 : u_T := fun k => match k with
  | _ => ("", "", "", false)
def tyJx8e188 : Nat → FieldType := fun k => match k with
  | _ => .int
theorem nmJx8e188 : ∀ a, a < 0 → ∀ b, b < 0 → a ≠ b → (TJx8e188 a).2.1 ≠ (TJx8e188 b).2.1 := by decide +kernel
theorem tyJx8e188_ok : ∀ k, k < 0 → parseFieldDescriptor (TJx8e188 k).2.2.1 = some (tyJx8e188 k) := by decide +kernel
def RJxb160c : String := "java/lang/Comparable"
def TJxb160c : u_T := fun k => match k with
  | _ => ("", "", "", false)
def tyJxb160c : Nat → FieldType := fun k => match k with
  | _ => .int
theorem nmJxb160c : ∀ a, a < 0 → ∀ b, b < 0 → a ≠ b → (TJxb160c a).2.1 ≠ (TJxb160c b).2.1 := by decide +kernel
theorem tyJxb160c_ok : ∀ k, k < 0 → parseFieldDescriptor (TJxb160c k).2.2.1 = some (tyJxb160c k) := by decide +kernel
def RJx29ce0 : String := "java/lang/Enum"
def TJx29ce0 : u_T := fun k => match k with
  | _ => ("", "", "", false)
def tyJx29ce0 : Nat → FieldType := fun k => match k with
  | _ => .int
theorem nmJx29ce0 : ∀ a, a < 0 → ∀ b, b < 0 → a ≠ b → (TJx29ce0 a).2.1 ≠ (TJx29ce0 b).2.1 := by decide +kernel
theorem tyJx29ce0_ok : ∀ k, k < 0 → parseFieldDescriptor (TJx29ce0 k).2.2.1 = some (tyJx29ce0 k) := by decide +kernel
def RJ6 : String := "java/lang/Integer"
def TJ6 : u_T := fun k => match k with
  | _ => ("", "", "", false)
def tyJ6 : Nat → FieldType := fun k => match k with
  | _ => .int
theorem nmJ6 : ∀ a, a < 0 → ∀ b, b < 0 → a ≠ b → (TJ6 a).2.1 ≠ (TJ6 b).2.1 := by decide +kernel
theorem tyJ6_ok : ∀ k, k < 0 → parseFieldDescriptor (TJ6 k).2.2.1 = some (tyJ6 k) := by decide +kernel
abbrev cJ6_getChars_ba4f3 : ByteArray := prog_21_method_12_code
def yJ6_getChars_ba4f3 : MethodName := ⟨RJ6, "getChars", "(II[B)I"⟩
abbrev cJ6_stringSize_0f7a4 : ByteArray := prog_21_method_13_code
def yJ6_stringSize_0f7a4 : MethodName := ⟨RJ6, "stringSize", "(I)I"⟩
abbrev cJ6_numberOfTrailingZeros_0f7a4 : ByteArray := prog_21_method_48_code
def yJ6_numberOfTrailingZeros_0f7a4 : MethodName := ⟨RJ6, "numberOfTrailingZeros", "(I)I"⟩
def RJ9 : String := "java/lang/Math"
def TJ9 : u_T := fun k => match k with
  | _ => ("", "", "", false)
def tyJ9 : Nat → FieldType := fun k => match k with
  | _ => .int
theorem nmJ9 : ∀ a, a < 0 → ∀ b, b < 0 → a ≠ b → (TJ9 a).2.1 ≠ (TJ9 b).2.1 := by decide +kernel
theorem tyJ9_ok : ∀ k, k < 0 → parseFieldDescriptor (TJ9 k).2.2.1 = some (tyJ9 k) := by decide +kernel
abbrev cJ9_max_7cf53 : ByteArray := prog_22_method_65_code
def yJ9_max_7cf53 : MethodName := ⟨RJ9, "max", "(II)I"⟩
abbrev cJ9_min_7cf53 : ByteArray := prog_22_method_69_code
def yJ9_min_7cf53 : MethodName := ⟨RJ9, "min", "(II)I"⟩
def RJxd2413 : String := "java/lang/Number"
def TJxd2413 : u_T := fun k => match k with
  | _ => ("", "", "", false)
def tyJxd2413 : Nat → FieldType := fun k => match k with
  | _ => .int
theorem nmJxd2413 : ∀ a, a < 0 → ∀ b, b < 0 → a ≠ b → (TJxd2413 a).2.1 ≠ (TJxd2413 b).2.1 := by decide +kernel
theorem tyJxd2413_ok : ∀ k, k < 0 → parseFieldDescriptor (TJxd2413 k).2.2.1 = some (tyJxd2413 k) := by decide +kernel
def RJ0 : String := "java/lang/String"
def TJ0 : u_T := fun k => match k with
  | 0 => ("java/lang/String", "value", "[B", true)
  | 1 => ("java/lang/String", "coder", "B", true)
  | 2 => ("java/lang/String", "hash", "I", false)
  | _ => ("java/lang/String", "hashIsZero", "Z", false)
def tyJ0 : Nat → FieldType := fun k => match k with
  | 0 => .array .byte
  | 1 => .byte
  | 2 => .int
  | _ => .boolean
theorem nmJ0 : ∀ a, a < 4 → ∀ b, b < 4 → a ≠ b → (TJ0 a).2.1 ≠ (TJ0 b).2.1 := by decide +kernel
theorem tyJ0_ok : ∀ k, k < 4 → parseFieldDescriptor (TJ0 k).2.2.1 = some (tyJ0 k) := by decide +kernel
abbrev cJ0_init_81219 : ByteArray := prog_25_method_53_code
def yJ0_init_81219 : MethodName := ⟨RJ0, "<init>", "(Ljava/lang/StringBuilder;)V"⟩
abbrev cJ0_length_8abf5 : ByteArray := prog_25_method_54_code
def yJ0_length_8abf5 : MethodName := ⟨RJ0, "length", "()I"⟩
abbrev cJ0_charAt_5068e : ByteArray := prog_25_method_56_code
def yJ0_charAt_5068e : MethodName := ⟨RJ0, "charAt", "(I)C"⟩
abbrev cJ0_getBytes_840e7 : ByteArray := prog_25_method_147_code
def yJ0_getBytes_840e7 : MethodName := ⟨RJ0, "getBytes", "([BIB)V"⟩
abbrev cJ0_init_db425 : ByteArray := prog_25_method_150_code
def yJ0_init_db425 : MethodName := ⟨RJ0, "<init>", "(Ljava/lang/AbstractStringBuilder;Ljava/lang/Void;)V"⟩
abbrev cJ0_coder_7d493 : ByteArray := prog_25_method_152_code
def yJ0_coder_7d493 : MethodName := ⟨RJ0, "coder", "()B"⟩
abbrev cJ0_isLatin1_aae02 : ByteArray := prog_25_method_154_code
def yJ0_isLatin1_aae02 : MethodName := ⟨RJ0, "isLatin1", "()Z"⟩
abbrev cJ0_checkIndex_df160 : ByteArray := prog_25_method_155_code
def yJ0_checkIndex_df160 : MethodName := ⟨RJ0, "checkIndex", "(II)V"⟩
abbrev cJ0_checkBoundsOffCount_cabcc : ByteArray := prog_25_method_157_code
def yJ0_checkBoundsOffCount_cabcc : MethodName := ⟨RJ0, "checkBoundsOffCount", "(III)I"⟩
abbrev cJ0_checkBoundsBeginEnd_23922 : ByteArray := prog_25_method_158_code
def yJ0_checkBoundsBeginEnd_23922 : MethodName := ⟨RJ0, "checkBoundsBeginEnd", "(III)V"⟩
def RJ4 : String := "java/lang/StringBuilder"
def TJ4 : u_T := fun k => match k with
  | 0 => ("java/lang/AbstractStringBuilder", "value", "[B", false)
  | 1 => ("java/lang/AbstractStringBuilder", "coder", "B", false)
  | 2 => ("java/lang/AbstractStringBuilder", "maybeLatin1", "Z", false)
  | _ => ("java/lang/AbstractStringBuilder", "count", "I", false)
def tyJ4 : Nat → FieldType := fun k => match k with
  | 0 => .array .byte
  | 1 => .byte
  | 2 => .boolean
  | _ => .int
theorem nmJ4 : ∀ a, a < 4 → ∀ b, b < 4 → a ≠ b → (TJ4 a).2.1 ≠ (TJ4 b).2.1 := by decide +kernel
theorem tyJ4_ok : ∀ k, k < 4 → parseFieldDescriptor (TJ4 k).2.2.1 = some (tyJ4 k) := by decide +kernel
abbrev cJ4_init_da8c8 : ByteArray := prog_26_method_1_code
def yJ4_init_da8c8 : MethodName := ⟨RJ4, "<init>", "()V"⟩
abbrev cJ4_append_15ec4 : ByteArray := prog_26_method_7_code
def yJ4_append_15ec4 : MethodName := ⟨RJ4, "append", "(Ljava/lang/String;)Ljava/lang/StringBuilder;"⟩
abbrev cJ4_append_bf812 : ByteArray := prog_26_method_15_code
def yJ4_append_bf812 : MethodName := ⟨RJ4, "append", "(I)Ljava/lang/StringBuilder;"⟩
abbrev cJ4_toString_0e30d : ByteArray := prog_26_method_42_code
def yJ4_toString_0e30d : MethodName := ⟨RJ4, "toString", "()Ljava/lang/String;"⟩
abbrev cJ4_length_8abf5 : ByteArray := prog_26_method_93_code
def yJ4_length_8abf5 : MethodName := ⟨RJ4, "length", "()I"⟩
def RJ1 : String := "java/lang/StringLatin1"
def TJ1 : u_T := fun k => match k with
  | _ => ("", "", "", false)
def tyJ1 : Nat → FieldType := fun k => match k with
  | _ => .int
theorem nmJ1 : ∀ a, a < 0 → ∀ b, b < 0 → a ≠ b → (TJ1 a).2.1 ≠ (TJ1 b).2.1 := by decide +kernel
theorem tyJ1_ok : ∀ k, k < 0 → parseFieldDescriptor (TJ1 k).2.2.1 = some (tyJ1 k) := by decide +kernel
abbrev cJ1_charAt_3b067 : ByteArray := prog_27_method_2_code
def yJ1_charAt_3b067 : MethodName := ⟨RJ1, "charAt", "([BI)C"⟩
abbrev cJ1_inflate_0e8fd : ByteArray := prog_27_method_50_code
def yJ1_inflate_0e8fd : MethodName := ⟨RJ1, "inflate", "([BI[BII)V"⟩
def RJ2 : String := "java/lang/StringUTF16"
def TJ2 : u_T := fun k => match k with
  | _ => ("", "", "", false)
def tyJ2 : Nat → FieldType := fun k => match k with
  | _ => .int
theorem nmJ2 : ∀ a, a < 0 → ∀ b, b < 0 → a ≠ b → (TJ2 a).2.1 ≠ (TJ2 b).2.1 := by decide +kernel
theorem tyJ2_ok : ∀ k, k < 0 → parseFieldDescriptor (TJ2 k).2.2.1 = some (tyJ2 k) := by decide +kernel
abbrev cJ2_newBytesFor_77867 : ByteArray := prog_28_method_2_code
def yJ2_newBytesFor_77867 : MethodName := ⟨RJ2, "newBytesFor", "(I)[B"⟩
abbrev cJ2_newBytesLength_0f7a4 : ByteArray := prog_28_method_3_code
def yJ2_newBytesLength_0f7a4 : MethodName := ⟨RJ2, "newBytesLength", "(I)I"⟩
abbrev cJ2_putChar_b72d1 : ByteArray := prog_28_method_4_code
def yJ2_putChar_b72d1 : MethodName := ⟨RJ2, "putChar", "([BII)V"⟩
abbrev cJ2_getChar_3b067 : ByteArray := prog_28_method_5_code
def yJ2_getChar_3b067 : MethodName := ⟨RJ2, "getChar", "([BI)C"⟩
abbrev cJ2_length_9d52b : ByteArray := prog_28_method_6_code
def yJ2_length_9d52b : MethodName := ⟨RJ2, "length", "([B)I"⟩
abbrev cJ2_coderFromArrayLen_85cad : ByteArray := prog_28_method_15_code
def yJ2_coderFromArrayLen_85cad : MethodName := ⟨RJ2, "coderFromArrayLen", "([BI)B"⟩
abbrev cJ2_compress_39247 : ByteArray := prog_28_method_17_code
def yJ2_compress_39247 : MethodName := ⟨RJ2, "compress", "([BII)[B"⟩
abbrev cJ2_compress_5af95 : ByteArray := prog_28_method_22_code
def yJ2_compress_5af95 : MethodName := ⟨RJ2, "compress", "([BI[BII)I"⟩
abbrev cJ2_getChars_46870 : ByteArray := prog_28_method_77_code
def yJ2_getChars_46870 : MethodName := ⟨RJ2, "getChars", "(III[B)I"⟩
abbrev cJ2_putCharsAt_cd4e5 : ByteArray := prog_28_method_81_code
def yJ2_putCharsAt_cd4e5 : MethodName := ⟨RJ2, "putCharsAt", "([BICCCC)I"⟩
abbrev cJ2_charAt_3b067 : ByteArray := prog_28_method_83_code
def yJ2_charAt_3b067 : MethodName := ⟨RJ2, "charAt", "([BI)C"⟩
abbrev cJ2_inflate_0e8fd : ByteArray := prog_28_method_86_code
def yJ2_inflate_0e8fd : MethodName := ⟨RJ2, "inflate", "([BI[BII)V"⟩
abbrev cJ2_getChars_ba4f3 : ByteArray := prog_28_method_89_code
def yJ2_getChars_ba4f3 : MethodName := ⟨RJ2, "getChars", "(II[B)I"⟩
abbrev cJ2_checkIndex_2214a : ByteArray := prog_28_method_91_code
def yJ2_checkIndex_2214a : MethodName := ⟨RJ2, "checkIndex", "(I[B)V"⟩
abbrev cJ2_checkBoundsBeginEnd_d044e : ByteArray := prog_28_method_93_code
def yJ2_checkBoundsBeginEnd_d044e : MethodName := ⟨RJ2, "checkBoundsBeginEnd", "(II[B)V"⟩
abbrev cJ2_checkBoundsOffCount_d044e : ByteArray := prog_28_method_94_code
def yJ2_checkBoundsOffCount_d044e : MethodName := ⟨RJ2, "checkBoundsOffCount", "(II[B)V"⟩
def RJ10 : String := "java/lang/System"
def TJ10 : u_T := fun k => match k with
  | _ => ("", "", "", false)
def tyJ10 : Nat → FieldType := fun k => match k with
  | _ => .int
theorem nmJ10 : ∀ a, a < 0 → ∀ b, b < 0 → a ≠ b → (TJ10 a).2.1 ≠ (TJ10 b).2.1 := by decide +kernel
theorem tyJ10_ok : ∀ k, k < 0 → parseFieldDescriptor (TJ10 k).2.2.1 = some (tyJ10 k) := by decide +kernel
def RJxfd54e : String := "java/lang/constant/Constable"
def TJxfd54e : u_T := fun k => match k with
  | _ => ("", "", "", false)
def tyJxfd54e : Nat → FieldType := fun k => match k with
  | _ => .int
theorem nmJxfd54e : ∀ a, a < 0 → ∀ b, b < 0 → a ≠ b → (TJxfd54e a).2.1 ≠ (TJxfd54e b).2.1 := by decide +kernel
theorem tyJxfd54e_ok : ∀ k, k < 0 → parseFieldDescriptor (TJxfd54e k).2.2.1 = some (tyJxfd54e k) := by decide +kernel
def RJx3cf43 : String := "java/lang/constant/ConstantDesc"
def TJx3cf43 : u_T := fun k => match k with
  | _ => ("", "", "", false)
def tyJx3cf43 : Nat → FieldType := fun k => match k with
  | _ => .int
theorem nmJx3cf43 : ∀ a, a < 0 → ∀ b, b < 0 → a ≠ b → (TJx3cf43 a).2.1 ≠ (TJx3cf43 b).2.1 := by decide +kernel
theorem tyJx3cf43_ok : ∀ k, k < 0 → parseFieldDescriptor (TJx3cf43 k).2.2.1 = some (tyJx3cf43 k) := by decide +kernel
def RJ7 : String := "java/util/Arrays"
def TJ7 : u_T := fun k => match k with
  | _ => ("", "", "", false)
def tyJ7 : Nat → FieldType := fun k => match k with
  | _ => .int
theorem nmJ7 : ∀ a, a < 0 → ∀ b, b < 0 → a ≠ b → (TJ7 a).2.1 ≠ (TJ7 b).2.1 := by decide +kernel
theorem tyJ7_ok : ∀ k, k < 0 → parseFieldDescriptor (TJ7 k).2.2.1 = some (tyJ7 k) := by decide +kernel
abbrev cJ7_fill_53178 : ByteArray := prog_31_method_103_code
def yJ7_fill_53178 : MethodName := ⟨RJ7, "fill", "([II)V"⟩
abbrev cJ7_copyOf_9075b : ByteArray := prog_31_method_121_code
def yJ7_copyOf_9075b : MethodName := ⟨RJ7, "copyOf", "([BI)[B"⟩
abbrev cJ7_checkLength_df160 : ByteArray := prog_31_method_131_code
def yJ7_checkLength_df160 : MethodName := ⟨RJ7, "checkLength", "(II)V"⟩
abbrev cJ7_copyOfRange_39247 : ByteArray := prog_31_method_132_code
def yJ7_copyOfRange_39247 : MethodName := ⟨RJ7, "copyOfRange", "([BII)[B"⟩
abbrev cJ7_copyOfRangeByte_39247 : ByteArray := prog_31_method_133_code
def yJ7_copyOfRangeByte_39247 : MethodName := ⟨RJ7, "copyOfRangeByte", "([BII)[B"⟩
def RJ8 : String := "jdk/internal/util/ArraysSupport"
def TJ8 : u_T := fun k => match k with
  | _ => ("", "", "", false)
def tyJ8 : Nat → FieldType := fun k => match k with
  | _ => .int
theorem nmJ8 : ∀ a, a < 0 → ∀ b, b < 0 → a ≠ b → (TJ8 a).2.1 ≠ (TJ8 b).2.1 := by decide +kernel
theorem tyJ8_ok : ∀ k, k < 0 → parseFieldDescriptor (TJ8 k).2.2.1 = some (tyJ8 k) := by decide +kernel
abbrev cJ8_newLength_cabcc : ByteArray := prog_32_method_27_code
def yJ8_newLength_cabcc : MethodName := ⟨RJ8, "newLength", "(III)I"⟩
abbrev cJ8_hugeLength_7cf53 : ByteArray := prog_32_method_28_code
def yJ8_hugeLength_7cf53 : MethodName := ⟨RJ8, "hugeLength", "(II)I"⟩
def RJ3 : String := "jdk/internal/util/Preconditions"
def TJ3 : u_T := fun k => match k with
  | _ => ("", "", "", false)
def tyJ3 : Nat → FieldType := fun k => match k with
  | _ => .int
theorem nmJ3 : ∀ a, a < 0 → ∀ b, b < 0 → a ≠ b → (TJ3 a).2.1 ≠ (TJ3 b).2.1 := by decide +kernel
theorem tyJ3_ok : ∀ k, k < 0 → parseFieldDescriptor (TJ3 k).2.2.1 = some (tyJ3 k) := by decide +kernel
abbrev cJ3_checkIndex_8e157 : ByteArray := prog_33_method_11_code
def yJ3_checkIndex_8e157 : MethodName := ⟨RJ3, "checkIndex", "(IILjava/util/function/BiFunction;)I"⟩
abbrev cJ3_checkFromToIndex_8c36e : ByteArray := prog_33_method_12_code
def yJ3_checkFromToIndex_8c36e : MethodName := ⟨RJ3, "checkFromToIndex", "(IIILjava/util/function/BiFunction;)I"⟩
abbrev cJ3_checkFromIndexSize_8c36e : ByteArray := prog_33_method_13_code
def yJ3_checkFromIndexSize_8c36e : MethodName := ⟨RJ3, "checkFromIndexSize", "(IIILjava/util/function/BiFunction;)I"⟩
def RL : String := "BeltRoundsLaw"
abbrev cL_below : ByteArray := method_2_code
def yL_below : MethodName := ⟨RL, "below", "(II)I"⟩
abbrev cL_cell : ByteArray := method_3_code
def yL_cell : MethodName := ⟨RL, "cell", "([II)I"⟩
abbrev cL_taught : ByteArray := method_4_code
def yL_taught : MethodName := ⟨RL, "taught", "(LBeltRounds;Ljava/lang/String;)I"⟩
abbrev cL_sum : ByteArray := method_5_code
def yL_sum : MethodName := ⟨RL, "sum", "(II)LBeltRoundsLaw$Tree;"⟩
abbrev cL_test : ByteArray := method_6_code
def yL_test : MethodName := ⟨RL, "test", "(II)LBeltRoundsLaw$Tree;"⟩
abbrev cL_told : ByteArray := method_7_code
def yL_told : MethodName := ⟨RL, "told", "([IILjava/lang/StringBuilder;)LBeltRoundsLaw$Sim;"⟩
abbrev cL_act : ByteArray := method_8_code
def yL_act : MethodName := ⟨RL, "act", "(LBeltRounds;LBeltRoundsLaw$Sim;I)Z"⟩
abbrev cL_law : ByteArray := code
def yL_law : MethodName := ⟨RL, "law", "([I)Z"⟩
abbrev cL_isOpen : ByteArray := method_10_code
def yL_isOpen : MethodName := ⟨RL, "isOpen", "(LBeltRounds;I)Z"⟩
abbrev cL_pairs : ByteArray := method_11_code
def yL_pairs : MethodName := ⟨RL, "pairs", "(LBeltRounds;LBeltRoundsLaw$Sim;)Z"⟩
abbrev vwCl : List vw_C := [(RX0, TX0, 12), (RX1, TX1, 9), (RX2, TX2, 9), (RX3, TX3, 8), (RX5, TX5, 6), (RX6, TX6, 6), (RX7, TX7, 9), (RX8, TX8, 4), (RJ0, TJ0, 4), (RJ4, TJ4, 4)]
