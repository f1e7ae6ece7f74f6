/-! names, by program (wip/whole/gen_names.py) out of the claim's own printed texts -/
def RX0 : String := "SnailLaws$Forecast"
def TX0 : u_T := fun k => match k with
  | 0 => ("SnailLaws$Forecast", "draft", "LSnailLaws$Republic;", true)
  | _ => ("SnailLaws$Forecast", "ways", "LSnailLaws$Ways;", true)
def tyX0 : Nat → FieldType := fun k => match k with
  | 0 => .object "SnailLaws$Republic"
  | _ => .object "SnailLaws$Ways"
theorem nmX0 : ∀ a, a < 2 → ∀ b, b < 2 → a ≠ b → (TX0 a).2.1 ≠ (TX0 b).2.1 := by decide +kernel
theorem tyX0_ok : ∀ k, k < 2 → parseFieldDescriptor (TX0 k).2.2.1 = some (tyX0 k) := by decide +kernel
abbrev cX0_init : ByteArray := prog_2_method_1_code
def yX0_init : MethodName := ⟨RX0, "<init>", "()V"⟩
abbrev cX0_draftOf : ByteArray := prog_2_method_2_code
def yX0_draftOf : MethodName := ⟨RX0, "draftOf", "(LSnailLaws$Republic;)LSnailLaws$Republic;"⟩
abbrev cX0_survey : ByteArray := prog_2_method_3_code
def yX0_survey : MethodName := ⟨RX0, "survey", "(LSnailLaws$Republic;)V"⟩
abbrev cX0_behind : ByteArray := prog_2_method_4_code
def yX0_behind : MethodName := ⟨RX0, "behind", "(LSnailLaws$Republic;I)LSnailLaws$Republic;"⟩
abbrev cX0_passDay : ByteArray := prog_2_method_5_code
def yX0_passDay : MethodName := ⟨RX0, "passDay", "()V"⟩
abbrev cX0_daysToLaw : ByteArray := prog_2_method_6_code
def yX0_daysToLaw : MethodName := ⟨RX0, "daysToLaw", "(LSnailLaws$Republic;III)I"⟩
abbrev cX0_daysToGate : ByteArray := prog_2_method_7_code
def yX0_daysToGate : MethodName := ⟨RX0, "daysToGate", "(LSnailLaws$Republic;II)I"⟩
abbrev cX0_daysToOvertake : ByteArray := prog_2_method_8_code
def yX0_daysToOvertake : MethodName := ⟨RX0, "daysToOvertake", "(LSnailLaws$Republic;II)I"⟩
abbrev cX0_isNearer : ByteArray := prog_2_method_9_code
def yX0_isNearer : MethodName := ⟨RX0, "isNearer", "(II)Z"⟩
abbrev cX0_cellOfMostClashes : ByteArray := prog_2_method_10_code
def yX0_cellOfMostClashes : MethodName := ⟨RX0, "cellOfMostClashes", "(LSnailLaws$Republic;I)I"⟩
abbrev cX0_cheapestSet : ByteArray := prog_2_method_11_code
def yX0_cheapestSet : MethodName := ⟨RX0, "cheapestSet", "(LSnailLaws$Republic;III)I"⟩
abbrev cX0_bringsLaw : ByteArray := prog_2_method_12_code
def yX0_bringsLaw : MethodName := ⟨RX0, "bringsLaw", "(LSnailLaws$Republic;IIII)Z"⟩
abbrev cX0_bearsLaw : ByteArray := prog_2_method_13_code
def yX0_bearsLaw : MethodName := ⟨RX0, "bearsLaw", "(LSnailLaws$Republic;II)Z"⟩
abbrev cX0_farthestStart : ByteArray := prog_2_method_14_code
def yX0_farthestStart : MethodName := ⟨RX0, "farthestStart", "(LSnailLaws$Republic;II)I"⟩
abbrev cX0_arrivesFrom : ByteArray := prog_2_method_15_code
def yX0_arrivesFrom : MethodName := ⟨RX0, "arrivesFrom", "(LSnailLaws$Republic;III)Z"⟩
abbrev cX0_leavesTrail : ByteArray := prog_2_method_16_code
def yX0_leavesTrail : MethodName := ⟨RX0, "leavesTrail", "(LSnailLaws$Republic;IILSnailLaws$Sheets;I)Z"⟩
def RX1 : String := "SnailLaws$Republic"
def TX1 : u_T := fun k => match k with
  | 0 => ("SnailLaws$Republic", "hedges", "[I", true)
  | 1 => ("SnailLaws$Republic", "leaves", "[I", true)
  | 2 => ("SnailLaws$Republic", "laws", "[I", true)
  | 3 => ("SnailLaws$Republic", "met", "[I", true)
  | 4 => ("SnailLaws$Republic", "banned", "[I", true)
  | 5 => ("SnailLaws$Republic", "kinds", "[I", true)
  | 6 => ("SnailLaws$Republic", "ats", "[I", true)
  | 7 => ("SnailLaws$Republic", "edicts", "[I", true)
  | 8 => ("SnailLaws$Republic", "gates", "[I", true)
  | 9 => ("SnailLaws$Republic", "prices", "[I", true)
  | 10 => ("SnailLaws$Republic", "spots", "[I", true)
  | 11 => ("SnailLaws$Republic", "snails", "I", false)
  | 12 => ("SnailLaws$Republic", "wet", "I", false)
  | 13 => ("SnailLaws$Republic", "thrush", "I", false)
  | 14 => ("SnailLaws$Republic", "day", "I", false)
  | 15 => ("SnailLaws$Republic", "clashes", "I", false)
  | _ => ("SnailLaws$Republic", "z", "I", false)
def tyX1 : Nat → FieldType := fun k => match k with
  | 0 => .array .int
  | 1 => .array .int
  | 2 => .array .int
  | 3 => .array .int
  | 4 => .array .int
  | 5 => .array .int
  | 6 => .array .int
  | 7 => .array .int
  | 8 => .array .int
  | 9 => .array .int
  | 10 => .array .int
  | 11 => .int
  | 12 => .int
  | 13 => .int
  | 14 => .int
  | 15 => .int
  | _ => .int
theorem nmX1 : ∀ a, a < 17 → ∀ b, b < 17 → a ≠ b → (TX1 a).2.1 ≠ (TX1 b).2.1 := by decide +kernel
theorem tyX1_ok : ∀ k, k < 17 → parseFieldDescriptor (TX1 k).2.2.1 = some (tyX1 k) := by decide +kernel
abbrev cX1_init : ByteArray := prog_3_method_1_code
def yX1_init : MethodName := ⟨RX1, "<init>", "()V"⟩
abbrev cX1_become : ByteArray := prog_3_method_2_code
def yX1_become : MethodName := ⟨RX1, "become", "(LSnailLaws$Republic;)V"⟩
abbrev cX1_addSnail : ByteArray := prog_3_method_3_code
def yX1_addSnail : MethodName := ⟨RX1, "addSnail", "(II)I"⟩
abbrev cX1_traitRow : ByteArray := prog_3_method_4_code
def yX1_traitRow : MethodName := ⟨RX1, "traitRow", "(I)[I"⟩
abbrev cX1_movesOf : ByteArray := prog_3_method_5_code
def yX1_movesOf : MethodName := ⟨RX1, "movesOf", "(I)I"⟩
abbrev cX1_passDays : ByteArray := prog_3_method_6_code
def yX1_passDays : MethodName := ⟨RX1, "passDays", "(LSnailLaws$Ways;II)V"⟩
abbrev cX1_passDayOf : ByteArray := prog_3_method_7_code
def yX1_passDayOf : MethodName := ⟨RX1, "passDayOf", "(ILSnailLaws$Ways;)V"⟩
abbrev cX1_comeUnder : ByteArray := prog_3_method_8_code
def yX1_comeUnder : MethodName := ⟨RX1, "comeUnder", "(II)V"⟩
abbrev cX1_drawThrushes : ByteArray := prog_3_method_9_code
def yX1_drawThrushes : MethodName := ⟨RX1, "drawThrushes", "()I"⟩
abbrev cX1_isLawful : ByteArray := prog_3_method_10_code
def yX1_isLawful : MethodName := ⟨RX1, "isLawful", "(II)Z"⟩
abbrev cX1_openCellsFor : ByteArray := prog_3_method_11_code
def yX1_openCellsFor : MethodName := ⟨RX1, "openCellsFor", "(I)I"⟩
abbrev cX1_freeDeeds : ByteArray := prog_3_method_12_code
def yX1_freeDeeds : MethodName := ⟨RX1, "freeDeeds", "()I"⟩
abbrev cX1_cellsUnder : ByteArray := prog_3_method_13_code
def yX1_cellsUnder : MethodName := ⟨RX1, "cellsUnder", "(I)I"⟩
abbrev cX1_cellsWithLaw : ByteArray := prog_3_method_14_code
def yX1_cellsWithLaw : MethodName := ⟨RX1, "cellsWithLaw", "()I"⟩
abbrev cX1_allLeaves : ByteArray := prog_3_method_15_code
def yX1_allLeaves : MethodName := ⟨RX1, "allLeaves", "()I"⟩
abbrev cX1_allHedges : ByteArray := prog_3_method_16_code
def yX1_allHedges : MethodName := ⟨RX1, "allHedges", "()I"⟩
abbrev cX1_sumOf : ByteArray := prog_3_method_17_code
def yX1_sumOf : MethodName := ⟨RX1, "sumOf", "([I)I"⟩
abbrev cX1_arrivedSnails : ByteArray := prog_3_method_18_code
def yX1_arrivedSnails : MethodName := ⟨RX1, "arrivedSnails", "()I"⟩
abbrev cX1_heldSpots : ByteArray := prog_3_method_19_code
def yX1_heldSpots : MethodName := ⟨RX1, "heldSpots", "()I"⟩
abbrev cX1_priceOf : ByteArray := prog_3_method_20_code
def yX1_priceOf : MethodName := ⟨RX1, "priceOf", "(I)I"⟩
def RX2 : String := "SnailLaws$Sheets"
def TX2 : u_T := fun k => match k with
  | 0 => ("SnailLaws$Sheets", "bits", "[I", true)
  | 1 => ("SnailLaws$Sheets", "sizes", "[I", true)
  | _ => ("SnailLaws$Sheets", "numbers", "[I", true)
def tyX2 : Nat → FieldType := fun k => match k with
  | 0 => .array .int
  | 1 => .array .int
  | _ => .array .int
theorem nmX2 : ∀ a, a < 3 → ∀ b, b < 3 → a ≠ b → (TX2 a).2.1 ≠ (TX2 b).2.1 := by decide +kernel
theorem tyX2_ok : ∀ k, k < 3 → parseFieldDescriptor (TX2 k).2.2.1 = some (tyX2 k) := by decide +kernel
abbrev cX2_init : ByteArray := prog_4_method_1_code
def yX2_init : MethodName := ⟨RX2, "<init>", "()V"⟩
abbrev cX2_isMissing : ByteArray := prog_4_method_2_code
def yX2_isMissing : MethodName := ⟨RX2, "isMissing", "(I)Z"⟩
abbrev cX2_lay : ByteArray := prog_4_method_3_code
def yX2_lay : MethodName := ⟨RX2, "lay", "(III)V"⟩
abbrev cX2_numberAt : ByteArray := prog_4_method_4_code
def yX2_numberAt : MethodName := ⟨RX2, "numberAt", "(II)I"⟩
abbrev cX2_put : ByteArray := prog_4_method_5_code
def yX2_put : MethodName := ⟨RX2, "put", "(III)V"⟩
abbrev cX2_hasRun : ByteArray := prog_4_method_6_code
def yX2_hasRun : MethodName := ⟨RX2, "hasRun", "(III)Z"⟩
abbrev cX2_carry : ByteArray := prog_4_method_7_code
def yX2_carry : MethodName := ⟨RX2, "carry", "(IIIII)V"⟩
def RX3 : String := "SnailLaws$Tape"
def TX3 : u_T := fun k => match k with
  | 0 => ("SnailLaws$Tape", "size", "I", false)
  | 1 => ("SnailLaws$Tape", "bytes", "[I", true)
  | 2 => ("SnailLaws$Tape", "sorts", "[I", true)
  | 3 => ("SnailLaws$Tape", "starts", "[I", true)
  | 4 => ("SnailLaws$Tape", "ends", "[I", true)
  | 5 => ("SnailLaws$Tape", "values", "[I", true)
  | _ => ("SnailLaws$Tape", "at", "I", false)
def tyX3 : Nat → FieldType := fun k => match k with
  | 0 => .int
  | 1 => .array .int
  | 2 => .array .int
  | 3 => .array .int
  | 4 => .array .int
  | 5 => .array .int
  | _ => .int
theorem nmX3 : ∀ a, a < 7 → ∀ b, b < 7 → a ≠ b → (TX3 a).2.1 ≠ (TX3 b).2.1 := by decide +kernel
theorem tyX3_ok : ∀ k, k < 7 → parseFieldDescriptor (TX3 k).2.2.1 = some (tyX3 k) := by decide +kernel
abbrev cX3_init : ByteArray := prog_5_method_1_code
def yX3_init : MethodName := ⟨RX3, "<init>", "()V"⟩
abbrev cX3_append : ByteArray := prog_5_method_2_code
def yX3_append : MethodName := ⟨RX3, "append", "(II)Z"⟩
abbrev cX3_readInto : ByteArray := prog_5_method_3_code
def yX3_readInto : MethodName := ⟨RX3, "readInto", "(LSnailLaws$Republic;)I"⟩
abbrev cX3_cutTokens : ByteArray := prog_5_method_4_code
def yX3_cutTokens : MethodName := ⟨RX3, "cutTokens", "()V"⟩
abbrev cX3_cutToken : ByteArray := prog_5_method_5_code
def yX3_cutToken : MethodName := ⟨RX3, "cutToken", "(II)I"⟩
abbrev cX3_sortOf : ByteArray := prog_5_method_6_code
def yX3_sortOf : MethodName := ⟨RX3, "sortOf", "(I)I"⟩
abbrev cX3_valueOf : ByteArray := prog_5_method_7_code
def yX3_valueOf : MethodName := ⟨RX3, "valueOf", "(II)I"⟩
abbrev cX3_readItem : ByteArray := prog_5_method_8_code
def yX3_readItem : MethodName := ⟨RX3, "readItem", "(LSnailLaws$Republic;)Z"⟩
abbrev cX3_kindNamed : ByteArray := prog_5_method_9_code
def yX3_kindNamed : MethodName := ⟨RX3, "kindNamed", "()I"⟩
abbrev cX3_readSnail : ByteArray := prog_5_method_10_code
def yX3_readSnail : MethodName := ⟨RX3, "readSnail", "(LSnailLaws$Republic;I)Z"⟩
abbrev cX3_readHedge : ByteArray := prog_5_method_11_code
def yX3_readHedge : MethodName := ⟨RX3, "readHedge", "(LSnailLaws$Republic;)Z"⟩
abbrev cX3_readGreens : ByteArray := prog_5_method_12_code
def yX3_readGreens : MethodName := ⟨RX3, "readGreens", "(LSnailLaws$Republic;)Z"⟩
abbrev cX3_readBans : ByteArray := prog_5_method_13_code
def yX3_readBans : MethodName := ⟨RX3, "readBans", "(LSnailLaws$Republic;)Z"⟩
abbrev cX3_readWet : ByteArray := prog_5_method_14_code
def yX3_readWet : MethodName := ⟨RX3, "readWet", "(LSnailLaws$Republic;)Z"⟩
abbrev cX3_readThrush : ByteArray := prog_5_method_15_code
def yX3_readThrush : MethodName := ⟨RX3, "readThrush", "(LSnailLaws$Republic;)Z"⟩
abbrev cX3_isWord : ByteArray := prog_5_method_16_code
def yX3_isWord : MethodName := ⟨RX3, "isWord", "(Ljava/lang/String;)Z"⟩
abbrev cX3_skipWord : ByteArray := prog_5_method_17_code
def yX3_skipWord : MethodName := ⟨RX3, "skipWord", "(Ljava/lang/String;)Z"⟩
abbrev cX3_takeNumber : ByteArray := prog_5_method_18_code
def yX3_takeNumber : MethodName := ⟨RX3, "takeNumber", "(I)I"⟩
abbrev cX3_takePart : ByteArray := prog_5_method_19_code
def yX3_takePart : MethodName := ⟨RX3, "takePart", "(Ljava/lang/String;II)I"⟩
def RX4 : String := "SnailLaws$Ways"
def TX4 : u_T := fun k => match k with
  | 0 => ("SnailLaws$Ways", "steps", "[I", true)
  | 1 => ("SnailLaws$Ways", "open", "[Z", true)
  | 2 => ("SnailLaws$Ways", "queue", "[I", true)
  | 3 => ("SnailLaws$Ways", "gateSteps", "[I", true)
  | _ => ("SnailLaws$Ways", "nextCells", "[I", true)
def tyX4 : Nat → FieldType := fun k => match k with
  | 0 => .array .int
  | 1 => .array .boolean
  | 2 => .array .int
  | 3 => .array .int
  | _ => .array .int
theorem nmX4 : ∀ a, a < 5 → ∀ b, b < 5 → a ≠ b → (TX4 a).2.1 ≠ (TX4 b).2.1 := by decide +kernel
theorem tyX4_ok : ∀ k, k < 5 → parseFieldDescriptor (TX4 k).2.2.1 = some (tyX4 k) := by decide +kernel
abbrev cX4_init : ByteArray := prog_6_method_1_code
def yX4_init : MethodName := ⟨RX4, "<init>", "()V"⟩
abbrev cX4_openLand : ByteArray := prog_6_method_2_code
def yX4_openLand : MethodName := ⟨RX4, "openLand", "(LSnailLaws$Republic;)V"⟩
abbrev cX4_openFor : ByteArray := prog_6_method_3_code
def yX4_openFor : MethodName := ⟨RX4, "openFor", "(LSnailLaws$Republic;I)V"⟩
abbrev cX4_measure : ByteArray := prog_6_method_4_code
def yX4_measure : MethodName := ⟨RX4, "measure", "(I)V"⟩
abbrev cX4_spreadFrom : ByteArray := prog_6_method_5_code
def yX4_spreadFrom : MethodName := ⟨RX4, "spreadFrom", "(II)I"⟩
abbrev cX4_survey : ByteArray := prog_6_method_6_code
def yX4_survey : MethodName := ⟨RX4, "survey", "(LSnailLaws$Republic;)V"⟩
abbrev cX4_nearerThan : ByteArray := prog_6_method_7_code
def yX4_nearerThan : MethodName := ⟨RX4, "nearerThan", "(I)I"⟩
abbrev cX4_gateStepsOf : ByteArray := prog_6_method_8_code
def yX4_gateStepsOf : MethodName := ⟨RX4, "gateStepsOf", "(II)I"⟩
abbrev cX4_nextOf : ByteArray := prog_6_method_9_code
def yX4_nextOf : MethodName := ⟨RX4, "nextOf", "(II)I"⟩
def RX5 : String := "SnailLaws"
def TX5 : u_T := fun k => match k with
  | 0 => ("SnailLaws", "real", "LSnailLaws$Republic;", true)
  | 1 => ("SnailLaws", "kept", "LSnailLaws$Republic;", true)
  | 2 => ("SnailLaws", "forecast", "LSnailLaws$Forecast;", true)
  | 3 => ("SnailLaws", "ways", "LSnailLaws$Ways;", true)
  | 4 => ("SnailLaws", "tape", "LSnailLaws$Tape;", true)
  | 5 => ("SnailLaws", "sheets", "LSnailLaws$Sheets;", true)
  | 6 => ("SnailLaws", "told", "[I", true)
  | _ => ("SnailLaws", "isKept", "Z", false)
def tyX5 : Nat → FieldType := fun k => match k with
  | 0 => .object "SnailLaws$Republic"
  | 1 => .object "SnailLaws$Republic"
  | 2 => .object "SnailLaws$Forecast"
  | 3 => .object "SnailLaws$Ways"
  | 4 => .object "SnailLaws$Tape"
  | 5 => .object "SnailLaws$Sheets"
  | 6 => .array .int
  | _ => .boolean
theorem nmX5 : ∀ a, a < 8 → ∀ b, b < 8 → a ≠ b → (TX5 a).2.1 ≠ (TX5 b).2.1 := by decide +kernel
theorem tyX5_ok : ∀ k, k < 8 → parseFieldDescriptor (TX5 k).2.2.1 = some (tyX5 k) := by decide +kernel
abbrev cX5_init : ByteArray := prog_1_method_1_code
def yX5_init : MethodName := ⟨RX5, "<init>", "()V"⟩
abbrev cX5_hedge : ByteArray := prog_1_method_2_code
def yX5_hedge : MethodName := ⟨RX5, "hedge", "(II)I"⟩
abbrev cX5_greens : ByteArray := prog_1_method_3_code
def yX5_greens : MethodName := ⟨RX5, "greens", "(II)I"⟩
abbrev cX5_land : ByteArray := prog_1_method_4_code
def yX5_land : MethodName := ⟨RX5, "land", "(II)I"⟩
abbrev cX5_far : ByteArray := prog_1_method_5_code
def yX5_far : MethodName := ⟨RX5, "far", "(II)I"⟩
abbrev cX5_snail : ByteArray := prog_1_method_6_code
def yX5_snail : MethodName := ⟨RX5, "snail", "(II)I"⟩
abbrev cX5_of : ByteArray := prog_1_method_7_code
def yX5_of : MethodName := ⟨RX5, "of", "(II)I"⟩
abbrev cX5_change : ByteArray := prog_1_method_8_code
def yX5_change : MethodName := ⟨RX5, "change", "(III)I"⟩
abbrev cX5_bans : ByteArray := prog_1_method_9_code
def yX5_bans : MethodName := ⟨RX5, "bans", "(II)I"⟩
abbrev cX5_set : ByteArray := prog_1_method_10_code
def yX5_set : MethodName := ⟨RX5, "set", "(II)I"⟩
abbrev cX5_go : ByteArray := prog_1_method_11_code
def yX5_go : MethodName := ⟨RX5, "go", "(I)I"⟩
abbrev cX5_now : ByteArray := prog_1_method_12_code
def yX5_now : MethodName := ⟨RX5, "now", "(I)I"⟩
abbrev cX5_realm : ByteArray := prog_1_method_13_code
def yX5_realm : MethodName := ⟨RX5, "realm", "(I)I"⟩
abbrev cX5_repeals : ByteArray := prog_1_method_14_code
def yX5_repeals : MethodName := ⟨RX5, "repeals", "()I"⟩
abbrev cX5_may : ByteArray := prog_1_method_15_code
def yX5_may : MethodName := ⟨RX5, "may", "(II)I"⟩
abbrev cX5_where : ByteArray := prog_1_method_16_code
def yX5_where : MethodName := ⟨RX5, "where", "(I)I"⟩
abbrev cX5_route : ByteArray := prog_1_method_17_code
def yX5_route : MethodName := ⟨RX5, "route", "(III)I"⟩
abbrev cX5_free : ByteArray := prog_1_method_18_code
def yX5_free : MethodName := ⟨RX5, "free", "()I"⟩
abbrev cX5_ahead : ByteArray := prog_1_method_19_code
def yX5_ahead : MethodName := ⟨RX5, "ahead", "(II)I"⟩
abbrev cX5_lawAt : ByteArray := prog_1_method_20_code
def yX5_lawAt : MethodName := ⟨RX5, "lawAt", "(II)I"⟩
abbrev cX5_reaches : ByteArray := prog_1_method_21_code
def yX5_reaches : MethodName := ⟨RX5, "reaches", "(II)I"⟩
abbrev cX5_wetFor : ByteArray := prog_1_method_22_code
def yX5_wetFor : MethodName := ⟨RX5, "wetFor", "(II)I"⟩
abbrev cX5_comes : ByteArray := prog_1_method_23_code
def yX5_comes : MethodName := ⟨RX5, "comes", "(I)I"⟩
abbrev cX5_kindFor : ByteArray := prog_1_method_24_code
def yX5_kindFor : MethodName := ⟨RX5, "kindFor", "(I)I"⟩
abbrev cX5_overtakes : ByteArray := prog_1_method_25_code
def yX5_overtakes : MethodName := ⟨RX5, "overtakes", "(II)I"⟩
abbrev cX5_lag : ByteArray := prog_1_method_26_code
def yX5_lag : MethodName := ⟨RX5, "lag", "(III)I"⟩
abbrev cX5_clash : ByteArray := prog_1_method_27_code
def yX5_clash : MethodName := ⟨RX5, "clash", "(I)I"⟩
abbrev cX5_release : ByteArray := prog_1_method_28_code
def yX5_release : MethodName := ⟨RX5, "release", "(III)I"⟩
abbrev cX5_costs : ByteArray := prog_1_method_29_code
def yX5_costs : MethodName := ⟨RX5, "costs", "(III)I"⟩
abbrev cX5_farthest : ByteArray := prog_1_method_30_code
def yX5_farthest : MethodName := ⟨RX5, "farthest", "(II)I"⟩
abbrev cX5_fits : ByteArray := prog_1_method_31_code
def yX5_fits : MethodName := ⟨RX5, "fits", "(II)I"⟩
abbrev cX5_began : ByteArray := prog_1_method_32_code
def yX5_began : MethodName := ⟨RX5, "began", "(II)I"⟩
abbrev cX5_thrushes : ByteArray := prog_1_method_33_code
def yX5_thrushes : MethodName := ⟨RX5, "thrushes", "(I)I"⟩
abbrev cX5_alone : ByteArray := prog_1_method_34_code
def yX5_alone : MethodName := ⟨RX5, "alone", "(II)J"⟩
abbrev cX5_seed : ByteArray := prog_1_method_35_code
def yX5_seed : MethodName := ⟨RX5, "seed", "(I)I"⟩
abbrev cX5_feed : ByteArray := prog_1_method_36_code
def yX5_feed : MethodName := ⟨RX5, "feed", "(II)I"⟩
abbrev cX5_wipe : ByteArray := prog_1_method_37_code
def yX5_wipe : MethodName := ⟨RX5, "wipe", "()I"⟩
abbrev cX5_text : ByteArray := prog_1_method_38_code
def yX5_text : MethodName := ⟨RX5, "text", "()I"⟩
abbrev cX5_hold : ByteArray := prog_1_method_39_code
def yX5_hold : MethodName := ⟨RX5, "hold", "(II)I"⟩
abbrev cX5_as : ByteArray := prog_1_method_40_code
def yX5_as : MethodName := ⟨RX5, "as", "(II)I"⟩
abbrev cX5_sheet : ByteArray := prog_1_method_41_code
def yX5_sheet : MethodName := ⟨RX5, "sheet", "(III)I"⟩
abbrev cX5_write : ByteArray := prog_1_method_42_code
def yX5_write : MethodName := ⟨RX5, "write", "(III)I"⟩
abbrev cX5_copy : ByteArray := prog_1_method_43_code
def yX5_copy : MethodName := ⟨RX5, "copy", "(IIIII)I"⟩
abbrev cX5_load : ByteArray := prog_1_method_44_code
def yX5_load : MethodName := ⟨RX5, "load", "(I)I"⟩
abbrev cX5_judge : ByteArray := prog_1_method_45_code
def yX5_judge : MethodName := ⟨RX5, "judge", "(I)I"⟩
abbrev cX5_image : ByteArray := prog_1_method_46_code
def yX5_image : MethodName := ⟨RX5, "image", "()I"⟩
abbrev cX5_undo : ByteArray := prog_1_method_47_code
def yX5_undo : MethodName := ⟨RX5, "undo", "()I"⟩
abbrev cX5_tear : ByteArray := prog_1_method_48_code
def yX5_tear : MethodName := ⟨RX5, "tear", "()I"⟩
abbrev cX5_count : ByteArray := prog_1_method_49_code
def yX5_count : MethodName := ⟨RX5, "count", "(I)I"⟩
abbrev cX5_status : ByteArray := prog_1_method_50_code
def yX5_status : MethodName := ⟨RX5, "status", "(I)I"⟩
abbrev cX5_tell : ByteArray := prog_1_method_51_code
def yX5_tell : MethodName := ⟨RX5, "tell", "(I)I"⟩
abbrev cX5_sheetFlaw : ByteArray := prog_1_method_52_code
def yX5_sheetFlaw : MethodName := ⟨RX5, "sheetFlaw", "(I)I"⟩
abbrev cX5_trailFlaw : ByteArray := prog_1_method_53_code
def yX5_trailFlaw : MethodName := ⟨RX5, "trailFlaw", "(II)I"⟩
abbrev cX5_isSnail : ByteArray := prog_1_method_54_code
def yX5_isSnail : MethodName := ⟨RX5, "isSnail", "(I)Z"⟩
abbrev cX5_isWithin : ByteArray := prog_1_method_55_code
def yX5_isWithin : MethodName := ⟨RX5, "isWithin", "(II)Z"⟩
abbrev cX5_isCell : ByteArray := prog_1_method_56_code
def yX5_isCell : MethodName := ⟨RX5, "isCell", "(I)Z"⟩
abbrev cX5_isLaw : ByteArray := prog_1_method_57_code
def yX5_isLaw : MethodName := ⟨RX5, "isLaw", "(I)Z"⟩
abbrev cX5_isDeed : ByteArray := prog_1_method_58_code
def yX5_isDeed : MethodName := ⟨RX5, "isDeed", "(I)Z"⟩
abbrev cX5_isSheet : ByteArray := prog_1_method_59_code
def yX5_isSheet : MethodName := ⟨RX5, "isSheet", "(I)Z"⟩
abbrev cX5_isBits : ByteArray := prog_1_method_60_code
def yX5_isBits : MethodName := ⟨RX5, "isBits", "(I)Z"⟩
abbrev cX5_isOfKind : ByteArray := prog_1_method_61_code
def yX5_isOfKind : MethodName := ⟨RX5, "isOfKind", "(II)Z"⟩
abbrev cX5_commonDivisor : ByteArray := prog_1_method_62_code
def yX5_commonDivisor : MethodName := ⟨RX5, "commonDivisor", "(I)I"⟩
abbrev cX5_beside : ByteArray := prog_1_method_63_code
def yX5_beside : MethodName := ⟨RX5, "beside", "(II)I"⟩
def RX6 : String := "SnailLawsModel"
def TX6 : u_T := fun k => match k with
  | 0 => ("SnailLawsModel", "s", "[I", true)
  | 1 => ("SnailLawsModel", "kept", "[I", true)
  | 2 => ("SnailLawsModel", "aside", "[I", true)
  | 3 => ("SnailLawsModel", "isKept", "Z", false)
  | 4 => ("SnailLawsModel", "found", "[I", true)
  | 5 => ("SnailLawsModel", "fars", "[I", true)
  | 6 => ("SnailLawsModel", "order", "[I", true)
  | 7 => ("SnailLawsModel", "isBarred", "[Z", true)
  | 8 => ("SnailLawsModel", "clashedAt", "[I", true)
  | 9 => ("SnailLawsModel", "tape", "[I", true)
  | 10 => ("SnailLawsModel", "taped", "I", false)
  | 11 => ("SnailLawsModel", "token", "I", false)
  | 12 => ("SnailLawsModel", "begun", "I", false)
  | 13 => ("SnailLawsModel", "ended", "I", false)
  | 14 => ("SnailLawsModel", "value", "J", false)
  | 15 => ("SnailLawsModel", "letters", "[C", true)
  | 16 => ("SnailLawsModel", "more", "[C", true)
  | 17 => ("SnailLawsModel", "others", "[C", true)
  | 18 => ("SnailLawsModel", "widths", "[I", true)
  | 19 => ("SnailLawsModel", "sizes", "[I", true)
  | 20 => ("SnailLawsModel", "cells", "[I", true)
  | _ => ("SnailLawsModel", "carried", "[I", true)
def tyX6 : Nat → FieldType := fun k => match k with
  | 0 => .array .int
  | 1 => .array .int
  | 2 => .array .int
  | 3 => .boolean
  | 4 => .array .int
  | 5 => .array .int
  | 6 => .array .int
  | 7 => .array .boolean
  | 8 => .array .int
  | 9 => .array .int
  | 10 => .int
  | 11 => .int
  | 12 => .int
  | 13 => .int
  | 14 => .long
  | 15 => .array .char
  | 16 => .array .char
  | 17 => .array .char
  | 18 => .array .int
  | 19 => .array .int
  | 20 => .array .int
  | _ => .array .int
theorem nmX6 : ∀ a, a < 22 → ∀ b, b < 22 → a ≠ b → (TX6 a).2.1 ≠ (TX6 b).2.1 := by decide +kernel
theorem tyX6_ok : ∀ k, k < 22 → parseFieldDescriptor (TX6 k).2.2.1 = some (tyX6 k) := by decide +kernel
abbrev cX6_init : ByteArray := prog_8_method_1_code
def yX6_init : MethodName := ⟨RX6, "<init>", "()V"⟩
abbrev cX6_no : ByteArray := prog_8_method_2_code
def yX6_no : MethodName := ⟨RX6, "no", "(I)I"⟩
abbrev cX6_in1 : ByteArray := prog_8_method_3_code
def yX6_in1 : MethodName := ⟨RX6, "in1", "(III)Z"⟩
abbrev cX6_isIn : ByteArray := prog_8_method_4_code
def yX6_isIn : MethodName := ⟨RX6, "isIn", "(II)Z"⟩
abbrev cX6_isCell : ByteArray := prog_8_method_5_code
def yX6_isCell : MethodName := ⟨RX6, "isCell", "(I)Z"⟩
abbrev cX6_isLaw : ByteArray := prog_8_method_6_code
def yX6_isLaw : MethodName := ⟨RX6, "isLaw", "(I)Z"⟩
abbrev cX6_isDeed : ByteArray := prog_8_method_7_code
def yX6_isDeed : MethodName := ⟨RX6, "isDeed", "(I)Z"⟩
abbrev cX6_isSnail : ByteArray := prog_8_method_8_code
def yX6_isSnail : MethodName := ⟨RX6, "isSnail", "(I)Z"⟩
abbrev cX6_get : ByteArray := prog_8_method_9_code
def yX6_get : MethodName := ⟨RX6, "get", "(II)I"⟩
abbrev cX6_puts : ByteArray := prog_8_method_10_code
def yX6_puts : MethodName := ⟨RX6, "puts", "(III)V"⟩
abbrev cX6_setsAside : ByteArray := prog_8_method_11_code
def yX6_setsAside : MethodName := ⟨RX6, "setsAside", "()V"⟩
abbrev cX6_laysBack : ByteArray := prog_8_method_12_code
def yX6_laysBack : MethodName := ⟨RX6, "laysBack", "()V"⟩
abbrev cX6_beside : ByteArray := prog_8_method_13_code
def yX6_beside : MethodName := ⟨RX6, "beside", "(II)I"⟩
abbrev cX6_isHedge : ByteArray := prog_8_method_14_code
def yX6_isHedge : MethodName := ⟨RX6, "isHedge", "(I)Z"⟩
abbrev cX6_spreads : ByteArray := prog_8_method_15_code
def yX6_spreads : MethodName := ⟨RX6, "spreads", "(II)V"⟩
abbrev cX6_barsHedges : ByteArray := prog_8_method_16_code
def yX6_barsHedges : MethodName := ⟨RX6, "barsHedges", "()V"⟩
abbrev cX6_findsFars : ByteArray := prog_8_method_17_code
def yX6_findsFars : MethodName := ⟨RX6, "findsFars", "()V"⟩
abbrev cX6_farBy : ByteArray := prog_8_method_18_code
def yX6_farBy : MethodName := ⟨RX6, "farBy", "(II)I"⟩
abbrev cX6_isGreedy : ByteArray := prog_8_method_19_code
def yX6_isGreedy : MethodName := ⟨RX6, "isGreedy", "(I)Z"⟩
abbrev cX6_movesOf : ByteArray := prog_8_method_20_code
def yX6_movesOf : MethodName := ⟨RX6, "movesOf", "(I)I"⟩
abbrev cX6_comesUnder : ByteArray := prog_8_method_21_code
def yX6_comesUnder : MethodName := ⟨RX6, "comesUnder", "(II)V"⟩
abbrev cX6_nextOf : ByteArray := prog_8_method_22_code
def yX6_nextOf : MethodName := ⟨RX6, "nextOf", "(I)I"⟩
abbrev cX6_crawls : ByteArray := prog_8_method_23_code
def yX6_crawls : MethodName := ⟨RX6, "crawls", "(I)V"⟩
abbrev cX6_day : ByteArray := prog_8_method_24_code
def yX6_day : MethodName := ⟨RX6, "day", "(I)V"⟩
abbrev cX6_allSnails : ByteArray := prog_8_method_25_code
def yX6_allSnails : MethodName := ⟨RX6, "allSnails", "()I"⟩
abbrev cX6_days : ByteArray := prog_8_method_26_code
def yX6_days : MethodName := ⟨RX6, "days", "(I)V"⟩
abbrev cX6_hedge : ByteArray := prog_8_method_27_code
def yX6_hedge : MethodName := ⟨RX6, "hedge", "(II)I"⟩
abbrev cX6_greens : ByteArray := prog_8_method_28_code
def yX6_greens : MethodName := ⟨RX6, "greens", "(II)I"⟩
abbrev cX6_land : ByteArray := prog_8_method_29_code
def yX6_land : MethodName := ⟨RX6, "land", "(II)I"⟩
abbrev cX6_far : ByteArray := prog_8_method_30_code
def yX6_far : MethodName := ⟨RX6, "far", "(II)I"⟩
abbrev cX6_addsSnail : ByteArray := prog_8_method_31_code
def yX6_addsSnail : MethodName := ⟨RX6, "addsSnail", "(II)V"⟩
abbrev cX6_snail : ByteArray := prog_8_method_32_code
def yX6_snail : MethodName := ⟨RX6, "snail", "(II)I"⟩
abbrev cX6_of : ByteArray := prog_8_method_33_code
def yX6_of : MethodName := ⟨RX6, "of", "(II)I"⟩
abbrev cX6_change : ByteArray := prog_8_method_34_code
def yX6_change : MethodName := ⟨RX6, "change", "(III)I"⟩
abbrev cX6_bans : ByteArray := prog_8_method_35_code
def yX6_bans : MethodName := ⟨RX6, "bans", "(II)I"⟩
abbrev cX6_set : ByteArray := prog_8_method_36_code
def yX6_set : MethodName := ⟨RX6, "set", "(II)I"⟩
abbrev cX6_go : ByteArray := prog_8_method_37_code
def yX6_go : MethodName := ⟨RX6, "go", "(I)I"⟩
abbrev cX6_underLaw : ByteArray := prog_8_method_38_code
def yX6_underLaw : MethodName := ⟨RX6, "underLaw", "()I"⟩
abbrev cX6_isThere : ByteArray := prog_8_method_39_code
def yX6_isThere : MethodName := ⟨RX6, "isThere", "(I)Z"⟩
abbrev cX6_now : ByteArray := prog_8_method_40_code
def yX6_now : MethodName := ⟨RX6, "now", "(I)I"⟩
abbrev cX6_realm : ByteArray := prog_8_method_41_code
def yX6_realm : MethodName := ⟨RX6, "realm", "(I)I"⟩
abbrev cX6_repeals : ByteArray := prog_8_method_42_code
def yX6_repeals : MethodName := ⟨RX6, "repeals", "()I"⟩
abbrev cX6_isLawful : ByteArray := prog_8_method_43_code
def yX6_isLawful : MethodName := ⟨RX6, "isLawful", "(II)Z"⟩
abbrev cX6_may : ByteArray := prog_8_method_44_code
def yX6_may : MethodName := ⟨RX6, "may", "(II)I"⟩
abbrev cX6_lawfulCells : ByteArray := prog_8_method_45_code
def yX6_lawfulCells : MethodName := ⟨RX6, "lawfulCells", "(I)I"⟩
abbrev cX6_where : ByteArray := prog_8_method_46_code
def yX6_where : MethodName := ⟨RX6, "where", "(I)I"⟩
abbrev cX6_route : ByteArray := prog_8_method_47_code
def yX6_route : MethodName := ⟨RX6, "route", "(III)I"⟩
abbrev cX6_free : ByteArray := prog_8_method_48_code
def yX6_free : MethodName := ⟨RX6, "free", "()I"⟩
abbrev cX6_ahead : ByteArray := prog_8_method_49_code
def yX6_ahead : MethodName := ⟨RX6, "ahead", "(II)I"⟩
abbrev cX6_lawAt : ByteArray := prog_8_method_50_code
def yX6_lawAt : MethodName := ⟨RX6, "lawAt", "(II)I"⟩
abbrev cX6_reachedBy : ByteArray := prog_8_method_51_code
def yX6_reachedBy : MethodName := ⟨RX6, "reachedBy", "(II)I"⟩
abbrev cX6_reaches : ByteArray := prog_8_method_52_code
def yX6_reaches : MethodName := ⟨RX6, "reaches", "(II)I"⟩
abbrev cX6_wetFor : ByteArray := prog_8_method_53_code
def yX6_wetFor : MethodName := ⟨RX6, "wetFor", "(II)I"⟩
abbrev cX6_thereBy : ByteArray := prog_8_method_54_code
def yX6_thereBy : MethodName := ⟨RX6, "thereBy", "(II)I"⟩
abbrev cX6_comes : ByteArray := prog_8_method_55_code
def yX6_comes : MethodName := ⟨RX6, "comes", "(I)I"⟩
abbrev cX6_kindFor : ByteArray := prog_8_method_56_code
def yX6_kindFor : MethodName := ⟨RX6, "kindFor", "(I)I"⟩
abbrev cX6_overtakes : ByteArray := prog_8_method_57_code
def yX6_overtakes : MethodName := ⟨RX6, "overtakes", "(II)I"⟩
abbrev cX6_lag : ByteArray := prog_8_method_58_code
def yX6_lag : MethodName := ⟨RX6, "lag", "(III)I"⟩
abbrev cX6_clash : ByteArray := prog_8_method_59_code
def yX6_clash : MethodName := ⟨RX6, "clash", "(I)I"⟩
abbrev cX6_priceOf : ByteArray := prog_8_method_60_code
def yX6_priceOf : MethodName := ⟨RX6, "priceOf", "(I)I"⟩
abbrev cX6_bestRelease : ByteArray := prog_8_method_61_code
def yX6_bestRelease : MethodName := ⟨RX6, "bestRelease", "(III)I"⟩
abbrev cX6_isRelease : ByteArray := prog_8_method_62_code
def yX6_isRelease : MethodName := ⟨RX6, "isRelease", "(III)Z"⟩
abbrev cX6_release : ByteArray := prog_8_method_63_code
def yX6_release : MethodName := ⟨RX6, "release", "(III)I"⟩
abbrev cX6_costs : ByteArray := prog_8_method_64_code
def yX6_costs : MethodName := ⟨RX6, "costs", "(III)I"⟩
abbrev cX6_farthest : ByteArray := prog_8_method_65_code
def yX6_farthest : MethodName := ⟨RX6, "farthest", "(II)I"⟩
abbrev cX6_isSheet : ByteArray := prog_8_method_66_code
def yX6_isSheet : MethodName := ⟨RX6, "isSheet", "(I)Z"⟩
abbrev cX6_wrongSheet : ByteArray := prog_8_method_67_code
def yX6_wrongSheet : MethodName := ⟨RX6, "wrongSheet", "(I)I"⟩
abbrev cX6_fitsFrom : ByteArray := prog_8_method_68_code
def yX6_fitsFrom : MethodName := ⟨RX6, "fitsFrom", "(III)Z"⟩
abbrev cX6_wrongTrail : ByteArray := prog_8_method_69_code
def yX6_wrongTrail : MethodName := ⟨RX6, "wrongTrail", "(II)I"⟩
abbrev cX6_fits : ByteArray := prog_8_method_70_code
def yX6_fits : MethodName := ⟨RX6, "fits", "(II)I"⟩
abbrev cX6_began : ByteArray := prog_8_method_71_code
def yX6_began : MethodName := ⟨RX6, "began", "(II)I"⟩
abbrev cX6_draw : ByteArray := prog_8_method_72_code
def yX6_draw : MethodName := ⟨RX6, "draw", "()I"⟩
abbrev cX6_thrushes : ByteArray := prog_8_method_73_code
def yX6_thrushes : MethodName := ⟨RX6, "thrushes", "(I)I"⟩
abbrev cX6_alone : ByteArray := prog_8_method_74_code
def yX6_alone : MethodName := ⟨RX6, "alone", "(II)J"⟩
abbrev cX6_seed : ByteArray := prog_8_method_75_code
def yX6_seed : MethodName := ⟨RX6, "seed", "(I)I"⟩
abbrev cX6_feed : ByteArray := prog_8_method_76_code
def yX6_feed : MethodName := ⟨RX6, "feed", "(II)I"⟩
abbrev cX6_wipe : ByteArray := prog_8_method_77_code
def yX6_wipe : MethodName := ⟨RX6, "wipe", "()I"⟩
abbrev cX6_isLetter : ByteArray := prog_8_method_78_code
def yX6_isLetter : MethodName := ⟨RX6, "isLetter", "(I)Z"⟩
abbrev cX6_isDigit : ByteArray := prog_8_method_79_code
def yX6_isDigit : MethodName := ⟨RX6, "isDigit", "(I)Z"⟩
abbrev cX6_nextToken : ByteArray := prog_8_method_80_code
def yX6_nextToken : MethodName := ⟨RX6, "nextToken", "()V"⟩
abbrev cX6_wordOf : ByteArray := prog_8_method_81_code
def yX6_wordOf : MethodName := ⟨RX6, "wordOf", "([C)I"⟩
abbrev cX6_takesNumber : ByteArray := prog_8_method_82_code
def yX6_takesNumber : MethodName := ⟨RX6, "takesNumber", "(II)I"⟩
abbrev cX6_readsSnail : ByteArray := prog_8_method_83_code
def yX6_readsSnail : MethodName := ⟨RX6, "readsSnail", "(I)Z"⟩
abbrev cX6_readsItem : ByteArray := prog_8_method_84_code
def yX6_readsItem : MethodName := ⟨RX6, "readsItem", "()Z"⟩
abbrev cX6_text : ByteArray := prog_8_method_85_code
def yX6_text : MethodName := ⟨RX6, "text", "()I"⟩
abbrev cX6_isSpot : ByteArray := prog_8_method_86_code
def yX6_isSpot : MethodName := ⟨RX6, "isSpot", "(I)Z"⟩
abbrev cX6_hold : ByteArray := prog_8_method_87_code
def yX6_hold : MethodName := ⟨RX6, "hold", "(II)I"⟩
abbrev cX6_above : ByteArray := prog_8_method_88_code
def yX6_above : MethodName := ⟨RX6, "above", "(I)I"⟩
abbrev cX6_as : ByteArray := prog_8_method_89_code
def yX6_as : MethodName := ⟨RX6, "as", "(II)I"⟩
abbrev cX6_sheet : ByteArray := prog_8_method_90_code
def yX6_sheet : MethodName := ⟨RX6, "sheet", "(III)I"⟩
abbrev cX6_write : ByteArray := prog_8_method_91_code
def yX6_write : MethodName := ⟨RX6, "write", "(III)I"⟩
abbrev cX6_copy : ByteArray := prog_8_method_92_code
def yX6_copy : MethodName := ⟨RX6, "copy", "(IIIII)I"⟩
abbrev cX6_load : ByteArray := prog_8_method_93_code
def yX6_load : MethodName := ⟨RX6, "load", "(I)I"⟩
abbrev cX6_judge : ByteArray := prog_8_method_94_code
def yX6_judge : MethodName := ⟨RX6, "judge", "(I)I"⟩
abbrev cX6_image : ByteArray := prog_8_method_95_code
def yX6_image : MethodName := ⟨RX6, "image", "()I"⟩
abbrev cX6_undo : ByteArray := prog_8_method_96_code
def yX6_undo : MethodName := ⟨RX6, "undo", "()I"⟩
abbrev cX6_tear : ByteArray := prog_8_method_97_code
def yX6_tear : MethodName := ⟨RX6, "tear", "()I"⟩
abbrev cX6_count : ByteArray := prog_8_method_98_code
def yX6_count : MethodName := ⟨RX6, "count", "(I)I"⟩
abbrev cX6_status : ByteArray := prog_8_method_99_code
def yX6_status : MethodName := ⟨RX6, "status", "(I)I"⟩
def RJx145de : String := "java/io/Serializable"
def TJx145de : u_T := fun k => match k with
  | _ => ("", "", "", false)
def tyJx145de : Nat → FieldType := fun k => match k with
  | _ => .int
theorem nmJx145de : ∀ a, a < 0 → ∀ b, b < 0 → a ≠ b → (TJx145de a).2.1 ≠ (TJx145de b).2.1 := by decide +kernel
theorem tyJx145de_ok : ∀ k, k < 0 → parseFieldDescriptor (TJx145de k).2.2.1 = some (tyJx145de k) := by decide +kernel
def RJx9f9b0 : String := "java/lang/CharSequence"
def TJx9f9b0 : u_T := fun k => match k with
  | _ => ("", "", "", false)
def tyJx9f9b0 : Nat → FieldType := fun k => match k with
  | _ => .int
theorem nmJx9f9b0 : ∀ a, a < 0 → ∀ b, b < 0 → a ≠ b → (TJx9f9b0 a).2.1 ≠ (TJx9f9b0 b).2.1 := by decide +kernel
theorem tyJx9f9b0_ok : ∀ k, k < 0 → parseFieldDescriptor (TJx9f9b0 k).2.2.1 = some (tyJx9f9b0 k) := by decide +kernel
def RJxb160c : String := "java/lang/Comparable"
def TJxb160c : u_T := fun k => match k with
  | _ => ("", "", "", false)
def tyJxb160c : Nat → FieldType := fun k => match k with
  | _ => .int
theorem nmJxb160c : ∀ a, a < 0 → ∀ b, b < 0 → a ≠ b → (TJxb160c a).2.1 ≠ (TJxb160c b).2.1 := by decide +kernel
theorem tyJxb160c_ok : ∀ k, k < 0 → parseFieldDescriptor (TJxb160c k).2.2.1 = some (tyJxb160c k) := by decide +kernel
def RJ9 : String := "java/lang/Math"
def TJ9 : u_T := fun k => match k with
  | _ => ("", "", "", false)
def tyJ9 : Nat → FieldType := fun k => match k with
  | _ => .int
theorem nmJ9 : ∀ a, a < 0 → ∀ b, b < 0 → a ≠ b → (TJ9 a).2.1 ≠ (TJ9 b).2.1 := by decide +kernel
theorem tyJ9_ok : ∀ k, k < 0 → parseFieldDescriptor (TJ9 k).2.2.1 = some (tyJ9 k) := by decide +kernel
abbrev cJ9_min_7cf53 : ByteArray := prog_9_method_69_code
def yJ9_min_7cf53 : MethodName := ⟨RJ9, "min", "(II)I"⟩
def RJ0 : String := "java/lang/String"
def TJ0 : u_T := fun k => match k with
  | _ => ("", "", "", false)
def tyJ0 : Nat → FieldType := fun k => match k with
  | _ => .int
theorem nmJ0 : ∀ a, a < 0 → ∀ b, b < 0 → a ≠ b → (TJ0 a).2.1 ≠ (TJ0 b).2.1 := by decide +kernel
theorem tyJ0_ok : ∀ k, k < 0 → parseFieldDescriptor (TJ0 k).2.2.1 = some (tyJ0 k) := by decide +kernel
abbrev cJ0_length_8abf5 : ByteArray := prog_10_method_54_code
def yJ0_length_8abf5 : MethodName := ⟨RJ0, "length", "()I"⟩
abbrev cJ0_charAt_5068e : ByteArray := prog_10_method_56_code
def yJ0_charAt_5068e : MethodName := ⟨RJ0, "charAt", "(I)C"⟩
abbrev cJ0_coder_7d493 : ByteArray := prog_10_method_152_code
def yJ0_coder_7d493 : MethodName := ⟨RJ0, "coder", "()B"⟩
abbrev cJ0_isLatin1_aae02 : ByteArray := prog_10_method_154_code
def yJ0_isLatin1_aae02 : MethodName := ⟨RJ0, "isLatin1", "()Z"⟩
abbrev cJ0_checkIndex_df160 : ByteArray := prog_10_method_155_code
def yJ0_checkIndex_df160 : MethodName := ⟨RJ0, "checkIndex", "(II)V"⟩
def RJ1 : String := "java/lang/StringLatin1"
def TJ1 : u_T := fun k => match k with
  | _ => ("", "", "", false)
def tyJ1 : Nat → FieldType := fun k => match k with
  | _ => .int
theorem nmJ1 : ∀ a, a < 0 → ∀ b, b < 0 → a ≠ b → (TJ1 a).2.1 ≠ (TJ1 b).2.1 := by decide +kernel
theorem tyJ1_ok : ∀ k, k < 0 → parseFieldDescriptor (TJ1 k).2.2.1 = some (tyJ1 k) := by decide +kernel
abbrev cJ1_charAt_3b067 : ByteArray := prog_11_method_2_code
def yJ1_charAt_3b067 : MethodName := ⟨RJ1, "charAt", "([BI)C"⟩
def RJ2 : String := "java/lang/StringUTF16"
def TJ2 : u_T := fun k => match k with
  | _ => ("", "", "", false)
def tyJ2 : Nat → FieldType := fun k => match k with
  | _ => .int
theorem nmJ2 : ∀ a, a < 0 → ∀ b, b < 0 → a ≠ b → (TJ2 a).2.1 ≠ (TJ2 b).2.1 := by decide +kernel
theorem tyJ2_ok : ∀ k, k < 0 → parseFieldDescriptor (TJ2 k).2.2.1 = some (tyJ2 k) := by decide +kernel
abbrev cJ2_getChar_3b067 : ByteArray := prog_12_method_5_code
def yJ2_getChar_3b067 : MethodName := ⟨RJ2, "getChar", "([BI)C"⟩
abbrev cJ2_length_9d52b : ByteArray := prog_12_method_6_code
def yJ2_length_9d52b : MethodName := ⟨RJ2, "length", "([B)I"⟩
abbrev cJ2_charAt_3b067 : ByteArray := prog_12_method_83_code
def yJ2_charAt_3b067 : MethodName := ⟨RJ2, "charAt", "([BI)C"⟩
abbrev cJ2_checkIndex_2214a : ByteArray := prog_12_method_91_code
def yJ2_checkIndex_2214a : MethodName := ⟨RJ2, "checkIndex", "(I[B)V"⟩
def RJ10 : String := "java/lang/System"
def TJ10 : u_T := fun k => match k with
  | _ => ("", "", "", false)
def tyJ10 : Nat → FieldType := fun k => match k with
  | _ => .int
theorem nmJ10 : ∀ a, a < 0 → ∀ b, b < 0 → a ≠ b → (TJ10 a).2.1 ≠ (TJ10 b).2.1 := by decide +kernel
theorem tyJ10_ok : ∀ k, k < 0 → parseFieldDescriptor (TJ10 k).2.2.1 = some (tyJ10 k) := by decide +kernel
def RJxfd54e : String := "java/lang/constant/Constable"
def TJxfd54e : u_T := fun k => match k with
  | _ => ("", "", "", false)
def tyJxfd54e : Nat → FieldType := fun k => match k with
  | _ => .int
theorem nmJxfd54e : ∀ a, a < 0 → ∀ b, b < 0 → a ≠ b → (TJxfd54e a).2.1 ≠ (TJxfd54e b).2.1 := by decide +kernel
theorem tyJxfd54e_ok : ∀ k, k < 0 → parseFieldDescriptor (TJxfd54e k).2.2.1 = some (tyJxfd54e k) := by decide +kernel
def RJx3cf43 : String := "java/lang/constant/ConstantDesc"
def TJx3cf43 : u_T := fun k => match k with
  | _ => ("", "", "", false)
def tyJx3cf43 : Nat → FieldType := fun k => match k with
  | _ => .int
theorem nmJx3cf43 : ∀ a, a < 0 → ∀ b, b < 0 → a ≠ b → (TJx3cf43 a).2.1 ≠ (TJx3cf43 b).2.1 := by decide +kernel
theorem tyJx3cf43_ok : ∀ k, k < 0 → parseFieldDescriptor (TJx3cf43 k).2.2.1 = some (tyJx3cf43 k) := by decide +kernel
def RJ7 : String := "java/util/Arrays"
def TJ7 : u_T := fun k => match k with
  | _ => ("", "", "", false)
def tyJ7 : Nat → FieldType := fun k => match k with
  | _ => .int
theorem nmJ7 : ∀ a, a < 0 → ∀ b, b < 0 → a ≠ b → (TJ7 a).2.1 ≠ (TJ7 b).2.1 := by decide +kernel
theorem tyJ7_ok : ∀ k, k < 0 → parseFieldDescriptor (TJ7 k).2.2.1 = some (tyJ7 k) := by decide +kernel
abbrev cJ7_fill_53178 : ByteArray := prog_14_method_103_code
def yJ7_fill_53178 : MethodName := ⟨RJ7, "fill", "([II)V"⟩
def RJ3 : String := "jdk/internal/util/Preconditions"
def TJ3 : u_T := fun k => match k with
  | _ => ("", "", "", false)
def tyJ3 : Nat → FieldType := fun k => match k with
  | _ => .int
theorem nmJ3 : ∀ a, a < 0 → ∀ b, b < 0 → a ≠ b → (TJ3 a).2.1 ≠ (TJ3 b).2.1 := by decide +kernel
theorem tyJ3_ok : ∀ k, k < 0 → parseFieldDescriptor (TJ3 k).2.2.1 = some (tyJ3 k) := by decide +kernel
abbrev cJ3_checkIndex_8e157 : ByteArray := prog_15_method_11_code
def yJ3_checkIndex_8e157 : MethodName := ⟨RJ3, "checkIndex", "(IILjava/util/function/BiFunction;)I"⟩
def RL : String := "SnailLawsLaw"
abbrev cL_law : ByteArray := code
def yL_law : MethodName := ⟨RL, "law", "([I)Z"⟩
abbrev vwCl : List vw_C := [(RX0, TX0, 2), (RX1, TX1, 17), (RX2, TX2, 3), (RX3, TX3, 7), (RX4, TX4, 5), (RX5, TX5, 8), (RX6, TX6, 22)]
/-- the words that hold in every later state of the launch -/
def gtb : List Cond := lw_tbl.filter goodWord
theorem gm {w : Cond} (h : w ∈ lw_tbl) (g : goodWord w = true) : w ∈ gtb := List.mem_filter.mpr ⟨h, g⟩
theorem gtb_sub {w : Cond} (h : w ∈ gtb) : w ∈ lw_tbl := (List.mem_filter.mp h).1
theorem gtb_good {w : Cond} (h : w ∈ gtb) : goodWord w = true := (List.mem_filter.mp h).2
theorem tb0 {w : Cond} (h : w ∈ k2_sels lw_privs) : w ∈ lw_tbl := List.mem_append_left _ h
theorem tb1 {w : Cond} (h : w ∈ tables_1_1) : w ∈ lw_tbl := List.mem_append_right _ (List.mem_append_left _ h)
theorem tb2 {w : Cond} (h : w ∈ tables_1_2) : w ∈ lw_tbl := List.mem_append_right _ (List.mem_append_right _ (List.mem_append_left _ h))
theorem tb3 {w : Cond} (h : w ∈ tables_1_3) : w ∈ lw_tbl := List.mem_append_right _ (List.mem_append_right _ (List.mem_append_right _ (List.mem_append_left _ h)))
theorem tb4 {w : Cond} (h : w ∈ tables_1_4) : w ∈ lw_tbl := List.mem_append_right _ (List.mem_append_right _ (List.mem_append_right _ (List.mem_append_right _ (List.mem_append_left _ h))))
theorem tb5 {w : Cond} (h : w ∈ tables_1_5) : w ∈ lw_tbl := List.mem_append_right _ (List.mem_append_right _ (List.mem_append_right _ (List.mem_append_right _ (List.mem_append_right _ (List.mem_append_left _ h)))))
theorem tb6 {w : Cond} (h : w ∈ tables_1_6) : w ∈ lw_tbl := List.mem_append_right _ (List.mem_append_right _ (List.mem_append_right _ (List.mem_append_right _ (List.mem_append_right _ (List.mem_append_right _ (h))))))
theorem kD_L : Cond.initialized RL ∈ gtb := gm (tb1 (List.mem_of_getElem? (i := 0) (by decide +kernel))) rfl
theorem kD_X5 : Cond.initialized RX5 ∈ gtb := gm (tb1 (List.mem_of_getElem? (i := 1) (by decide +kernel))) rfl
theorem kD_X1 : Cond.initialized RX1 ∈ gtb := gm (tb1 (List.mem_of_getElem? (i := 2) (by decide +kernel))) rfl
theorem kD_J7 : Cond.initialized RJ7 ∈ gtb := gm (tb1 (List.mem_of_getElem? (i := 3) (by decide +kernel))) rfl
theorem kD_X0 : Cond.initialized RX0 ∈ gtb := gm (tb1 (List.mem_of_getElem? (i := 4) (by decide +kernel))) rfl
theorem kD_X4 : Cond.initialized RX4 ∈ gtb := gm (tb1 (List.mem_of_getElem? (i := 5) (by decide +kernel))) rfl
theorem kD_X3 : Cond.initialized RX3 ∈ gtb := gm (tb1 (List.mem_of_getElem? (i := 6) (by decide +kernel))) rfl
theorem kD_X2 : Cond.initialized RX2 ∈ gtb := gm (tb1 (List.mem_of_getElem? (i := 7) (by decide +kernel))) rfl
theorem kD_X6 : Cond.initialized RX6 ∈ gtb := gm (tb1 (List.mem_of_getElem? (i := 8) (by decide +kernel))) rfl
theorem kD_J9 : Cond.initialized RJ9 ∈ gtb := gm (tb1 (List.mem_of_getElem? (i := 9) (by decide +kernel))) rfl
theorem kD_J10 : Cond.initialized RJ10 ∈ gtb := gm (tb1 (List.mem_of_getElem? (i := 10) (by decide +kernel))) rfl
theorem kD_J0 : Cond.initialized RJ0 ∈ gtb := gm (tb1 (List.mem_of_getElem? (i := 11) (by decide +kernel))) rfl
theorem kD_J1 : Cond.initialized RJ1 ∈ gtb := gm (tb1 (List.mem_of_getElem? (i := 12) (by decide +kernel))) rfl
theorem kD_J3 : Cond.initialized RJ3 ∈ gtb := gm (tb1 (List.mem_of_getElem? (i := 13) (by decide +kernel))) rfl
theorem kD_J2 : Cond.initialized RJ2 ∈ gtb := gm (tb1 (List.mem_of_getElem? (i := 14) (by decide +kernel))) rfl
theorem kB_L_7 : Cond.classLink RL 7 RX5 ∈ gtb := gm (tb1 (List.mem_of_getElem? (i := 15) (by decide +kernel))) rfl
theorem kO_X5 : Cond.instantiable RX5 8 ∈ gtb := gm (tb1 (List.mem_of_getElem? (i := 16) (by decide +kernel))) rfl
theorem kL_L_9 : Cond.methodLink RL 9 yX5_init ∈ gtb := gm (tb1 (List.mem_of_getElem? (i := 17) (by decide +kernel))) rfl
theorem kI_X5_init : Cond.instanceMethod yX5_init ∈ gtb := gm (tb1 (List.mem_of_getElem? (i := 18) (by decide +kernel))) rfl
theorem kC_X5_init : Cond.code yX5_init cX5_init 1 none ∈ gtb := gm (tb1 (List.mem_of_getElem? (i := 19) rfl)) rfl
theorem kL_X5_3 : Cond.methodLink RX5 3 (⟨"java/lang/Object", "<init>", "()V"⟩ : MethodName) ∈ gtb := gm (tb1 (List.mem_of_getElem? (i := 20) (by decide +kernel))) rfl
theorem kI_oi : Cond.instanceMethod objectInit ∈ gtb := gm (tb1 (List.mem_of_getElem? (i := 21) (by decide +kernel))) rfl
theorem kI_java_lang_Object__init____V : Cond.instanceMethod (⟨"java/lang/Object", "<init>", "()V"⟩ : MethodName) ∈ gtb := gm (tb1 (List.mem_of_getElem? (i := 21) (by decide +kernel))) rfl
theorem kC_oi : Cond.code objectInit object_method_1_code 1 none ∈ gtb := gm (tb1 (List.mem_of_getElem? (i := 22) rfl)) rfl
theorem kB_X5_9 : Cond.classLink RX5 9 RX1 ∈ gtb := gm (tb1 (List.mem_of_getElem? (i := 23) (by decide +kernel))) rfl
theorem kO_X1 : Cond.instantiable RX1 17 ∈ gtb := gm (tb1 (List.mem_of_getElem? (i := 24) (by decide +kernel))) rfl
theorem kL_X5_11 : Cond.methodLink RX5 11 yX1_init ∈ gtb := gm (tb1 (List.mem_of_getElem? (i := 25) (by decide +kernel))) rfl
theorem kI_X1_init : Cond.instanceMethod yX1_init ∈ gtb := gm (tb1 (List.mem_of_getElem? (i := 26) (by decide +kernel))) rfl
theorem kC_X1_init : Cond.code yX1_init cX1_init 1 none ∈ gtb := gm (tb1 (List.mem_of_getElem? (i := 27) rfl)) rfl
theorem kL_X1_3 : Cond.methodLink RX1 3 (⟨"java/lang/Object", "<init>", "()V"⟩ : MethodName) ∈ gtb := gm (tb1 (List.mem_of_getElem? (i := 28) (by decide +kernel))) rfl
theorem kL_X1_64 : Cond.methodLink RX1 64 yJ7_fill_53178 ∈ gtb := gm (tb1 (List.mem_of_getElem? (i := 29) (by decide +kernel))) rfl
theorem kS_J7_fill_53178 : Cond.static yJ7_fill_53178 ∈ gtb := gm (tb1 (List.mem_of_getElem? (i := 30) (by decide +kernel))) rfl
theorem kC_J7_fill_53178 : Cond.code yJ7_fill_53178 cJ7_fill_53178 4 none ∈ gtb := gm (tb1 (List.mem_of_getElem? (i := 31) rfl)) rfl
theorem kF_X1_9 : Cond.fieldLink RX1 9 RX1 "hedges" "[I" ∈ gtb := gm (tb1 (List.mem_of_getElem? (i := 32) (by decide +kernel))) rfl
theorem kF_X4_28 : Cond.fieldLink RX4 28 RX1 "hedges" "[I" ∈ gtb := gm (tb1 (List.mem_of_getElem? (i := 33) (by decide +kernel))) rfl
theorem kF_X5_68 : Cond.fieldLink RX5 68 RX1 "hedges" "[I" ∈ gtb := gm (tb1 (List.mem_of_getElem? (i := 34) (by decide +kernel))) rfl
theorem kF_X3_142 : Cond.fieldLink RX3 142 RX1 "hedges" "[I" ∈ gtb := gm (tb1 (List.mem_of_getElem? (i := 35) (by decide +kernel))) rfl
theorem kF_X1_15 : Cond.fieldLink RX1 15 RX1 "leaves" "[I" ∈ gtb := gm (tb1 (List.mem_of_getElem? (i := 36) (by decide +kernel))) rfl
theorem kF_X5_71 : Cond.fieldLink RX5 71 RX1 "leaves" "[I" ∈ gtb := gm (tb1 (List.mem_of_getElem? (i := 37) (by decide +kernel))) rfl
theorem kF_X3_145 : Cond.fieldLink RX3 145 RX1 "leaves" "[I" ∈ gtb := gm (tb1 (List.mem_of_getElem? (i := 38) (by decide +kernel))) rfl
theorem kF_X1_18 : Cond.fieldLink RX1 18 RX1 "laws" "[I" ∈ gtb := gm (tb1 (List.mem_of_getElem? (i := 39) (by decide +kernel))) rfl
theorem kF_X5_74 : Cond.fieldLink RX5 74 RX1 "laws" "[I" ∈ gtb := gm (tb1 (List.mem_of_getElem? (i := 40) (by decide +kernel))) rfl
theorem kF_X0_41 : Cond.fieldLink RX0 41 RX1 "laws" "[I" ∈ gtb := gm (tb1 (List.mem_of_getElem? (i := 41) (by decide +kernel))) rfl
theorem kF_X1_21 : Cond.fieldLink RX1 21 RX1 "met" "[I" ∈ gtb := gm (tb1 (List.mem_of_getElem? (i := 42) (by decide +kernel))) rfl
theorem kF_X0_65 : Cond.fieldLink RX0 65 RX1 "met" "[I" ∈ gtb := gm (tb1 (List.mem_of_getElem? (i := 43) (by decide +kernel))) rfl
theorem kF_X1_24 : Cond.fieldLink RX1 24 RX1 "banned" "[I" ∈ gtb := gm (tb1 (List.mem_of_getElem? (i := 44) (by decide +kernel))) rfl
theorem kF_X5_115 : Cond.fieldLink RX5 115 RX1 "banned" "[I" ∈ gtb := gm (tb1 (List.mem_of_getElem? (i := 45) (by decide +kernel))) rfl
theorem kF_X3_148 : Cond.fieldLink RX3 148 RX1 "banned" "[I" ∈ gtb := gm (tb1 (List.mem_of_getElem? (i := 46) (by decide +kernel))) rfl
theorem kF_X1_27 : Cond.fieldLink RX1 27 RX1 "kinds" "[I" ∈ gtb := gm (tb1 (List.mem_of_getElem? (i := 47) (by decide +kernel))) rfl
theorem kF_X0_48 : Cond.fieldLink RX0 48 RX1 "kinds" "[I" ∈ gtb := gm (tb1 (List.mem_of_getElem? (i := 48) (by decide +kernel))) rfl
theorem kF_X5_184 : Cond.fieldLink RX5 184 RX1 "kinds" "[I" ∈ gtb := gm (tb1 (List.mem_of_getElem? (i := 49) (by decide +kernel))) rfl
theorem kF_X1_30 : Cond.fieldLink RX1 30 RX1 "ats" "[I" ∈ gtb := gm (tb1 (List.mem_of_getElem? (i := 50) (by decide +kernel))) rfl
theorem kF_X0_51 : Cond.fieldLink RX0 51 RX1 "ats" "[I" ∈ gtb := gm (tb1 (List.mem_of_getElem? (i := 51) (by decide +kernel))) rfl
theorem kF_X5_102 : Cond.fieldLink RX5 102 RX1 "ats" "[I" ∈ gtb := gm (tb1 (List.mem_of_getElem? (i := 52) (by decide +kernel))) rfl
theorem kF_X3_127 : Cond.fieldLink RX3 127 RX1 "ats" "[I" ∈ gtb := gm (tb1 (List.mem_of_getElem? (i := 53) (by decide +kernel))) rfl
theorem kF_X1_33 : Cond.fieldLink RX1 33 RX1 "edicts" "[I" ∈ gtb := gm (tb1 (List.mem_of_getElem? (i := 54) (by decide +kernel))) rfl
theorem kF_X3_130 : Cond.fieldLink RX3 130 RX1 "edicts" "[I" ∈ gtb := gm (tb1 (List.mem_of_getElem? (i := 55) (by decide +kernel))) rfl
theorem kF_X0_94 : Cond.fieldLink RX0 94 RX1 "edicts" "[I" ∈ gtb := gm (tb1 (List.mem_of_getElem? (i := 56) (by decide +kernel))) rfl
theorem kF_X1_36 : Cond.fieldLink RX1 36 RX1 "gates" "[I" ∈ gtb := gm (tb1 (List.mem_of_getElem? (i := 57) (by decide +kernel))) rfl
theorem kF_X4_58 : Cond.fieldLink RX4 58 RX1 "gates" "[I" ∈ gtb := gm (tb1 (List.mem_of_getElem? (i := 58) (by decide +kernel))) rfl
theorem kF_X0_54 : Cond.fieldLink RX0 54 RX1 "gates" "[I" ∈ gtb := gm (tb1 (List.mem_of_getElem? (i := 59) (by decide +kernel))) rfl
theorem kF_X5_99 : Cond.fieldLink RX5 99 RX1 "gates" "[I" ∈ gtb := gm (tb1 (List.mem_of_getElem? (i := 60) (by decide +kernel))) rfl
theorem kF_X3_133 : Cond.fieldLink RX3 133 RX1 "gates" "[I" ∈ gtb := gm (tb1 (List.mem_of_getElem? (i := 61) (by decide +kernel))) rfl
theorem kF_X1_39 : Cond.fieldLink RX1 39 RX1 "prices" "[I" ∈ gtb := gm (tb1 (List.mem_of_getElem? (i := 62) (by decide +kernel))) rfl
theorem kF_X3_136 : Cond.fieldLink RX3 136 RX1 "prices" "[I" ∈ gtb := gm (tb1 (List.mem_of_getElem? (i := 63) (by decide +kernel))) rfl
theorem kF_X1_42 : Cond.fieldLink RX1 42 RX1 "spots" "[I" ∈ gtb := gm (tb1 (List.mem_of_getElem? (i := 64) (by decide +kernel))) rfl
theorem kF_X5_244 : Cond.fieldLink RX5 244 RX1 "spots" "[I" ∈ gtb := gm (tb1 (List.mem_of_getElem? (i := 65) (by decide +kernel))) rfl
theorem kF_X1_45 : Cond.fieldLink RX1 45 RX1 "snails" "I" ∈ gtb := gm (tb1 (List.mem_of_getElem? (i := 66) (by decide +kernel))) rfl
theorem kF_X4_54 : Cond.fieldLink RX4 54 RX1 "snails" "I" ∈ gtb := gm (tb1 (List.mem_of_getElem? (i := 67) (by decide +kernel))) rfl
theorem kF_X0_79 : Cond.fieldLink RX0 79 RX1 "snails" "I" ∈ gtb := gm (tb1 (List.mem_of_getElem? (i := 68) (by decide +kernel))) rfl
theorem kF_X5_289 : Cond.fieldLink RX5 289 RX1 "snails" "I" ∈ gtb := gm (tb1 (List.mem_of_getElem? (i := 69) (by decide +kernel))) rfl
theorem kF_X1_49 : Cond.fieldLink RX1 49 RX1 "wet" "I" ∈ gtb := gm (tb1 (List.mem_of_getElem? (i := 70) (by decide +kernel))) rfl
theorem kF_X0_37 : Cond.fieldLink RX0 37 RX1 "wet" "I" ∈ gtb := gm (tb1 (List.mem_of_getElem? (i := 71) (by decide +kernel))) rfl
theorem kF_X5_118 : Cond.fieldLink RX5 118 RX1 "wet" "I" ∈ gtb := gm (tb1 (List.mem_of_getElem? (i := 72) (by decide +kernel))) rfl
theorem kF_X3_151 : Cond.fieldLink RX3 151 RX1 "wet" "I" ∈ gtb := gm (tb1 (List.mem_of_getElem? (i := 73) (by decide +kernel))) rfl
theorem kF_X1_52 : Cond.fieldLink RX1 52 RX1 "thrush" "I" ∈ gtb := gm (tb1 (List.mem_of_getElem? (i := 74) (by decide +kernel))) rfl
theorem kF_X5_122 : Cond.fieldLink RX5 122 RX1 "thrush" "I" ∈ gtb := gm (tb1 (List.mem_of_getElem? (i := 75) (by decide +kernel))) rfl
theorem kF_X3_153 : Cond.fieldLink RX3 153 RX1 "thrush" "I" ∈ gtb := gm (tb1 (List.mem_of_getElem? (i := 76) (by decide +kernel))) rfl
theorem kF_X1_55 : Cond.fieldLink RX1 55 RX1 "day" "I" ∈ gtb := gm (tb1 (List.mem_of_getElem? (i := 77) (by decide +kernel))) rfl
theorem kF_X5_125 : Cond.fieldLink RX5 125 RX1 "day" "I" ∈ gtb := gm (tb1 (List.mem_of_getElem? (i := 78) (by decide +kernel))) rfl
theorem kF_X1_58 : Cond.fieldLink RX1 58 RX1 "clashes" "I" ∈ gtb := gm (tb1 (List.mem_of_getElem? (i := 79) (by decide +kernel))) rfl
theorem kF_X5_137 : Cond.fieldLink RX5 137 RX1 "clashes" "I" ∈ gtb := gm (tb1 (List.mem_of_getElem? (i := 80) (by decide +kernel))) rfl
theorem kF_X1_61 : Cond.fieldLink RX1 61 RX1 "z" "I" ∈ gtb := gm (tb1 (List.mem_of_getElem? (i := 81) (by decide +kernel))) rfl
theorem kF_X5_221 : Cond.fieldLink RX5 221 RX1 "z" "I" ∈ gtb := gm (tb1 (List.mem_of_getElem? (i := 82) (by decide +kernel))) rfl
theorem kY_X1_hedges : Cond.laysFinal RX1 "SnailLaws$Republic" "hedges" "[I" ∈ gtb := gm (tb1 (List.mem_of_getElem? (i := 83) (by decide +kernel))) rfl
theorem kY_X1_leaves : Cond.laysFinal RX1 "SnailLaws$Republic" "leaves" "[I" ∈ gtb := gm (tb1 (List.mem_of_getElem? (i := 85) (by decide +kernel))) rfl
theorem kY_X1_laws : Cond.laysFinal RX1 "SnailLaws$Republic" "laws" "[I" ∈ gtb := gm (tb1 (List.mem_of_getElem? (i := 87) (by decide +kernel))) rfl
theorem kY_X1_met : Cond.laysFinal RX1 "SnailLaws$Republic" "met" "[I" ∈ gtb := gm (tb1 (List.mem_of_getElem? (i := 89) (by decide +kernel))) rfl
theorem kY_X1_banned : Cond.laysFinal RX1 "SnailLaws$Republic" "banned" "[I" ∈ gtb := gm (tb1 (List.mem_of_getElem? (i := 91) (by decide +kernel))) rfl
theorem kY_X1_kinds : Cond.laysFinal RX1 "SnailLaws$Republic" "kinds" "[I" ∈ gtb := gm (tb1 (List.mem_of_getElem? (i := 93) (by decide +kernel))) rfl
theorem kY_X1_ats : Cond.laysFinal RX1 "SnailLaws$Republic" "ats" "[I" ∈ gtb := gm (tb1 (List.mem_of_getElem? (i := 95) (by decide +kernel))) rfl
theorem kY_X1_edicts : Cond.laysFinal RX1 "SnailLaws$Republic" "edicts" "[I" ∈ gtb := gm (tb1 (List.mem_of_getElem? (i := 97) (by decide +kernel))) rfl
theorem kY_X1_gates : Cond.laysFinal RX1 "SnailLaws$Republic" "gates" "[I" ∈ gtb := gm (tb1 (List.mem_of_getElem? (i := 99) (by decide +kernel))) rfl
theorem kY_X1_prices : Cond.laysFinal RX1 "SnailLaws$Republic" "prices" "[I" ∈ gtb := gm (tb1 (List.mem_of_getElem? (i := 101) (by decide +kernel))) rfl
theorem kY_X1_spots : Cond.laysFinal RX1 "SnailLaws$Republic" "spots" "[I" ∈ gtb := gm (tb1 (List.mem_of_getElem? (i := 103) (by decide +kernel))) rfl
theorem kY_X1_snails : Cond.lays RX1 "SnailLaws$Republic" "snails" "I" ∈ gtb := gm (tb1 (List.mem_of_getElem? (i := 105) (by decide +kernel))) rfl
theorem kY_X1_wet : Cond.lays RX1 "SnailLaws$Republic" "wet" "I" ∈ gtb := gm (tb1 (List.mem_of_getElem? (i := 107) (by decide +kernel))) rfl
theorem kY_X1_thrush : Cond.lays RX1 "SnailLaws$Republic" "thrush" "I" ∈ gtb := gm (tb1 (List.mem_of_getElem? (i := 109) (by decide +kernel))) rfl
theorem kY_X1_day : Cond.lays RX1 "SnailLaws$Republic" "day" "I" ∈ gtb := gm (tb1 (List.mem_of_getElem? (i := 111) (by decide +kernel))) rfl
theorem kY_X1_clashes : Cond.lays RX1 "SnailLaws$Republic" "clashes" "I" ∈ gtb := gm (tb1 (List.mem_of_getElem? (i := 113) (by decide +kernel))) rfl
theorem kY_X1_z : Cond.lays RX1 "SnailLaws$Republic" "z" "I" ∈ gtb := gm (tb1 (List.mem_of_getElem? (i := 115) (by decide +kernel))) rfl
theorem kA_int : Cond.arrayClass .int ∈ gtb := gm (tb1 (List.mem_of_getElem? (i := 118) (by decide +kernel))) rfl
theorem kB_X5_19 : Cond.classLink RX5 19 RX0 ∈ gtb := gm (tb1 (List.mem_of_getElem? (i := 119) (by decide +kernel))) rfl
theorem kO_X0 : Cond.instantiable RX0 2 ∈ gtb := gm (tb1 (List.mem_of_getElem? (i := 120) (by decide +kernel))) rfl
theorem kN_X5_21 : Cond.methodLinkNest RX5 21 yX0_init "SnailLaws" ∈ lw_tbl := tb1 (List.mem_of_getElem? (i := 121) (by decide +kernel))
theorem kI_X0_init : Cond.instanceMethod yX0_init ∈ gtb := gm (tb1 (List.mem_of_getElem? (i := 122) (by decide +kernel))) rfl
theorem kC_X0_init : Cond.code yX0_init cX0_init 1 none ∈ gtb := gm (tb1 (List.mem_of_getElem? (i := 123) rfl)) rfl
theorem kL_X0_3 : Cond.methodLink RX0 3 (⟨"java/lang/Object", "<init>", "()V"⟩ : MethodName) ∈ gtb := gm (tb1 (List.mem_of_getElem? (i := 124) (by decide +kernel))) rfl
theorem kB_X0_9 : Cond.classLink RX0 9 RX1 ∈ gtb := gm (tb1 (List.mem_of_getElem? (i := 125) (by decide +kernel))) rfl
theorem kL_X0_11 : Cond.methodLink RX0 11 yX1_init ∈ gtb := gm (tb1 (List.mem_of_getElem? (i := 126) (by decide +kernel))) rfl
theorem kB_X0_18 : Cond.classLink RX0 18 RX4 ∈ gtb := gm (tb1 (List.mem_of_getElem? (i := 127) (by decide +kernel))) rfl
theorem kO_X4 : Cond.instantiable RX4 5 ∈ gtb := gm (tb1 (List.mem_of_getElem? (i := 128) (by decide +kernel))) rfl
theorem kN_X0_20 : Cond.methodLinkNest RX0 20 yX4_init "SnailLaws" ∈ lw_tbl := tb1 (List.mem_of_getElem? (i := 129) (by decide +kernel))
theorem kI_X4_init : Cond.instanceMethod yX4_init ∈ gtb := gm (tb1 (List.mem_of_getElem? (i := 130) (by decide +kernel))) rfl
theorem kC_X4_init : Cond.code yX4_init cX4_init 1 none ∈ gtb := gm (tb1 (List.mem_of_getElem? (i := 131) rfl)) rfl
theorem kL_X4_3 : Cond.methodLink RX4 3 (⟨"java/lang/Object", "<init>", "()V"⟩ : MethodName) ∈ gtb := gm (tb1 (List.mem_of_getElem? (i := 132) (by decide +kernel))) rfl
theorem kF_X4_9 : Cond.fieldLink RX4 9 RX4 "steps" "[I" ∈ gtb := gm (tb1 (List.mem_of_getElem? (i := 133) (by decide +kernel))) rfl
theorem kF_X5_85 : Cond.fieldLink RX5 85 RX4 "steps" "[I" ∈ gtb := gm (tb1 (List.mem_of_getElem? (i := 134) (by decide +kernel))) rfl
theorem kF_X4_15 : Cond.fieldLink RX4 15 RX4 "open" "[Z" ∈ gtb := gm (tb1 (List.mem_of_getElem? (i := 135) (by decide +kernel))) rfl
theorem kF_X4_19 : Cond.fieldLink RX4 19 RX4 "queue" "[I" ∈ gtb := gm (tb1 (List.mem_of_getElem? (i := 136) (by decide +kernel))) rfl
theorem kF_X4_22 : Cond.fieldLink RX4 22 RX4 "gateSteps" "[I" ∈ gtb := gm (tb1 (List.mem_of_getElem? (i := 137) (by decide +kernel))) rfl
theorem kF_X4_25 : Cond.fieldLink RX4 25 RX4 "nextCells" "[I" ∈ gtb := gm (tb1 (List.mem_of_getElem? (i := 138) (by decide +kernel))) rfl
theorem kY_X4_steps : Cond.laysFinal RX4 "SnailLaws$Ways" "steps" "[I" ∈ gtb := gm (tb1 (List.mem_of_getElem? (i := 139) (by decide +kernel))) rfl
theorem kY_X4_open : Cond.laysFinal RX4 "SnailLaws$Ways" "open" "[Z" ∈ gtb := gm (tb1 (List.mem_of_getElem? (i := 141) (by decide +kernel))) rfl
theorem kY_X4_queue : Cond.laysFinal RX4 "SnailLaws$Ways" "queue" "[I" ∈ gtb := gm (tb1 (List.mem_of_getElem? (i := 143) (by decide +kernel))) rfl
theorem kY_X4_gateSteps : Cond.laysFinal RX4 "SnailLaws$Ways" "gateSteps" "[I" ∈ gtb := gm (tb1 (List.mem_of_getElem? (i := 145) (by decide +kernel))) rfl
theorem kY_X4_nextCells : Cond.laysFinal RX4 "SnailLaws$Ways" "nextCells" "[I" ∈ gtb := gm (tb1 (List.mem_of_getElem? (i := 147) (by decide +kernel))) rfl
theorem kA_boolean : Cond.arrayClass .boolean ∈ gtb := gm (tb1 (List.mem_of_getElem? (i := 150) (by decide +kernel))) rfl
theorem kF_X0_12 : Cond.fieldLink RX0 12 RX0 "draft" "LSnailLaws$Republic;" ∈ gtb := gm (tb1 (List.mem_of_getElem? (i := 151) (by decide +kernel))) rfl
theorem kF_X5_238 : Cond.fieldLink RX5 238 RX0 "draft" "LSnailLaws$Republic;" ∈ gtb := gm (tb1 (List.mem_of_getElem? (i := 152) (by decide +kernel))) rfl
theorem kF_X0_21 : Cond.fieldLink RX0 21 RX0 "ways" "LSnailLaws$Ways;" ∈ gtb := gm (tb1 (List.mem_of_getElem? (i := 153) (by decide +kernel))) rfl
theorem kY_X0_draft : Cond.laysFinal RX0 "SnailLaws$Forecast" "draft" "LSnailLaws$Republic;" ∈ gtb := gm (tb1 (List.mem_of_getElem? (i := 154) (by decide +kernel))) rfl
theorem kY_X0_ways : Cond.laysFinal RX0 "SnailLaws$Forecast" "ways" "LSnailLaws$Ways;" ∈ gtb := gm (tb1 (List.mem_of_getElem? (i := 156) (by decide +kernel))) rfl
theorem kB_X5_26 : Cond.classLink RX5 26 RX4 ∈ gtb := gm (tb1 (List.mem_of_getElem? (i := 159) (by decide +kernel))) rfl
theorem kN_X5_28 : Cond.methodLinkNest RX5 28 yX4_init "SnailLaws" ∈ lw_tbl := tb1 (List.mem_of_getElem? (i := 160) (by decide +kernel))
theorem kB_X5_33 : Cond.classLink RX5 33 RX3 ∈ gtb := gm (tb1 (List.mem_of_getElem? (i := 161) (by decide +kernel))) rfl
theorem kO_X3 : Cond.instantiable RX3 7 ∈ gtb := gm (tb1 (List.mem_of_getElem? (i := 162) (by decide +kernel))) rfl
theorem kN_X5_35 : Cond.methodLinkNest RX5 35 yX3_init "SnailLaws" ∈ lw_tbl := tb1 (List.mem_of_getElem? (i := 163) (by decide +kernel))
theorem kI_X3_init : Cond.instanceMethod yX3_init ∈ gtb := gm (tb1 (List.mem_of_getElem? (i := 164) (by decide +kernel))) rfl
theorem kC_X3_init : Cond.code yX3_init cX3_init 1 none ∈ gtb := gm (tb1 (List.mem_of_getElem? (i := 165) rfl)) rfl
theorem kL_X3_3 : Cond.methodLink RX3 3 (⟨"java/lang/Object", "<init>", "()V"⟩ : MethodName) ∈ gtb := gm (tb1 (List.mem_of_getElem? (i := 166) (by decide +kernel))) rfl
theorem kF_X3_9 : Cond.fieldLink RX3 9 RX3 "size" "I" ∈ gtb := gm (tb1 (List.mem_of_getElem? (i := 167) (by decide +kernel))) rfl
theorem kF_X5_227 : Cond.fieldLink RX5 227 RX3 "size" "I" ∈ gtb := gm (tb1 (List.mem_of_getElem? (i := 168) (by decide +kernel))) rfl
theorem kF_X3_15 : Cond.fieldLink RX3 15 RX3 "bytes" "[I" ∈ gtb := gm (tb1 (List.mem_of_getElem? (i := 169) (by decide +kernel))) rfl
theorem kF_X3_19 : Cond.fieldLink RX3 19 RX3 "sorts" "[I" ∈ gtb := gm (tb1 (List.mem_of_getElem? (i := 170) (by decide +kernel))) rfl
theorem kF_X3_22 : Cond.fieldLink RX3 22 RX3 "starts" "[I" ∈ gtb := gm (tb1 (List.mem_of_getElem? (i := 171) (by decide +kernel))) rfl
theorem kF_X3_25 : Cond.fieldLink RX3 25 RX3 "ends" "[I" ∈ gtb := gm (tb1 (List.mem_of_getElem? (i := 172) (by decide +kernel))) rfl
theorem kF_X3_28 : Cond.fieldLink RX3 28 RX3 "values" "[I" ∈ gtb := gm (tb1 (List.mem_of_getElem? (i := 173) (by decide +kernel))) rfl
theorem kF_X3_31 : Cond.fieldLink RX3 31 RX3 "at" "I" ∈ gtb := gm (tb1 (List.mem_of_getElem? (i := 174) (by decide +kernel))) rfl
theorem kY_X3_size : Cond.lays RX3 "SnailLaws$Tape" "size" "I" ∈ gtb := gm (tb1 (List.mem_of_getElem? (i := 175) (by decide +kernel))) rfl
theorem kY_X3_bytes : Cond.laysFinal RX3 "SnailLaws$Tape" "bytes" "[I" ∈ gtb := gm (tb1 (List.mem_of_getElem? (i := 177) (by decide +kernel))) rfl
theorem kY_X3_sorts : Cond.laysFinal RX3 "SnailLaws$Tape" "sorts" "[I" ∈ gtb := gm (tb1 (List.mem_of_getElem? (i := 179) (by decide +kernel))) rfl
theorem kY_X3_starts : Cond.laysFinal RX3 "SnailLaws$Tape" "starts" "[I" ∈ gtb := gm (tb1 (List.mem_of_getElem? (i := 181) (by decide +kernel))) rfl
theorem kY_X3_ends : Cond.laysFinal RX3 "SnailLaws$Tape" "ends" "[I" ∈ gtb := gm (tb1 (List.mem_of_getElem? (i := 183) (by decide +kernel))) rfl
theorem kY_X3_values : Cond.laysFinal RX3 "SnailLaws$Tape" "values" "[I" ∈ gtb := gm (tb1 (List.mem_of_getElem? (i := 185) (by decide +kernel))) rfl
theorem kY_X3_at : Cond.lays RX3 "SnailLaws$Tape" "at" "I" ∈ gtb := gm (tb1 (List.mem_of_getElem? (i := 187) (by decide +kernel))) rfl
theorem kB_X5_40 : Cond.classLink RX5 40 RX2 ∈ gtb := gm (tb1 (List.mem_of_getElem? (i := 190) (by decide +kernel))) rfl
theorem kO_X2 : Cond.instantiable RX2 3 ∈ gtb := gm (tb1 (List.mem_of_getElem? (i := 191) (by decide +kernel))) rfl
theorem kN_X5_42 : Cond.methodLinkNest RX5 42 yX2_init "SnailLaws" ∈ lw_tbl := tb1 (List.mem_of_getElem? (i := 192) (by decide +kernel))
theorem kI_X2_init : Cond.instanceMethod yX2_init ∈ gtb := gm (tb1 (List.mem_of_getElem? (i := 193) (by decide +kernel))) rfl
theorem kC_X2_init : Cond.code yX2_init cX2_init 1 none ∈ gtb := gm (tb1 (List.mem_of_getElem? (i := 194) rfl)) rfl
theorem kL_X2_3 : Cond.methodLink RX2 3 (⟨"java/lang/Object", "<init>", "()V"⟩ : MethodName) ∈ gtb := gm (tb1 (List.mem_of_getElem? (i := 195) (by decide +kernel))) rfl
theorem kF_X2_9 : Cond.fieldLink RX2 9 RX2 "bits" "[I" ∈ gtb := gm (tb1 (List.mem_of_getElem? (i := 196) (by decide +kernel))) rfl
theorem kF_X5_275 : Cond.fieldLink RX5 275 RX2 "bits" "[I" ∈ gtb := gm (tb1 (List.mem_of_getElem? (i := 197) (by decide +kernel))) rfl
theorem kF_X2_15 : Cond.fieldLink RX2 15 RX2 "sizes" "[I" ∈ gtb := gm (tb1 (List.mem_of_getElem? (i := 198) (by decide +kernel))) rfl
theorem kF_X0_101 : Cond.fieldLink RX0 101 RX2 "sizes" "[I" ∈ gtb := gm (tb1 (List.mem_of_getElem? (i := 199) (by decide +kernel))) rfl
theorem kF_X5_263 : Cond.fieldLink RX5 263 RX2 "sizes" "[I" ∈ gtb := gm (tb1 (List.mem_of_getElem? (i := 200) (by decide +kernel))) rfl
theorem kF_X2_18 : Cond.fieldLink RX2 18 RX2 "numbers" "[I" ∈ gtb := gm (tb1 (List.mem_of_getElem? (i := 201) (by decide +kernel))) rfl
theorem kY_X2_bits : Cond.laysFinal RX2 "SnailLaws$Sheets" "bits" "[I" ∈ gtb := gm (tb1 (List.mem_of_getElem? (i := 202) (by decide +kernel))) rfl
theorem kY_X2_sizes : Cond.laysFinal RX2 "SnailLaws$Sheets" "sizes" "[I" ∈ gtb := gm (tb1 (List.mem_of_getElem? (i := 204) (by decide +kernel))) rfl
theorem kY_X2_numbers : Cond.laysFinal RX2 "SnailLaws$Sheets" "numbers" "[I" ∈ gtb := gm (tb1 (List.mem_of_getElem? (i := 206) (by decide +kernel))) rfl
theorem kF_X5_12 : Cond.fieldLink RX5 12 RX5 "real" "LSnailLaws$Republic;" ∈ gtb := gm (tb1 (List.mem_of_getElem? (i := 209) (by decide +kernel))) rfl
theorem kF_X5_16 : Cond.fieldLink RX5 16 RX5 "kept" "LSnailLaws$Republic;" ∈ gtb := gm (tb1 (List.mem_of_getElem? (i := 210) (by decide +kernel))) rfl
theorem kF_X5_22 : Cond.fieldLink RX5 22 RX5 "forecast" "LSnailLaws$Forecast;" ∈ gtb := gm (tb1 (List.mem_of_getElem? (i := 211) (by decide +kernel))) rfl
theorem kF_X5_29 : Cond.fieldLink RX5 29 RX5 "ways" "LSnailLaws$Ways;" ∈ gtb := gm (tb1 (List.mem_of_getElem? (i := 212) (by decide +kernel))) rfl
theorem kF_X5_36 : Cond.fieldLink RX5 36 RX5 "tape" "LSnailLaws$Tape;" ∈ gtb := gm (tb1 (List.mem_of_getElem? (i := 213) (by decide +kernel))) rfl
theorem kF_X5_43 : Cond.fieldLink RX5 43 RX5 "sheets" "LSnailLaws$Sheets;" ∈ gtb := gm (tb1 (List.mem_of_getElem? (i := 214) (by decide +kernel))) rfl
theorem kF_X5_47 : Cond.fieldLink RX5 47 RX5 "told" "[I" ∈ gtb := gm (tb1 (List.mem_of_getElem? (i := 215) (by decide +kernel))) rfl
theorem kF_X5_51 : Cond.fieldLink RX5 51 RX5 "isKept" "Z" ∈ gtb := gm (tb1 (List.mem_of_getElem? (i := 216) (by decide +kernel))) rfl
theorem kY_X5_real : Cond.laysFinal RX5 "SnailLaws" "real" "LSnailLaws$Republic;" ∈ gtb := gm (tb1 (List.mem_of_getElem? (i := 217) (by decide +kernel))) rfl
theorem kY_X5_kept : Cond.laysFinal RX5 "SnailLaws" "kept" "LSnailLaws$Republic;" ∈ gtb := gm (tb1 (List.mem_of_getElem? (i := 219) (by decide +kernel))) rfl
theorem kY_X5_forecast : Cond.laysFinal RX5 "SnailLaws" "forecast" "LSnailLaws$Forecast;" ∈ gtb := gm (tb1 (List.mem_of_getElem? (i := 221) (by decide +kernel))) rfl
theorem kY_X5_ways : Cond.laysFinal RX5 "SnailLaws" "ways" "LSnailLaws$Ways;" ∈ gtb := gm (tb1 (List.mem_of_getElem? (i := 223) (by decide +kernel))) rfl
theorem kY_X5_tape : Cond.laysFinal RX5 "SnailLaws" "tape" "LSnailLaws$Tape;" ∈ gtb := gm (tb1 (List.mem_of_getElem? (i := 225) (by decide +kernel))) rfl
theorem kY_X5_sheets : Cond.laysFinal RX5 "SnailLaws" "sheets" "LSnailLaws$Sheets;" ∈ gtb := gm (tb1 (List.mem_of_getElem? (i := 227) (by decide +kernel))) rfl
theorem kY_X5_told : Cond.laysFinal RX5 "SnailLaws" "told" "[I" ∈ gtb := gm (tb1 (List.mem_of_getElem? (i := 229) (by decide +kernel))) rfl
theorem kY_X5_isKept : Cond.lays RX5 "SnailLaws" "isKept" "Z" ∈ gtb := gm (tb1 (List.mem_of_getElem? (i := 231) (by decide +kernel))) rfl
theorem kL_L_13 : Cond.methodLink RL 13 yX5_hedge ∈ gtb := gm (tb1 (List.mem_of_getElem? (i := 234) (by decide +kernel))) rfl
theorem kI_X5_hedge : Cond.instanceMethod yX5_hedge ∈ gtb := gm (tb1 (List.mem_of_getElem? (i := 235) (by decide +kernel))) rfl
theorem kV_X5_hedge : Cond.selects RX5 yX5_hedge yX5_hedge ∈ gtb := gm (tb1 (List.mem_of_getElem? (i := 236) (by decide +kernel))) rfl
theorem kC_X5_hedge : Cond.code yX5_hedge cX5_hedge 4 (some FieldType.int) ∈ gtb := gm (tb1 (List.mem_of_getElem? (i := 237) rfl)) rfl
theorem kL_X5_55 : Cond.methodLink RX5 55 yX5_isCell ∈ gtb := gm (tb1 (List.mem_of_getElem? (i := 238) (by decide +kernel))) rfl
theorem kS_X5_isCell : Cond.static yX5_isCell ∈ gtb := gm (tb1 (List.mem_of_getElem? (i := 239) (by decide +kernel))) rfl
theorem kC_X5_isCell : Cond.code yX5_isCell cX5_isCell 1 (some FieldType.boolean) ∈ gtb := gm (tb2 (List.mem_of_getElem? (i := 0) rfl)) rfl
theorem kL_X5_59 : Cond.methodLink RX5 59 yX5_isWithin ∈ gtb := gm (tb2 (List.mem_of_getElem? (i := 1) (by decide +kernel))) rfl
theorem kS_X5_isWithin : Cond.static yX5_isWithin ∈ gtb := gm (tb2 (List.mem_of_getElem? (i := 2) (by decide +kernel))) rfl
theorem kC_X5_isWithin : Cond.code yX5_isWithin cX5_isWithin 2 (some FieldType.boolean) ∈ gtb := gm (tb2 (List.mem_of_getElem? (i := 3) rfl)) rfl
theorem kK_X5_63 : Cond.constant RX5 63 (Int32.ofInt (-1000001)) ∈ gtb := gm (tb2 (List.mem_of_getElem? (i := 4) (by decide +kernel))) rfl
theorem kL_X5_64 : Cond.methodLink RX5 64 yX5_tell ∈ gtb := gm (tb2 (List.mem_of_getElem? (i := 5) (by decide +kernel))) rfl
theorem kI_X5_tell : Cond.instanceMethod yX5_tell ∈ gtb := gm (tb2 (List.mem_of_getElem? (i := 7) (by decide +kernel))) rfl
theorem kC_X5_tell : Cond.code yX5_tell cX5_tell 3 (some FieldType.int) ∈ gtb := gm (tb2 (List.mem_of_getElem? (i := 8) rfl)) rfl
theorem kL_L_18 : Cond.methodLink RL 18 yX5_greens ∈ gtb := gm (tb2 (List.mem_of_getElem? (i := 9) (by decide +kernel))) rfl
theorem kI_X5_greens : Cond.instanceMethod yX5_greens ∈ gtb := gm (tb2 (List.mem_of_getElem? (i := 10) (by decide +kernel))) rfl
theorem kV_X5_greens : Cond.selects RX5 yX5_greens yX5_greens ∈ gtb := gm (tb2 (List.mem_of_getElem? (i := 11) (by decide +kernel))) rfl
theorem kC_X5_greens : Cond.code yX5_greens cX5_greens 4 (some FieldType.int) ∈ gtb := gm (tb2 (List.mem_of_getElem? (i := 12) rfl)) rfl
theorem kL_L_22 : Cond.methodLink RL 22 yX5_land ∈ gtb := gm (tb2 (List.mem_of_getElem? (i := 13) (by decide +kernel))) rfl
theorem kI_X5_land : Cond.instanceMethod yX5_land ∈ gtb := gm (tb2 (List.mem_of_getElem? (i := 14) (by decide +kernel))) rfl
theorem kV_X5_land : Cond.selects RX5 yX5_land yX5_land ∈ gtb := gm (tb2 (List.mem_of_getElem? (i := 15) (by decide +kernel))) rfl
theorem kC_X5_land : Cond.code yX5_land cX5_land 3 (some FieldType.int) ∈ gtb := gm (tb2 (List.mem_of_getElem? (i := 16) rfl)) rfl
theorem kL_L_26 : Cond.methodLink RL 26 yX5_far ∈ gtb := gm (tb2 (List.mem_of_getElem? (i := 17) (by decide +kernel))) rfl
theorem kI_X5_far : Cond.instanceMethod yX5_far ∈ gtb := gm (tb2 (List.mem_of_getElem? (i := 18) (by decide +kernel))) rfl
theorem kV_X5_far : Cond.selects RX5 yX5_far yX5_far ∈ gtb := gm (tb2 (List.mem_of_getElem? (i := 19) (by decide +kernel))) rfl
theorem kC_X5_far : Cond.code yX5_far cX5_far 3 (some FieldType.int) ∈ gtb := gm (tb2 (List.mem_of_getElem? (i := 20) rfl)) rfl
theorem kL_X5_77 : Cond.methodLink RX5 77 yX4_openLand ∈ gtb := gm (tb2 (List.mem_of_getElem? (i := 21) (by decide +kernel))) rfl
theorem kI_X4_openLand : Cond.instanceMethod yX4_openLand ∈ gtb := gm (tb2 (List.mem_of_getElem? (i := 22) (by decide +kernel))) rfl
theorem kV_X4_openLand : Cond.selects RX4 yX4_openLand yX4_openLand ∈ gtb := gm (tb2 (List.mem_of_getElem? (i := 23) (by decide +kernel))) rfl
theorem kC_X4_openLand : Cond.code yX4_openLand cX4_openLand 3 none ∈ gtb := gm (tb2 (List.mem_of_getElem? (i := 24) rfl)) rfl
theorem kL_X5_81 : Cond.methodLink RX5 81 yX4_measure ∈ gtb := gm (tb2 (List.mem_of_getElem? (i := 25) (by decide +kernel))) rfl
theorem kI_X4_measure : Cond.instanceMethod yX4_measure ∈ gtb := gm (tb2 (List.mem_of_getElem? (i := 26) (by decide +kernel))) rfl
theorem kV_X4_measure : Cond.selects RX4 yX4_measure yX4_measure ∈ gtb := gm (tb2 (List.mem_of_getElem? (i := 27) (by decide +kernel))) rfl
theorem kC_X4_measure : Cond.code yX4_measure cX4_measure 4 none ∈ gtb := gm (tb2 (List.mem_of_getElem? (i := 28) rfl)) rfl
theorem kL_X4_37 : Cond.methodLink RX4 37 yJ7_fill_53178 ∈ gtb := gm (tb2 (List.mem_of_getElem? (i := 29) (by decide +kernel))) rfl
theorem kL_X4_43 : Cond.methodLink RX4 43 yX4_spreadFrom ∈ gtb := gm (tb2 (List.mem_of_getElem? (i := 30) (by decide +kernel))) rfl
theorem kI_X4_spreadFrom : Cond.instanceMethod yX4_spreadFrom ∈ gtb := gm (tb2 (List.mem_of_getElem? (i := 32) (by decide +kernel))) rfl
theorem kC_X4_spreadFrom : Cond.code yX4_spreadFrom cX4_spreadFrom 6 (some FieldType.int) ∈ gtb := gm (tb2 (List.mem_of_getElem? (i := 33) rfl)) rfl
theorem kN_X4_47 : Cond.methodLinkNest RX4 47 yX5_beside "SnailLaws" ∈ lw_tbl := tb2 (List.mem_of_getElem? (i := 34) (by decide +kernel))
theorem kS_X5_beside : Cond.static yX5_beside ∈ gtb := gm (tb2 (List.mem_of_getElem? (i := 35) (by decide +kernel))) rfl
theorem kC_X5_beside : Cond.code yX5_beside cX5_beside 2 (some FieldType.int) ∈ gtb := gm (tb2 (List.mem_of_getElem? (i := 36) rfl)) rfl
theorem kL_L_30 : Cond.methodLink RL 30 yX5_snail ∈ gtb := gm (tb2 (List.mem_of_getElem? (i := 37) (by decide +kernel))) rfl
theorem kI_X5_snail : Cond.instanceMethod yX5_snail ∈ gtb := gm (tb2 (List.mem_of_getElem? (i := 38) (by decide +kernel))) rfl
theorem kV_X5_snail : Cond.selects RX5 yX5_snail yX5_snail ∈ gtb := gm (tb2 (List.mem_of_getElem? (i := 39) (by decide +kernel))) rfl
theorem kC_X5_snail : Cond.code yX5_snail cX5_snail 4 (some FieldType.int) ∈ gtb := gm (tb2 (List.mem_of_getElem? (i := 40) rfl)) rfl
theorem kL_X5_88 : Cond.methodLink RX5 88 yX1_addSnail ∈ gtb := gm (tb2 (List.mem_of_getElem? (i := 41) (by decide +kernel))) rfl
theorem kI_X1_addSnail : Cond.instanceMethod yX1_addSnail ∈ gtb := gm (tb2 (List.mem_of_getElem? (i := 42) (by decide +kernel))) rfl
theorem kV_X1_addSnail : Cond.selects RX1 yX1_addSnail yX1_addSnail ∈ gtb := gm (tb2 (List.mem_of_getElem? (i := 43) (by decide +kernel))) rfl
theorem kC_X1_addSnail : Cond.code yX1_addSnail cX1_addSnail 4 (some FieldType.int) ∈ gtb := gm (tb2 (List.mem_of_getElem? (i := 44) rfl)) rfl
theorem kK_X5_92 : Cond.constant RX5 92 (Int32.ofInt (-1000002)) ∈ gtb := gm (tb2 (List.mem_of_getElem? (i := 45) (by decide +kernel))) rfl
theorem kL_L_34 : Cond.methodLink RL 34 yX5_of ∈ gtb := gm (tb2 (List.mem_of_getElem? (i := 46) (by decide +kernel))) rfl
theorem kI_X5_of : Cond.instanceMethod yX5_of ∈ gtb := gm (tb2 (List.mem_of_getElem? (i := 47) (by decide +kernel))) rfl
theorem kV_X5_of : Cond.selects RX5 yX5_of yX5_of ∈ gtb := gm (tb2 (List.mem_of_getElem? (i := 48) (by decide +kernel))) rfl
theorem kC_X5_of : Cond.code yX5_of cX5_of 3 (some FieldType.int) ∈ gtb := gm (tb2 (List.mem_of_getElem? (i := 49) rfl)) rfl
theorem kL_X5_93 : Cond.methodLink RX5 93 yX5_isSnail ∈ gtb := gm (tb2 (List.mem_of_getElem? (i := 50) (by decide +kernel))) rfl
theorem kI_X5_isSnail : Cond.instanceMethod yX5_isSnail ∈ gtb := gm (tb2 (List.mem_of_getElem? (i := 52) (by decide +kernel))) rfl
theorem kC_X5_isSnail : Cond.code yX5_isSnail cX5_isSnail 2 (some FieldType.boolean) ∈ gtb := gm (tb2 (List.mem_of_getElem? (i := 53) rfl)) rfl
theorem kL_X5_96 : Cond.methodLink RX5 96 yX1_movesOf ∈ gtb := gm (tb2 (List.mem_of_getElem? (i := 54) (by decide +kernel))) rfl
theorem kI_X1_movesOf : Cond.instanceMethod yX1_movesOf ∈ gtb := gm (tb2 (List.mem_of_getElem? (i := 55) (by decide +kernel))) rfl
theorem kV_X1_movesOf : Cond.selects RX1 yX1_movesOf yX1_movesOf ∈ gtb := gm (tb2 (List.mem_of_getElem? (i := 56) (by decide +kernel))) rfl
theorem kC_X1_movesOf : Cond.code yX1_movesOf cX1_movesOf 5 (some FieldType.int) ∈ gtb := gm (tb2 (List.mem_of_getElem? (i := 57) rfl)) rfl
theorem kL_X5_105 : Cond.methodLink RX5 105 yX1_traitRow ∈ gtb := gm (tb2 (List.mem_of_getElem? (i := 58) (by decide +kernel))) rfl
theorem kI_X1_traitRow : Cond.instanceMethod yX1_traitRow ∈ gtb := gm (tb2 (List.mem_of_getElem? (i := 59) (by decide +kernel))) rfl
theorem kV_X1_traitRow : Cond.selects RX1 yX1_traitRow yX1_traitRow ∈ gtb := gm (tb2 (List.mem_of_getElem? (i := 60) (by decide +kernel))) rfl
theorem kC_X1_traitRow : Cond.code yX1_traitRow cX1_traitRow 2 (some (FieldType.array FieldType.int)) ∈ gtb := gm (tb2 (List.mem_of_getElem? (i := 61) rfl)) rfl
theorem kL_L_38 : Cond.methodLink RL 38 yX5_change ∈ gtb := gm (tb2 (List.mem_of_getElem? (i := 62) (by decide +kernel))) rfl
theorem kI_X5_change : Cond.instanceMethod yX5_change ∈ gtb := gm (tb2 (List.mem_of_getElem? (i := 63) (by decide +kernel))) rfl
theorem kV_X5_change : Cond.selects RX5 yX5_change yX5_change ∈ gtb := gm (tb2 (List.mem_of_getElem? (i := 64) (by decide +kernel))) rfl
theorem kC_X5_change : Cond.code yX5_change cX5_change 6 (some FieldType.int) ∈ gtb := gm (tb2 (List.mem_of_getElem? (i := 65) rfl)) rfl
theorem kF_X5_109 : Cond.fieldLink RX5 109 RX5 "MOST_OF_TRAIT" "[I" ∈ gtb := gm (tb2 (List.mem_of_getElem? (i := 66) (by decide +kernel))) rfl
theorem kZ_X5_MOST_OF_TRAIT : Cond.laysStatic RX5 "MOST_OF_TRAIT" "[I" ∈ lw_tbl := tb2 (List.mem_of_getElem? (i := 67) (by decide +kernel))
theorem kL_L_43 : Cond.methodLink RL 43 yX5_bans ∈ gtb := gm (tb2 (List.mem_of_getElem? (i := 68) (by decide +kernel))) rfl
theorem kI_X5_bans : Cond.instanceMethod yX5_bans ∈ gtb := gm (tb2 (List.mem_of_getElem? (i := 69) (by decide +kernel))) rfl
theorem kV_X5_bans : Cond.selects RX5 yX5_bans yX5_bans ∈ gtb := gm (tb2 (List.mem_of_getElem? (i := 70) (by decide +kernel))) rfl
theorem kC_X5_bans : Cond.code yX5_bans cX5_bans 4 (some FieldType.int) ∈ gtb := gm (tb2 (List.mem_of_getElem? (i := 71) rfl)) rfl
theorem kL_X5_112 : Cond.methodLink RX5 112 yX5_isLaw ∈ gtb := gm (tb2 (List.mem_of_getElem? (i := 72) (by decide +kernel))) rfl
theorem kS_X5_isLaw : Cond.static yX5_isLaw ∈ gtb := gm (tb2 (List.mem_of_getElem? (i := 73) (by decide +kernel))) rfl
theorem kC_X5_isLaw : Cond.code yX5_isLaw cX5_isLaw 1 (some FieldType.boolean) ∈ gtb := gm (tb2 (List.mem_of_getElem? (i := 74) rfl)) rfl
theorem kL_L_47 : Cond.methodLink RL 47 yX5_set ∈ gtb := gm (tb2 (List.mem_of_getElem? (i := 75) (by decide +kernel))) rfl
theorem kI_X5_set : Cond.instanceMethod yX5_set ∈ gtb := gm (tb2 (List.mem_of_getElem? (i := 76) (by decide +kernel))) rfl
theorem kV_X5_set : Cond.selects RX5 yX5_set yX5_set ∈ gtb := gm (tb2 (List.mem_of_getElem? (i := 77) (by decide +kernel))) rfl
theorem kC_X5_set : Cond.code yX5_set cX5_set 4 (some FieldType.int) ∈ gtb := gm (tb2 (List.mem_of_getElem? (i := 78) rfl)) rfl
theorem kL_L_51 : Cond.methodLink RL 51 yX5_go ∈ gtb := gm (tb2 (List.mem_of_getElem? (i := 79) (by decide +kernel))) rfl
theorem kI_X5_go : Cond.instanceMethod yX5_go ∈ gtb := gm (tb2 (List.mem_of_getElem? (i := 80) (by decide +kernel))) rfl
theorem kV_X5_go : Cond.selects RX5 yX5_go yX5_go ∈ gtb := gm (tb2 (List.mem_of_getElem? (i := 81) (by decide +kernel))) rfl
theorem kC_X5_go : Cond.code yX5_go cX5_go 2 (some FieldType.int) ∈ gtb := gm (tb2 (List.mem_of_getElem? (i := 82) rfl)) rfl
theorem kK_X5_128 : Cond.constant RX5 128 (Int32.ofInt (99999)) ∈ gtb := gm (tb2 (List.mem_of_getElem? (i := 83) (by decide +kernel))) rfl
theorem kK_X5_129 : Cond.constant RX5 129 (Int32.ofInt (-1000005)) ∈ gtb := gm (tb2 (List.mem_of_getElem? (i := 84) (by decide +kernel))) rfl
theorem kL_X5_130 : Cond.methodLink RX5 130 yX4_survey ∈ gtb := gm (tb2 (List.mem_of_getElem? (i := 85) (by decide +kernel))) rfl
theorem kI_X4_survey : Cond.instanceMethod yX4_survey ∈ gtb := gm (tb2 (List.mem_of_getElem? (i := 86) (by decide +kernel))) rfl
theorem kV_X4_survey : Cond.selects RX4 yX4_survey yX4_survey ∈ gtb := gm (tb2 (List.mem_of_getElem? (i := 87) (by decide +kernel))) rfl
theorem kC_X4_survey : Cond.code yX4_survey cX4_survey 4 none ∈ gtb := gm (tb2 (List.mem_of_getElem? (i := 88) rfl)) rfl
theorem kL_X4_50 : Cond.methodLink RX4 50 yX4_openLand ∈ gtb := gm (tb2 (List.mem_of_getElem? (i := 89) (by decide +kernel))) rfl
theorem kL_X4_61 : Cond.methodLink RX4 61 yX4_measure ∈ gtb := gm (tb2 (List.mem_of_getElem? (i := 90) (by decide +kernel))) rfl
theorem kL_X4_65 : Cond.methodLink RX4 65 yX4_nearerThan ∈ gtb := gm (tb2 (List.mem_of_getElem? (i := 91) (by decide +kernel))) rfl
theorem kI_X4_nearerThan : Cond.instanceMethod yX4_nearerThan ∈ gtb := gm (tb2 (List.mem_of_getElem? (i := 93) (by decide +kernel))) rfl
theorem kC_X4_nearerThan : Cond.code yX4_nearerThan cX4_nearerThan 4 (some FieldType.int) ∈ gtb := gm (tb2 (List.mem_of_getElem? (i := 94) rfl)) rfl
theorem kL_X5_133 : Cond.methodLink RX5 133 yX1_passDays ∈ gtb := gm (tb2 (List.mem_of_getElem? (i := 95) (by decide +kernel))) rfl
theorem kI_X1_passDays : Cond.instanceMethod yX1_passDays ∈ gtb := gm (tb2 (List.mem_of_getElem? (i := 96) (by decide +kernel))) rfl
theorem kV_X1_passDays : Cond.selects RX1 yX1_passDays yX1_passDays ∈ gtb := gm (tb2 (List.mem_of_getElem? (i := 97) (by decide +kernel))) rfl
theorem kC_X1_passDays : Cond.code yX1_passDays cX1_passDays 6 none ∈ gtb := gm (tb2 (List.mem_of_getElem? (i := 98) rfl)) rfl
theorem kL_X1_76 : Cond.methodLink RX1 76 yX1_passDayOf ∈ gtb := gm (tb2 (List.mem_of_getElem? (i := 99) (by decide +kernel))) rfl
theorem kI_X1_passDayOf : Cond.instanceMethod yX1_passDayOf ∈ gtb := gm (tb2 (List.mem_of_getElem? (i := 101) (by decide +kernel))) rfl
theorem kC_X1_passDayOf : Cond.code yX1_passDayOf cX1_passDayOf 8 none ∈ gtb := gm (tb2 (List.mem_of_getElem? (i := 102) rfl)) rfl
theorem kL_X1_80 : Cond.methodLink RX1 80 yX1_movesOf ∈ gtb := gm (tb2 (List.mem_of_getElem? (i := 103) (by decide +kernel))) rfl
theorem kL_X1_84 : Cond.methodLink RX1 84 yX1_comeUnder ∈ gtb := gm (tb2 (List.mem_of_getElem? (i := 104) (by decide +kernel))) rfl
theorem kI_X1_comeUnder : Cond.instanceMethod yX1_comeUnder ∈ gtb := gm (tb2 (List.mem_of_getElem? (i := 106) (by decide +kernel))) rfl
theorem kC_X1_comeUnder : Cond.code yX1_comeUnder cX1_comeUnder 3 none ∈ gtb := gm (tb2 (List.mem_of_getElem? (i := 107) rfl)) rfl
theorem kK_X1_98 : Cond.constant RX1 98 (Int32.ofInt (99999)) ∈ gtb := gm (tb2 (List.mem_of_getElem? (i := 108) (by decide +kernel))) rfl
theorem kL_X1_99 : Cond.methodLink RX1 99 yJ9_min_7cf53 ∈ gtb := gm (tb2 (List.mem_of_getElem? (i := 109) (by decide +kernel))) rfl
theorem kS_J9_min_7cf53 : Cond.static yJ9_min_7cf53 ∈ gtb := gm (tb2 (List.mem_of_getElem? (i := 110) (by decide +kernel))) rfl
theorem kC_J9_min_7cf53 : Cond.code yJ9_min_7cf53 cJ9_min_7cf53 2 (some FieldType.int) ∈ gtb := gm (tb2 (List.mem_of_getElem? (i := 111) rfl)) rfl
theorem kL_X1_88 : Cond.methodLink RX1 88 yX4_nextOf ∈ gtb := gm (tb2 (List.mem_of_getElem? (i := 112) (by decide +kernel))) rfl
theorem kI_X4_nextOf : Cond.instanceMethod yX4_nextOf ∈ gtb := gm (tb2 (List.mem_of_getElem? (i := 113) (by decide +kernel))) rfl
theorem kV_X4_nextOf : Cond.selects RX4 yX4_nextOf yX4_nextOf ∈ gtb := gm (tb2 (List.mem_of_getElem? (i := 114) (by decide +kernel))) rfl
theorem kC_X4_nextOf : Cond.code yX4_nextOf cX4_nextOf 3 (some FieldType.int) ∈ gtb := gm (tb2 (List.mem_of_getElem? (i := 115) rfl)) rfl
theorem kN_X1_94 : Cond.methodLinkNest RX1 94 yX5_isOfKind "SnailLaws" ∈ lw_tbl := tb2 (List.mem_of_getElem? (i := 116) (by decide +kernel))
theorem kS_X5_isOfKind : Cond.static yX5_isOfKind ∈ gtb := gm (tb2 (List.mem_of_getElem? (i := 117) (by decide +kernel))) rfl
theorem kC_X5_isOfKind : Cond.code yX5_isOfKind cX5_isOfKind 4 (some FieldType.boolean) ∈ gtb := gm (tb2 (List.mem_of_getElem? (i := 118) rfl)) rfl
theorem kF_X5_298 : Cond.fieldLink RX5 298 RX5 "KIND_ABOVE" "[I" ∈ gtb := gm (tb2 (List.mem_of_getElem? (i := 119) (by decide +kernel))) rfl
theorem kZ_X5_KIND_ABOVE : Cond.laysStatic RX5 "KIND_ABOVE" "[I" ∈ lw_tbl := tb2 (List.mem_of_getElem? (i := 120) (by decide +kernel))
theorem kL_L_56 : Cond.methodLink RL 56 yX5_now ∈ gtb := gm (tb2 (List.mem_of_getElem? (i := 121) (by decide +kernel))) rfl
theorem kI_X5_now : Cond.instanceMethod yX5_now ∈ gtb := gm (tb2 (List.mem_of_getElem? (i := 122) (by decide +kernel))) rfl
theorem kV_X5_now : Cond.selects RX5 yX5_now yX5_now ∈ gtb := gm (tb2 (List.mem_of_getElem? (i := 123) (by decide +kernel))) rfl
theorem kC_X5_now : Cond.code yX5_now cX5_now 2 (some FieldType.int) ∈ gtb := gm (tb2 (List.mem_of_getElem? (i := 124) rfl)) rfl
theorem kL_X5_140 : Cond.methodLink RX5 140 yX1_cellsWithLaw ∈ gtb := gm (tb2 (List.mem_of_getElem? (i := 125) (by decide +kernel))) rfl
theorem kI_X1_cellsWithLaw : Cond.instanceMethod yX1_cellsWithLaw ∈ gtb := gm (tb2 (List.mem_of_getElem? (i := 126) (by decide +kernel))) rfl
theorem kV_X1_cellsWithLaw : Cond.selects RX1 yX1_cellsWithLaw yX1_cellsWithLaw ∈ gtb := gm (tb2 (List.mem_of_getElem? (i := 127) (by decide +kernel))) rfl
theorem kC_X1_cellsWithLaw : Cond.code yX1_cellsWithLaw cX1_cellsWithLaw 1 (some FieldType.int) ∈ gtb := gm (tb2 (List.mem_of_getElem? (i := 128) rfl)) rfl
theorem kL_X1_108 : Cond.methodLink RX1 108 yX1_cellsUnder ∈ gtb := gm (tb2 (List.mem_of_getElem? (i := 129) (by decide +kernel))) rfl
theorem kI_X1_cellsUnder : Cond.instanceMethod yX1_cellsUnder ∈ gtb := gm (tb2 (List.mem_of_getElem? (i := 130) (by decide +kernel))) rfl
theorem kV_X1_cellsUnder : Cond.selects RX1 yX1_cellsUnder yX1_cellsUnder ∈ gtb := gm (tb2 (List.mem_of_getElem? (i := 131) (by decide +kernel))) rfl
theorem kC_X1_cellsUnder : Cond.code yX1_cellsUnder cX1_cellsUnder 4 (some FieldType.int) ∈ gtb := gm (tb2 (List.mem_of_getElem? (i := 132) rfl)) rfl
theorem kL_X5_144 : Cond.methodLink RX5 144 yX1_allLeaves ∈ gtb := gm (tb2 (List.mem_of_getElem? (i := 133) (by decide +kernel))) rfl
theorem kI_X1_allLeaves : Cond.instanceMethod yX1_allLeaves ∈ gtb := gm (tb2 (List.mem_of_getElem? (i := 134) (by decide +kernel))) rfl
theorem kV_X1_allLeaves : Cond.selects RX1 yX1_allLeaves yX1_allLeaves ∈ gtb := gm (tb2 (List.mem_of_getElem? (i := 135) (by decide +kernel))) rfl
theorem kC_X1_allLeaves : Cond.code yX1_allLeaves cX1_allLeaves 1 (some FieldType.int) ∈ gtb := gm (tb2 (List.mem_of_getElem? (i := 136) rfl)) rfl
theorem kL_X1_111 : Cond.methodLink RX1 111 yX1_sumOf ∈ gtb := gm (tb2 (List.mem_of_getElem? (i := 137) (by decide +kernel))) rfl
theorem kS_X1_sumOf : Cond.static yX1_sumOf ∈ gtb := gm (tb2 (List.mem_of_getElem? (i := 138) (by decide +kernel))) rfl
theorem kC_X1_sumOf : Cond.code yX1_sumOf cX1_sumOf 6 (some FieldType.int) ∈ gtb := gm (tb2 (List.mem_of_getElem? (i := 139) rfl)) rfl
theorem kL_X5_147 : Cond.methodLink RX5 147 yX1_arrivedSnails ∈ gtb := gm (tb2 (List.mem_of_getElem? (i := 140) (by decide +kernel))) rfl
theorem kI_X1_arrivedSnails : Cond.instanceMethod yX1_arrivedSnails ∈ gtb := gm (tb2 (List.mem_of_getElem? (i := 141) (by decide +kernel))) rfl
theorem kV_X1_arrivedSnails : Cond.selects RX1 yX1_arrivedSnails yX1_arrivedSnails ∈ gtb := gm (tb2 (List.mem_of_getElem? (i := 142) (by decide +kernel))) rfl
theorem kC_X1_arrivedSnails : Cond.code yX1_arrivedSnails cX1_arrivedSnails 3 (some FieldType.int) ∈ gtb := gm (tb2 (List.mem_of_getElem? (i := 143) rfl)) rfl
theorem kL_L_60 : Cond.methodLink RL 60 yX5_realm ∈ gtb := gm (tb2 (List.mem_of_getElem? (i := 144) (by decide +kernel))) rfl
theorem kI_X5_realm : Cond.instanceMethod yX5_realm ∈ gtb := gm (tb2 (List.mem_of_getElem? (i := 145) (by decide +kernel))) rfl
theorem kV_X5_realm : Cond.selects RX5 yX5_realm yX5_realm ∈ gtb := gm (tb2 (List.mem_of_getElem? (i := 146) (by decide +kernel))) rfl
theorem kC_X5_realm : Cond.code yX5_realm cX5_realm 2 (some FieldType.int) ∈ gtb := gm (tb2 (List.mem_of_getElem? (i := 147) rfl)) rfl
theorem kL_X5_150 : Cond.methodLink RX5 150 yX1_cellsUnder ∈ gtb := gm (tb2 (List.mem_of_getElem? (i := 148) (by decide +kernel))) rfl
theorem kL_L_64 : Cond.methodLink RL 64 yX5_repeals ∈ gtb := gm (tb2 (List.mem_of_getElem? (i := 149) (by decide +kernel))) rfl
theorem kI_X5_repeals : Cond.instanceMethod yX5_repeals ∈ gtb := gm (tb2 (List.mem_of_getElem? (i := 150) (by decide +kernel))) rfl
theorem kV_X5_repeals : Cond.selects RX5 yX5_repeals yX5_repeals ∈ gtb := gm (tb2 (List.mem_of_getElem? (i := 151) (by decide +kernel))) rfl
theorem kC_X5_repeals : Cond.code yX5_repeals cX5_repeals 2 (some FieldType.int) ∈ gtb := gm (tb2 (List.mem_of_getElem? (i := 152) rfl)) rfl
theorem kL_X5_153 : Cond.methodLink RX5 153 yJ7_fill_53178 ∈ gtb := gm (tb2 (List.mem_of_getElem? (i := 153) (by decide +kernel))) rfl
theorem kL_L_69 : Cond.methodLink RL 69 yX5_may ∈ gtb := gm (tb2 (List.mem_of_getElem? (i := 154) (by decide +kernel))) rfl
theorem kI_X5_may : Cond.instanceMethod yX5_may ∈ gtb := gm (tb2 (List.mem_of_getElem? (i := 155) (by decide +kernel))) rfl
theorem kV_X5_may : Cond.selects RX5 yX5_may yX5_may ∈ gtb := gm (tb2 (List.mem_of_getElem? (i := 156) (by decide +kernel))) rfl
theorem kC_X5_may : Cond.code yX5_may cX5_may 3 (some FieldType.int) ∈ gtb := gm (tb2 (List.mem_of_getElem? (i := 157) rfl)) rfl
theorem kL_X5_159 : Cond.methodLink RX5 159 yX5_isDeed ∈ gtb := gm (tb2 (List.mem_of_getElem? (i := 158) (by decide +kernel))) rfl
theorem kS_X5_isDeed : Cond.static yX5_isDeed ∈ gtb := gm (tb2 (List.mem_of_getElem? (i := 159) (by decide +kernel))) rfl
theorem kC_X5_isDeed : Cond.code yX5_isDeed cX5_isDeed 1 (some FieldType.boolean) ∈ gtb := gm (tb2 (List.mem_of_getElem? (i := 160) rfl)) rfl
theorem kL_X5_162 : Cond.methodLink RX5 162 yX1_isLawful ∈ gtb := gm (tb2 (List.mem_of_getElem? (i := 161) (by decide +kernel))) rfl
theorem kI_X1_isLawful : Cond.instanceMethod yX1_isLawful ∈ gtb := gm (tb2 (List.mem_of_getElem? (i := 162) (by decide +kernel))) rfl
theorem kV_X1_isLawful : Cond.selects RX1 yX1_isLawful yX1_isLawful ∈ gtb := gm (tb2 (List.mem_of_getElem? (i := 163) (by decide +kernel))) rfl
theorem kC_X1_isLawful : Cond.code yX1_isLawful cX1_isLawful 4 (some FieldType.boolean) ∈ gtb := gm (tb2 (List.mem_of_getElem? (i := 164) rfl)) rfl
theorem kL_L_73 : Cond.methodLink RL 73 yX5_where ∈ gtb := gm (tb2 (List.mem_of_getElem? (i := 165) (by decide +kernel))) rfl
theorem kI_X5_where : Cond.instanceMethod yX5_where ∈ gtb := gm (tb2 (List.mem_of_getElem? (i := 166) (by decide +kernel))) rfl
theorem kV_X5_where : Cond.selects RX5 yX5_where yX5_where ∈ gtb := gm (tb2 (List.mem_of_getElem? (i := 167) (by decide +kernel))) rfl
theorem kC_X5_where : Cond.code yX5_where cX5_where 2 (some FieldType.int) ∈ gtb := gm (tb2 (List.mem_of_getElem? (i := 168) rfl)) rfl
theorem kL_X5_165 : Cond.methodLink RX5 165 yX1_openCellsFor ∈ gtb := gm (tb2 (List.mem_of_getElem? (i := 169) (by decide +kernel))) rfl
theorem kI_X1_openCellsFor : Cond.instanceMethod yX1_openCellsFor ∈ gtb := gm (tb2 (List.mem_of_getElem? (i := 170) (by decide +kernel))) rfl
theorem kV_X1_openCellsFor : Cond.selects RX1 yX1_openCellsFor yX1_openCellsFor ∈ gtb := gm (tb2 (List.mem_of_getElem? (i := 171) (by decide +kernel))) rfl
theorem kC_X1_openCellsFor : Cond.code yX1_openCellsFor cX1_openCellsFor 4 (some FieldType.int) ∈ gtb := gm (tb2 (List.mem_of_getElem? (i := 172) rfl)) rfl
theorem kL_X1_105 : Cond.methodLink RX1 105 yX1_isLawful ∈ gtb := gm (tb2 (List.mem_of_getElem? (i := 173) (by decide +kernel))) rfl
theorem kL_L_77 : Cond.methodLink RL 77 yX5_route ∈ gtb := gm (tb2 (List.mem_of_getElem? (i := 174) (by decide +kernel))) rfl
theorem kI_X5_route : Cond.instanceMethod yX5_route ∈ gtb := gm (tb2 (List.mem_of_getElem? (i := 175) (by decide +kernel))) rfl
theorem kV_X5_route : Cond.selects RX5 yX5_route yX5_route ∈ gtb := gm (tb2 (List.mem_of_getElem? (i := 176) (by decide +kernel))) rfl
theorem kC_X5_route : Cond.code yX5_route cX5_route 4 (some FieldType.int) ∈ gtb := gm (tb2 (List.mem_of_getElem? (i := 177) rfl)) rfl
theorem kL_X5_168 : Cond.methodLink RX5 168 yX4_openFor ∈ gtb := gm (tb2 (List.mem_of_getElem? (i := 178) (by decide +kernel))) rfl
theorem kI_X4_openFor : Cond.instanceMethod yX4_openFor ∈ gtb := gm (tb2 (List.mem_of_getElem? (i := 179) (by decide +kernel))) rfl
theorem kV_X4_openFor : Cond.selects RX4 yX4_openFor yX4_openFor ∈ gtb := gm (tb2 (List.mem_of_getElem? (i := 180) (by decide +kernel))) rfl
theorem kC_X4_openFor : Cond.code yX4_openFor cX4_openFor 4 none ∈ gtb := gm (tb2 (List.mem_of_getElem? (i := 181) rfl)) rfl
theorem kL_X4_33 : Cond.methodLink RX4 33 yX1_isLawful ∈ gtb := gm (tb2 (List.mem_of_getElem? (i := 182) (by decide +kernel))) rfl
theorem kK_X5_172 : Cond.constant RX5 172 (Int32.ofInt (-1000004)) ∈ gtb := gm (tb2 (List.mem_of_getElem? (i := 183) (by decide +kernel))) rfl
theorem kL_L_81 : Cond.methodLink RL 81 yX5_free ∈ gtb := gm (tb2 (List.mem_of_getElem? (i := 184) (by decide +kernel))) rfl
theorem kI_X5_free : Cond.instanceMethod yX5_free ∈ gtb := gm (tb2 (List.mem_of_getElem? (i := 185) (by decide +kernel))) rfl
theorem kV_X5_free : Cond.selects RX5 yX5_free yX5_free ∈ gtb := gm (tb2 (List.mem_of_getElem? (i := 186) (by decide +kernel))) rfl
theorem kC_X5_free : Cond.code yX5_free cX5_free 1 (some FieldType.int) ∈ gtb := gm (tb2 (List.mem_of_getElem? (i := 187) rfl)) rfl
theorem kL_X5_173 : Cond.methodLink RX5 173 yX1_freeDeeds ∈ gtb := gm (tb2 (List.mem_of_getElem? (i := 188) (by decide +kernel))) rfl
theorem kI_X1_freeDeeds : Cond.instanceMethod yX1_freeDeeds ∈ gtb := gm (tb2 (List.mem_of_getElem? (i := 189) (by decide +kernel))) rfl
theorem kV_X1_freeDeeds : Cond.selects RX1 yX1_freeDeeds yX1_freeDeeds ∈ gtb := gm (tb2 (List.mem_of_getElem? (i := 190) (by decide +kernel))) rfl
theorem kC_X1_freeDeeds : Cond.code yX1_freeDeeds cX1_freeDeeds 3 (some FieldType.int) ∈ gtb := gm (tb2 (List.mem_of_getElem? (i := 191) rfl)) rfl
theorem kL_L_85 : Cond.methodLink RL 85 yX5_ahead ∈ gtb := gm (tb2 (List.mem_of_getElem? (i := 192) (by decide +kernel))) rfl
theorem kI_X5_ahead : Cond.instanceMethod yX5_ahead ∈ gtb := gm (tb2 (List.mem_of_getElem? (i := 193) (by decide +kernel))) rfl
theorem kV_X5_ahead : Cond.selects RX5 yX5_ahead yX5_ahead ∈ gtb := gm (tb2 (List.mem_of_getElem? (i := 194) (by decide +kernel))) rfl
theorem kC_X5_ahead : Cond.code yX5_ahead cX5_ahead 3 (some FieldType.int) ∈ gtb := gm (tb2 (List.mem_of_getElem? (i := 195) rfl)) rfl
theorem kL_X5_176 : Cond.methodLink RX5 176 yX0_behind ∈ gtb := gm (tb2 (List.mem_of_getElem? (i := 196) (by decide +kernel))) rfl
theorem kI_X0_behind : Cond.instanceMethod yX0_behind ∈ gtb := gm (tb2 (List.mem_of_getElem? (i := 197) (by decide +kernel))) rfl
theorem kV_X0_behind : Cond.selects RX0 yX0_behind yX0_behind ∈ gtb := gm (tb2 (List.mem_of_getElem? (i := 198) (by decide +kernel))) rfl
theorem kC_X0_behind : Cond.code yX0_behind cX0_behind 3 (some (FieldType.object "SnailLaws$Republic")) ∈ gtb := gm (tb2 (List.mem_of_getElem? (i := 199) rfl)) rfl
theorem kL_X0_25 : Cond.methodLink RX0 25 yX1_become ∈ gtb := gm (tb2 (List.mem_of_getElem? (i := 200) (by decide +kernel))) rfl
theorem kI_X1_become : Cond.instanceMethod yX1_become ∈ gtb := gm (tb2 (List.mem_of_getElem? (i := 201) (by decide +kernel))) rfl
theorem kV_X1_become : Cond.selects RX1 yX1_become yX1_become ∈ gtb := gm (tb2 (List.mem_of_getElem? (i := 202) (by decide +kernel))) rfl
theorem kC_X1_become : Cond.code yX1_become cX1_become 2 none ∈ gtb := gm (tb2 (List.mem_of_getElem? (i := 203) rfl)) rfl
theorem kL_X1_70 : Cond.methodLink RX1 70 (⟨"java/lang/System", "arraycopy", "(Ljava/lang/Object;ILjava/lang/Object;II)V"⟩ : MethodName) ∈ gtb := gm (tb2 (List.mem_of_getElem? (i := 204) (by decide +kernel))) rfl
theorem kS_java_lang_System_arraycopy__Ljava_lang_Object_ILjava_lang_Object_II_V : Cond.static (⟨"java/lang/System", "arraycopy", "(Ljava/lang/Object;ILjava/lang/Object;II)V"⟩ : MethodName) ∈ gtb := gm (tb2 (List.mem_of_getElem? (i := 205) (by decide +kernel))) rfl
theorem kW_java_lang_System_arraycopy__Ljava_lang_Object_ILjava_lang_Object_II_V : Cond.native (⟨"java/lang/System", "arraycopy", "(Ljava/lang/Object;ILjava/lang/Object;II)V"⟩ : MethodName) ∈ gtb := gm (tb2 (List.mem_of_getElem? (i := 206) (by decide +kernel))) rfl
theorem kL_X0_32 : Cond.methodLink RX0 32 yX0_survey ∈ gtb := gm (tb2 (List.mem_of_getElem? (i := 207) (by decide +kernel))) rfl
theorem kI_X0_survey : Cond.instanceMethod yX0_survey ∈ gtb := gm (tb2 (List.mem_of_getElem? (i := 208) (by decide +kernel))) rfl
theorem kV_X0_survey : Cond.selects RX0 yX0_survey yX0_survey ∈ gtb := gm (tb2 (List.mem_of_getElem? (i := 209) (by decide +kernel))) rfl
theorem kC_X0_survey : Cond.code yX0_survey cX0_survey 2 none ∈ gtb := gm (tb2 (List.mem_of_getElem? (i := 210) rfl)) rfl
theorem kL_X0_29 : Cond.methodLink RX0 29 yX4_survey ∈ gtb := gm (tb2 (List.mem_of_getElem? (i := 211) (by decide +kernel))) rfl
theorem kL_X0_33 : Cond.methodLink RX0 33 yX1_passDays ∈ gtb := gm (tb2 (List.mem_of_getElem? (i := 212) (by decide +kernel))) rfl
theorem kL_L_89 : Cond.methodLink RL 89 yX5_lawAt ∈ gtb := gm (tb2 (List.mem_of_getElem? (i := 213) (by decide +kernel))) rfl
theorem kI_X5_lawAt : Cond.instanceMethod yX5_lawAt ∈ gtb := gm (tb2 (List.mem_of_getElem? (i := 214) (by decide +kernel))) rfl
theorem kV_X5_lawAt : Cond.selects RX5 yX5_lawAt yX5_lawAt ∈ gtb := gm (tb2 (List.mem_of_getElem? (i := 215) (by decide +kernel))) rfl
theorem kC_X5_lawAt : Cond.code yX5_lawAt cX5_lawAt 3 (some FieldType.int) ∈ gtb := gm (tb2 (List.mem_of_getElem? (i := 216) rfl)) rfl
theorem kL_L_93 : Cond.methodLink RL 93 yX5_reaches ∈ gtb := gm (tb2 (List.mem_of_getElem? (i := 217) (by decide +kernel))) rfl
theorem kI_X5_reaches : Cond.instanceMethod yX5_reaches ∈ gtb := gm (tb2 (List.mem_of_getElem? (i := 218) (by decide +kernel))) rfl
theorem kV_X5_reaches : Cond.selects RX5 yX5_reaches yX5_reaches ∈ gtb := gm (tb2 (List.mem_of_getElem? (i := 219) (by decide +kernel))) rfl
theorem kC_X5_reaches : Cond.code yX5_reaches cX5_reaches 4 (some FieldType.int) ∈ gtb := gm (tb2 (List.mem_of_getElem? (i := 220) rfl)) rfl
theorem kL_X5_180 : Cond.methodLink RX5 180 yX0_daysToLaw ∈ gtb := gm (tb2 (List.mem_of_getElem? (i := 221) (by decide +kernel))) rfl
theorem kI_X0_daysToLaw : Cond.instanceMethod yX0_daysToLaw ∈ gtb := gm (tb2 (List.mem_of_getElem? (i := 222) (by decide +kernel))) rfl
theorem kV_X0_daysToLaw : Cond.selects RX0 yX0_daysToLaw yX0_daysToLaw ∈ gtb := gm (tb2 (List.mem_of_getElem? (i := 223) (by decide +kernel))) rfl
theorem kC_X0_daysToLaw : Cond.code yX0_daysToLaw cX0_daysToLaw 6 (some FieldType.int) ∈ gtb := gm (tb2 (List.mem_of_getElem? (i := 224) rfl)) rfl
theorem kL_X0_45 : Cond.methodLink RX0 45 yX0_passDay ∈ gtb := gm (tb2 (List.mem_of_getElem? (i := 225) (by decide +kernel))) rfl
theorem kI_X0_passDay : Cond.instanceMethod yX0_passDay ∈ gtb := gm (tb2 (List.mem_of_getElem? (i := 227) (by decide +kernel))) rfl
theorem kC_X0_passDay : Cond.code yX0_passDay cX0_passDay 1 none ∈ gtb := gm (tb2 (List.mem_of_getElem? (i := 228) rfl)) rfl
theorem kL_L_97 : Cond.methodLink RL 97 yX5_wetFor ∈ gtb := gm (tb2 (List.mem_of_getElem? (i := 229) (by decide +kernel))) rfl
theorem kI_X5_wetFor : Cond.instanceMethod yX5_wetFor ∈ gtb := gm (tb2 (List.mem_of_getElem? (i := 230) (by decide +kernel))) rfl
theorem kV_X5_wetFor : Cond.selects RX5 yX5_wetFor yX5_wetFor ∈ gtb := gm (tb2 (List.mem_of_getElem? (i := 231) (by decide +kernel))) rfl
theorem kC_X5_wetFor : Cond.code yX5_wetFor cX5_wetFor 7 (some FieldType.int) ∈ gtb := gm (tb2 (List.mem_of_getElem? (i := 232) rfl)) rfl
theorem kL_L_101 : Cond.methodLink RL 101 yX5_comes ∈ gtb := gm (tb2 (List.mem_of_getElem? (i := 233) (by decide +kernel))) rfl
theorem kI_X5_comes : Cond.instanceMethod yX5_comes ∈ gtb := gm (tb2 (List.mem_of_getElem? (i := 234) (by decide +kernel))) rfl
theorem kV_X5_comes : Cond.selects RX5 yX5_comes yX5_comes ∈ gtb := gm (tb2 (List.mem_of_getElem? (i := 235) (by decide +kernel))) rfl
theorem kC_X5_comes : Cond.code yX5_comes cX5_comes 3 (some FieldType.int) ∈ gtb := gm (tb2 (List.mem_of_getElem? (i := 236) rfl)) rfl
theorem kL_X5_187 : Cond.methodLink RX5 187 yX0_daysToGate ∈ gtb := gm (tb2 (List.mem_of_getElem? (i := 237) (by decide +kernel))) rfl
theorem kI_X0_daysToGate : Cond.instanceMethod yX0_daysToGate ∈ gtb := gm (tb2 (List.mem_of_getElem? (i := 238) (by decide +kernel))) rfl
theorem kV_X0_daysToGate : Cond.selects RX0 yX0_daysToGate yX0_daysToGate ∈ gtb := gm (tb2 (List.mem_of_getElem? (i := 239) (by decide +kernel))) rfl
theorem kC_X0_daysToGate : Cond.code yX0_daysToGate cX0_daysToGate 5 (some FieldType.int) ∈ gtb := gm (tb3 (List.mem_of_getElem? (i := 0) rfl)) rfl
theorem kL_L_105 : Cond.methodLink RL 105 yX5_kindFor ∈ gtb := gm (tb3 (List.mem_of_getElem? (i := 1) (by decide +kernel))) rfl
theorem kI_X5_kindFor : Cond.instanceMethod yX5_kindFor ∈ gtb := gm (tb3 (List.mem_of_getElem? (i := 2) (by decide +kernel))) rfl
theorem kV_X5_kindFor : Cond.selects RX5 yX5_kindFor yX5_kindFor ∈ gtb := gm (tb3 (List.mem_of_getElem? (i := 3) (by decide +kernel))) rfl
theorem kC_X5_kindFor : Cond.code yX5_kindFor cX5_kindFor 6 (some FieldType.int) ∈ gtb := gm (tb3 (List.mem_of_getElem? (i := 4) rfl)) rfl
theorem kL_L_109 : Cond.methodLink RL 109 yX5_overtakes ∈ gtb := gm (tb3 (List.mem_of_getElem? (i := 5) (by decide +kernel))) rfl
theorem kI_X5_overtakes : Cond.instanceMethod yX5_overtakes ∈ gtb := gm (tb3 (List.mem_of_getElem? (i := 6) (by decide +kernel))) rfl
theorem kV_X5_overtakes : Cond.selects RX5 yX5_overtakes yX5_overtakes ∈ gtb := gm (tb3 (List.mem_of_getElem? (i := 7) (by decide +kernel))) rfl
theorem kC_X5_overtakes : Cond.code yX5_overtakes cX5_overtakes 4 (some FieldType.int) ∈ gtb := gm (tb3 (List.mem_of_getElem? (i := 8) rfl)) rfl
theorem kL_X5_191 : Cond.methodLink RX5 191 yX0_daysToOvertake ∈ gtb := gm (tb3 (List.mem_of_getElem? (i := 9) (by decide +kernel))) rfl
theorem kI_X0_daysToOvertake : Cond.instanceMethod yX0_daysToOvertake ∈ gtb := gm (tb3 (List.mem_of_getElem? (i := 10) (by decide +kernel))) rfl
theorem kV_X0_daysToOvertake : Cond.selects RX0 yX0_daysToOvertake yX0_daysToOvertake ∈ gtb := gm (tb3 (List.mem_of_getElem? (i := 11) (by decide +kernel))) rfl
theorem kC_X0_daysToOvertake : Cond.code yX0_daysToOvertake cX0_daysToOvertake 5 (some FieldType.int) ∈ gtb := gm (tb3 (List.mem_of_getElem? (i := 12) rfl)) rfl
theorem kL_X0_57 : Cond.methodLink RX0 57 yX0_isNearer ∈ gtb := gm (tb3 (List.mem_of_getElem? (i := 13) (by decide +kernel))) rfl
theorem kI_X0_isNearer : Cond.instanceMethod yX0_isNearer ∈ gtb := gm (tb3 (List.mem_of_getElem? (i := 15) (by decide +kernel))) rfl
theorem kC_X0_isNearer : Cond.code yX0_isNearer cX0_isNearer 3 (some FieldType.boolean) ∈ gtb := gm (tb3 (List.mem_of_getElem? (i := 16) rfl)) rfl
theorem kL_X0_61 : Cond.methodLink RX0 61 yX4_gateStepsOf ∈ gtb := gm (tb3 (List.mem_of_getElem? (i := 17) (by decide +kernel))) rfl
theorem kI_X4_gateStepsOf : Cond.instanceMethod yX4_gateStepsOf ∈ gtb := gm (tb3 (List.mem_of_getElem? (i := 18) (by decide +kernel))) rfl
theorem kV_X4_gateStepsOf : Cond.selects RX4 yX4_gateStepsOf yX4_gateStepsOf ∈ gtb := gm (tb3 (List.mem_of_getElem? (i := 19) (by decide +kernel))) rfl
theorem kC_X4_gateStepsOf : Cond.code yX4_gateStepsOf cX4_gateStepsOf 3 (some FieldType.int) ∈ gtb := gm (tb3 (List.mem_of_getElem? (i := 20) rfl)) rfl
theorem kL_L_113 : Cond.methodLink RL 113 yX5_lag ∈ gtb := gm (tb3 (List.mem_of_getElem? (i := 21) (by decide +kernel))) rfl
theorem kI_X5_lag : Cond.instanceMethod yX5_lag ∈ gtb := gm (tb3 (List.mem_of_getElem? (i := 22) (by decide +kernel))) rfl
theorem kV_X5_lag : Cond.selects RX5 yX5_lag yX5_lag ∈ gtb := gm (tb3 (List.mem_of_getElem? (i := 23) (by decide +kernel))) rfl
theorem kC_X5_lag : Cond.code yX5_lag cX5_lag 6 (some FieldType.int) ∈ gtb := gm (tb3 (List.mem_of_getElem? (i := 24) rfl)) rfl
theorem kL_L_117 : Cond.methodLink RL 117 yX5_clash ∈ gtb := gm (tb3 (List.mem_of_getElem? (i := 25) (by decide +kernel))) rfl
theorem kI_X5_clash : Cond.instanceMethod yX5_clash ∈ gtb := gm (tb3 (List.mem_of_getElem? (i := 26) (by decide +kernel))) rfl
theorem kV_X5_clash : Cond.selects RX5 yX5_clash yX5_clash ∈ gtb := gm (tb3 (List.mem_of_getElem? (i := 27) (by decide +kernel))) rfl
theorem kC_X5_clash : Cond.code yX5_clash cX5_clash 3 (some FieldType.int) ∈ gtb := gm (tb3 (List.mem_of_getElem? (i := 28) rfl)) rfl
theorem kL_X5_194 : Cond.methodLink RX5 194 yX0_cellOfMostClashes ∈ gtb := gm (tb3 (List.mem_of_getElem? (i := 29) (by decide +kernel))) rfl
theorem kI_X0_cellOfMostClashes : Cond.instanceMethod yX0_cellOfMostClashes ∈ gtb := gm (tb3 (List.mem_of_getElem? (i := 30) (by decide +kernel))) rfl
theorem kV_X0_cellOfMostClashes : Cond.selects RX0 yX0_cellOfMostClashes yX0_cellOfMostClashes ∈ gtb := gm (tb3 (List.mem_of_getElem? (i := 31) (by decide +kernel))) rfl
theorem kC_X0_cellOfMostClashes : Cond.code yX0_cellOfMostClashes cX0_cellOfMostClashes 6 (some FieldType.int) ∈ gtb := gm (tb3 (List.mem_of_getElem? (i := 32) rfl)) rfl
theorem kL_X0_68 : Cond.methodLink RX0 68 yJ7_fill_53178 ∈ gtb := gm (tb3 (List.mem_of_getElem? (i := 33) (by decide +kernel))) rfl
theorem kL_X0_74 : Cond.methodLink RX0 74 yX0_behind ∈ gtb := gm (tb3 (List.mem_of_getElem? (i := 34) (by decide +kernel))) rfl
theorem kK_X0_78 : Cond.constant RX0 78 (Int32.ofInt (-1000004)) ∈ gtb := gm (tb3 (List.mem_of_getElem? (i := 35) (by decide +kernel))) rfl
theorem kL_L_121 : Cond.methodLink RL 121 yX5_release ∈ gtb := gm (tb3 (List.mem_of_getElem? (i := 36) (by decide +kernel))) rfl
theorem kI_X5_release : Cond.instanceMethod yX5_release ∈ gtb := gm (tb3 (List.mem_of_getElem? (i := 37) (by decide +kernel))) rfl
theorem kV_X5_release : Cond.selects RX5 yX5_release yX5_release ∈ gtb := gm (tb3 (List.mem_of_getElem? (i := 38) (by decide +kernel))) rfl
theorem kC_X5_release : Cond.code yX5_release cX5_release 5 (some FieldType.int) ∈ gtb := gm (tb3 (List.mem_of_getElem? (i := 39) rfl)) rfl
theorem kL_X5_198 : Cond.methodLink RX5 198 yX0_cheapestSet ∈ gtb := gm (tb3 (List.mem_of_getElem? (i := 40) (by decide +kernel))) rfl
theorem kI_X0_cheapestSet : Cond.instanceMethod yX0_cheapestSet ∈ gtb := gm (tb3 (List.mem_of_getElem? (i := 41) (by decide +kernel))) rfl
theorem kV_X0_cheapestSet : Cond.selects RX0 yX0_cheapestSet yX0_cheapestSet ∈ gtb := gm (tb3 (List.mem_of_getElem? (i := 42) (by decide +kernel))) rfl
theorem kC_X0_cheapestSet : Cond.code yX0_cheapestSet cX0_cheapestSet 10 (some FieldType.int) ∈ gtb := gm (tb3 (List.mem_of_getElem? (i := 43) rfl)) rfl
theorem kL_X0_82 : Cond.methodLink RX0 82 yX1_priceOf ∈ gtb := gm (tb3 (List.mem_of_getElem? (i := 44) (by decide +kernel))) rfl
theorem kI_X1_priceOf : Cond.instanceMethod yX1_priceOf ∈ gtb := gm (tb3 (List.mem_of_getElem? (i := 45) (by decide +kernel))) rfl
theorem kV_X1_priceOf : Cond.selects RX1 yX1_priceOf yX1_priceOf ∈ gtb := gm (tb3 (List.mem_of_getElem? (i := 46) (by decide +kernel))) rfl
theorem kC_X1_priceOf : Cond.code yX1_priceOf cX1_priceOf 4 (some FieldType.int) ∈ gtb := gm (tb3 (List.mem_of_getElem? (i := 47) rfl)) rfl
theorem kL_X0_86 : Cond.methodLink RX0 86 yX0_bringsLaw ∈ gtb := gm (tb3 (List.mem_of_getElem? (i := 48) (by decide +kernel))) rfl
theorem kI_X0_bringsLaw : Cond.instanceMethod yX0_bringsLaw ∈ gtb := gm (tb3 (List.mem_of_getElem? (i := 50) (by decide +kernel))) rfl
theorem kC_X0_bringsLaw : Cond.code yX0_bringsLaw cX0_bringsLaw 6 (some FieldType.boolean) ∈ gtb := gm (tb3 (List.mem_of_getElem? (i := 51) rfl)) rfl
theorem kL_X0_90 : Cond.methodLink RX0 90 yX0_bearsLaw ∈ gtb := gm (tb3 (List.mem_of_getElem? (i := 52) (by decide +kernel))) rfl
theorem kI_X0_bearsLaw : Cond.instanceMethod yX0_bearsLaw ∈ gtb := gm (tb3 (List.mem_of_getElem? (i := 54) (by decide +kernel))) rfl
theorem kC_X0_bearsLaw : Cond.code yX0_bearsLaw cX0_bearsLaw 5 (some FieldType.boolean) ∈ gtb := gm (tb3 (List.mem_of_getElem? (i := 55) rfl)) rfl
theorem kL_L_125 : Cond.methodLink RL 125 yX5_costs ∈ gtb := gm (tb3 (List.mem_of_getElem? (i := 56) (by decide +kernel))) rfl
theorem kI_X5_costs : Cond.instanceMethod yX5_costs ∈ gtb := gm (tb3 (List.mem_of_getElem? (i := 57) (by decide +kernel))) rfl
theorem kV_X5_costs : Cond.selects RX5 yX5_costs yX5_costs ∈ gtb := gm (tb3 (List.mem_of_getElem? (i := 58) (by decide +kernel))) rfl
theorem kC_X5_costs : Cond.code yX5_costs cX5_costs 5 (some FieldType.int) ∈ gtb := gm (tb3 (List.mem_of_getElem? (i := 59) rfl)) rfl
theorem kL_X5_201 : Cond.methodLink RX5 201 yX1_priceOf ∈ gtb := gm (tb3 (List.mem_of_getElem? (i := 60) (by decide +kernel))) rfl
theorem kL_L_129 : Cond.methodLink RL 129 yX5_farthest ∈ gtb := gm (tb3 (List.mem_of_getElem? (i := 61) (by decide +kernel))) rfl
theorem kI_X5_farthest : Cond.instanceMethod yX5_farthest ∈ gtb := gm (tb3 (List.mem_of_getElem? (i := 62) (by decide +kernel))) rfl
theorem kV_X5_farthest : Cond.selects RX5 yX5_farthest yX5_farthest ∈ gtb := gm (tb3 (List.mem_of_getElem? (i := 63) (by decide +kernel))) rfl
theorem kC_X5_farthest : Cond.code yX5_farthest cX5_farthest 3 (some FieldType.int) ∈ gtb := gm (tb3 (List.mem_of_getElem? (i := 64) rfl)) rfl
theorem kL_X5_204 : Cond.methodLink RX5 204 yX0_farthestStart ∈ gtb := gm (tb3 (List.mem_of_getElem? (i := 65) (by decide +kernel))) rfl
theorem kI_X0_farthestStart : Cond.instanceMethod yX0_farthestStart ∈ gtb := gm (tb3 (List.mem_of_getElem? (i := 66) (by decide +kernel))) rfl
theorem kV_X0_farthestStart : Cond.selects RX0 yX0_farthestStart yX0_farthestStart ∈ gtb := gm (tb3 (List.mem_of_getElem? (i := 67) (by decide +kernel))) rfl
theorem kC_X0_farthestStart : Cond.code yX0_farthestStart cX0_farthestStart 8 (some FieldType.int) ∈ gtb := gm (tb3 (List.mem_of_getElem? (i := 68) rfl)) rfl
theorem kL_X0_97 : Cond.methodLink RX0 97 yX0_arrivesFrom ∈ gtb := gm (tb3 (List.mem_of_getElem? (i := 69) (by decide +kernel))) rfl
theorem kI_X0_arrivesFrom : Cond.instanceMethod yX0_arrivesFrom ∈ gtb := gm (tb3 (List.mem_of_getElem? (i := 71) (by decide +kernel))) rfl
theorem kC_X0_arrivesFrom : Cond.code yX0_arrivesFrom cX0_arrivesFrom 6 (some FieldType.boolean) ∈ gtb := gm (tb3 (List.mem_of_getElem? (i := 72) rfl)) rfl
theorem kL_L_133 : Cond.methodLink RL 133 yX5_fits ∈ gtb := gm (tb3 (List.mem_of_getElem? (i := 73) (by decide +kernel))) rfl
theorem kI_X5_fits : Cond.instanceMethod yX5_fits ∈ gtb := gm (tb3 (List.mem_of_getElem? (i := 74) (by decide +kernel))) rfl
theorem kV_X5_fits : Cond.selects RX5 yX5_fits yX5_fits ∈ gtb := gm (tb3 (List.mem_of_getElem? (i := 75) (by decide +kernel))) rfl
theorem kC_X5_fits : Cond.code yX5_fits cX5_fits 6 (some FieldType.int) ∈ gtb := gm (tb3 (List.mem_of_getElem? (i := 76) rfl)) rfl
theorem kL_X5_207 : Cond.methodLink RX5 207 yX5_trailFlaw ∈ gtb := gm (tb3 (List.mem_of_getElem? (i := 77) (by decide +kernel))) rfl
theorem kI_X5_trailFlaw : Cond.instanceMethod yX5_trailFlaw ∈ gtb := gm (tb3 (List.mem_of_getElem? (i := 79) (by decide +kernel))) rfl
theorem kC_X5_trailFlaw : Cond.code yX5_trailFlaw cX5_trailFlaw 4 (some FieldType.int) ∈ gtb := gm (tb3 (List.mem_of_getElem? (i := 80) rfl)) rfl
theorem kL_X5_266 : Cond.methodLink RX5 266 yX5_sheetFlaw ∈ gtb := gm (tb3 (List.mem_of_getElem? (i := 81) (by decide +kernel))) rfl
theorem kI_X5_sheetFlaw : Cond.instanceMethod yX5_sheetFlaw ∈ gtb := gm (tb3 (List.mem_of_getElem? (i := 83) (by decide +kernel))) rfl
theorem kC_X5_sheetFlaw : Cond.code yX5_sheetFlaw cX5_sheetFlaw 2 (some FieldType.int) ∈ gtb := gm (tb3 (List.mem_of_getElem? (i := 84) rfl)) rfl
theorem kL_X5_252 : Cond.methodLink RX5 252 yX5_isSheet ∈ gtb := gm (tb3 (List.mem_of_getElem? (i := 85) (by decide +kernel))) rfl
theorem kS_X5_isSheet : Cond.static yX5_isSheet ∈ gtb := gm (tb3 (List.mem_of_getElem? (i := 86) (by decide +kernel))) rfl
theorem kC_X5_isSheet : Cond.code yX5_isSheet cX5_isSheet 1 (some FieldType.boolean) ∈ gtb := gm (tb3 (List.mem_of_getElem? (i := 87) rfl)) rfl
theorem kL_X5_272 : Cond.methodLink RX5 272 yX2_isMissing ∈ gtb := gm (tb3 (List.mem_of_getElem? (i := 88) (by decide +kernel))) rfl
theorem kI_X2_isMissing : Cond.instanceMethod yX2_isMissing ∈ gtb := gm (tb3 (List.mem_of_getElem? (i := 89) (by decide +kernel))) rfl
theorem kV_X2_isMissing : Cond.selects RX2 yX2_isMissing yX2_isMissing ∈ gtb := gm (tb3 (List.mem_of_getElem? (i := 90) (by decide +kernel))) rfl
theorem kC_X2_isMissing : Cond.code yX2_isMissing cX2_isMissing 2 (some FieldType.boolean) ∈ gtb := gm (tb3 (List.mem_of_getElem? (i := 91) rfl)) rfl
theorem kK_X5_247 : Cond.constant RX5 247 (Int32.ofInt (-1000006)) ∈ gtb := gm (tb3 (List.mem_of_getElem? (i := 92) (by decide +kernel))) rfl
theorem kL_X5_210 : Cond.methodLink RX5 210 yX0_survey ∈ gtb := gm (tb3 (List.mem_of_getElem? (i := 93) (by decide +kernel))) rfl
theorem kL_X5_211 : Cond.methodLink RX5 211 yX0_leavesTrail ∈ gtb := gm (tb3 (List.mem_of_getElem? (i := 94) (by decide +kernel))) rfl
theorem kI_X0_leavesTrail : Cond.instanceMethod yX0_leavesTrail ∈ gtb := gm (tb3 (List.mem_of_getElem? (i := 95) (by decide +kernel))) rfl
theorem kV_X0_leavesTrail : Cond.selects RX0 yX0_leavesTrail yX0_leavesTrail ∈ gtb := gm (tb3 (List.mem_of_getElem? (i := 96) (by decide +kernel))) rfl
theorem kC_X0_leavesTrail : Cond.code yX0_leavesTrail cX0_leavesTrail 8 (some FieldType.boolean) ∈ gtb := gm (tb3 (List.mem_of_getElem? (i := 97) rfl)) rfl
theorem kL_X0_106 : Cond.methodLink RX0 106 yX2_numberAt ∈ gtb := gm (tb3 (List.mem_of_getElem? (i := 98) (by decide +kernel))) rfl
theorem kI_X2_numberAt : Cond.instanceMethod yX2_numberAt ∈ gtb := gm (tb3 (List.mem_of_getElem? (i := 99) (by decide +kernel))) rfl
theorem kV_X2_numberAt : Cond.selects RX2 yX2_numberAt yX2_numberAt ∈ gtb := gm (tb3 (List.mem_of_getElem? (i := 100) (by decide +kernel))) rfl
theorem kC_X2_numberAt : Cond.code yX2_numberAt cX2_numberAt 3 (some FieldType.int) ∈ gtb := gm (tb3 (List.mem_of_getElem? (i := 101) rfl)) rfl
theorem kL_L_137 : Cond.methodLink RL 137 yX5_began ∈ gtb := gm (tb3 (List.mem_of_getElem? (i := 102) (by decide +kernel))) rfl
theorem kI_X5_began : Cond.instanceMethod yX5_began ∈ gtb := gm (tb3 (List.mem_of_getElem? (i := 103) (by decide +kernel))) rfl
theorem kV_X5_began : Cond.selects RX5 yX5_began yX5_began ∈ gtb := gm (tb3 (List.mem_of_getElem? (i := 104) (by decide +kernel))) rfl
theorem kC_X5_began : Cond.code yX5_began cX5_began 5 (some FieldType.int) ∈ gtb := gm (tb3 (List.mem_of_getElem? (i := 105) rfl)) rfl
theorem kL_L_141 : Cond.methodLink RL 141 yX5_thrushes ∈ gtb := gm (tb3 (List.mem_of_getElem? (i := 106) (by decide +kernel))) rfl
theorem kI_X5_thrushes : Cond.instanceMethod yX5_thrushes ∈ gtb := gm (tb3 (List.mem_of_getElem? (i := 107) (by decide +kernel))) rfl
theorem kV_X5_thrushes : Cond.selects RX5 yX5_thrushes yX5_thrushes ∈ gtb := gm (tb3 (List.mem_of_getElem? (i := 108) (by decide +kernel))) rfl
theorem kC_X5_thrushes : Cond.code yX5_thrushes cX5_thrushes 4 (some FieldType.int) ∈ gtb := gm (tb3 (List.mem_of_getElem? (i := 109) rfl)) rfl
theorem kL_X5_215 : Cond.methodLink RX5 215 yX1_drawThrushes ∈ gtb := gm (tb3 (List.mem_of_getElem? (i := 110) (by decide +kernel))) rfl
theorem kI_X1_drawThrushes : Cond.instanceMethod yX1_drawThrushes ∈ gtb := gm (tb3 (List.mem_of_getElem? (i := 111) (by decide +kernel))) rfl
theorem kV_X1_drawThrushes : Cond.selects RX1 yX1_drawThrushes yX1_drawThrushes ∈ gtb := gm (tb3 (List.mem_of_getElem? (i := 112) (by decide +kernel))) rfl
theorem kC_X1_drawThrushes : Cond.code yX1_drawThrushes cX1_drawThrushes 3 (some FieldType.int) ∈ gtb := gm (tb3 (List.mem_of_getElem? (i := 113) rfl)) rfl
theorem kK_X1_104 : Cond.constant RX1 104 (Int32.ofInt (1103515245)) ∈ gtb := gm (tb3 (List.mem_of_getElem? (i := 114) (by decide +kernel))) rfl
theorem kL_L_145 : Cond.methodLink RL 145 yX5_alone ∈ gtb := gm (tb3 (List.mem_of_getElem? (i := 115) (by decide +kernel))) rfl
theorem kI_X5_alone : Cond.instanceMethod yX5_alone ∈ gtb := gm (tb3 (List.mem_of_getElem? (i := 116) (by decide +kernel))) rfl
theorem kV_X5_alone : Cond.selects RX5 yX5_alone yX5_alone ∈ gtb := gm (tb3 (List.mem_of_getElem? (i := 117) (by decide +kernel))) rfl
theorem kC_X5_alone : Cond.code yX5_alone cX5_alone 9 (some FieldType.long) ∈ gtb := gm (tb3 (List.mem_of_getElem? (i := 118) rfl)) rfl
theorem kL_X5_218 : Cond.methodLink RX5 218 yX5_commonDivisor ∈ gtb := gm (tb3 (List.mem_of_getElem? (i := 119) (by decide +kernel))) rfl
theorem kS_X5_commonDivisor : Cond.static yX5_commonDivisor ∈ gtb := gm (tb3 (List.mem_of_getElem? (i := 120) (by decide +kernel))) rfl
theorem kC_X5_commonDivisor : Cond.code yX5_commonDivisor cX5_commonDivisor 3 (some FieldType.int) ∈ gtb := gm (tb3 (List.mem_of_getElem? (i := 121) rfl)) rfl
theorem kL_L_150 : Cond.methodLink RL 150 yX5_seed ∈ gtb := gm (tb3 (List.mem_of_getElem? (i := 122) (by decide +kernel))) rfl
theorem kI_X5_seed : Cond.instanceMethod yX5_seed ∈ gtb := gm (tb3 (List.mem_of_getElem? (i := 123) (by decide +kernel))) rfl
theorem kV_X5_seed : Cond.selects RX5 yX5_seed yX5_seed ∈ gtb := gm (tb3 (List.mem_of_getElem? (i := 124) (by decide +kernel))) rfl
theorem kC_X5_seed : Cond.code yX5_seed cX5_seed 3 (some FieldType.int) ∈ gtb := gm (tb3 (List.mem_of_getElem? (i := 125) rfl)) rfl
theorem kL_L_154 : Cond.methodLink RL 154 yX5_feed ∈ gtb := gm (tb3 (List.mem_of_getElem? (i := 126) (by decide +kernel))) rfl
theorem kI_X5_feed : Cond.instanceMethod yX5_feed ∈ gtb := gm (tb3 (List.mem_of_getElem? (i := 127) (by decide +kernel))) rfl
theorem kV_X5_feed : Cond.selects RX5 yX5_feed yX5_feed ∈ gtb := gm (tb3 (List.mem_of_getElem? (i := 128) (by decide +kernel))) rfl
theorem kC_X5_feed : Cond.code yX5_feed cX5_feed 3 (some FieldType.int) ∈ gtb := gm (tb3 (List.mem_of_getElem? (i := 129) rfl)) rfl
theorem kL_X5_224 : Cond.methodLink RX5 224 yX3_append ∈ gtb := gm (tb3 (List.mem_of_getElem? (i := 130) (by decide +kernel))) rfl
theorem kI_X3_append : Cond.instanceMethod yX3_append ∈ gtb := gm (tb3 (List.mem_of_getElem? (i := 131) (by decide +kernel))) rfl
theorem kV_X3_append : Cond.selects RX3 yX3_append yX3_append ∈ gtb := gm (tb3 (List.mem_of_getElem? (i := 132) (by decide +kernel))) rfl
theorem kC_X3_append : Cond.code yX3_append cX3_append 4 (some FieldType.boolean) ∈ gtb := gm (tb3 (List.mem_of_getElem? (i := 133) rfl)) rfl
theorem kL_L_158 : Cond.methodLink RL 158 yX5_wipe ∈ gtb := gm (tb3 (List.mem_of_getElem? (i := 134) (by decide +kernel))) rfl
theorem kI_X5_wipe : Cond.instanceMethod yX5_wipe ∈ gtb := gm (tb3 (List.mem_of_getElem? (i := 135) (by decide +kernel))) rfl
theorem kV_X5_wipe : Cond.selects RX5 yX5_wipe yX5_wipe ∈ gtb := gm (tb3 (List.mem_of_getElem? (i := 136) (by decide +kernel))) rfl
theorem kC_X5_wipe : Cond.code yX5_wipe cX5_wipe 2 (some FieldType.int) ∈ gtb := gm (tb3 (List.mem_of_getElem? (i := 137) rfl)) rfl
theorem kL_L_162 : Cond.methodLink RL 162 yX5_text ∈ gtb := gm (tb3 (List.mem_of_getElem? (i := 138) (by decide +kernel))) rfl
theorem kI_X5_text : Cond.instanceMethod yX5_text ∈ gtb := gm (tb3 (List.mem_of_getElem? (i := 139) (by decide +kernel))) rfl
theorem kV_X5_text : Cond.selects RX5 yX5_text yX5_text ∈ gtb := gm (tb3 (List.mem_of_getElem? (i := 140) (by decide +kernel))) rfl
theorem kC_X5_text : Cond.code yX5_text cX5_text 2 (some FieldType.int) ∈ gtb := gm (tb3 (List.mem_of_getElem? (i := 141) rfl)) rfl
theorem kL_X5_230 : Cond.methodLink RX5 230 yX0_draftOf ∈ gtb := gm (tb3 (List.mem_of_getElem? (i := 142) (by decide +kernel))) rfl
theorem kI_X0_draftOf : Cond.instanceMethod yX0_draftOf ∈ gtb := gm (tb3 (List.mem_of_getElem? (i := 143) (by decide +kernel))) rfl
theorem kV_X0_draftOf : Cond.selects RX0 yX0_draftOf yX0_draftOf ∈ gtb := gm (tb3 (List.mem_of_getElem? (i := 144) (by decide +kernel))) rfl
theorem kC_X0_draftOf : Cond.code yX0_draftOf cX0_draftOf 2 (some (FieldType.object "SnailLaws$Republic")) ∈ gtb := gm (tb3 (List.mem_of_getElem? (i := 145) rfl)) rfl
theorem kL_X5_234 : Cond.methodLink RX5 234 yX3_readInto ∈ gtb := gm (tb3 (List.mem_of_getElem? (i := 146) (by decide +kernel))) rfl
theorem kI_X3_readInto : Cond.instanceMethod yX3_readInto ∈ gtb := gm (tb3 (List.mem_of_getElem? (i := 147) (by decide +kernel))) rfl
theorem kV_X3_readInto : Cond.selects RX3 yX3_readInto yX3_readInto ∈ gtb := gm (tb3 (List.mem_of_getElem? (i := 148) (by decide +kernel))) rfl
theorem kC_X3_readInto : Cond.code yX3_readInto cX3_readInto 3 (some FieldType.int) ∈ gtb := gm (tb3 (List.mem_of_getElem? (i := 149) rfl)) rfl
theorem kL_X3_34 : Cond.methodLink RX3 34 yX3_cutTokens ∈ gtb := gm (tb3 (List.mem_of_getElem? (i := 150) (by decide +kernel))) rfl
theorem kI_X3_cutTokens : Cond.instanceMethod yX3_cutTokens ∈ gtb := gm (tb3 (List.mem_of_getElem? (i := 152) (by decide +kernel))) rfl
theorem kC_X3_cutTokens : Cond.code yX3_cutTokens cX3_cutTokens 4 none ∈ gtb := gm (tb3 (List.mem_of_getElem? (i := 153) rfl)) rfl
theorem kL_X3_41 : Cond.methodLink RX3 41 yX3_cutToken ∈ gtb := gm (tb3 (List.mem_of_getElem? (i := 154) (by decide +kernel))) rfl
theorem kI_X3_cutToken : Cond.instanceMethod yX3_cutToken ∈ gtb := gm (tb3 (List.mem_of_getElem? (i := 156) (by decide +kernel))) rfl
theorem kC_X3_cutToken : Cond.code yX3_cutToken cX3_cutToken 6 (some FieldType.int) ∈ gtb := gm (tb3 (List.mem_of_getElem? (i := 157) rfl)) rfl
theorem kL_X3_45 : Cond.methodLink RX3 45 yX3_sortOf ∈ gtb := gm (tb3 (List.mem_of_getElem? (i := 158) (by decide +kernel))) rfl
theorem kS_X3_sortOf : Cond.static yX3_sortOf ∈ gtb := gm (tb3 (List.mem_of_getElem? (i := 159) (by decide +kernel))) rfl
theorem kC_X3_sortOf : Cond.code yX3_sortOf cX3_sortOf 1 (some FieldType.int) ∈ gtb := gm (tb3 (List.mem_of_getElem? (i := 160) rfl)) rfl
theorem kL_X3_49 : Cond.methodLink RX3 49 yX3_valueOf ∈ gtb := gm (tb3 (List.mem_of_getElem? (i := 161) (by decide +kernel))) rfl
theorem kI_X3_valueOf : Cond.instanceMethod yX3_valueOf ∈ gtb := gm (tb3 (List.mem_of_getElem? (i := 163) (by decide +kernel))) rfl
theorem kC_X3_valueOf : Cond.code yX3_valueOf cX3_valueOf 5 (some FieldType.int) ∈ gtb := gm (tb3 (List.mem_of_getElem? (i := 164) rfl)) rfl
theorem kL_X3_52 : Cond.methodLink RX3 52 yJ9_min_7cf53 ∈ gtb := gm (tb3 (List.mem_of_getElem? (i := 165) (by decide +kernel))) rfl
theorem kL_X3_37 : Cond.methodLink RX3 37 yX3_readItem ∈ gtb := gm (tb3 (List.mem_of_getElem? (i := 166) (by decide +kernel))) rfl
theorem kI_X3_readItem : Cond.instanceMethod yX3_readItem ∈ gtb := gm (tb3 (List.mem_of_getElem? (i := 168) (by decide +kernel))) rfl
theorem kC_X3_readItem : Cond.code yX3_readItem cX3_readItem 3 (some FieldType.boolean) ∈ gtb := gm (tb3 (List.mem_of_getElem? (i := 169) rfl)) rfl
theorem kL_X3_57 : Cond.methodLink RX3 57 yX3_kindNamed ∈ gtb := gm (tb3 (List.mem_of_getElem? (i := 170) (by decide +kernel))) rfl
theorem kI_X3_kindNamed : Cond.instanceMethod yX3_kindNamed ∈ gtb := gm (tb3 (List.mem_of_getElem? (i := 172) (by decide +kernel))) rfl
theorem kC_X3_kindNamed : Cond.code yX3_kindNamed cX3_kindNamed 1 (some FieldType.int) ∈ gtb := gm (tb3 (List.mem_of_getElem? (i := 173) rfl)) rfl
theorem kT_X3_94 : Cond.stringRef RX3 94 "snail" ∈ lw_tbl := tb3 (List.mem_of_getElem? (i := 174) (by decide +kernel))
theorem kL_X3_96 : Cond.methodLink RX3 96 yX3_isWord ∈ gtb := gm (tb3 (List.mem_of_getElem? (i := 175) (by decide +kernel))) rfl
theorem kI_X3_isWord : Cond.instanceMethod yX3_isWord ∈ gtb := gm (tb3 (List.mem_of_getElem? (i := 177) (by decide +kernel))) rfl
theorem kC_X3_isWord : Cond.code yX3_isWord cX3_isWord 4 (some FieldType.boolean) ∈ gtb := gm (tb3 (List.mem_of_getElem? (i := 178) rfl)) rfl
theorem kL_X3_155 : Cond.methodLink RX3 155 yJ0_length_8abf5 ∈ gtb := gm (tb3 (List.mem_of_getElem? (i := 179) (by decide +kernel))) rfl
theorem kI_J0_length_8abf5 : Cond.instanceMethod yJ0_length_8abf5 ∈ gtb := gm (tb3 (List.mem_of_getElem? (i := 180) (by decide +kernel))) rfl
theorem kV_J0_length_8abf5 : Cond.selects RJ0 yJ0_length_8abf5 yJ0_length_8abf5 ∈ gtb := gm (tb3 (List.mem_of_getElem? (i := 181) (by decide +kernel))) rfl
theorem kC_J0_length_8abf5 : Cond.code yJ0_length_8abf5 cJ0_length_8abf5 1 (some FieldType.int) ∈ gtb := gm (tb3 (List.mem_of_getElem? (i := 182) rfl)) rfl
theorem kL_J0_335 : Cond.methodLink RJ0 335 yJ0_coder_7d493 ∈ gtb := gm (tb3 (List.mem_of_getElem? (i := 183) (by decide +kernel))) rfl
theorem kI_J0_coder_7d493 : Cond.instanceMethod yJ0_coder_7d493 ∈ gtb := gm (tb3 (List.mem_of_getElem? (i := 184) (by decide +kernel))) rfl
theorem kV_J0_coder_7d493 : Cond.selects RJ0 yJ0_coder_7d493 yJ0_coder_7d493 ∈ gtb := gm (tb3 (List.mem_of_getElem? (i := 185) (by decide +kernel))) rfl
theorem kC_J0_coder_7d493 : Cond.code yJ0_coder_7d493 cJ0_coder_7d493 1 (some FieldType.byte) ∈ gtb := gm (tb3 (List.mem_of_getElem? (i := 186) rfl)) rfl
theorem kF_J0_38 : Cond.fieldLink RJ0 38 RJ0 "COMPACT_STRINGS" "Z" ∈ gtb := gm (tb3 (List.mem_of_getElem? (i := 187) (by decide +kernel))) rfl
theorem kZ_J0_COMPACT_STRINGS : Cond.laysStatic RJ0 "COMPACT_STRINGS" "Z" ∈ lw_tbl := tb3 (List.mem_of_getElem? (i := 188) (by decide +kernel))
theorem kL_X3_160 : Cond.methodLink RX3 160 yJ0_charAt_5068e ∈ gtb := gm (tb3 (List.mem_of_getElem? (i := 189) (by decide +kernel))) rfl
theorem kI_J0_charAt_5068e : Cond.instanceMethod yJ0_charAt_5068e ∈ gtb := gm (tb3 (List.mem_of_getElem? (i := 190) (by decide +kernel))) rfl
theorem kV_J0_charAt_5068e : Cond.selects RJ0 yJ0_charAt_5068e yJ0_charAt_5068e ∈ gtb := gm (tb3 (List.mem_of_getElem? (i := 191) (by decide +kernel))) rfl
theorem kC_J0_charAt_5068e : Cond.code yJ0_charAt_5068e cJ0_charAt_5068e 2 (some FieldType.char) ∈ gtb := gm (tb3 (List.mem_of_getElem? (i := 192) rfl)) rfl
theorem kL_J0_492 : Cond.methodLink RJ0 492 yJ0_isLatin1_aae02 ∈ gtb := gm (tb3 (List.mem_of_getElem? (i := 193) (by decide +kernel))) rfl
theorem kI_J0_isLatin1_aae02 : Cond.instanceMethod yJ0_isLatin1_aae02 ∈ gtb := gm (tb3 (List.mem_of_getElem? (i := 194) (by decide +kernel))) rfl
theorem kV_J0_isLatin1_aae02 : Cond.selects RJ0 yJ0_isLatin1_aae02 yJ0_isLatin1_aae02 ∈ gtb := gm (tb3 (List.mem_of_getElem? (i := 195) (by decide +kernel))) rfl
theorem kC_J0_isLatin1_aae02 : Cond.code yJ0_isLatin1_aae02 cJ0_isLatin1_aae02 1 (some FieldType.boolean) ∈ gtb := gm (tb3 (List.mem_of_getElem? (i := 196) rfl)) rfl
theorem kL_J0_495 : Cond.methodLink RJ0 495 yJ1_charAt_3b067 ∈ gtb := gm (tb3 (List.mem_of_getElem? (i := 197) (by decide +kernel))) rfl
theorem kS_J1_charAt_3b067 : Cond.static yJ1_charAt_3b067 ∈ gtb := gm (tb3 (List.mem_of_getElem? (i := 198) (by decide +kernel))) rfl
theorem kC_J1_charAt_3b067 : Cond.code yJ1_charAt_3b067 cJ1_charAt_3b067 2 (some FieldType.char) ∈ gtb := gm (tb3 (List.mem_of_getElem? (i := 199) rfl)) rfl
theorem kL_J1_9 : Cond.methodLink RJ1 9 yJ0_checkIndex_df160 ∈ gtb := gm (tb3 (List.mem_of_getElem? (i := 200) (by decide +kernel))) rfl
theorem kS_J0_checkIndex_df160 : Cond.static yJ0_checkIndex_df160 ∈ gtb := gm (tb3 (List.mem_of_getElem? (i := 201) (by decide +kernel))) rfl
theorem kC_J0_checkIndex_df160 : Cond.code yJ0_checkIndex_df160 cJ0_checkIndex_df160 2 none ∈ gtb := gm (tb3 (List.mem_of_getElem? (i := 202) rfl)) rfl
theorem kF_J0_1053 : Cond.fieldLink RJ0 1053 RJ3 "SIOOBE_FORMATTER" "Ljava/util/function/BiFunction;" ∈ gtb := gm (tb3 (List.mem_of_getElem? (i := 203) (by decide +kernel))) rfl
theorem kZ_J3_SIOOBE_FORMATTER : Cond.laysStatic RJ3 "SIOOBE_FORMATTER" "Ljava/util/function/BiFunction;" ∈ lw_tbl := tb3 (List.mem_of_getElem? (i := 204) (by decide +kernel))
theorem kL_J0_1059 : Cond.methodLink RJ0 1059 yJ3_checkIndex_8e157 ∈ gtb := gm (tb3 (List.mem_of_getElem? (i := 205) (by decide +kernel))) rfl
theorem kS_J3_checkIndex_8e157 : Cond.static yJ3_checkIndex_8e157 ∈ gtb := gm (tb3 (List.mem_of_getElem? (i := 206) (by decide +kernel))) rfl
theorem kC_J3_checkIndex_8e157 : Cond.code yJ3_checkIndex_8e157 cJ3_checkIndex_8e157 3 (some FieldType.int) ∈ gtb := gm (tb3 (List.mem_of_getElem? (i := 207) rfl)) rfl
theorem kL_J0_498 : Cond.methodLink RJ0 498 yJ2_charAt_3b067 ∈ gtb := gm (tb3 (List.mem_of_getElem? (i := 208) (by decide +kernel))) rfl
theorem kS_J2_charAt_3b067 : Cond.static yJ2_charAt_3b067 ∈ gtb := gm (tb3 (List.mem_of_getElem? (i := 209) (by decide +kernel))) rfl
theorem kC_J2_charAt_3b067 : Cond.code yJ2_charAt_3b067 cJ2_charAt_3b067 2 (some FieldType.char) ∈ gtb := gm (tb3 (List.mem_of_getElem? (i := 210) rfl)) rfl
theorem kL_J2_67 : Cond.methodLink RJ2 67 yJ2_checkIndex_2214a ∈ gtb := gm (tb3 (List.mem_of_getElem? (i := 211) (by decide +kernel))) rfl
theorem kS_J2_checkIndex_2214a : Cond.static yJ2_checkIndex_2214a ∈ gtb := gm (tb3 (List.mem_of_getElem? (i := 212) (by decide +kernel))) rfl
theorem kC_J2_checkIndex_2214a : Cond.code yJ2_checkIndex_2214a cJ2_checkIndex_2214a 2 none ∈ gtb := gm (tb3 (List.mem_of_getElem? (i := 213) rfl)) rfl
theorem kL_J2_48 : Cond.methodLink RJ2 48 yJ2_length_9d52b ∈ gtb := gm (tb3 (List.mem_of_getElem? (i := 214) (by decide +kernel))) rfl
theorem kS_J2_length_9d52b : Cond.static yJ2_length_9d52b ∈ gtb := gm (tb3 (List.mem_of_getElem? (i := 215) (by decide +kernel))) rfl
theorem kC_J2_length_9d52b : Cond.code yJ2_length_9d52b cJ2_length_9d52b 1 (some FieldType.int) ∈ gtb := gm (tb3 (List.mem_of_getElem? (i := 216) rfl)) rfl
theorem kL_J2_414 : Cond.methodLink RJ2 414 yJ0_checkIndex_df160 ∈ gtb := gm (tb3 (List.mem_of_getElem? (i := 217) (by decide +kernel))) rfl
theorem kL_J2_71 : Cond.methodLink RJ2 71 yJ2_getChar_3b067 ∈ gtb := gm (tb3 (List.mem_of_getElem? (i := 218) (by decide +kernel))) rfl
theorem kS_J2_getChar_3b067 : Cond.static yJ2_getChar_3b067 ∈ gtb := gm (tb3 (List.mem_of_getElem? (i := 219) (by decide +kernel))) rfl
theorem kC_J2_getChar_3b067 : Cond.code yJ2_getChar_3b067 cJ2_getChar_3b067 2 (some FieldType.char) ∈ gtb := gm (tb3 (List.mem_of_getElem? (i := 220) rfl)) rfl
theorem kF_J2_44 : Cond.fieldLink RJ2 44 RJ2 "$assertionsDisabled" "Z" ∈ gtb := gm (tb3 (List.mem_of_getElem? (i := 221) (by decide +kernel))) rfl
theorem kZ_J2__assertionsDisabled : Cond.laysStatic RJ2 "$assertionsDisabled" "Z" ∈ lw_tbl := tb3 (List.mem_of_getElem? (i := 222) (by decide +kernel))
theorem kF_J2_59 : Cond.fieldLink RJ2 59 RJ2 "HI_BYTE_SHIFT" "I" ∈ gtb := gm (tb3 (List.mem_of_getElem? (i := 223) (by decide +kernel))) rfl
theorem kZ_J2_HI_BYTE_SHIFT : Cond.laysStatic RJ2 "HI_BYTE_SHIFT" "I" ∈ lw_tbl := tb3 (List.mem_of_getElem? (i := 224) (by decide +kernel))
theorem kF_J2_63 : Cond.fieldLink RJ2 63 RJ2 "LO_BYTE_SHIFT" "I" ∈ gtb := gm (tb3 (List.mem_of_getElem? (i := 225) (by decide +kernel))) rfl
theorem kZ_J2_LO_BYTE_SHIFT : Cond.laysStatic RJ2 "LO_BYTE_SHIFT" "I" ∈ lw_tbl := tb3 (List.mem_of_getElem? (i := 226) (by decide +kernel))
theorem kT_X3_99 : Cond.stringRef RX3 99 "greedy" ∈ lw_tbl := tb3 (List.mem_of_getElem? (i := 227) (by decide +kernel))
theorem kT_X3_101 : Cond.stringRef RX3 101 "slow" ∈ lw_tbl := tb3 (List.mem_of_getElem? (i := 228) (by decide +kernel))
theorem kT_X3_103 : Cond.stringRef RX3 103 "sleepy" ∈ lw_tbl := tb3 (List.mem_of_getElem? (i := 229) (by decide +kernel))
theorem kT_X3_105 : Cond.stringRef RX3 105 "elder" ∈ lw_tbl := tb3 (List.mem_of_getElem? (i := 230) (by decide +kernel))
theorem kT_X3_107 : Cond.stringRef RX3 107 "borne" ∈ lw_tbl := tb3 (List.mem_of_getElem? (i := 231) (by decide +kernel))
theorem kT_X3_109 : Cond.stringRef RX3 109 "glutton" ∈ lw_tbl := tb3 (List.mem_of_getElem? (i := 232) (by decide +kernel))
theorem kL_X3_61 : Cond.methodLink RX3 61 yX3_readSnail ∈ gtb := gm (tb3 (List.mem_of_getElem? (i := 233) (by decide +kernel))) rfl
theorem kI_X3_readSnail : Cond.instanceMethod yX3_readSnail ∈ gtb := gm (tb3 (List.mem_of_getElem? (i := 235) (by decide +kernel))) rfl
theorem kC_X3_readSnail : Cond.code yX3_readSnail cX3_readSnail 8 (some FieldType.boolean) ∈ gtb := gm (tb3 (List.mem_of_getElem? (i := 236) rfl)) rfl
theorem kL_X3_111 : Cond.methodLink RX3 111 yX1_addSnail ∈ gtb := gm (tb3 (List.mem_of_getElem? (i := 237) (by decide +kernel))) rfl
theorem kT_X3_116 : Cond.stringRef RX3 116 "at" ∈ lw_tbl := tb3 (List.mem_of_getElem? (i := 238) (by decide +kernel))
theorem kL_X3_117 : Cond.methodLink RX3 117 yX3_takePart ∈ gtb := gm (tb3 (List.mem_of_getElem? (i := 239) (by decide +kernel))) rfl
theorem kI_X3_takePart : Cond.instanceMethod yX3_takePart ∈ gtb := gm (tb4 (List.mem_of_getElem? (i := 1) (by decide +kernel))) rfl
theorem kC_X3_takePart : Cond.code yX3_takePart cX3_takePart 4 (some FieldType.int) ∈ gtb := gm (tb4 (List.mem_of_getElem? (i := 2) rfl)) rfl
theorem kL_X3_67 : Cond.methodLink RX3 67 yX3_skipWord ∈ gtb := gm (tb4 (List.mem_of_getElem? (i := 3) (by decide +kernel))) rfl
theorem kI_X3_skipWord : Cond.instanceMethod yX3_skipWord ∈ gtb := gm (tb4 (List.mem_of_getElem? (i := 5) (by decide +kernel))) rfl
theorem kC_X3_skipWord : Cond.code yX3_skipWord cX3_skipWord 2 (some FieldType.boolean) ∈ gtb := gm (tb4 (List.mem_of_getElem? (i := 6) rfl)) rfl
theorem kL_X3_139 : Cond.methodLink RX3 139 yX3_takeNumber ∈ gtb := gm (tb4 (List.mem_of_getElem? (i := 7) (by decide +kernel))) rfl
theorem kI_X3_takeNumber : Cond.instanceMethod yX3_takeNumber ∈ gtb := gm (tb4 (List.mem_of_getElem? (i := 9) (by decide +kernel))) rfl
theorem kC_X3_takeNumber : Cond.code yX3_takeNumber cX3_takeNumber 3 (some FieldType.int) ∈ gtb := gm (tb4 (List.mem_of_getElem? (i := 10) rfl)) rfl
theorem kT_X3_121 : Cond.stringRef RX3 121 "law" ∈ lw_tbl := tb4 (List.mem_of_getElem? (i := 11) (by decide +kernel))
theorem kT_X3_123 : Cond.stringRef RX3 123 "gate" ∈ lw_tbl := tb4 (List.mem_of_getElem? (i := 12) (by decide +kernel))
theorem kT_X3_125 : Cond.stringRef RX3 125 "price" ∈ lw_tbl := tb4 (List.mem_of_getElem? (i := 13) (by decide +kernel))
theorem kT_X3_65 : Cond.stringRef RX3 65 "hedge" ∈ lw_tbl := tb4 (List.mem_of_getElem? (i := 14) (by decide +kernel))
theorem kL_X3_71 : Cond.methodLink RX3 71 yX3_readHedge ∈ gtb := gm (tb4 (List.mem_of_getElem? (i := 15) (by decide +kernel))) rfl
theorem kI_X3_readHedge : Cond.instanceMethod yX3_readHedge ∈ gtb := gm (tb4 (List.mem_of_getElem? (i := 17) (by decide +kernel))) rfl
theorem kC_X3_readHedge : Cond.code yX3_readHedge cX3_readHedge 3 (some FieldType.boolean) ∈ gtb := gm (tb4 (List.mem_of_getElem? (i := 18) rfl)) rfl
theorem kT_X3_74 : Cond.stringRef RX3 74 "greens" ∈ lw_tbl := tb4 (List.mem_of_getElem? (i := 19) (by decide +kernel))
theorem kL_X3_76 : Cond.methodLink RX3 76 yX3_readGreens ∈ gtb := gm (tb4 (List.mem_of_getElem? (i := 20) (by decide +kernel))) rfl
theorem kI_X3_readGreens : Cond.instanceMethod yX3_readGreens ∈ gtb := gm (tb4 (List.mem_of_getElem? (i := 22) (by decide +kernel))) rfl
theorem kC_X3_readGreens : Cond.code yX3_readGreens cX3_readGreens 4 (some FieldType.boolean) ∈ gtb := gm (tb4 (List.mem_of_getElem? (i := 23) rfl)) rfl
theorem kT_X3_79 : Cond.stringRef RX3 79 "bans" ∈ lw_tbl := tb4 (List.mem_of_getElem? (i := 24) (by decide +kernel))
theorem kL_X3_81 : Cond.methodLink RX3 81 yX3_readBans ∈ gtb := gm (tb4 (List.mem_of_getElem? (i := 25) (by decide +kernel))) rfl
theorem kI_X3_readBans : Cond.instanceMethod yX3_readBans ∈ gtb := gm (tb4 (List.mem_of_getElem? (i := 27) (by decide +kernel))) rfl
theorem kC_X3_readBans : Cond.code yX3_readBans cX3_readBans 4 (some FieldType.boolean) ∈ gtb := gm (tb4 (List.mem_of_getElem? (i := 28) rfl)) rfl
theorem kT_X3_84 : Cond.stringRef RX3 84 "wet" ∈ lw_tbl := tb4 (List.mem_of_getElem? (i := 29) (by decide +kernel))
theorem kL_X3_86 : Cond.methodLink RX3 86 yX3_readWet ∈ gtb := gm (tb4 (List.mem_of_getElem? (i := 30) (by decide +kernel))) rfl
theorem kI_X3_readWet : Cond.instanceMethod yX3_readWet ∈ gtb := gm (tb4 (List.mem_of_getElem? (i := 32) (by decide +kernel))) rfl
theorem kC_X3_readWet : Cond.code yX3_readWet cX3_readWet 3 (some FieldType.boolean) ∈ gtb := gm (tb4 (List.mem_of_getElem? (i := 33) rfl)) rfl
theorem kT_X3_89 : Cond.stringRef RX3 89 "thrush" ∈ lw_tbl := tb4 (List.mem_of_getElem? (i := 34) (by decide +kernel))
theorem kL_X3_91 : Cond.methodLink RX3 91 yX3_readThrush ∈ gtb := gm (tb4 (List.mem_of_getElem? (i := 35) (by decide +kernel))) rfl
theorem kI_X3_readThrush : Cond.instanceMethod yX3_readThrush ∈ gtb := gm (tb4 (List.mem_of_getElem? (i := 37) (by decide +kernel))) rfl
theorem kC_X3_readThrush : Cond.code yX3_readThrush cX3_readThrush 3 (some FieldType.boolean) ∈ gtb := gm (tb4 (List.mem_of_getElem? (i := 38) rfl)) rfl
theorem kL_X5_241 : Cond.methodLink RX5 241 yX1_become ∈ gtb := gm (tb4 (List.mem_of_getElem? (i := 39) (by decide +kernel))) rfl
theorem kA_byte : Cond.arrayClass .byte ∈ gtb := gm (tb4 (List.mem_of_getElem? (i := 40) (by decide +kernel))) rfl
theorem kL_L_166 : Cond.methodLink RL 166 yX5_hold ∈ gtb := gm (tb4 (List.mem_of_getElem? (i := 41) (by decide +kernel))) rfl
theorem kI_X5_hold : Cond.instanceMethod yX5_hold ∈ gtb := gm (tb4 (List.mem_of_getElem? (i := 42) (by decide +kernel))) rfl
theorem kV_X5_hold : Cond.selects RX5 yX5_hold yX5_hold ∈ gtb := gm (tb4 (List.mem_of_getElem? (i := 43) (by decide +kernel))) rfl
theorem kC_X5_hold : Cond.code yX5_hold cX5_hold 3 (some FieldType.int) ∈ gtb := gm (tb4 (List.mem_of_getElem? (i := 44) rfl)) rfl
theorem kL_L_170 : Cond.methodLink RL 170 yX5_as ∈ gtb := gm (tb4 (List.mem_of_getElem? (i := 45) (by decide +kernel))) rfl
theorem kI_X5_as : Cond.instanceMethod yX5_as ∈ gtb := gm (tb4 (List.mem_of_getElem? (i := 46) (by decide +kernel))) rfl
theorem kV_X5_as : Cond.selects RX5 yX5_as yX5_as ∈ gtb := gm (tb4 (List.mem_of_getElem? (i := 47) (by decide +kernel))) rfl
theorem kC_X5_as : Cond.code yX5_as cX5_as 4 (some FieldType.int) ∈ gtb := gm (tb4 (List.mem_of_getElem? (i := 48) rfl)) rfl
theorem kL_X5_248 : Cond.methodLink RX5 248 yX5_isOfKind ∈ gtb := gm (tb4 (List.mem_of_getElem? (i := 49) (by decide +kernel))) rfl
theorem kK_X5_251 : Cond.constant RX5 251 (Int32.ofInt (-1000003)) ∈ gtb := gm (tb4 (List.mem_of_getElem? (i := 50) (by decide +kernel))) rfl
theorem kL_L_174 : Cond.methodLink RL 174 yX5_sheet ∈ gtb := gm (tb4 (List.mem_of_getElem? (i := 51) (by decide +kernel))) rfl
theorem kI_X5_sheet : Cond.instanceMethod yX5_sheet ∈ gtb := gm (tb4 (List.mem_of_getElem? (i := 52) (by decide +kernel))) rfl
theorem kV_X5_sheet : Cond.selects RX5 yX5_sheet yX5_sheet ∈ gtb := gm (tb4 (List.mem_of_getElem? (i := 53) (by decide +kernel))) rfl
theorem kC_X5_sheet : Cond.code yX5_sheet cX5_sheet 4 (some FieldType.int) ∈ gtb := gm (tb4 (List.mem_of_getElem? (i := 54) rfl)) rfl
theorem kL_X5_255 : Cond.methodLink RX5 255 yX5_isBits ∈ gtb := gm (tb4 (List.mem_of_getElem? (i := 55) (by decide +kernel))) rfl
theorem kS_X5_isBits : Cond.static yX5_isBits ∈ gtb := gm (tb4 (List.mem_of_getElem? (i := 56) (by decide +kernel))) rfl
theorem kC_X5_isBits : Cond.code yX5_isBits cX5_isBits 1 (some FieldType.boolean) ∈ gtb := gm (tb4 (List.mem_of_getElem? (i := 57) rfl)) rfl
theorem kK_X5_258 : Cond.constant RX5 258 (Int32.ofInt (-1000007)) ∈ gtb := gm (tb4 (List.mem_of_getElem? (i := 58) (by decide +kernel))) rfl
theorem kL_X5_259 : Cond.methodLink RX5 259 yX2_lay ∈ gtb := gm (tb4 (List.mem_of_getElem? (i := 59) (by decide +kernel))) rfl
theorem kI_X2_lay : Cond.instanceMethod yX2_lay ∈ gtb := gm (tb4 (List.mem_of_getElem? (i := 60) (by decide +kernel))) rfl
theorem kV_X2_lay : Cond.selects RX2 yX2_lay yX2_lay ∈ gtb := gm (tb4 (List.mem_of_getElem? (i := 61) (by decide +kernel))) rfl
theorem kC_X2_lay : Cond.code yX2_lay cX2_lay 5 none ∈ gtb := gm (tb4 (List.mem_of_getElem? (i := 62) rfl)) rfl
theorem kL_L_178 : Cond.methodLink RL 178 yX5_write ∈ gtb := gm (tb4 (List.mem_of_getElem? (i := 63) (by decide +kernel))) rfl
theorem kI_X5_write : Cond.instanceMethod yX5_write ∈ gtb := gm (tb4 (List.mem_of_getElem? (i := 64) (by decide +kernel))) rfl
theorem kV_X5_write : Cond.selects RX5 yX5_write yX5_write ∈ gtb := gm (tb4 (List.mem_of_getElem? (i := 65) (by decide +kernel))) rfl
theorem kC_X5_write : Cond.code yX5_write cX5_write 5 (some FieldType.int) ∈ gtb := gm (tb4 (List.mem_of_getElem? (i := 66) rfl)) rfl
theorem kL_X5_269 : Cond.methodLink RX5 269 yX2_put ∈ gtb := gm (tb4 (List.mem_of_getElem? (i := 67) (by decide +kernel))) rfl
theorem kI_X2_put : Cond.instanceMethod yX2_put ∈ gtb := gm (tb4 (List.mem_of_getElem? (i := 68) (by decide +kernel))) rfl
theorem kV_X2_put : Cond.selects RX2 yX2_put yX2_put ∈ gtb := gm (tb4 (List.mem_of_getElem? (i := 69) (by decide +kernel))) rfl
theorem kC_X2_put : Cond.code yX2_put cX2_put 5 none ∈ gtb := gm (tb4 (List.mem_of_getElem? (i := 70) rfl)) rfl
theorem kL_L_182 : Cond.methodLink RL 182 yX5_copy ∈ gtb := gm (tb4 (List.mem_of_getElem? (i := 71) (by decide +kernel))) rfl
theorem kI_X5_copy : Cond.instanceMethod yX5_copy ∈ gtb := gm (tb4 (List.mem_of_getElem? (i := 72) (by decide +kernel))) rfl
theorem kV_X5_copy : Cond.selects RX5 yX5_copy yX5_copy ∈ gtb := gm (tb4 (List.mem_of_getElem? (i := 73) (by decide +kernel))) rfl
theorem kC_X5_copy : Cond.code yX5_copy cX5_copy 6 (some FieldType.int) ∈ gtb := gm (tb4 (List.mem_of_getElem? (i := 74) rfl)) rfl
theorem kL_X5_278 : Cond.methodLink RX5 278 yX2_hasRun ∈ gtb := gm (tb4 (List.mem_of_getElem? (i := 75) (by decide +kernel))) rfl
theorem kI_X2_hasRun : Cond.instanceMethod yX2_hasRun ∈ gtb := gm (tb4 (List.mem_of_getElem? (i := 76) (by decide +kernel))) rfl
theorem kV_X2_hasRun : Cond.selects RX2 yX2_hasRun yX2_hasRun ∈ gtb := gm (tb4 (List.mem_of_getElem? (i := 77) (by decide +kernel))) rfl
theorem kC_X2_hasRun : Cond.code yX2_hasRun cX2_hasRun 4 (some FieldType.boolean) ∈ gtb := gm (tb4 (List.mem_of_getElem? (i := 78) rfl)) rfl
theorem kL_X5_282 : Cond.methodLink RX5 282 yX2_carry ∈ gtb := gm (tb4 (List.mem_of_getElem? (i := 79) (by decide +kernel))) rfl
theorem kI_X2_carry : Cond.instanceMethod yX2_carry ∈ gtb := gm (tb4 (List.mem_of_getElem? (i := 80) (by decide +kernel))) rfl
theorem kV_X2_carry : Cond.selects RX2 yX2_carry yX2_carry ∈ gtb := gm (tb4 (List.mem_of_getElem? (i := 81) (by decide +kernel))) rfl
theorem kC_X2_carry : Cond.code yX2_carry cX2_carry 6 none ∈ gtb := gm (tb4 (List.mem_of_getElem? (i := 82) rfl)) rfl
theorem kL_X2_21 : Cond.methodLink RX2 21 (⟨"java/lang/System", "arraycopy", "(Ljava/lang/Object;ILjava/lang/Object;II)V"⟩ : MethodName) ∈ gtb := gm (tb4 (List.mem_of_getElem? (i := 83) (by decide +kernel))) rfl
theorem kL_L_187 : Cond.methodLink RL 187 yX5_load ∈ gtb := gm (tb4 (List.mem_of_getElem? (i := 84) (by decide +kernel))) rfl
theorem kI_X5_load : Cond.instanceMethod yX5_load ∈ gtb := gm (tb4 (List.mem_of_getElem? (i := 85) (by decide +kernel))) rfl
theorem kV_X5_load : Cond.selects RX5 yX5_load yX5_load ∈ gtb := gm (tb4 (List.mem_of_getElem? (i := 86) (by decide +kernel))) rfl
theorem kC_X5_load : Cond.code yX5_load cX5_load 4 (some FieldType.int) ∈ gtb := gm (tb4 (List.mem_of_getElem? (i := 87) rfl)) rfl
theorem kL_X5_286 : Cond.methodLink RX5 286 yX2_numberAt ∈ gtb := gm (tb4 (List.mem_of_getElem? (i := 88) (by decide +kernel))) rfl
theorem kL_L_191 : Cond.methodLink RL 191 yX5_judge ∈ gtb := gm (tb4 (List.mem_of_getElem? (i := 89) (by decide +kernel))) rfl
theorem kI_X5_judge : Cond.instanceMethod yX5_judge ∈ gtb := gm (tb4 (List.mem_of_getElem? (i := 90) (by decide +kernel))) rfl
theorem kV_X5_judge : Cond.selects RX5 yX5_judge yX5_judge ∈ gtb := gm (tb4 (List.mem_of_getElem? (i := 91) (by decide +kernel))) rfl
theorem kC_X5_judge : Cond.code yX5_judge cX5_judge 4 (some FieldType.int) ∈ gtb := gm (tb4 (List.mem_of_getElem? (i := 92) rfl)) rfl
theorem kL_L_195 : Cond.methodLink RL 195 yX5_image ∈ gtb := gm (tb4 (List.mem_of_getElem? (i := 93) (by decide +kernel))) rfl
theorem kI_X5_image : Cond.instanceMethod yX5_image ∈ gtb := gm (tb4 (List.mem_of_getElem? (i := 94) (by decide +kernel))) rfl
theorem kV_X5_image : Cond.selects RX5 yX5_image yX5_image ∈ gtb := gm (tb4 (List.mem_of_getElem? (i := 95) (by decide +kernel))) rfl
theorem kC_X5_image : Cond.code yX5_image cX5_image 1 (some FieldType.int) ∈ gtb := gm (tb4 (List.mem_of_getElem? (i := 96) rfl)) rfl
theorem kL_L_199 : Cond.methodLink RL 199 yX5_undo ∈ gtb := gm (tb4 (List.mem_of_getElem? (i := 97) (by decide +kernel))) rfl
theorem kI_X5_undo : Cond.instanceMethod yX5_undo ∈ gtb := gm (tb4 (List.mem_of_getElem? (i := 98) (by decide +kernel))) rfl
theorem kV_X5_undo : Cond.selects RX5 yX5_undo yX5_undo ∈ gtb := gm (tb4 (List.mem_of_getElem? (i := 99) (by decide +kernel))) rfl
theorem kC_X5_undo : Cond.code yX5_undo cX5_undo 1 (some FieldType.int) ∈ gtb := gm (tb4 (List.mem_of_getElem? (i := 100) rfl)) rfl
theorem kL_L_203 : Cond.methodLink RL 203 yX5_tear ∈ gtb := gm (tb4 (List.mem_of_getElem? (i := 101) (by decide +kernel))) rfl
theorem kI_X5_tear : Cond.instanceMethod yX5_tear ∈ gtb := gm (tb4 (List.mem_of_getElem? (i := 102) (by decide +kernel))) rfl
theorem kV_X5_tear : Cond.selects RX5 yX5_tear yX5_tear ∈ gtb := gm (tb4 (List.mem_of_getElem? (i := 103) (by decide +kernel))) rfl
theorem kC_X5_tear : Cond.code yX5_tear cX5_tear 2 (some FieldType.int) ∈ gtb := gm (tb4 (List.mem_of_getElem? (i := 104) rfl)) rfl
theorem kL_L_207 : Cond.methodLink RL 207 yX5_count ∈ gtb := gm (tb4 (List.mem_of_getElem? (i := 105) (by decide +kernel))) rfl
theorem kI_X5_count : Cond.instanceMethod yX5_count ∈ gtb := gm (tb4 (List.mem_of_getElem? (i := 106) (by decide +kernel))) rfl
theorem kV_X5_count : Cond.selects RX5 yX5_count yX5_count ∈ gtb := gm (tb4 (List.mem_of_getElem? (i := 107) (by decide +kernel))) rfl
theorem kC_X5_count : Cond.code yX5_count cX5_count 2 (some FieldType.int) ∈ gtb := gm (tb4 (List.mem_of_getElem? (i := 108) rfl)) rfl
theorem kL_X5_292 : Cond.methodLink RX5 292 yX1_allHedges ∈ gtb := gm (tb4 (List.mem_of_getElem? (i := 109) (by decide +kernel))) rfl
theorem kI_X1_allHedges : Cond.instanceMethod yX1_allHedges ∈ gtb := gm (tb4 (List.mem_of_getElem? (i := 110) (by decide +kernel))) rfl
theorem kV_X1_allHedges : Cond.selects RX1 yX1_allHedges yX1_allHedges ∈ gtb := gm (tb4 (List.mem_of_getElem? (i := 111) (by decide +kernel))) rfl
theorem kC_X1_allHedges : Cond.code yX1_allHedges cX1_allHedges 1 (some FieldType.int) ∈ gtb := gm (tb4 (List.mem_of_getElem? (i := 112) rfl)) rfl
theorem kL_X5_295 : Cond.methodLink RX5 295 yX1_heldSpots ∈ gtb := gm (tb4 (List.mem_of_getElem? (i := 113) (by decide +kernel))) rfl
theorem kI_X1_heldSpots : Cond.instanceMethod yX1_heldSpots ∈ gtb := gm (tb4 (List.mem_of_getElem? (i := 114) (by decide +kernel))) rfl
theorem kV_X1_heldSpots : Cond.selects RX1 yX1_heldSpots yX1_heldSpots ∈ gtb := gm (tb4 (List.mem_of_getElem? (i := 115) (by decide +kernel))) rfl
theorem kC_X1_heldSpots : Cond.code yX1_heldSpots cX1_heldSpots 3 (some FieldType.int) ∈ gtb := gm (tb4 (List.mem_of_getElem? (i := 116) rfl)) rfl
theorem kL_L_211 : Cond.methodLink RL 211 yX5_status ∈ gtb := gm (tb4 (List.mem_of_getElem? (i := 117) (by decide +kernel))) rfl
theorem kI_X5_status : Cond.instanceMethod yX5_status ∈ gtb := gm (tb4 (List.mem_of_getElem? (i := 118) (by decide +kernel))) rfl
theorem kV_X5_status : Cond.selects RX5 yX5_status yX5_status ∈ gtb := gm (tb4 (List.mem_of_getElem? (i := 119) (by decide +kernel))) rfl
theorem kC_X5_status : Cond.code yX5_status cX5_status 4 (some FieldType.int) ∈ gtb := gm (tb4 (List.mem_of_getElem? (i := 120) rfl)) rfl
theorem kB_L_10 : Cond.classLink RL 10 RX6 ∈ gtb := gm (tb4 (List.mem_of_getElem? (i := 121) (by decide +kernel))) rfl
theorem kO_X6 : Cond.instantiable RX6 22 ∈ gtb := gm (tb4 (List.mem_of_getElem? (i := 122) (by decide +kernel))) rfl
theorem kL_L_12 : Cond.methodLink RL 12 yX6_init ∈ gtb := gm (tb4 (List.mem_of_getElem? (i := 123) (by decide +kernel))) rfl
theorem kI_X6_init : Cond.instanceMethod yX6_init ∈ gtb := gm (tb4 (List.mem_of_getElem? (i := 124) (by decide +kernel))) rfl
theorem kC_X6_init : Cond.code yX6_init cX6_init 2 none ∈ gtb := gm (tb4 (List.mem_of_getElem? (i := 125) rfl)) rfl
theorem kL_X6_1 : Cond.methodLink RX6 1 (⟨"java/lang/Object", "<init>", "()V"⟩ : MethodName) ∈ gtb := gm (tb4 (List.mem_of_getElem? (i := 126) (by decide +kernel))) rfl
theorem kF_X6_9 : Cond.fieldLink RX6 9 RX6 "s" "[I" ∈ gtb := gm (tb4 (List.mem_of_getElem? (i := 127) (by decide +kernel))) rfl
theorem kF_X6_13 : Cond.fieldLink RX6 13 RX6 "kept" "[I" ∈ gtb := gm (tb4 (List.mem_of_getElem? (i := 128) (by decide +kernel))) rfl
theorem kF_X6_16 : Cond.fieldLink RX6 16 RX6 "aside" "[I" ∈ gtb := gm (tb4 (List.mem_of_getElem? (i := 129) (by decide +kernel))) rfl
theorem kF_X6_253 : Cond.fieldLink RX6 253 RX6 "isKept" "Z" ∈ gtb := gm (tb4 (List.mem_of_getElem? (i := 130) (by decide +kernel))) rfl
theorem kF_X6_19 : Cond.fieldLink RX6 19 RX6 "found" "[I" ∈ gtb := gm (tb4 (List.mem_of_getElem? (i := 131) (by decide +kernel))) rfl
theorem kF_X6_22 : Cond.fieldLink RX6 22 RX6 "fars" "[I" ∈ gtb := gm (tb4 (List.mem_of_getElem? (i := 132) (by decide +kernel))) rfl
theorem kF_X6_25 : Cond.fieldLink RX6 25 RX6 "order" "[I" ∈ gtb := gm (tb4 (List.mem_of_getElem? (i := 133) (by decide +kernel))) rfl
theorem kF_X6_28 : Cond.fieldLink RX6 28 RX6 "isBarred" "[Z" ∈ gtb := gm (tb4 (List.mem_of_getElem? (i := 134) (by decide +kernel))) rfl
theorem kF_X6_32 : Cond.fieldLink RX6 32 RX6 "clashedAt" "[I" ∈ gtb := gm (tb4 (List.mem_of_getElem? (i := 135) (by decide +kernel))) rfl
theorem kF_X6_35 : Cond.fieldLink RX6 35 RX6 "tape" "[I" ∈ gtb := gm (tb4 (List.mem_of_getElem? (i := 136) (by decide +kernel))) rfl
theorem kF_X6_195 : Cond.fieldLink RX6 195 RX6 "taped" "I" ∈ gtb := gm (tb4 (List.mem_of_getElem? (i := 137) (by decide +kernel))) rfl
theorem kF_X6_209 : Cond.fieldLink RX6 209 RX6 "token" "I" ∈ gtb := gm (tb4 (List.mem_of_getElem? (i := 138) (by decide +kernel))) rfl
theorem kF_X6_202 : Cond.fieldLink RX6 202 RX6 "begun" "I" ∈ gtb := gm (tb4 (List.mem_of_getElem? (i := 139) (by decide +kernel))) rfl
theorem kF_X6_199 : Cond.fieldLink RX6 199 RX6 "ended" "I" ∈ gtb := gm (tb4 (List.mem_of_getElem? (i := 140) (by decide +kernel))) rfl
theorem kF_X6_205 : Cond.fieldLink RX6 205 RX6 "value" "J" ∈ gtb := gm (tb4 (List.mem_of_getElem? (i := 141) (by decide +kernel))) rfl
theorem kF_X6_38 : Cond.fieldLink RX6 38 RX6 "letters" "[C" ∈ gtb := gm (tb4 (List.mem_of_getElem? (i := 142) (by decide +kernel))) rfl
theorem kF_X6_42 : Cond.fieldLink RX6 42 RX6 "more" "[C" ∈ gtb := gm (tb4 (List.mem_of_getElem? (i := 143) (by decide +kernel))) rfl
theorem kF_X6_45 : Cond.fieldLink RX6 45 RX6 "others" "[C" ∈ gtb := gm (tb4 (List.mem_of_getElem? (i := 144) (by decide +kernel))) rfl
theorem kF_X6_48 : Cond.fieldLink RX6 48 RX6 "widths" "[I" ∈ gtb := gm (tb4 (List.mem_of_getElem? (i := 145) (by decide +kernel))) rfl
theorem kF_X6_51 : Cond.fieldLink RX6 51 RX6 "sizes" "[I" ∈ gtb := gm (tb4 (List.mem_of_getElem? (i := 146) (by decide +kernel))) rfl
theorem kF_X6_54 : Cond.fieldLink RX6 54 RX6 "cells" "[I" ∈ gtb := gm (tb4 (List.mem_of_getElem? (i := 147) (by decide +kernel))) rfl
theorem kF_X6_57 : Cond.fieldLink RX6 57 RX6 "carried" "[I" ∈ gtb := gm (tb4 (List.mem_of_getElem? (i := 148) (by decide +kernel))) rfl
theorem kY_X6_s : Cond.laysFinal RX6 "SnailLawsModel" "s" "[I" ∈ gtb := gm (tb4 (List.mem_of_getElem? (i := 149) (by decide +kernel))) rfl
theorem kY_X6_kept : Cond.laysFinal RX6 "SnailLawsModel" "kept" "[I" ∈ gtb := gm (tb4 (List.mem_of_getElem? (i := 151) (by decide +kernel))) rfl
theorem kY_X6_aside : Cond.laysFinal RX6 "SnailLawsModel" "aside" "[I" ∈ gtb := gm (tb4 (List.mem_of_getElem? (i := 153) (by decide +kernel))) rfl
theorem kY_X6_isKept : Cond.lays RX6 "SnailLawsModel" "isKept" "Z" ∈ gtb := gm (tb4 (List.mem_of_getElem? (i := 155) (by decide +kernel))) rfl
theorem kY_X6_found : Cond.laysFinal RX6 "SnailLawsModel" "found" "[I" ∈ gtb := gm (tb4 (List.mem_of_getElem? (i := 157) (by decide +kernel))) rfl
theorem kY_X6_fars : Cond.laysFinal RX6 "SnailLawsModel" "fars" "[I" ∈ gtb := gm (tb4 (List.mem_of_getElem? (i := 159) (by decide +kernel))) rfl
theorem kY_X6_order : Cond.laysFinal RX6 "SnailLawsModel" "order" "[I" ∈ gtb := gm (tb4 (List.mem_of_getElem? (i := 161) (by decide +kernel))) rfl
theorem kY_X6_isBarred : Cond.laysFinal RX6 "SnailLawsModel" "isBarred" "[Z" ∈ gtb := gm (tb4 (List.mem_of_getElem? (i := 163) (by decide +kernel))) rfl
theorem kY_X6_clashedAt : Cond.laysFinal RX6 "SnailLawsModel" "clashedAt" "[I" ∈ gtb := gm (tb4 (List.mem_of_getElem? (i := 165) (by decide +kernel))) rfl
theorem kY_X6_tape : Cond.laysFinal RX6 "SnailLawsModel" "tape" "[I" ∈ gtb := gm (tb4 (List.mem_of_getElem? (i := 167) (by decide +kernel))) rfl
theorem kY_X6_taped : Cond.lays RX6 "SnailLawsModel" "taped" "I" ∈ gtb := gm (tb4 (List.mem_of_getElem? (i := 169) (by decide +kernel))) rfl
theorem kY_X6_token : Cond.lays RX6 "SnailLawsModel" "token" "I" ∈ gtb := gm (tb4 (List.mem_of_getElem? (i := 171) (by decide +kernel))) rfl
theorem kY_X6_begun : Cond.lays RX6 "SnailLawsModel" "begun" "I" ∈ gtb := gm (tb4 (List.mem_of_getElem? (i := 173) (by decide +kernel))) rfl
theorem kY_X6_ended : Cond.lays RX6 "SnailLawsModel" "ended" "I" ∈ gtb := gm (tb4 (List.mem_of_getElem? (i := 175) (by decide +kernel))) rfl
theorem kY_X6_value : Cond.lays RX6 "SnailLawsModel" "value" "J" ∈ gtb := gm (tb4 (List.mem_of_getElem? (i := 177) (by decide +kernel))) rfl
theorem kY_X6_letters : Cond.laysFinal RX6 "SnailLawsModel" "letters" "[C" ∈ gtb := gm (tb4 (List.mem_of_getElem? (i := 179) (by decide +kernel))) rfl
theorem kY_X6_more : Cond.laysFinal RX6 "SnailLawsModel" "more" "[C" ∈ gtb := gm (tb4 (List.mem_of_getElem? (i := 181) (by decide +kernel))) rfl
theorem kY_X6_others : Cond.laysFinal RX6 "SnailLawsModel" "others" "[C" ∈ gtb := gm (tb4 (List.mem_of_getElem? (i := 183) (by decide +kernel))) rfl
theorem kY_X6_widths : Cond.laysFinal RX6 "SnailLawsModel" "widths" "[I" ∈ gtb := gm (tb4 (List.mem_of_getElem? (i := 185) (by decide +kernel))) rfl
theorem kY_X6_sizes : Cond.laysFinal RX6 "SnailLawsModel" "sizes" "[I" ∈ gtb := gm (tb4 (List.mem_of_getElem? (i := 187) (by decide +kernel))) rfl
theorem kY_X6_cells : Cond.laysFinal RX6 "SnailLawsModel" "cells" "[I" ∈ gtb := gm (tb4 (List.mem_of_getElem? (i := 189) (by decide +kernel))) rfl
theorem kY_X6_carried : Cond.laysFinal RX6 "SnailLawsModel" "carried" "[I" ∈ gtb := gm (tb4 (List.mem_of_getElem? (i := 191) (by decide +kernel))) rfl
theorem kA_char : Cond.arrayClass .char ∈ gtb := gm (tb4 (List.mem_of_getElem? (i := 194) (by decide +kernel))) rfl
theorem kL_L_17 : Cond.methodLink RL 17 yX6_hedge ∈ gtb := gm (tb4 (List.mem_of_getElem? (i := 195) (by decide +kernel))) rfl
theorem kI_X6_hedge : Cond.instanceMethod yX6_hedge ∈ gtb := gm (tb4 (List.mem_of_getElem? (i := 196) (by decide +kernel))) rfl
theorem kV_X6_hedge : Cond.selects RX6 yX6_hedge yX6_hedge ∈ gtb := gm (tb4 (List.mem_of_getElem? (i := 197) (by decide +kernel))) rfl
theorem kC_X6_hedge : Cond.code yX6_hedge cX6_hedge 4 (some FieldType.int) ∈ gtb := gm (tb4 (List.mem_of_getElem? (i := 198) rfl)) rfl
theorem kL_X6_122 : Cond.methodLink RX6 122 yX6_isCell ∈ gtb := gm (tb4 (List.mem_of_getElem? (i := 199) (by decide +kernel))) rfl
theorem kS_X6_isCell : Cond.static yX6_isCell ∈ gtb := gm (tb4 (List.mem_of_getElem? (i := 200) (by decide +kernel))) rfl
theorem kC_X6_isCell : Cond.code yX6_isCell cX6_isCell 1 (some FieldType.boolean) ∈ gtb := gm (tb4 (List.mem_of_getElem? (i := 201) rfl)) rfl
theorem kL_X6_61 : Cond.methodLink RX6 61 yX6_in1 ∈ gtb := gm (tb4 (List.mem_of_getElem? (i := 202) (by decide +kernel))) rfl
theorem kS_X6_in1 : Cond.static yX6_in1 ∈ gtb := gm (tb4 (List.mem_of_getElem? (i := 203) (by decide +kernel))) rfl
theorem kC_X6_in1 : Cond.code yX6_in1 cX6_in1 3 (some FieldType.boolean) ∈ gtb := gm (tb4 (List.mem_of_getElem? (i := 204) rfl)) rfl
theorem kL_X6_125 : Cond.methodLink RX6 125 yX6_no ∈ gtb := gm (tb4 (List.mem_of_getElem? (i := 205) (by decide +kernel))) rfl
theorem kI_X6_no : Cond.instanceMethod yX6_no ∈ gtb := gm (tb4 (List.mem_of_getElem? (i := 207) (by decide +kernel))) rfl
theorem kC_X6_no : Cond.code yX6_no cX6_no 2 (some FieldType.int) ∈ gtb := gm (tb4 (List.mem_of_getElem? (i := 208) rfl)) rfl
theorem kK_X6_60 : Cond.constant RX6 60 (Int32.ofInt (-1000001)) ∈ gtb := gm (tb4 (List.mem_of_getElem? (i := 209) (by decide +kernel))) rfl
theorem kL_L_21 : Cond.methodLink RL 21 yX6_greens ∈ gtb := gm (tb4 (List.mem_of_getElem? (i := 210) (by decide +kernel))) rfl
theorem kI_X6_greens : Cond.instanceMethod yX6_greens ∈ gtb := gm (tb4 (List.mem_of_getElem? (i := 211) (by decide +kernel))) rfl
theorem kV_X6_greens : Cond.selects RX6 yX6_greens yX6_greens ∈ gtb := gm (tb4 (List.mem_of_getElem? (i := 212) (by decide +kernel))) rfl
theorem kC_X6_greens : Cond.code yX6_greens cX6_greens 4 (some FieldType.int) ∈ gtb := gm (tb4 (List.mem_of_getElem? (i := 213) rfl)) rfl
theorem kL_L_25 : Cond.methodLink RL 25 yX6_land ∈ gtb := gm (tb4 (List.mem_of_getElem? (i := 214) (by decide +kernel))) rfl
theorem kI_X6_land : Cond.instanceMethod yX6_land ∈ gtb := gm (tb4 (List.mem_of_getElem? (i := 215) (by decide +kernel))) rfl
theorem kV_X6_land : Cond.selects RX6 yX6_land yX6_land ∈ gtb := gm (tb4 (List.mem_of_getElem? (i := 216) (by decide +kernel))) rfl
theorem kC_X6_land : Cond.code yX6_land cX6_land 3 (some FieldType.int) ∈ gtb := gm (tb4 (List.mem_of_getElem? (i := 217) rfl)) rfl
theorem kL_L_29 : Cond.methodLink RL 29 yX6_far ∈ gtb := gm (tb4 (List.mem_of_getElem? (i := 218) (by decide +kernel))) rfl
theorem kI_X6_far : Cond.instanceMethod yX6_far ∈ gtb := gm (tb4 (List.mem_of_getElem? (i := 219) (by decide +kernel))) rfl
theorem kV_X6_far : Cond.selects RX6 yX6_far yX6_far ∈ gtb := gm (tb4 (List.mem_of_getElem? (i := 220) (by decide +kernel))) rfl
theorem kC_X6_far : Cond.code yX6_far cX6_far 3 (some FieldType.int) ∈ gtb := gm (tb4 (List.mem_of_getElem? (i := 221) rfl)) rfl
theorem kL_X6_73 : Cond.methodLink RX6 73 yX6_barsHedges ∈ gtb := gm (tb4 (List.mem_of_getElem? (i := 222) (by decide +kernel))) rfl
theorem kI_X6_barsHedges : Cond.instanceMethod yX6_barsHedges ∈ gtb := gm (tb4 (List.mem_of_getElem? (i := 224) (by decide +kernel))) rfl
theorem kC_X6_barsHedges : Cond.code yX6_barsHedges cX6_barsHedges 2 none ∈ gtb := gm (tb4 (List.mem_of_getElem? (i := 225) rfl)) rfl
theorem kL_X6_69 : Cond.methodLink RX6 69 yX6_isHedge ∈ gtb := gm (tb4 (List.mem_of_getElem? (i := 226) (by decide +kernel))) rfl
theorem kI_X6_isHedge : Cond.instanceMethod yX6_isHedge ∈ gtb := gm (tb4 (List.mem_of_getElem? (i := 228) (by decide +kernel))) rfl
theorem kC_X6_isHedge : Cond.code yX6_isHedge cX6_isHedge 2 (some FieldType.boolean) ∈ gtb := gm (tb4 (List.mem_of_getElem? (i := 229) rfl)) rfl
theorem kL_X6_79 : Cond.methodLink RX6 79 yX6_spreads ∈ gtb := gm (tb4 (List.mem_of_getElem? (i := 230) (by decide +kernel))) rfl
theorem kI_X6_spreads : Cond.instanceMethod yX6_spreads ∈ gtb := gm (tb4 (List.mem_of_getElem? (i := 232) (by decide +kernel))) rfl
theorem kC_X6_spreads : Cond.code yX6_spreads cX6_spreads 7 none ∈ gtb := gm (tb4 (List.mem_of_getElem? (i := 233) rfl)) rfl
theorem kL_X6_65 : Cond.methodLink RX6 65 yX6_beside ∈ gtb := gm (tb4 (List.mem_of_getElem? (i := 234) (by decide +kernel))) rfl
theorem kS_X6_beside : Cond.static yX6_beside ∈ gtb := gm (tb4 (List.mem_of_getElem? (i := 235) (by decide +kernel))) rfl
theorem kC_X6_beside : Cond.code yX6_beside cX6_beside 2 (some FieldType.int) ∈ gtb := gm (tb4 (List.mem_of_getElem? (i := 236) rfl)) rfl
theorem kL_L_33 : Cond.methodLink RL 33 yX6_snail ∈ gtb := gm (tb4 (List.mem_of_getElem? (i := 237) (by decide +kernel))) rfl
theorem kI_X6_snail : Cond.instanceMethod yX6_snail ∈ gtb := gm (tb4 (List.mem_of_getElem? (i := 238) (by decide +kernel))) rfl
theorem kV_X6_snail : Cond.selects RX6 yX6_snail yX6_snail ∈ gtb := gm (tb4 (List.mem_of_getElem? (i := 239) (by decide +kernel))) rfl
theorem kC_X6_snail : Cond.code yX6_snail cX6_snail 3 (some FieldType.int) ∈ gtb := gm (tb5 (List.mem_of_getElem? (i := 0) rfl)) rfl
theorem kL_X6_128 : Cond.methodLink RX6 128 yX6_addsSnail ∈ gtb := gm (tb5 (List.mem_of_getElem? (i := 1) (by decide +kernel))) rfl
theorem kI_X6_addsSnail : Cond.instanceMethod yX6_addsSnail ∈ gtb := gm (tb5 (List.mem_of_getElem? (i := 3) (by decide +kernel))) rfl
theorem kC_X6_addsSnail : Cond.code yX6_addsSnail cX6_addsSnail 4 none ∈ gtb := gm (tb5 (List.mem_of_getElem? (i := 4) rfl)) rfl
theorem kL_X6_97 : Cond.methodLink RX6 97 yX6_puts ∈ gtb := gm (tb5 (List.mem_of_getElem? (i := 5) (by decide +kernel))) rfl
theorem kI_X6_puts : Cond.instanceMethod yX6_puts ∈ gtb := gm (tb5 (List.mem_of_getElem? (i := 7) (by decide +kernel))) rfl
theorem kC_X6_puts : Cond.code yX6_puts cX6_puts 4 none ∈ gtb := gm (tb5 (List.mem_of_getElem? (i := 8) rfl)) rfl
theorem kL_L_37 : Cond.methodLink RL 37 yX6_of ∈ gtb := gm (tb5 (List.mem_of_getElem? (i := 9) (by decide +kernel))) rfl
theorem kI_X6_of : Cond.instanceMethod yX6_of ∈ gtb := gm (tb5 (List.mem_of_getElem? (i := 10) (by decide +kernel))) rfl
theorem kV_X6_of : Cond.selects RX6 yX6_of yX6_of ∈ gtb := gm (tb5 (List.mem_of_getElem? (i := 11) (by decide +kernel))) rfl
theorem kC_X6_of : Cond.code yX6_of cX6_of 3 (some FieldType.int) ∈ gtb := gm (tb5 (List.mem_of_getElem? (i := 12) rfl)) rfl
theorem kL_X6_131 : Cond.methodLink RX6 131 yX6_isSnail ∈ gtb := gm (tb5 (List.mem_of_getElem? (i := 13) (by decide +kernel))) rfl
theorem kI_X6_isSnail : Cond.instanceMethod yX6_isSnail ∈ gtb := gm (tb5 (List.mem_of_getElem? (i := 15) (by decide +kernel))) rfl
theorem kC_X6_isSnail : Cond.code yX6_isSnail cX6_isSnail 2 (some FieldType.boolean) ∈ gtb := gm (tb5 (List.mem_of_getElem? (i := 16) rfl)) rfl
theorem kL_X6_112 : Cond.methodLink RX6 112 yX6_findsFars ∈ gtb := gm (tb5 (List.mem_of_getElem? (i := 17) (by decide +kernel))) rfl
theorem kI_X6_findsFars : Cond.instanceMethod yX6_findsFars ∈ gtb := gm (tb5 (List.mem_of_getElem? (i := 19) (by decide +kernel))) rfl
theorem kC_X6_findsFars : Cond.code yX6_findsFars cX6_findsFars 2 none ∈ gtb := gm (tb5 (List.mem_of_getElem? (i := 20) rfl)) rfl
theorem kL_X6_76 : Cond.methodLink RX6 76 yX6_get ∈ gtb := gm (tb5 (List.mem_of_getElem? (i := 21) (by decide +kernel))) rfl
theorem kI_X6_get : Cond.instanceMethod yX6_get ∈ gtb := gm (tb5 (List.mem_of_getElem? (i := 23) (by decide +kernel))) rfl
theorem kC_X6_get : Cond.code yX6_get cX6_get 3 (some FieldType.int) ∈ gtb := gm (tb5 (List.mem_of_getElem? (i := 24) rfl)) rfl
theorem kL_X6_90 : Cond.methodLink RX6 90 yX6_movesOf ∈ gtb := gm (tb5 (List.mem_of_getElem? (i := 25) (by decide +kernel))) rfl
theorem kI_X6_movesOf : Cond.instanceMethod yX6_movesOf ∈ gtb := gm (tb5 (List.mem_of_getElem? (i := 27) (by decide +kernel))) rfl
theorem kC_X6_movesOf : Cond.code yX6_movesOf cX6_movesOf 5 (some FieldType.int) ∈ gtb := gm (tb5 (List.mem_of_getElem? (i := 28) rfl)) rfl
theorem kL_X6_84 : Cond.methodLink RX6 84 yX6_farBy ∈ gtb := gm (tb5 (List.mem_of_getElem? (i := 29) (by decide +kernel))) rfl
theorem kI_X6_farBy : Cond.instanceMethod yX6_farBy ∈ gtb := gm (tb5 (List.mem_of_getElem? (i := 31) (by decide +kernel))) rfl
theorem kC_X6_farBy : Cond.code yX6_farBy cX6_farBy 3 (some FieldType.int) ∈ gtb := gm (tb5 (List.mem_of_getElem? (i := 32) rfl)) rfl
theorem kL_L_42 : Cond.methodLink RL 42 yX6_change ∈ gtb := gm (tb5 (List.mem_of_getElem? (i := 33) (by decide +kernel))) rfl
theorem kI_X6_change : Cond.instanceMethod yX6_change ∈ gtb := gm (tb5 (List.mem_of_getElem? (i := 34) (by decide +kernel))) rfl
theorem kV_X6_change : Cond.selects RX6 yX6_change yX6_change ∈ gtb := gm (tb5 (List.mem_of_getElem? (i := 35) (by decide +kernel))) rfl
theorem kC_X6_change : Cond.code yX6_change cX6_change 6 (some FieldType.int) ∈ gtb := gm (tb5 (List.mem_of_getElem? (i := 36) rfl)) rfl
theorem kL_L_46 : Cond.methodLink RL 46 yX6_bans ∈ gtb := gm (tb5 (List.mem_of_getElem? (i := 37) (by decide +kernel))) rfl
theorem kI_X6_bans : Cond.instanceMethod yX6_bans ∈ gtb := gm (tb5 (List.mem_of_getElem? (i := 38) (by decide +kernel))) rfl
theorem kV_X6_bans : Cond.selects RX6 yX6_bans yX6_bans ∈ gtb := gm (tb5 (List.mem_of_getElem? (i := 39) (by decide +kernel))) rfl
theorem kC_X6_bans : Cond.code yX6_bans cX6_bans 4 (some FieldType.int) ∈ gtb := gm (tb5 (List.mem_of_getElem? (i := 40) rfl)) rfl
theorem kL_X6_134 : Cond.methodLink RX6 134 yX6_isLaw ∈ gtb := gm (tb5 (List.mem_of_getElem? (i := 41) (by decide +kernel))) rfl
theorem kS_X6_isLaw : Cond.static yX6_isLaw ∈ gtb := gm (tb5 (List.mem_of_getElem? (i := 42) (by decide +kernel))) rfl
theorem kC_X6_isLaw : Cond.code yX6_isLaw cX6_isLaw 1 (some FieldType.boolean) ∈ gtb := gm (tb5 (List.mem_of_getElem? (i := 43) rfl)) rfl
theorem kL_L_50 : Cond.methodLink RL 50 yX6_set ∈ gtb := gm (tb5 (List.mem_of_getElem? (i := 44) (by decide +kernel))) rfl
theorem kI_X6_set : Cond.instanceMethod yX6_set ∈ gtb := gm (tb5 (List.mem_of_getElem? (i := 45) (by decide +kernel))) rfl
theorem kV_X6_set : Cond.selects RX6 yX6_set yX6_set ∈ gtb := gm (tb5 (List.mem_of_getElem? (i := 46) (by decide +kernel))) rfl
theorem kC_X6_set : Cond.code yX6_set cX6_set 4 (some FieldType.int) ∈ gtb := gm (tb5 (List.mem_of_getElem? (i := 47) rfl)) rfl
theorem kL_L_55 : Cond.methodLink RL 55 yX6_go ∈ gtb := gm (tb5 (List.mem_of_getElem? (i := 48) (by decide +kernel))) rfl
theorem kI_X6_go : Cond.instanceMethod yX6_go ∈ gtb := gm (tb5 (List.mem_of_getElem? (i := 49) (by decide +kernel))) rfl
theorem kV_X6_go : Cond.selects RX6 yX6_go yX6_go ∈ gtb := gm (tb5 (List.mem_of_getElem? (i := 50) (by decide +kernel))) rfl
theorem kC_X6_go : Cond.code yX6_go cX6_go 2 (some FieldType.int) ∈ gtb := gm (tb5 (List.mem_of_getElem? (i := 51) rfl)) rfl
theorem kK_X6_83 : Cond.constant RX6 83 (Int32.ofInt (99999)) ∈ gtb := gm (tb5 (List.mem_of_getElem? (i := 52) (by decide +kernel))) rfl
theorem kL_X6_137 : Cond.methodLink RX6 137 yX6_days ∈ gtb := gm (tb5 (List.mem_of_getElem? (i := 53) (by decide +kernel))) rfl
theorem kI_X6_days : Cond.instanceMethod yX6_days ∈ gtb := gm (tb5 (List.mem_of_getElem? (i := 55) (by decide +kernel))) rfl
theorem kC_X6_days : Cond.code yX6_days cX6_days 3 none ∈ gtb := gm (tb5 (List.mem_of_getElem? (i := 56) rfl)) rfl
theorem kL_X6_115 : Cond.methodLink RX6 115 yX6_allSnails ∈ gtb := gm (tb5 (List.mem_of_getElem? (i := 57) (by decide +kernel))) rfl
theorem kI_X6_allSnails : Cond.instanceMethod yX6_allSnails ∈ gtb := gm (tb5 (List.mem_of_getElem? (i := 59) (by decide +kernel))) rfl
theorem kC_X6_allSnails : Cond.code yX6_allSnails cX6_allSnails 1 (some FieldType.int) ∈ gtb := gm (tb5 (List.mem_of_getElem? (i := 60) rfl)) rfl
theorem kL_X6_119 : Cond.methodLink RX6 119 yX6_day ∈ gtb := gm (tb5 (List.mem_of_getElem? (i := 61) (by decide +kernel))) rfl
theorem kI_X6_day : Cond.instanceMethod yX6_day ∈ gtb := gm (tb5 (List.mem_of_getElem? (i := 63) (by decide +kernel))) rfl
theorem kC_X6_day : Cond.code yX6_day cX6_day 3 none ∈ gtb := gm (tb5 (List.mem_of_getElem? (i := 64) rfl)) rfl
theorem kL_X6_104 : Cond.methodLink RX6 104 yX6_isIn ∈ gtb := gm (tb5 (List.mem_of_getElem? (i := 65) (by decide +kernel))) rfl
theorem kS_X6_isIn : Cond.static yX6_isIn ∈ gtb := gm (tb5 (List.mem_of_getElem? (i := 66) (by decide +kernel))) rfl
theorem kC_X6_isIn : Cond.code yX6_isIn cX6_isIn 2 (some FieldType.boolean) ∈ gtb := gm (tb5 (List.mem_of_getElem? (i := 67) rfl)) rfl
theorem kL_X6_108 : Cond.methodLink RX6 108 yX6_crawls ∈ gtb := gm (tb5 (List.mem_of_getElem? (i := 68) (by decide +kernel))) rfl
theorem kI_X6_crawls : Cond.instanceMethod yX6_crawls ∈ gtb := gm (tb5 (List.mem_of_getElem? (i := 70) (by decide +kernel))) rfl
theorem kC_X6_crawls : Cond.code yX6_crawls cX6_crawls 5 none ∈ gtb := gm (tb5 (List.mem_of_getElem? (i := 71) rfl)) rfl
theorem kL_X6_87 : Cond.methodLink RX6 87 yX6_comesUnder ∈ gtb := gm (tb5 (List.mem_of_getElem? (i := 72) (by decide +kernel))) rfl
theorem kI_X6_comesUnder : Cond.instanceMethod yX6_comesUnder ∈ gtb := gm (tb5 (List.mem_of_getElem? (i := 74) (by decide +kernel))) rfl
theorem kC_X6_comesUnder : Cond.code yX6_comesUnder cX6_comesUnder 3 none ∈ gtb := gm (tb5 (List.mem_of_getElem? (i := 75) rfl)) rfl
theorem kL_X6_94 : Cond.methodLink RX6 94 yX6_nextOf ∈ gtb := gm (tb5 (List.mem_of_getElem? (i := 76) (by decide +kernel))) rfl
theorem kI_X6_nextOf : Cond.instanceMethod yX6_nextOf ∈ gtb := gm (tb5 (List.mem_of_getElem? (i := 78) (by decide +kernel))) rfl
theorem kC_X6_nextOf : Cond.code yX6_nextOf cX6_nextOf 6 (some FieldType.int) ∈ gtb := gm (tb5 (List.mem_of_getElem? (i := 79) rfl)) rfl
theorem kL_X6_101 : Cond.methodLink RX6 101 yX6_isGreedy ∈ gtb := gm (tb5 (List.mem_of_getElem? (i := 80) (by decide +kernel))) rfl
theorem kI_X6_isGreedy : Cond.instanceMethod yX6_isGreedy ∈ gtb := gm (tb5 (List.mem_of_getElem? (i := 82) (by decide +kernel))) rfl
theorem kC_X6_isGreedy : Cond.code yX6_isGreedy cX6_isGreedy 2 (some FieldType.boolean) ∈ gtb := gm (tb5 (List.mem_of_getElem? (i := 83) rfl)) rfl
theorem kL_L_59 : Cond.methodLink RL 59 yX6_now ∈ gtb := gm (tb5 (List.mem_of_getElem? (i := 84) (by decide +kernel))) rfl
theorem kI_X6_now : Cond.instanceMethod yX6_now ∈ gtb := gm (tb5 (List.mem_of_getElem? (i := 85) (by decide +kernel))) rfl
theorem kV_X6_now : Cond.selects RX6 yX6_now yX6_now ∈ gtb := gm (tb5 (List.mem_of_getElem? (i := 86) (by decide +kernel))) rfl
theorem kC_X6_now : Cond.code yX6_now cX6_now 4 (some FieldType.int) ∈ gtb := gm (tb5 (List.mem_of_getElem? (i := 87) rfl)) rfl
theorem kL_X6_140 : Cond.methodLink RX6 140 yX6_underLaw ∈ gtb := gm (tb5 (List.mem_of_getElem? (i := 88) (by decide +kernel))) rfl
theorem kI_X6_underLaw : Cond.instanceMethod yX6_underLaw ∈ gtb := gm (tb5 (List.mem_of_getElem? (i := 90) (by decide +kernel))) rfl
theorem kC_X6_underLaw : Cond.code yX6_underLaw cX6_underLaw 3 (some FieldType.int) ∈ gtb := gm (tb5 (List.mem_of_getElem? (i := 91) rfl)) rfl
theorem kL_X6_143 : Cond.methodLink RX6 143 yX6_isThere ∈ gtb := gm (tb5 (List.mem_of_getElem? (i := 92) (by decide +kernel))) rfl
theorem kI_X6_isThere : Cond.instanceMethod yX6_isThere ∈ gtb := gm (tb5 (List.mem_of_getElem? (i := 94) (by decide +kernel))) rfl
theorem kC_X6_isThere : Cond.code yX6_isThere cX6_isThere 2 (some FieldType.boolean) ∈ gtb := gm (tb5 (List.mem_of_getElem? (i := 95) rfl)) rfl
theorem kL_L_63 : Cond.methodLink RL 63 yX6_realm ∈ gtb := gm (tb5 (List.mem_of_getElem? (i := 96) (by decide +kernel))) rfl
theorem kI_X6_realm : Cond.instanceMethod yX6_realm ∈ gtb := gm (tb5 (List.mem_of_getElem? (i := 97) (by decide +kernel))) rfl
theorem kV_X6_realm : Cond.selects RX6 yX6_realm yX6_realm ∈ gtb := gm (tb5 (List.mem_of_getElem? (i := 98) (by decide +kernel))) rfl
theorem kC_X6_realm : Cond.code yX6_realm cX6_realm 4 (some FieldType.int) ∈ gtb := gm (tb5 (List.mem_of_getElem? (i := 99) rfl)) rfl
theorem kL_L_68 : Cond.methodLink RL 68 yX6_repeals ∈ gtb := gm (tb5 (List.mem_of_getElem? (i := 100) (by decide +kernel))) rfl
theorem kI_X6_repeals : Cond.instanceMethod yX6_repeals ∈ gtb := gm (tb5 (List.mem_of_getElem? (i := 101) (by decide +kernel))) rfl
theorem kV_X6_repeals : Cond.selects RX6 yX6_repeals yX6_repeals ∈ gtb := gm (tb5 (List.mem_of_getElem? (i := 102) (by decide +kernel))) rfl
theorem kC_X6_repeals : Cond.code yX6_repeals cX6_repeals 3 (some FieldType.int) ∈ gtb := gm (tb5 (List.mem_of_getElem? (i := 103) rfl)) rfl
theorem kL_L_72 : Cond.methodLink RL 72 yX6_may ∈ gtb := gm (tb5 (List.mem_of_getElem? (i := 104) (by decide +kernel))) rfl
theorem kI_X6_may : Cond.instanceMethod yX6_may ∈ gtb := gm (tb5 (List.mem_of_getElem? (i := 105) (by decide +kernel))) rfl
theorem kV_X6_may : Cond.selects RX6 yX6_may yX6_may ∈ gtb := gm (tb5 (List.mem_of_getElem? (i := 106) (by decide +kernel))) rfl
theorem kC_X6_may : Cond.code yX6_may cX6_may 3 (some FieldType.int) ∈ gtb := gm (tb5 (List.mem_of_getElem? (i := 107) rfl)) rfl
theorem kL_X6_146 : Cond.methodLink RX6 146 yX6_isDeed ∈ gtb := gm (tb5 (List.mem_of_getElem? (i := 108) (by decide +kernel))) rfl
theorem kS_X6_isDeed : Cond.static yX6_isDeed ∈ gtb := gm (tb5 (List.mem_of_getElem? (i := 109) (by decide +kernel))) rfl
theorem kC_X6_isDeed : Cond.code yX6_isDeed cX6_isDeed 1 (some FieldType.boolean) ∈ gtb := gm (tb5 (List.mem_of_getElem? (i := 110) rfl)) rfl
theorem kL_X6_149 : Cond.methodLink RX6 149 yX6_isLawful ∈ gtb := gm (tb5 (List.mem_of_getElem? (i := 111) (by decide +kernel))) rfl
theorem kI_X6_isLawful : Cond.instanceMethod yX6_isLawful ∈ gtb := gm (tb5 (List.mem_of_getElem? (i := 113) (by decide +kernel))) rfl
theorem kC_X6_isLawful : Cond.code yX6_isLawful cX6_isLawful 3 (some FieldType.boolean) ∈ gtb := gm (tb5 (List.mem_of_getElem? (i := 114) rfl)) rfl
theorem kL_L_76 : Cond.methodLink RL 76 yX6_where ∈ gtb := gm (tb5 (List.mem_of_getElem? (i := 115) (by decide +kernel))) rfl
theorem kI_X6_where : Cond.instanceMethod yX6_where ∈ gtb := gm (tb5 (List.mem_of_getElem? (i := 116) (by decide +kernel))) rfl
theorem kV_X6_where : Cond.selects RX6 yX6_where yX6_where ∈ gtb := gm (tb5 (List.mem_of_getElem? (i := 117) (by decide +kernel))) rfl
theorem kC_X6_where : Cond.code yX6_where cX6_where 2 (some FieldType.int) ∈ gtb := gm (tb5 (List.mem_of_getElem? (i := 118) rfl)) rfl
theorem kL_X6_152 : Cond.methodLink RX6 152 yX6_lawfulCells ∈ gtb := gm (tb5 (List.mem_of_getElem? (i := 119) (by decide +kernel))) rfl
theorem kI_X6_lawfulCells : Cond.instanceMethod yX6_lawfulCells ∈ gtb := gm (tb5 (List.mem_of_getElem? (i := 121) (by decide +kernel))) rfl
theorem kC_X6_lawfulCells : Cond.code yX6_lawfulCells cX6_lawfulCells 4 (some FieldType.int) ∈ gtb := gm (tb5 (List.mem_of_getElem? (i := 122) rfl)) rfl
theorem kL_L_80 : Cond.methodLink RL 80 yX6_route ∈ gtb := gm (tb5 (List.mem_of_getElem? (i := 123) (by decide +kernel))) rfl
theorem kI_X6_route : Cond.instanceMethod yX6_route ∈ gtb := gm (tb5 (List.mem_of_getElem? (i := 124) (by decide +kernel))) rfl
theorem kV_X6_route : Cond.selects RX6 yX6_route yX6_route ∈ gtb := gm (tb5 (List.mem_of_getElem? (i := 125) (by decide +kernel))) rfl
theorem kC_X6_route : Cond.code yX6_route cX6_route 5 (some FieldType.int) ∈ gtb := gm (tb5 (List.mem_of_getElem? (i := 126) rfl)) rfl
theorem kL_L_84 : Cond.methodLink RL 84 yX6_free ∈ gtb := gm (tb5 (List.mem_of_getElem? (i := 127) (by decide +kernel))) rfl
theorem kI_X6_free : Cond.instanceMethod yX6_free ∈ gtb := gm (tb5 (List.mem_of_getElem? (i := 128) (by decide +kernel))) rfl
theorem kV_X6_free : Cond.selects RX6 yX6_free yX6_free ∈ gtb := gm (tb5 (List.mem_of_getElem? (i := 129) (by decide +kernel))) rfl
theorem kC_X6_free : Cond.code yX6_free cX6_free 4 (some FieldType.int) ∈ gtb := gm (tb5 (List.mem_of_getElem? (i := 130) rfl)) rfl
theorem kL_L_88 : Cond.methodLink RL 88 yX6_ahead ∈ gtb := gm (tb5 (List.mem_of_getElem? (i := 131) (by decide +kernel))) rfl
theorem kI_X6_ahead : Cond.instanceMethod yX6_ahead ∈ gtb := gm (tb5 (List.mem_of_getElem? (i := 132) (by decide +kernel))) rfl
theorem kV_X6_ahead : Cond.selects RX6 yX6_ahead yX6_ahead ∈ gtb := gm (tb5 (List.mem_of_getElem? (i := 133) (by decide +kernel))) rfl
theorem kC_X6_ahead : Cond.code yX6_ahead cX6_ahead 4 (some FieldType.int) ∈ gtb := gm (tb5 (List.mem_of_getElem? (i := 134) rfl)) rfl
theorem kL_X6_155 : Cond.methodLink RX6 155 yX6_setsAside ∈ gtb := gm (tb5 (List.mem_of_getElem? (i := 135) (by decide +kernel))) rfl
theorem kI_X6_setsAside : Cond.instanceMethod yX6_setsAside ∈ gtb := gm (tb5 (List.mem_of_getElem? (i := 137) (by decide +kernel))) rfl
theorem kC_X6_setsAside : Cond.code yX6_setsAside cX6_setsAside 2 none ∈ gtb := gm (tb5 (List.mem_of_getElem? (i := 138) rfl)) rfl
theorem kL_X6_158 : Cond.methodLink RX6 158 yX6_laysBack ∈ gtb := gm (tb5 (List.mem_of_getElem? (i := 139) (by decide +kernel))) rfl
theorem kI_X6_laysBack : Cond.instanceMethod yX6_laysBack ∈ gtb := gm (tb5 (List.mem_of_getElem? (i := 141) (by decide +kernel))) rfl
theorem kC_X6_laysBack : Cond.code yX6_laysBack cX6_laysBack 2 none ∈ gtb := gm (tb5 (List.mem_of_getElem? (i := 142) rfl)) rfl
theorem kL_L_92 : Cond.methodLink RL 92 yX6_lawAt ∈ gtb := gm (tb5 (List.mem_of_getElem? (i := 143) (by decide +kernel))) rfl
theorem kI_X6_lawAt : Cond.instanceMethod yX6_lawAt ∈ gtb := gm (tb5 (List.mem_of_getElem? (i := 144) (by decide +kernel))) rfl
theorem kV_X6_lawAt : Cond.selects RX6 yX6_lawAt yX6_lawAt ∈ gtb := gm (tb5 (List.mem_of_getElem? (i := 145) (by decide +kernel))) rfl
theorem kC_X6_lawAt : Cond.code yX6_lawAt cX6_lawAt 4 (some FieldType.int) ∈ gtb := gm (tb5 (List.mem_of_getElem? (i := 146) rfl)) rfl
theorem kL_L_96 : Cond.methodLink RL 96 yX6_reaches ∈ gtb := gm (tb5 (List.mem_of_getElem? (i := 147) (by decide +kernel))) rfl
theorem kI_X6_reaches : Cond.instanceMethod yX6_reaches ∈ gtb := gm (tb5 (List.mem_of_getElem? (i := 148) (by decide +kernel))) rfl
theorem kV_X6_reaches : Cond.selects RX6 yX6_reaches yX6_reaches ∈ gtb := gm (tb5 (List.mem_of_getElem? (i := 149) (by decide +kernel))) rfl
theorem kC_X6_reaches : Cond.code yX6_reaches cX6_reaches 4 (some FieldType.int) ∈ gtb := gm (tb5 (List.mem_of_getElem? (i := 150) rfl)) rfl
theorem kL_X6_161 : Cond.methodLink RX6 161 yX6_reachedBy ∈ gtb := gm (tb5 (List.mem_of_getElem? (i := 151) (by decide +kernel))) rfl
theorem kI_X6_reachedBy : Cond.instanceMethod yX6_reachedBy ∈ gtb := gm (tb5 (List.mem_of_getElem? (i := 153) (by decide +kernel))) rfl
theorem kC_X6_reachedBy : Cond.code yX6_reachedBy cX6_reachedBy 4 (some FieldType.int) ∈ gtb := gm (tb5 (List.mem_of_getElem? (i := 154) rfl)) rfl
theorem kL_L_100 : Cond.methodLink RL 100 yX6_wetFor ∈ gtb := gm (tb5 (List.mem_of_getElem? (i := 155) (by decide +kernel))) rfl
theorem kI_X6_wetFor : Cond.instanceMethod yX6_wetFor ∈ gtb := gm (tb5 (List.mem_of_getElem? (i := 156) (by decide +kernel))) rfl
theorem kV_X6_wetFor : Cond.selects RX6 yX6_wetFor yX6_wetFor ∈ gtb := gm (tb5 (List.mem_of_getElem? (i := 157) (by decide +kernel))) rfl
theorem kC_X6_wetFor : Cond.code yX6_wetFor cX6_wetFor 9 (some FieldType.int) ∈ gtb := gm (tb5 (List.mem_of_getElem? (i := 158) rfl)) rfl
theorem kL_L_104 : Cond.methodLink RL 104 yX6_comes ∈ gtb := gm (tb5 (List.mem_of_getElem? (i := 159) (by decide +kernel))) rfl
theorem kI_X6_comes : Cond.instanceMethod yX6_comes ∈ gtb := gm (tb5 (List.mem_of_getElem? (i := 160) (by decide +kernel))) rfl
theorem kV_X6_comes : Cond.selects RX6 yX6_comes yX6_comes ∈ gtb := gm (tb5 (List.mem_of_getElem? (i := 161) (by decide +kernel))) rfl
theorem kC_X6_comes : Cond.code yX6_comes cX6_comes 3 (some FieldType.int) ∈ gtb := gm (tb5 (List.mem_of_getElem? (i := 162) rfl)) rfl
theorem kL_X6_164 : Cond.methodLink RX6 164 yX6_thereBy ∈ gtb := gm (tb5 (List.mem_of_getElem? (i := 163) (by decide +kernel))) rfl
theorem kI_X6_thereBy : Cond.instanceMethod yX6_thereBy ∈ gtb := gm (tb5 (List.mem_of_getElem? (i := 165) (by decide +kernel))) rfl
theorem kC_X6_thereBy : Cond.code yX6_thereBy cX6_thereBy 4 (some FieldType.int) ∈ gtb := gm (tb5 (List.mem_of_getElem? (i := 166) rfl)) rfl
theorem kL_L_108 : Cond.methodLink RL 108 yX6_kindFor ∈ gtb := gm (tb5 (List.mem_of_getElem? (i := 167) (by decide +kernel))) rfl
theorem kI_X6_kindFor : Cond.instanceMethod yX6_kindFor ∈ gtb := gm (tb5 (List.mem_of_getElem? (i := 168) (by decide +kernel))) rfl
theorem kV_X6_kindFor : Cond.selects RX6 yX6_kindFor yX6_kindFor ∈ gtb := gm (tb5 (List.mem_of_getElem? (i := 169) (by decide +kernel))) rfl
theorem kC_X6_kindFor : Cond.code yX6_kindFor cX6_kindFor 8 (some FieldType.int) ∈ gtb := gm (tb5 (List.mem_of_getElem? (i := 170) rfl)) rfl
theorem kL_L_112 : Cond.methodLink RL 112 yX6_overtakes ∈ gtb := gm (tb5 (List.mem_of_getElem? (i := 171) (by decide +kernel))) rfl
theorem kI_X6_overtakes : Cond.instanceMethod yX6_overtakes ∈ gtb := gm (tb5 (List.mem_of_getElem? (i := 172) (by decide +kernel))) rfl
theorem kV_X6_overtakes : Cond.selects RX6 yX6_overtakes yX6_overtakes ∈ gtb := gm (tb5 (List.mem_of_getElem? (i := 173) (by decide +kernel))) rfl
theorem kC_X6_overtakes : Cond.code yX6_overtakes cX6_overtakes 4 (some FieldType.int) ∈ gtb := gm (tb5 (List.mem_of_getElem? (i := 174) rfl)) rfl
theorem kL_L_116 : Cond.methodLink RL 116 yX6_lag ∈ gtb := gm (tb5 (List.mem_of_getElem? (i := 175) (by decide +kernel))) rfl
theorem kI_X6_lag : Cond.instanceMethod yX6_lag ∈ gtb := gm (tb5 (List.mem_of_getElem? (i := 176) (by decide +kernel))) rfl
theorem kV_X6_lag : Cond.selects RX6 yX6_lag yX6_lag ∈ gtb := gm (tb5 (List.mem_of_getElem? (i := 177) (by decide +kernel))) rfl
theorem kC_X6_lag : Cond.code yX6_lag cX6_lag 6 (some FieldType.int) ∈ gtb := gm (tb5 (List.mem_of_getElem? (i := 178) rfl)) rfl
theorem kL_L_120 : Cond.methodLink RL 120 yX6_clash ∈ gtb := gm (tb5 (List.mem_of_getElem? (i := 179) (by decide +kernel))) rfl
theorem kI_X6_clash : Cond.instanceMethod yX6_clash ∈ gtb := gm (tb5 (List.mem_of_getElem? (i := 180) (by decide +kernel))) rfl
theorem kV_X6_clash : Cond.selects RX6 yX6_clash yX6_clash ∈ gtb := gm (tb5 (List.mem_of_getElem? (i := 181) (by decide +kernel))) rfl
theorem kC_X6_clash : Cond.code yX6_clash cX6_clash 5 (some FieldType.int) ∈ gtb := gm (tb5 (List.mem_of_getElem? (i := 182) rfl)) rfl
theorem kL_L_124 : Cond.methodLink RL 124 yX6_release ∈ gtb := gm (tb5 (List.mem_of_getElem? (i := 183) (by decide +kernel))) rfl
theorem kI_X6_release : Cond.instanceMethod yX6_release ∈ gtb := gm (tb5 (List.mem_of_getElem? (i := 184) (by decide +kernel))) rfl
theorem kV_X6_release : Cond.selects RX6 yX6_release yX6_release ∈ gtb := gm (tb5 (List.mem_of_getElem? (i := 185) (by decide +kernel))) rfl
theorem kC_X6_release : Cond.code yX6_release cX6_release 5 (some FieldType.int) ∈ gtb := gm (tb5 (List.mem_of_getElem? (i := 186) rfl)) rfl
theorem kL_X6_170 : Cond.methodLink RX6 170 yX6_isRelease ∈ gtb := gm (tb5 (List.mem_of_getElem? (i := 187) (by decide +kernel))) rfl
theorem kS_X6_isRelease : Cond.static yX6_isRelease ∈ gtb := gm (tb5 (List.mem_of_getElem? (i := 188) (by decide +kernel))) rfl
theorem kC_X6_isRelease : Cond.code yX6_isRelease cX6_isRelease 3 (some FieldType.boolean) ∈ gtb := gm (tb5 (List.mem_of_getElem? (i := 189) rfl)) rfl
theorem kL_X6_173 : Cond.methodLink RX6 173 yX6_bestRelease ∈ gtb := gm (tb5 (List.mem_of_getElem? (i := 190) (by decide +kernel))) rfl
theorem kI_X6_bestRelease : Cond.instanceMethod yX6_bestRelease ∈ gtb := gm (tb5 (List.mem_of_getElem? (i := 192) (by decide +kernel))) rfl
theorem kC_X6_bestRelease : Cond.code yX6_bestRelease cX6_bestRelease 7 (some FieldType.int) ∈ gtb := gm (tb5 (List.mem_of_getElem? (i := 193) rfl)) rfl
theorem kL_X6_167 : Cond.methodLink RX6 167 yX6_priceOf ∈ gtb := gm (tb5 (List.mem_of_getElem? (i := 194) (by decide +kernel))) rfl
theorem kI_X6_priceOf : Cond.instanceMethod yX6_priceOf ∈ gtb := gm (tb5 (List.mem_of_getElem? (i := 196) (by decide +kernel))) rfl
theorem kC_X6_priceOf : Cond.code yX6_priceOf cX6_priceOf 4 (some FieldType.int) ∈ gtb := gm (tb5 (List.mem_of_getElem? (i := 197) rfl)) rfl
theorem kL_L_128 : Cond.methodLink RL 128 yX6_costs ∈ gtb := gm (tb5 (List.mem_of_getElem? (i := 198) (by decide +kernel))) rfl
theorem kI_X6_costs : Cond.instanceMethod yX6_costs ∈ gtb := gm (tb5 (List.mem_of_getElem? (i := 199) (by decide +kernel))) rfl
theorem kV_X6_costs : Cond.selects RX6 yX6_costs yX6_costs ∈ gtb := gm (tb5 (List.mem_of_getElem? (i := 200) (by decide +kernel))) rfl
theorem kC_X6_costs : Cond.code yX6_costs cX6_costs 5 (some FieldType.int) ∈ gtb := gm (tb5 (List.mem_of_getElem? (i := 201) rfl)) rfl
theorem kL_L_132 : Cond.methodLink RL 132 yX6_farthest ∈ gtb := gm (tb5 (List.mem_of_getElem? (i := 202) (by decide +kernel))) rfl
theorem kI_X6_farthest : Cond.instanceMethod yX6_farthest ∈ gtb := gm (tb5 (List.mem_of_getElem? (i := 203) (by decide +kernel))) rfl
theorem kV_X6_farthest : Cond.selects RX6 yX6_farthest yX6_farthest ∈ gtb := gm (tb5 (List.mem_of_getElem? (i := 204) (by decide +kernel))) rfl
theorem kC_X6_farthest : Cond.code yX6_farthest cX6_farthest 7 (some FieldType.int) ∈ gtb := gm (tb5 (List.mem_of_getElem? (i := 205) rfl)) rfl
theorem kL_L_136 : Cond.methodLink RL 136 yX6_fits ∈ gtb := gm (tb5 (List.mem_of_getElem? (i := 206) (by decide +kernel))) rfl
theorem kI_X6_fits : Cond.instanceMethod yX6_fits ∈ gtb := gm (tb5 (List.mem_of_getElem? (i := 207) (by decide +kernel))) rfl
theorem kV_X6_fits : Cond.selects RX6 yX6_fits yX6_fits ∈ gtb := gm (tb5 (List.mem_of_getElem? (i := 208) (by decide +kernel))) rfl
theorem kC_X6_fits : Cond.code yX6_fits cX6_fits 6 (some FieldType.int) ∈ gtb := gm (tb5 (List.mem_of_getElem? (i := 209) rfl)) rfl
theorem kL_X6_183 : Cond.methodLink RX6 183 yX6_wrongTrail ∈ gtb := gm (tb5 (List.mem_of_getElem? (i := 210) (by decide +kernel))) rfl
theorem kI_X6_wrongTrail : Cond.instanceMethod yX6_wrongTrail ∈ gtb := gm (tb5 (List.mem_of_getElem? (i := 212) (by decide +kernel))) rfl
theorem kC_X6_wrongTrail : Cond.code yX6_wrongTrail cX6_wrongTrail 4 (some FieldType.int) ∈ gtb := gm (tb5 (List.mem_of_getElem? (i := 213) rfl)) rfl
theorem kL_X6_180 : Cond.methodLink RX6 180 yX6_wrongSheet ∈ gtb := gm (tb5 (List.mem_of_getElem? (i := 214) (by decide +kernel))) rfl
theorem kI_X6_wrongSheet : Cond.instanceMethod yX6_wrongSheet ∈ gtb := gm (tb5 (List.mem_of_getElem? (i := 216) (by decide +kernel))) rfl
theorem kC_X6_wrongSheet : Cond.code yX6_wrongSheet cX6_wrongSheet 2 (some FieldType.int) ∈ gtb := gm (tb5 (List.mem_of_getElem? (i := 217) rfl)) rfl
theorem kL_X6_177 : Cond.methodLink RX6 177 yX6_isSheet ∈ gtb := gm (tb5 (List.mem_of_getElem? (i := 218) (by decide +kernel))) rfl
theorem kS_X6_isSheet : Cond.static yX6_isSheet ∈ gtb := gm (tb5 (List.mem_of_getElem? (i := 219) (by decide +kernel))) rfl
theorem kC_X6_isSheet : Cond.code yX6_isSheet cX6_isSheet 1 (some FieldType.boolean) ∈ gtb := gm (tb5 (List.mem_of_getElem? (i := 220) rfl)) rfl
theorem kL_X6_186 : Cond.methodLink RX6 186 yX6_fitsFrom ∈ gtb := gm (tb5 (List.mem_of_getElem? (i := 221) (by decide +kernel))) rfl
theorem kI_X6_fitsFrom : Cond.instanceMethod yX6_fitsFrom ∈ gtb := gm (tb5 (List.mem_of_getElem? (i := 223) (by decide +kernel))) rfl
theorem kC_X6_fitsFrom : Cond.code yX6_fitsFrom cX6_fitsFrom 7 (some FieldType.boolean) ∈ gtb := gm (tb5 (List.mem_of_getElem? (i := 224) rfl)) rfl
theorem kL_L_140 : Cond.methodLink RL 140 yX6_began ∈ gtb := gm (tb5 (List.mem_of_getElem? (i := 225) (by decide +kernel))) rfl
theorem kI_X6_began : Cond.instanceMethod yX6_began ∈ gtb := gm (tb5 (List.mem_of_getElem? (i := 226) (by decide +kernel))) rfl
theorem kV_X6_began : Cond.selects RX6 yX6_began yX6_began ∈ gtb := gm (tb5 (List.mem_of_getElem? (i := 227) (by decide +kernel))) rfl
theorem kC_X6_began : Cond.code yX6_began cX6_began 5 (some FieldType.int) ∈ gtb := gm (tb5 (List.mem_of_getElem? (i := 228) rfl)) rfl
theorem kL_L_144 : Cond.methodLink RL 144 yX6_thrushes ∈ gtb := gm (tb5 (List.mem_of_getElem? (i := 229) (by decide +kernel))) rfl
theorem kI_X6_thrushes : Cond.instanceMethod yX6_thrushes ∈ gtb := gm (tb5 (List.mem_of_getElem? (i := 230) (by decide +kernel))) rfl
theorem kV_X6_thrushes : Cond.selects RX6 yX6_thrushes yX6_thrushes ∈ gtb := gm (tb5 (List.mem_of_getElem? (i := 231) (by decide +kernel))) rfl
theorem kC_X6_thrushes : Cond.code yX6_thrushes cX6_thrushes 6 (some FieldType.int) ∈ gtb := gm (tb5 (List.mem_of_getElem? (i := 232) rfl)) rfl
theorem kL_X6_190 : Cond.methodLink RX6 190 yX6_draw ∈ gtb := gm (tb5 (List.mem_of_getElem? (i := 233) (by decide +kernel))) rfl
theorem kI_X6_draw : Cond.instanceMethod yX6_draw ∈ gtb := gm (tb5 (List.mem_of_getElem? (i := 235) (by decide +kernel))) rfl
theorem kC_X6_draw : Cond.code yX6_draw cX6_draw 1 (some FieldType.int) ∈ gtb := gm (tb5 (List.mem_of_getElem? (i := 236) rfl)) rfl
theorem kK_X6_189 : Cond.constant RX6 189 (Int32.ofInt (1103515245)) ∈ gtb := gm (tb5 (List.mem_of_getElem? (i := 237) (by decide +kernel))) rfl
theorem kL_L_149 : Cond.methodLink RL 149 yX6_alone ∈ gtb := gm (tb5 (List.mem_of_getElem? (i := 238) (by decide +kernel))) rfl
theorem kI_X6_alone : Cond.instanceMethod yX6_alone ∈ gtb := gm (tb5 (List.mem_of_getElem? (i := 239) (by decide +kernel))) rfl
theorem kV_X6_alone : Cond.selects RX6 yX6_alone yX6_alone ∈ gtb := gm (tb6 (List.mem_of_getElem? (i := 0) (by decide +kernel))) rfl
theorem kC_X6_alone : Cond.code yX6_alone cX6_alone 13 (some FieldType.long) ∈ gtb := gm (tb6 (List.mem_of_getElem? (i := 1) rfl)) rfl
theorem kK_X6_193 : Cond.constantLong RX6 193 (Int64.ofInt (20)) ∈ gtb := gm (tb6 (List.mem_of_getElem? (i := 2) (by decide +kernel))) rfl
theorem kL_L_153 : Cond.methodLink RL 153 yX6_seed ∈ gtb := gm (tb6 (List.mem_of_getElem? (i := 3) (by decide +kernel))) rfl
theorem kI_X6_seed : Cond.instanceMethod yX6_seed ∈ gtb := gm (tb6 (List.mem_of_getElem? (i := 4) (by decide +kernel))) rfl
theorem kV_X6_seed : Cond.selects RX6 yX6_seed yX6_seed ∈ gtb := gm (tb6 (List.mem_of_getElem? (i := 5) (by decide +kernel))) rfl
theorem kC_X6_seed : Cond.code yX6_seed cX6_seed 3 (some FieldType.int) ∈ gtb := gm (tb6 (List.mem_of_getElem? (i := 6) rfl)) rfl
theorem kL_L_157 : Cond.methodLink RL 157 yX6_feed ∈ gtb := gm (tb6 (List.mem_of_getElem? (i := 7) (by decide +kernel))) rfl
theorem kI_X6_feed : Cond.instanceMethod yX6_feed ∈ gtb := gm (tb6 (List.mem_of_getElem? (i := 8) (by decide +kernel))) rfl
theorem kV_X6_feed : Cond.selects RX6 yX6_feed yX6_feed ∈ gtb := gm (tb6 (List.mem_of_getElem? (i := 9) (by decide +kernel))) rfl
theorem kC_X6_feed : Cond.code yX6_feed cX6_feed 4 (some FieldType.int) ∈ gtb := gm (tb6 (List.mem_of_getElem? (i := 10) rfl)) rfl
theorem kL_L_161 : Cond.methodLink RL 161 yX6_wipe ∈ gtb := gm (tb6 (List.mem_of_getElem? (i := 11) (by decide +kernel))) rfl
theorem kI_X6_wipe : Cond.instanceMethod yX6_wipe ∈ gtb := gm (tb6 (List.mem_of_getElem? (i := 12) (by decide +kernel))) rfl
theorem kV_X6_wipe : Cond.selects RX6 yX6_wipe yX6_wipe ∈ gtb := gm (tb6 (List.mem_of_getElem? (i := 13) (by decide +kernel))) rfl
theorem kC_X6_wipe : Cond.code yX6_wipe cX6_wipe 2 (some FieldType.int) ∈ gtb := gm (tb6 (List.mem_of_getElem? (i := 14) rfl)) rfl
theorem kL_L_165 : Cond.methodLink RL 165 yX6_text ∈ gtb := gm (tb6 (List.mem_of_getElem? (i := 15) (by decide +kernel))) rfl
theorem kI_X6_text : Cond.instanceMethod yX6_text ∈ gtb := gm (tb6 (List.mem_of_getElem? (i := 16) (by decide +kernel))) rfl
theorem kV_X6_text : Cond.selects RX6 yX6_text yX6_text ∈ gtb := gm (tb6 (List.mem_of_getElem? (i := 17) (by decide +kernel))) rfl
theorem kC_X6_text : Cond.code yX6_text cX6_text 3 (some FieldType.int) ∈ gtb := gm (tb6 (List.mem_of_getElem? (i := 18) rfl)) rfl
theorem kL_X6_230 : Cond.methodLink RX6 230 yX6_nextToken ∈ gtb := gm (tb6 (List.mem_of_getElem? (i := 19) (by decide +kernel))) rfl
theorem kI_X6_nextToken : Cond.instanceMethod yX6_nextToken ∈ gtb := gm (tb6 (List.mem_of_getElem? (i := 21) (by decide +kernel))) rfl
theorem kC_X6_nextToken : Cond.code yX6_nextToken cX6_nextToken 1 none ∈ gtb := gm (tb6 (List.mem_of_getElem? (i := 22) rfl)) rfl
theorem kL_X6_212 : Cond.methodLink RX6 212 yX6_isLetter ∈ gtb := gm (tb6 (List.mem_of_getElem? (i := 23) (by decide +kernel))) rfl
theorem kS_X6_isLetter : Cond.static yX6_isLetter ∈ gtb := gm (tb6 (List.mem_of_getElem? (i := 24) (by decide +kernel))) rfl
theorem kC_X6_isLetter : Cond.code yX6_isLetter cX6_isLetter 1 (some FieldType.boolean) ∈ gtb := gm (tb6 (List.mem_of_getElem? (i := 25) rfl)) rfl
theorem kK_X6_215 : Cond.constantLong RX6 215 (Int64.ofInt (9999999999999)) ∈ gtb := gm (tb6 (List.mem_of_getElem? (i := 26) (by decide +kernel))) rfl
theorem kK_X6_217 : Cond.constantLong RX6 217 (Int64.ofInt (27)) ∈ gtb := gm (tb6 (List.mem_of_getElem? (i := 27) (by decide +kernel))) rfl
theorem kK_X6_219 : Cond.constantLong RX6 219 (Int64.ofInt (96)) ∈ gtb := gm (tb6 (List.mem_of_getElem? (i := 28) (by decide +kernel))) rfl
theorem kL_X6_221 : Cond.methodLink RX6 221 yX6_isDigit ∈ gtb := gm (tb6 (List.mem_of_getElem? (i := 29) (by decide +kernel))) rfl
theorem kS_X6_isDigit : Cond.static yX6_isDigit ∈ gtb := gm (tb6 (List.mem_of_getElem? (i := 30) (by decide +kernel))) rfl
theorem kC_X6_isDigit : Cond.code yX6_isDigit cX6_isDigit 1 (some FieldType.boolean) ∈ gtb := gm (tb6 (List.mem_of_getElem? (i := 31) rfl)) rfl
theorem kK_X6_224 : Cond.constantLong RX6 224 (Int64.ofInt (999)) ∈ gtb := gm (tb6 (List.mem_of_getElem? (i := 32) (by decide +kernel))) rfl
theorem kK_X6_226 : Cond.constantLong RX6 226 (Int64.ofInt (10)) ∈ gtb := gm (tb6 (List.mem_of_getElem? (i := 33) (by decide +kernel))) rfl
theorem kK_X6_228 : Cond.constantLong RX6 228 (Int64.ofInt (48)) ∈ gtb := gm (tb6 (List.mem_of_getElem? (i := 34) (by decide +kernel))) rfl
theorem kL_X6_243 : Cond.methodLink RX6 243 yX6_readsItem ∈ gtb := gm (tb6 (List.mem_of_getElem? (i := 35) (by decide +kernel))) rfl
theorem kI_X6_readsItem : Cond.instanceMethod yX6_readsItem ∈ gtb := gm (tb6 (List.mem_of_getElem? (i := 37) (by decide +kernel))) rfl
theorem kC_X6_readsItem : Cond.code yX6_readsItem cX6_readsItem 6 (some FieldType.boolean) ∈ gtb := gm (tb6 (List.mem_of_getElem? (i := 38) rfl)) rfl
theorem kL_X6_233 : Cond.methodLink RX6 233 yX6_wordOf ∈ gtb := gm (tb6 (List.mem_of_getElem? (i := 39) (by decide +kernel))) rfl
theorem kI_X6_wordOf : Cond.instanceMethod yX6_wordOf ∈ gtb := gm (tb6 (List.mem_of_getElem? (i := 41) (by decide +kernel))) rfl
theorem kC_X6_wordOf : Cond.code yX6_wordOf cX6_wordOf 7 (some FieldType.int) ∈ gtb := gm (tb6 (List.mem_of_getElem? (i := 42) rfl)) rfl
theorem kL_X6_240 : Cond.methodLink RX6 240 yX6_readsSnail ∈ gtb := gm (tb6 (List.mem_of_getElem? (i := 43) (by decide +kernel))) rfl
theorem kI_X6_readsSnail : Cond.instanceMethod yX6_readsSnail ∈ gtb := gm (tb6 (List.mem_of_getElem? (i := 45) (by decide +kernel))) rfl
theorem kC_X6_readsSnail : Cond.code yX6_readsSnail cX6_readsSnail 5 (some FieldType.boolean) ∈ gtb := gm (tb6 (List.mem_of_getElem? (i := 46) rfl)) rfl
theorem kL_X6_237 : Cond.methodLink RX6 237 yX6_takesNumber ∈ gtb := gm (tb6 (List.mem_of_getElem? (i := 47) (by decide +kernel))) rfl
theorem kI_X6_takesNumber : Cond.instanceMethod yX6_takesNumber ∈ gtb := gm (tb6 (List.mem_of_getElem? (i := 49) (by decide +kernel))) rfl
theorem kC_X6_takesNumber : Cond.code yX6_takesNumber cX6_takesNumber 4 (some FieldType.int) ∈ gtb := gm (tb6 (List.mem_of_getElem? (i := 50) rfl)) rfl
theorem kL_L_169 : Cond.methodLink RL 169 yX6_hold ∈ gtb := gm (tb6 (List.mem_of_getElem? (i := 51) (by decide +kernel))) rfl
theorem kI_X6_hold : Cond.instanceMethod yX6_hold ∈ gtb := gm (tb6 (List.mem_of_getElem? (i := 52) (by decide +kernel))) rfl
theorem kV_X6_hold : Cond.selects RX6 yX6_hold yX6_hold ∈ gtb := gm (tb6 (List.mem_of_getElem? (i := 53) (by decide +kernel))) rfl
theorem kC_X6_hold : Cond.code yX6_hold cX6_hold 3 (some FieldType.int) ∈ gtb := gm (tb6 (List.mem_of_getElem? (i := 54) rfl)) rfl
theorem kL_X6_247 : Cond.methodLink RX6 247 yX6_isSpot ∈ gtb := gm (tb6 (List.mem_of_getElem? (i := 55) (by decide +kernel))) rfl
theorem kS_X6_isSpot : Cond.static yX6_isSpot ∈ gtb := gm (tb6 (List.mem_of_getElem? (i := 56) (by decide +kernel))) rfl
theorem kC_X6_isSpot : Cond.code yX6_isSpot cX6_isSpot 1 (some FieldType.boolean) ∈ gtb := gm (tb6 (List.mem_of_getElem? (i := 57) rfl)) rfl
theorem kL_L_173 : Cond.methodLink RL 173 yX6_as ∈ gtb := gm (tb6 (List.mem_of_getElem? (i := 58) (by decide +kernel))) rfl
theorem kI_X6_as : Cond.instanceMethod yX6_as ∈ gtb := gm (tb6 (List.mem_of_getElem? (i := 59) (by decide +kernel))) rfl
theorem kV_X6_as : Cond.selects RX6 yX6_as yX6_as ∈ gtb := gm (tb6 (List.mem_of_getElem? (i := 60) (by decide +kernel))) rfl
theorem kC_X6_as : Cond.code yX6_as cX6_as 5 (some FieldType.int) ∈ gtb := gm (tb6 (List.mem_of_getElem? (i := 61) rfl)) rfl
theorem kL_X6_250 : Cond.methodLink RX6 250 yX6_above ∈ gtb := gm (tb6 (List.mem_of_getElem? (i := 62) (by decide +kernel))) rfl
theorem kS_X6_above : Cond.static yX6_above ∈ gtb := gm (tb6 (List.mem_of_getElem? (i := 63) (by decide +kernel))) rfl
theorem kC_X6_above : Cond.code yX6_above cX6_above 1 (some FieldType.int) ∈ gtb := gm (tb6 (List.mem_of_getElem? (i := 64) rfl)) rfl
theorem kL_L_177 : Cond.methodLink RL 177 yX6_sheet ∈ gtb := gm (tb6 (List.mem_of_getElem? (i := 65) (by decide +kernel))) rfl
theorem kI_X6_sheet : Cond.instanceMethod yX6_sheet ∈ gtb := gm (tb6 (List.mem_of_getElem? (i := 66) (by decide +kernel))) rfl
theorem kV_X6_sheet : Cond.selects RX6 yX6_sheet yX6_sheet ∈ gtb := gm (tb6 (List.mem_of_getElem? (i := 67) (by decide +kernel))) rfl
theorem kC_X6_sheet : Cond.code yX6_sheet cX6_sheet 5 (some FieldType.int) ∈ gtb := gm (tb6 (List.mem_of_getElem? (i := 68) rfl)) rfl
theorem kL_L_181 : Cond.methodLink RL 181 yX6_write ∈ gtb := gm (tb6 (List.mem_of_getElem? (i := 69) (by decide +kernel))) rfl
theorem kI_X6_write : Cond.instanceMethod yX6_write ∈ gtb := gm (tb6 (List.mem_of_getElem? (i := 70) (by decide +kernel))) rfl
theorem kV_X6_write : Cond.selects RX6 yX6_write yX6_write ∈ gtb := gm (tb6 (List.mem_of_getElem? (i := 71) (by decide +kernel))) rfl
theorem kC_X6_write : Cond.code yX6_write cX6_write 5 (some FieldType.int) ∈ gtb := gm (tb6 (List.mem_of_getElem? (i := 72) rfl)) rfl
theorem kL_L_186 : Cond.methodLink RL 186 yX6_copy ∈ gtb := gm (tb6 (List.mem_of_getElem? (i := 73) (by decide +kernel))) rfl
theorem kI_X6_copy : Cond.instanceMethod yX6_copy ∈ gtb := gm (tb6 (List.mem_of_getElem? (i := 74) (by decide +kernel))) rfl
theorem kV_X6_copy : Cond.selects RX6 yX6_copy yX6_copy ∈ gtb := gm (tb6 (List.mem_of_getElem? (i := 75) (by decide +kernel))) rfl
theorem kC_X6_copy : Cond.code yX6_copy cX6_copy 7 (some FieldType.int) ∈ gtb := gm (tb6 (List.mem_of_getElem? (i := 76) rfl)) rfl
theorem kL_L_190 : Cond.methodLink RL 190 yX6_load ∈ gtb := gm (tb6 (List.mem_of_getElem? (i := 77) (by decide +kernel))) rfl
theorem kI_X6_load : Cond.instanceMethod yX6_load ∈ gtb := gm (tb6 (List.mem_of_getElem? (i := 78) (by decide +kernel))) rfl
theorem kV_X6_load : Cond.selects RX6 yX6_load yX6_load ∈ gtb := gm (tb6 (List.mem_of_getElem? (i := 79) (by decide +kernel))) rfl
theorem kC_X6_load : Cond.code yX6_load cX6_load 4 (some FieldType.int) ∈ gtb := gm (tb6 (List.mem_of_getElem? (i := 80) rfl)) rfl
theorem kL_L_194 : Cond.methodLink RL 194 yX6_judge ∈ gtb := gm (tb6 (List.mem_of_getElem? (i := 81) (by decide +kernel))) rfl
theorem kI_X6_judge : Cond.instanceMethod yX6_judge ∈ gtb := gm (tb6 (List.mem_of_getElem? (i := 82) (by decide +kernel))) rfl
theorem kV_X6_judge : Cond.selects RX6 yX6_judge yX6_judge ∈ gtb := gm (tb6 (List.mem_of_getElem? (i := 83) (by decide +kernel))) rfl
theorem kC_X6_judge : Cond.code yX6_judge cX6_judge 4 (some FieldType.int) ∈ gtb := gm (tb6 (List.mem_of_getElem? (i := 84) rfl)) rfl
theorem kL_L_198 : Cond.methodLink RL 198 yX6_image ∈ gtb := gm (tb6 (List.mem_of_getElem? (i := 85) (by decide +kernel))) rfl
theorem kI_X6_image : Cond.instanceMethod yX6_image ∈ gtb := gm (tb6 (List.mem_of_getElem? (i := 86) (by decide +kernel))) rfl
theorem kV_X6_image : Cond.selects RX6 yX6_image yX6_image ∈ gtb := gm (tb6 (List.mem_of_getElem? (i := 87) (by decide +kernel))) rfl
theorem kC_X6_image : Cond.code yX6_image cX6_image 2 (some FieldType.int) ∈ gtb := gm (tb6 (List.mem_of_getElem? (i := 88) rfl)) rfl
theorem kL_L_202 : Cond.methodLink RL 202 yX6_undo ∈ gtb := gm (tb6 (List.mem_of_getElem? (i := 89) (by decide +kernel))) rfl
theorem kI_X6_undo : Cond.instanceMethod yX6_undo ∈ gtb := gm (tb6 (List.mem_of_getElem? (i := 90) (by decide +kernel))) rfl
theorem kV_X6_undo : Cond.selects RX6 yX6_undo yX6_undo ∈ gtb := gm (tb6 (List.mem_of_getElem? (i := 91) (by decide +kernel))) rfl
theorem kC_X6_undo : Cond.code yX6_undo cX6_undo 2 (some FieldType.int) ∈ gtb := gm (tb6 (List.mem_of_getElem? (i := 92) rfl)) rfl
theorem kL_L_206 : Cond.methodLink RL 206 yX6_tear ∈ gtb := gm (tb6 (List.mem_of_getElem? (i := 93) (by decide +kernel))) rfl
theorem kI_X6_tear : Cond.instanceMethod yX6_tear ∈ gtb := gm (tb6 (List.mem_of_getElem? (i := 94) (by decide +kernel))) rfl
theorem kV_X6_tear : Cond.selects RX6 yX6_tear yX6_tear ∈ gtb := gm (tb6 (List.mem_of_getElem? (i := 95) (by decide +kernel))) rfl
theorem kC_X6_tear : Cond.code yX6_tear cX6_tear 2 (some FieldType.int) ∈ gtb := gm (tb6 (List.mem_of_getElem? (i := 96) rfl)) rfl
theorem kL_L_210 : Cond.methodLink RL 210 yX6_count ∈ gtb := gm (tb6 (List.mem_of_getElem? (i := 97) (by decide +kernel))) rfl
theorem kI_X6_count : Cond.instanceMethod yX6_count ∈ gtb := gm (tb6 (List.mem_of_getElem? (i := 98) (by decide +kernel))) rfl
theorem kV_X6_count : Cond.selects RX6 yX6_count yX6_count ∈ gtb := gm (tb6 (List.mem_of_getElem? (i := 99) (by decide +kernel))) rfl
theorem kC_X6_count : Cond.code yX6_count cX6_count 4 (some FieldType.int) ∈ gtb := gm (tb6 (List.mem_of_getElem? (i := 100) rfl)) rfl
theorem kL_L_214 : Cond.methodLink RL 214 yX6_status ∈ gtb := gm (tb6 (List.mem_of_getElem? (i := 101) (by decide +kernel))) rfl
theorem kI_X6_status : Cond.instanceMethod yX6_status ∈ gtb := gm (tb6 (List.mem_of_getElem? (i := 102) (by decide +kernel))) rfl
theorem kV_X6_status : Cond.selects RX6 yX6_status yX6_status ∈ gtb := gm (tb6 (List.mem_of_getElem? (i := 103) (by decide +kernel))) rfl
theorem kC_X6_status : Cond.code yX6_status cX6_status 4 (some FieldType.int) ∈ gtb := gm (tb6 (List.mem_of_getElem? (i := 104) rfl)) rfl
theorem kF_J0_9 : Cond.fieldLink RJ0 9 RJ0 "value" "[B" ∈ gtb := gm (tb6 (List.mem_of_getElem? (i := 105) (by decide +kernel))) rfl
theorem kF_J0_15 : Cond.fieldLink RJ0 15 RJ0 "coder" "B" ∈ gtb := gm (tb6 (List.mem_of_getElem? (i := 106) (by decide +kernel))) rfl
theorem kV_X5_tell : Cond.selects RX5 yX5_tell yX5_tell ∈ gtb := gm (tb0 (List.mem_of_getElem? (i := 0) (by decide +kernel))) rfl
theorem kV_X4_spreadFrom : Cond.selects RX4 yX4_spreadFrom yX4_spreadFrom ∈ gtb := gm (tb0 (List.mem_of_getElem? (i := 1) (by decide +kernel))) rfl
theorem kV_X5_isSnail : Cond.selects RX5 yX5_isSnail yX5_isSnail ∈ gtb := gm (tb0 (List.mem_of_getElem? (i := 2) (by decide +kernel))) rfl
theorem kV_X4_nearerThan : Cond.selects RX4 yX4_nearerThan yX4_nearerThan ∈ gtb := gm (tb0 (List.mem_of_getElem? (i := 3) (by decide +kernel))) rfl
theorem kV_X1_passDayOf : Cond.selects RX1 yX1_passDayOf yX1_passDayOf ∈ gtb := gm (tb0 (List.mem_of_getElem? (i := 4) (by decide +kernel))) rfl
theorem kV_X1_comeUnder : Cond.selects RX1 yX1_comeUnder yX1_comeUnder ∈ gtb := gm (tb0 (List.mem_of_getElem? (i := 5) (by decide +kernel))) rfl
theorem kV_X0_passDay : Cond.selects RX0 yX0_passDay yX0_passDay ∈ gtb := gm (tb0 (List.mem_of_getElem? (i := 6) (by decide +kernel))) rfl
theorem kV_X0_isNearer : Cond.selects RX0 yX0_isNearer yX0_isNearer ∈ gtb := gm (tb0 (List.mem_of_getElem? (i := 7) (by decide +kernel))) rfl
theorem kV_X0_bringsLaw : Cond.selects RX0 yX0_bringsLaw yX0_bringsLaw ∈ gtb := gm (tb0 (List.mem_of_getElem? (i := 8) (by decide +kernel))) rfl
theorem kV_X0_bearsLaw : Cond.selects RX0 yX0_bearsLaw yX0_bearsLaw ∈ gtb := gm (tb0 (List.mem_of_getElem? (i := 9) (by decide +kernel))) rfl
theorem kV_X0_arrivesFrom : Cond.selects RX0 yX0_arrivesFrom yX0_arrivesFrom ∈ gtb := gm (tb0 (List.mem_of_getElem? (i := 10) (by decide +kernel))) rfl
theorem kV_X5_trailFlaw : Cond.selects RX5 yX5_trailFlaw yX5_trailFlaw ∈ gtb := gm (tb0 (List.mem_of_getElem? (i := 11) (by decide +kernel))) rfl
theorem kV_X5_sheetFlaw : Cond.selects RX5 yX5_sheetFlaw yX5_sheetFlaw ∈ gtb := gm (tb0 (List.mem_of_getElem? (i := 12) (by decide +kernel))) rfl
theorem kV_X3_cutTokens : Cond.selects RX3 yX3_cutTokens yX3_cutTokens ∈ gtb := gm (tb0 (List.mem_of_getElem? (i := 13) (by decide +kernel))) rfl
theorem kV_X3_cutToken : Cond.selects RX3 yX3_cutToken yX3_cutToken ∈ gtb := gm (tb0 (List.mem_of_getElem? (i := 14) (by decide +kernel))) rfl
theorem kV_X3_valueOf : Cond.selects RX3 yX3_valueOf yX3_valueOf ∈ gtb := gm (tb0 (List.mem_of_getElem? (i := 15) (by decide +kernel))) rfl
theorem kV_X3_readItem : Cond.selects RX3 yX3_readItem yX3_readItem ∈ gtb := gm (tb0 (List.mem_of_getElem? (i := 16) (by decide +kernel))) rfl
theorem kV_X3_kindNamed : Cond.selects RX3 yX3_kindNamed yX3_kindNamed ∈ gtb := gm (tb0 (List.mem_of_getElem? (i := 17) (by decide +kernel))) rfl
theorem kV_X3_isWord : Cond.selects RX3 yX3_isWord yX3_isWord ∈ gtb := gm (tb0 (List.mem_of_getElem? (i := 18) (by decide +kernel))) rfl
theorem kV_X3_readSnail : Cond.selects RX3 yX3_readSnail yX3_readSnail ∈ gtb := gm (tb0 (List.mem_of_getElem? (i := 19) (by decide +kernel))) rfl
theorem kV_X3_takePart : Cond.selects RX3 yX3_takePart yX3_takePart ∈ gtb := gm (tb0 (List.mem_of_getElem? (i := 20) (by decide +kernel))) rfl
theorem kV_X3_skipWord : Cond.selects RX3 yX3_skipWord yX3_skipWord ∈ gtb := gm (tb0 (List.mem_of_getElem? (i := 21) (by decide +kernel))) rfl
theorem kV_X3_takeNumber : Cond.selects RX3 yX3_takeNumber yX3_takeNumber ∈ gtb := gm (tb0 (List.mem_of_getElem? (i := 22) (by decide +kernel))) rfl
theorem kV_X3_readHedge : Cond.selects RX3 yX3_readHedge yX3_readHedge ∈ gtb := gm (tb0 (List.mem_of_getElem? (i := 23) (by decide +kernel))) rfl
theorem kV_X3_readGreens : Cond.selects RX3 yX3_readGreens yX3_readGreens ∈ gtb := gm (tb0 (List.mem_of_getElem? (i := 24) (by decide +kernel))) rfl
theorem kV_X3_readBans : Cond.selects RX3 yX3_readBans yX3_readBans ∈ gtb := gm (tb0 (List.mem_of_getElem? (i := 25) (by decide +kernel))) rfl
theorem kV_X3_readWet : Cond.selects RX3 yX3_readWet yX3_readWet ∈ gtb := gm (tb0 (List.mem_of_getElem? (i := 26) (by decide +kernel))) rfl
theorem kV_X3_readThrush : Cond.selects RX3 yX3_readThrush yX3_readThrush ∈ gtb := gm (tb0 (List.mem_of_getElem? (i := 27) (by decide +kernel))) rfl
theorem kV_X6_no : Cond.selects RX6 yX6_no yX6_no ∈ gtb := gm (tb0 (List.mem_of_getElem? (i := 28) (by decide +kernel))) rfl
theorem kV_X6_barsHedges : Cond.selects RX6 yX6_barsHedges yX6_barsHedges ∈ gtb := gm (tb0 (List.mem_of_getElem? (i := 29) (by decide +kernel))) rfl
theorem kV_X6_isHedge : Cond.selects RX6 yX6_isHedge yX6_isHedge ∈ gtb := gm (tb0 (List.mem_of_getElem? (i := 30) (by decide +kernel))) rfl
theorem kV_X6_spreads : Cond.selects RX6 yX6_spreads yX6_spreads ∈ gtb := gm (tb0 (List.mem_of_getElem? (i := 31) (by decide +kernel))) rfl
theorem kV_X6_addsSnail : Cond.selects RX6 yX6_addsSnail yX6_addsSnail ∈ gtb := gm (tb0 (List.mem_of_getElem? (i := 32) (by decide +kernel))) rfl
theorem kV_X6_puts : Cond.selects RX6 yX6_puts yX6_puts ∈ gtb := gm (tb0 (List.mem_of_getElem? (i := 33) (by decide +kernel))) rfl
theorem kV_X6_isSnail : Cond.selects RX6 yX6_isSnail yX6_isSnail ∈ gtb := gm (tb0 (List.mem_of_getElem? (i := 34) (by decide +kernel))) rfl
theorem kV_X6_findsFars : Cond.selects RX6 yX6_findsFars yX6_findsFars ∈ gtb := gm (tb0 (List.mem_of_getElem? (i := 35) (by decide +kernel))) rfl
theorem kV_X6_get : Cond.selects RX6 yX6_get yX6_get ∈ gtb := gm (tb0 (List.mem_of_getElem? (i := 36) (by decide +kernel))) rfl
theorem kV_X6_movesOf : Cond.selects RX6 yX6_movesOf yX6_movesOf ∈ gtb := gm (tb0 (List.mem_of_getElem? (i := 37) (by decide +kernel))) rfl
theorem kV_X6_farBy : Cond.selects RX6 yX6_farBy yX6_farBy ∈ gtb := gm (tb0 (List.mem_of_getElem? (i := 38) (by decide +kernel))) rfl
theorem kV_X6_days : Cond.selects RX6 yX6_days yX6_days ∈ gtb := gm (tb0 (List.mem_of_getElem? (i := 39) (by decide +kernel))) rfl
theorem kV_X6_allSnails : Cond.selects RX6 yX6_allSnails yX6_allSnails ∈ gtb := gm (tb0 (List.mem_of_getElem? (i := 40) (by decide +kernel))) rfl
theorem kV_X6_day : Cond.selects RX6 yX6_day yX6_day ∈ gtb := gm (tb0 (List.mem_of_getElem? (i := 41) (by decide +kernel))) rfl
theorem kV_X6_crawls : Cond.selects RX6 yX6_crawls yX6_crawls ∈ gtb := gm (tb0 (List.mem_of_getElem? (i := 42) (by decide +kernel))) rfl
theorem kV_X6_comesUnder : Cond.selects RX6 yX6_comesUnder yX6_comesUnder ∈ gtb := gm (tb0 (List.mem_of_getElem? (i := 43) (by decide +kernel))) rfl
theorem kV_X6_nextOf : Cond.selects RX6 yX6_nextOf yX6_nextOf ∈ gtb := gm (tb0 (List.mem_of_getElem? (i := 44) (by decide +kernel))) rfl
theorem kV_X6_isGreedy : Cond.selects RX6 yX6_isGreedy yX6_isGreedy ∈ gtb := gm (tb0 (List.mem_of_getElem? (i := 45) (by decide +kernel))) rfl
theorem kV_X6_underLaw : Cond.selects RX6 yX6_underLaw yX6_underLaw ∈ gtb := gm (tb0 (List.mem_of_getElem? (i := 46) (by decide +kernel))) rfl
theorem kV_X6_isThere : Cond.selects RX6 yX6_isThere yX6_isThere ∈ gtb := gm (tb0 (List.mem_of_getElem? (i := 47) (by decide +kernel))) rfl
theorem kV_X6_isLawful : Cond.selects RX6 yX6_isLawful yX6_isLawful ∈ gtb := gm (tb0 (List.mem_of_getElem? (i := 48) (by decide +kernel))) rfl
theorem kV_X6_lawfulCells : Cond.selects RX6 yX6_lawfulCells yX6_lawfulCells ∈ gtb := gm (tb0 (List.mem_of_getElem? (i := 49) (by decide +kernel))) rfl
theorem kV_X6_setsAside : Cond.selects RX6 yX6_setsAside yX6_setsAside ∈ gtb := gm (tb0 (List.mem_of_getElem? (i := 50) (by decide +kernel))) rfl
theorem kV_X6_laysBack : Cond.selects RX6 yX6_laysBack yX6_laysBack ∈ gtb := gm (tb0 (List.mem_of_getElem? (i := 51) (by decide +kernel))) rfl
theorem kV_X6_reachedBy : Cond.selects RX6 yX6_reachedBy yX6_reachedBy ∈ gtb := gm (tb0 (List.mem_of_getElem? (i := 52) (by decide +kernel))) rfl
theorem kV_X6_thereBy : Cond.selects RX6 yX6_thereBy yX6_thereBy ∈ gtb := gm (tb0 (List.mem_of_getElem? (i := 53) (by decide +kernel))) rfl
theorem kV_X6_bestRelease : Cond.selects RX6 yX6_bestRelease yX6_bestRelease ∈ gtb := gm (tb0 (List.mem_of_getElem? (i := 54) (by decide +kernel))) rfl
theorem kV_X6_priceOf : Cond.selects RX6 yX6_priceOf yX6_priceOf ∈ gtb := gm (tb0 (List.mem_of_getElem? (i := 55) (by decide +kernel))) rfl
theorem kV_X6_wrongTrail : Cond.selects RX6 yX6_wrongTrail yX6_wrongTrail ∈ gtb := gm (tb0 (List.mem_of_getElem? (i := 56) (by decide +kernel))) rfl
theorem kV_X6_wrongSheet : Cond.selects RX6 yX6_wrongSheet yX6_wrongSheet ∈ gtb := gm (tb0 (List.mem_of_getElem? (i := 57) (by decide +kernel))) rfl
theorem kV_X6_fitsFrom : Cond.selects RX6 yX6_fitsFrom yX6_fitsFrom ∈ gtb := gm (tb0 (List.mem_of_getElem? (i := 58) (by decide +kernel))) rfl
theorem kV_X6_draw : Cond.selects RX6 yX6_draw yX6_draw ∈ gtb := gm (tb0 (List.mem_of_getElem? (i := 59) (by decide +kernel))) rfl
theorem kV_X6_nextToken : Cond.selects RX6 yX6_nextToken yX6_nextToken ∈ gtb := gm (tb0 (List.mem_of_getElem? (i := 60) (by decide +kernel))) rfl
theorem kV_X6_readsItem : Cond.selects RX6 yX6_readsItem yX6_readsItem ∈ gtb := gm (tb0 (List.mem_of_getElem? (i := 61) (by decide +kernel))) rfl
theorem kV_X6_wordOf : Cond.selects RX6 yX6_wordOf yX6_wordOf ∈ gtb := gm (tb0 (List.mem_of_getElem? (i := 62) (by decide +kernel))) rfl
theorem kV_X6_readsSnail : Cond.selects RX6 yX6_readsSnail yX6_readsSnail ∈ gtb := gm (tb0 (List.mem_of_getElem? (i := 63) (by decide +kernel))) rfl
theorem kV_X6_takesNumber : Cond.selects RX6 yX6_takesNumber yX6_takesNumber ∈ gtb := gm (tb0 (List.mem_of_getElem? (i := 64) (by decide +kernel))) rfl
theorem c_in_X0 : ∀ w ∈ u_ws RX0 TX0 2, w ∈ gtb := by
  intro w hw
  obtain ⟨k, hk, rfl⟩ := List.mem_map.mp hw
  have hk := List.mem_range.mp hk
  rcases (show k = 0 ∨ k = 1 by omega) with rfl | rfl
  · exact kY_X0_draft
  · exact kY_X0_ways
theorem c_in_X1 : ∀ w ∈ u_ws RX1 TX1 17, w ∈ gtb := by
  intro w hw
  obtain ⟨k, hk, rfl⟩ := List.mem_map.mp hw
  have hk := List.mem_range.mp hk
  rcases (show k = 0 ∨ k = 1 ∨ k = 2 ∨ k = 3 ∨ k = 4 ∨ k = 5 ∨ k = 6 ∨ k = 7 ∨ k = 8 ∨ k = 9 ∨ k = 10 ∨ k = 11 ∨ k = 12 ∨ k = 13 ∨ k = 14 ∨ k = 15 ∨ k = 16 by omega) with rfl | rfl | rfl | rfl | rfl | rfl | rfl | rfl | rfl | rfl | rfl | rfl | rfl | rfl | rfl | rfl | rfl
  · exact kY_X1_hedges
  · exact kY_X1_leaves
  · exact kY_X1_laws
  · exact kY_X1_met
  · exact kY_X1_banned
  · exact kY_X1_kinds
  · exact kY_X1_ats
  · exact kY_X1_edicts
  · exact kY_X1_gates
  · exact kY_X1_prices
  · exact kY_X1_spots
  · exact kY_X1_snails
  · exact kY_X1_wet
  · exact kY_X1_thrush
  · exact kY_X1_day
  · exact kY_X1_clashes
  · exact kY_X1_z
theorem c_in_X2 : ∀ w ∈ u_ws RX2 TX2 3, w ∈ gtb := by
  intro w hw
  obtain ⟨k, hk, rfl⟩ := List.mem_map.mp hw
  have hk := List.mem_range.mp hk
  rcases (show k = 0 ∨ k = 1 ∨ k = 2 by omega) with rfl | rfl | rfl
  · exact kY_X2_bits
  · exact kY_X2_sizes
  · exact kY_X2_numbers
theorem c_in_X3 : ∀ w ∈ u_ws RX3 TX3 7, w ∈ gtb := by
  intro w hw
  obtain ⟨k, hk, rfl⟩ := List.mem_map.mp hw
  have hk := List.mem_range.mp hk
  rcases (show k = 0 ∨ k = 1 ∨ k = 2 ∨ k = 3 ∨ k = 4 ∨ k = 5 ∨ k = 6 by omega) with rfl | rfl | rfl | rfl | rfl | rfl | rfl
  · exact kY_X3_size
  · exact kY_X3_bytes
  · exact kY_X3_sorts
  · exact kY_X3_starts
  · exact kY_X3_ends
  · exact kY_X3_values
  · exact kY_X3_at
theorem c_in_X4 : ∀ w ∈ u_ws RX4 TX4 5, w ∈ gtb := by
  intro w hw
  obtain ⟨k, hk, rfl⟩ := List.mem_map.mp hw
  have hk := List.mem_range.mp hk
  rcases (show k = 0 ∨ k = 1 ∨ k = 2 ∨ k = 3 ∨ k = 4 by omega) with rfl | rfl | rfl | rfl | rfl
  · exact kY_X4_steps
  · exact kY_X4_open
  · exact kY_X4_queue
  · exact kY_X4_gateSteps
  · exact kY_X4_nextCells
theorem c_in_X5 : ∀ w ∈ u_ws RX5 TX5 8, w ∈ gtb := by
  intro w hw
  obtain ⟨k, hk, rfl⟩ := List.mem_map.mp hw
  have hk := List.mem_range.mp hk
  rcases (show k = 0 ∨ k = 1 ∨ k = 2 ∨ k = 3 ∨ k = 4 ∨ k = 5 ∨ k = 6 ∨ k = 7 by omega) with rfl | rfl | rfl | rfl | rfl | rfl | rfl | rfl
  · exact kY_X5_real
  · exact kY_X5_kept
  · exact kY_X5_forecast
  · exact kY_X5_ways
  · exact kY_X5_tape
  · exact kY_X5_sheets
  · exact kY_X5_told
  · exact kY_X5_isKept
theorem c_in_X6 : ∀ w ∈ u_ws RX6 TX6 22, w ∈ gtb := by
  intro w hw
  obtain ⟨k, hk, rfl⟩ := List.mem_map.mp hw
  have hk := List.mem_range.mp hk
  rcases (show k = 0 ∨ k = 1 ∨ k = 2 ∨ k = 3 ∨ k = 4 ∨ k = 5 ∨ k = 6 ∨ k = 7 ∨ k = 8 ∨ k = 9 ∨ k = 10 ∨ k = 11 ∨ k = 12 ∨ k = 13 ∨ k = 14 ∨ k = 15 ∨ k = 16 ∨ k = 17 ∨ k = 18 ∨ k = 19 ∨ k = 20 ∨ k = 21 by omega) with rfl | rfl | rfl | rfl | rfl | rfl | rfl | rfl | rfl | rfl | rfl | rfl | rfl | rfl | rfl | rfl | rfl | rfl | rfl | rfl | rfl | rfl
  · exact kY_X6_s
  · exact kY_X6_kept
  · exact kY_X6_aside
  · exact kY_X6_isKept
  · exact kY_X6_found
  · exact kY_X6_fars
  · exact kY_X6_order
  · exact kY_X6_isBarred
  · exact kY_X6_clashedAt
  · exact kY_X6_tape
  · exact kY_X6_taped
  · exact kY_X6_token
  · exact kY_X6_begun
  · exact kY_X6_ended
  · exact kY_X6_value
  · exact kY_X6_letters
  · exact kY_X6_more
  · exact kY_X6_others
  · exact kY_X6_widths
  · exact kY_X6_sizes
  · exact kY_X6_cells
  · exact kY_X6_carried
def MVs (y : MethodName) (b : ByteArray) (mL : Nat) (rt : Option FieldType) (n : Nat) : Prop := Cond.initialized y.cls ∈ gtb ∧ Cond.code y b mL rt ∈ gtb ∧ (y.cls ≠ "java/lang/invoke/MethodHandle" ∧ y.cls ≠ "java/lang/invoke/VarHandle") ∧ (parseMethodDescriptor y.desc).map (fun d => d.parameters.length) = some n
def MVi (y : MethodName) (b : ByteArray) (mL : Nat) (rt : Option FieldType) (n : Nat) : Prop := MVs y b mL rt n ∧ Cond.instanceMethod y ∈ gtb
def MVv (y : MethodName) (b : ByteArray) (mL : Nat) (rt : Option FieldType) (n : Nat) : Prop := MVi y b mL rt n ∧ Cond.selects y.cls y y ∈ gtb
theorem mv_X5_init : MVi yX5_init cX5_init 1 none 0 := ⟨⟨kD_X5, kC_X5_init, ⟨by decide +kernel, by decide +kernel⟩, by decide +kernel⟩, kI_X5_init⟩
theorem mv_X1_init : MVi yX1_init cX1_init 1 none 0 := ⟨⟨kD_X1, kC_X1_init, ⟨by decide +kernel, by decide +kernel⟩, by decide +kernel⟩, kI_X1_init⟩
theorem mv_J7_fill_53178 : MVs yJ7_fill_53178 cJ7_fill_53178 4 none 2 := ⟨kD_J7, kC_J7_fill_53178, ⟨by decide +kernel, by decide +kernel⟩, by decide +kernel⟩
theorem mv_X0_init : MVi yX0_init cX0_init 1 none 0 := ⟨⟨kD_X0, kC_X0_init, ⟨by decide +kernel, by decide +kernel⟩, by decide +kernel⟩, kI_X0_init⟩
theorem mv_X4_init : MVi yX4_init cX4_init 1 none 0 := ⟨⟨kD_X4, kC_X4_init, ⟨by decide +kernel, by decide +kernel⟩, by decide +kernel⟩, kI_X4_init⟩
theorem mv_X3_init : MVi yX3_init cX3_init 1 none 0 := ⟨⟨kD_X3, kC_X3_init, ⟨by decide +kernel, by decide +kernel⟩, by decide +kernel⟩, kI_X3_init⟩
theorem mv_X2_init : MVi yX2_init cX2_init 1 none 0 := ⟨⟨kD_X2, kC_X2_init, ⟨by decide +kernel, by decide +kernel⟩, by decide +kernel⟩, kI_X2_init⟩
theorem mv_X5_hedge : MVv yX5_hedge cX5_hedge 4 (some FieldType.int) 2 := ⟨⟨⟨kD_X5, kC_X5_hedge, ⟨by decide +kernel, by decide +kernel⟩, by decide +kernel⟩, kI_X5_hedge⟩, kV_X5_hedge⟩
theorem mv_X5_isCell : MVs yX5_isCell cX5_isCell 1 (some FieldType.boolean) 1 := ⟨kD_X5, kC_X5_isCell, ⟨by decide +kernel, by decide +kernel⟩, by decide +kernel⟩
theorem mv_X5_isWithin : MVs yX5_isWithin cX5_isWithin 2 (some FieldType.boolean) 2 := ⟨kD_X5, kC_X5_isWithin, ⟨by decide +kernel, by decide +kernel⟩, by decide +kernel⟩
theorem mv_X5_tell : MVv yX5_tell cX5_tell 3 (some FieldType.int) 1 := ⟨⟨⟨kD_X5, kC_X5_tell, ⟨by decide +kernel, by decide +kernel⟩, by decide +kernel⟩, kI_X5_tell⟩, kV_X5_tell⟩
theorem mv_X5_greens : MVv yX5_greens cX5_greens 4 (some FieldType.int) 2 := ⟨⟨⟨kD_X5, kC_X5_greens, ⟨by decide +kernel, by decide +kernel⟩, by decide +kernel⟩, kI_X5_greens⟩, kV_X5_greens⟩
theorem mv_X5_land : MVv yX5_land cX5_land 3 (some FieldType.int) 2 := ⟨⟨⟨kD_X5, kC_X5_land, ⟨by decide +kernel, by decide +kernel⟩, by decide +kernel⟩, kI_X5_land⟩, kV_X5_land⟩
theorem mv_X5_far : MVv yX5_far cX5_far 3 (some FieldType.int) 2 := ⟨⟨⟨kD_X5, kC_X5_far, ⟨by decide +kernel, by decide +kernel⟩, by decide +kernel⟩, kI_X5_far⟩, kV_X5_far⟩
theorem mv_X4_openLand : MVv yX4_openLand cX4_openLand 3 none 1 := ⟨⟨⟨kD_X4, kC_X4_openLand, ⟨by decide +kernel, by decide +kernel⟩, by decide +kernel⟩, kI_X4_openLand⟩, kV_X4_openLand⟩
theorem mv_X4_measure : MVv yX4_measure cX4_measure 4 none 1 := ⟨⟨⟨kD_X4, kC_X4_measure, ⟨by decide +kernel, by decide +kernel⟩, by decide +kernel⟩, kI_X4_measure⟩, kV_X4_measure⟩
theorem mv_X4_spreadFrom : MVv yX4_spreadFrom cX4_spreadFrom 6 (some FieldType.int) 2 := ⟨⟨⟨kD_X4, kC_X4_spreadFrom, ⟨by decide +kernel, by decide +kernel⟩, by decide +kernel⟩, kI_X4_spreadFrom⟩, kV_X4_spreadFrom⟩
theorem mv_X5_beside : MVs yX5_beside cX5_beside 2 (some FieldType.int) 2 := ⟨kD_X5, kC_X5_beside, ⟨by decide +kernel, by decide +kernel⟩, by decide +kernel⟩
theorem mv_X5_snail : MVv yX5_snail cX5_snail 4 (some FieldType.int) 2 := ⟨⟨⟨kD_X5, kC_X5_snail, ⟨by decide +kernel, by decide +kernel⟩, by decide +kernel⟩, kI_X5_snail⟩, kV_X5_snail⟩
theorem mv_X1_addSnail : MVv yX1_addSnail cX1_addSnail 4 (some FieldType.int) 2 := ⟨⟨⟨kD_X1, kC_X1_addSnail, ⟨by decide +kernel, by decide +kernel⟩, by decide +kernel⟩, kI_X1_addSnail⟩, kV_X1_addSnail⟩
theorem mv_X5_of : MVv yX5_of cX5_of 3 (some FieldType.int) 2 := ⟨⟨⟨kD_X5, kC_X5_of, ⟨by decide +kernel, by decide +kernel⟩, by decide +kernel⟩, kI_X5_of⟩, kV_X5_of⟩
theorem mv_X5_isSnail : MVv yX5_isSnail cX5_isSnail 2 (some FieldType.boolean) 1 := ⟨⟨⟨kD_X5, kC_X5_isSnail, ⟨by decide +kernel, by decide +kernel⟩, by decide +kernel⟩, kI_X5_isSnail⟩, kV_X5_isSnail⟩
theorem mv_X1_movesOf : MVv yX1_movesOf cX1_movesOf 5 (some FieldType.int) 1 := ⟨⟨⟨kD_X1, kC_X1_movesOf, ⟨by decide +kernel, by decide +kernel⟩, by decide +kernel⟩, kI_X1_movesOf⟩, kV_X1_movesOf⟩
theorem mv_X1_traitRow : MVv yX1_traitRow cX1_traitRow 2 (some (FieldType.array FieldType.int)) 1 := ⟨⟨⟨kD_X1, kC_X1_traitRow, ⟨by decide +kernel, by decide +kernel⟩, by decide +kernel⟩, kI_X1_traitRow⟩, kV_X1_traitRow⟩
theorem mv_X5_change : MVv yX5_change cX5_change 6 (some FieldType.int) 3 := ⟨⟨⟨kD_X5, kC_X5_change, ⟨by decide +kernel, by decide +kernel⟩, by decide +kernel⟩, kI_X5_change⟩, kV_X5_change⟩
theorem mv_X5_bans : MVv yX5_bans cX5_bans 4 (some FieldType.int) 2 := ⟨⟨⟨kD_X5, kC_X5_bans, ⟨by decide +kernel, by decide +kernel⟩, by decide +kernel⟩, kI_X5_bans⟩, kV_X5_bans⟩
theorem mv_X5_isLaw : MVs yX5_isLaw cX5_isLaw 1 (some FieldType.boolean) 1 := ⟨kD_X5, kC_X5_isLaw, ⟨by decide +kernel, by decide +kernel⟩, by decide +kernel⟩
theorem mv_X5_set : MVv yX5_set cX5_set 4 (some FieldType.int) 2 := ⟨⟨⟨kD_X5, kC_X5_set, ⟨by decide +kernel, by decide +kernel⟩, by decide +kernel⟩, kI_X5_set⟩, kV_X5_set⟩
theorem mv_X5_go : MVv yX5_go cX5_go 2 (some FieldType.int) 1 := ⟨⟨⟨kD_X5, kC_X5_go, ⟨by decide +kernel, by decide +kernel⟩, by decide +kernel⟩, kI_X5_go⟩, kV_X5_go⟩
theorem mv_X4_survey : MVv yX4_survey cX4_survey 4 none 1 := ⟨⟨⟨kD_X4, kC_X4_survey, ⟨by decide +kernel, by decide +kernel⟩, by decide +kernel⟩, kI_X4_survey⟩, kV_X4_survey⟩
theorem mv_X4_nearerThan : MVv yX4_nearerThan cX4_nearerThan 4 (some FieldType.int) 1 := ⟨⟨⟨kD_X4, kC_X4_nearerThan, ⟨by decide +kernel, by decide +kernel⟩, by decide +kernel⟩, kI_X4_nearerThan⟩, kV_X4_nearerThan⟩
theorem mv_X1_passDays : MVv yX1_passDays cX1_passDays 6 none 3 := ⟨⟨⟨kD_X1, kC_X1_passDays, ⟨by decide +kernel, by decide +kernel⟩, by decide +kernel⟩, kI_X1_passDays⟩, kV_X1_passDays⟩
theorem mv_X1_passDayOf : MVv yX1_passDayOf cX1_passDayOf 8 none 2 := ⟨⟨⟨kD_X1, kC_X1_passDayOf, ⟨by decide +kernel, by decide +kernel⟩, by decide +kernel⟩, kI_X1_passDayOf⟩, kV_X1_passDayOf⟩
theorem mv_X1_comeUnder : MVv yX1_comeUnder cX1_comeUnder 3 none 2 := ⟨⟨⟨kD_X1, kC_X1_comeUnder, ⟨by decide +kernel, by decide +kernel⟩, by decide +kernel⟩, kI_X1_comeUnder⟩, kV_X1_comeUnder⟩
theorem mv_J9_min_7cf53 : MVs yJ9_min_7cf53 cJ9_min_7cf53 2 (some FieldType.int) 2 := ⟨kD_J9, kC_J9_min_7cf53, ⟨by decide +kernel, by decide +kernel⟩, by decide +kernel⟩
theorem mv_X4_nextOf : MVv yX4_nextOf cX4_nextOf 3 (some FieldType.int) 2 := ⟨⟨⟨kD_X4, kC_X4_nextOf, ⟨by decide +kernel, by decide +kernel⟩, by decide +kernel⟩, kI_X4_nextOf⟩, kV_X4_nextOf⟩
theorem mv_X5_isOfKind : MVs yX5_isOfKind cX5_isOfKind 4 (some FieldType.boolean) 2 := ⟨kD_X5, kC_X5_isOfKind, ⟨by decide +kernel, by decide +kernel⟩, by decide +kernel⟩
theorem mv_X5_now : MVv yX5_now cX5_now 2 (some FieldType.int) 1 := ⟨⟨⟨kD_X5, kC_X5_now, ⟨by decide +kernel, by decide +kernel⟩, by decide +kernel⟩, kI_X5_now⟩, kV_X5_now⟩
theorem mv_X1_cellsWithLaw : MVv yX1_cellsWithLaw cX1_cellsWithLaw 1 (some FieldType.int) 0 := ⟨⟨⟨kD_X1, kC_X1_cellsWithLaw, ⟨by decide +kernel, by decide +kernel⟩, by decide +kernel⟩, kI_X1_cellsWithLaw⟩, kV_X1_cellsWithLaw⟩
theorem mv_X1_cellsUnder : MVv yX1_cellsUnder cX1_cellsUnder 4 (some FieldType.int) 1 := ⟨⟨⟨kD_X1, kC_X1_cellsUnder, ⟨by decide +kernel, by decide +kernel⟩, by decide +kernel⟩, kI_X1_cellsUnder⟩, kV_X1_cellsUnder⟩
theorem mv_X1_allLeaves : MVv yX1_allLeaves cX1_allLeaves 1 (some FieldType.int) 0 := ⟨⟨⟨kD_X1, kC_X1_allLeaves, ⟨by decide +kernel, by decide +kernel⟩, by decide +kernel⟩, kI_X1_allLeaves⟩, kV_X1_allLeaves⟩
theorem mv_X1_sumOf : MVs yX1_sumOf cX1_sumOf 6 (some FieldType.int) 1 := ⟨kD_X1, kC_X1_sumOf, ⟨by decide +kernel, by decide +kernel⟩, by decide +kernel⟩
theorem mv_X1_arrivedSnails : MVv yX1_arrivedSnails cX1_arrivedSnails 3 (some FieldType.int) 0 := ⟨⟨⟨kD_X1, kC_X1_arrivedSnails, ⟨by decide +kernel, by decide +kernel⟩, by decide +kernel⟩, kI_X1_arrivedSnails⟩, kV_X1_arrivedSnails⟩
theorem mv_X5_realm : MVv yX5_realm cX5_realm 2 (some FieldType.int) 1 := ⟨⟨⟨kD_X5, kC_X5_realm, ⟨by decide +kernel, by decide +kernel⟩, by decide +kernel⟩, kI_X5_realm⟩, kV_X5_realm⟩
theorem mv_X5_repeals : MVv yX5_repeals cX5_repeals 2 (some FieldType.int) 0 := ⟨⟨⟨kD_X5, kC_X5_repeals, ⟨by decide +kernel, by decide +kernel⟩, by decide +kernel⟩, kI_X5_repeals⟩, kV_X5_repeals⟩
theorem mv_X5_may : MVv yX5_may cX5_may 3 (some FieldType.int) 2 := ⟨⟨⟨kD_X5, kC_X5_may, ⟨by decide +kernel, by decide +kernel⟩, by decide +kernel⟩, kI_X5_may⟩, kV_X5_may⟩
theorem mv_X5_isDeed : MVs yX5_isDeed cX5_isDeed 1 (some FieldType.boolean) 1 := ⟨kD_X5, kC_X5_isDeed, ⟨by decide +kernel, by decide +kernel⟩, by decide +kernel⟩
theorem mv_X1_isLawful : MVv yX1_isLawful cX1_isLawful 4 (some FieldType.boolean) 2 := ⟨⟨⟨kD_X1, kC_X1_isLawful, ⟨by decide +kernel, by decide +kernel⟩, by decide +kernel⟩, kI_X1_isLawful⟩, kV_X1_isLawful⟩
theorem mv_X5_where : MVv yX5_where cX5_where 2 (some FieldType.int) 1 := ⟨⟨⟨kD_X5, kC_X5_where, ⟨by decide +kernel, by decide +kernel⟩, by decide +kernel⟩, kI_X5_where⟩, kV_X5_where⟩
theorem mv_X1_openCellsFor : MVv yX1_openCellsFor cX1_openCellsFor 4 (some FieldType.int) 1 := ⟨⟨⟨kD_X1, kC_X1_openCellsFor, ⟨by decide +kernel, by decide +kernel⟩, by decide +kernel⟩, kI_X1_openCellsFor⟩, kV_X1_openCellsFor⟩
theorem mv_X5_route : MVv yX5_route cX5_route 4 (some FieldType.int) 3 := ⟨⟨⟨kD_X5, kC_X5_route, ⟨by decide +kernel, by decide +kernel⟩, by decide +kernel⟩, kI_X5_route⟩, kV_X5_route⟩
theorem mv_X4_openFor : MVv yX4_openFor cX4_openFor 4 none 2 := ⟨⟨⟨kD_X4, kC_X4_openFor, ⟨by decide +kernel, by decide +kernel⟩, by decide +kernel⟩, kI_X4_openFor⟩, kV_X4_openFor⟩
theorem mv_X5_free : MVv yX5_free cX5_free 1 (some FieldType.int) 0 := ⟨⟨⟨kD_X5, kC_X5_free, ⟨by decide +kernel, by decide +kernel⟩, by decide +kernel⟩, kI_X5_free⟩, kV_X5_free⟩
theorem mv_X1_freeDeeds : MVv yX1_freeDeeds cX1_freeDeeds 3 (some FieldType.int) 0 := ⟨⟨⟨kD_X1, kC_X1_freeDeeds, ⟨by decide +kernel, by decide +kernel⟩, by decide +kernel⟩, kI_X1_freeDeeds⟩, kV_X1_freeDeeds⟩
theorem mv_X5_ahead : MVv yX5_ahead cX5_ahead 3 (some FieldType.int) 2 := ⟨⟨⟨kD_X5, kC_X5_ahead, ⟨by decide +kernel, by decide +kernel⟩, by decide +kernel⟩, kI_X5_ahead⟩, kV_X5_ahead⟩
theorem mv_X0_behind : MVv yX0_behind cX0_behind 3 (some (FieldType.object "SnailLaws$Republic")) 2 := ⟨⟨⟨kD_X0, kC_X0_behind, ⟨by decide +kernel, by decide +kernel⟩, by decide +kernel⟩, kI_X0_behind⟩, kV_X0_behind⟩
theorem mv_X1_become : MVv yX1_become cX1_become 2 none 1 := ⟨⟨⟨kD_X1, kC_X1_become, ⟨by decide +kernel, by decide +kernel⟩, by decide +kernel⟩, kI_X1_become⟩, kV_X1_become⟩
theorem mv_X0_survey : MVv yX0_survey cX0_survey 2 none 1 := ⟨⟨⟨kD_X0, kC_X0_survey, ⟨by decide +kernel, by decide +kernel⟩, by decide +kernel⟩, kI_X0_survey⟩, kV_X0_survey⟩
theorem mv_X5_lawAt : MVv yX5_lawAt cX5_lawAt 3 (some FieldType.int) 2 := ⟨⟨⟨kD_X5, kC_X5_lawAt, ⟨by decide +kernel, by decide +kernel⟩, by decide +kernel⟩, kI_X5_lawAt⟩, kV_X5_lawAt⟩
theorem mv_X5_reaches : MVv yX5_reaches cX5_reaches 4 (some FieldType.int) 2 := ⟨⟨⟨kD_X5, kC_X5_reaches, ⟨by decide +kernel, by decide +kernel⟩, by decide +kernel⟩, kI_X5_reaches⟩, kV_X5_reaches⟩
theorem mv_X0_daysToLaw : MVv yX0_daysToLaw cX0_daysToLaw 6 (some FieldType.int) 4 := ⟨⟨⟨kD_X0, kC_X0_daysToLaw, ⟨by decide +kernel, by decide +kernel⟩, by decide +kernel⟩, kI_X0_daysToLaw⟩, kV_X0_daysToLaw⟩
theorem mv_X0_passDay : MVv yX0_passDay cX0_passDay 1 none 0 := ⟨⟨⟨kD_X0, kC_X0_passDay, ⟨by decide +kernel, by decide +kernel⟩, by decide +kernel⟩, kI_X0_passDay⟩, kV_X0_passDay⟩
theorem mv_X5_wetFor : MVv yX5_wetFor cX5_wetFor 7 (some FieldType.int) 2 := ⟨⟨⟨kD_X5, kC_X5_wetFor, ⟨by decide +kernel, by decide +kernel⟩, by decide +kernel⟩, kI_X5_wetFor⟩, kV_X5_wetFor⟩
theorem mv_X5_comes : MVv yX5_comes cX5_comes 3 (some FieldType.int) 1 := ⟨⟨⟨kD_X5, kC_X5_comes, ⟨by decide +kernel, by decide +kernel⟩, by decide +kernel⟩, kI_X5_comes⟩, kV_X5_comes⟩
theorem mv_X0_daysToGate : MVv yX0_daysToGate cX0_daysToGate 5 (some FieldType.int) 3 := ⟨⟨⟨kD_X0, kC_X0_daysToGate, ⟨by decide +kernel, by decide +kernel⟩, by decide +kernel⟩, kI_X0_daysToGate⟩, kV_X0_daysToGate⟩
theorem mv_X5_kindFor : MVv yX5_kindFor cX5_kindFor 6 (some FieldType.int) 1 := ⟨⟨⟨kD_X5, kC_X5_kindFor, ⟨by decide +kernel, by decide +kernel⟩, by decide +kernel⟩, kI_X5_kindFor⟩, kV_X5_kindFor⟩
theorem mv_X5_overtakes : MVv yX5_overtakes cX5_overtakes 4 (some FieldType.int) 2 := ⟨⟨⟨kD_X5, kC_X5_overtakes, ⟨by decide +kernel, by decide +kernel⟩, by decide +kernel⟩, kI_X5_overtakes⟩, kV_X5_overtakes⟩
theorem mv_X0_daysToOvertake : MVv yX0_daysToOvertake cX0_daysToOvertake 5 (some FieldType.int) 3 := ⟨⟨⟨kD_X0, kC_X0_daysToOvertake, ⟨by decide +kernel, by decide +kernel⟩, by decide +kernel⟩, kI_X0_daysToOvertake⟩, kV_X0_daysToOvertake⟩
theorem mv_X0_isNearer : MVv yX0_isNearer cX0_isNearer 3 (some FieldType.boolean) 2 := ⟨⟨⟨kD_X0, kC_X0_isNearer, ⟨by decide +kernel, by decide +kernel⟩, by decide +kernel⟩, kI_X0_isNearer⟩, kV_X0_isNearer⟩
theorem mv_X4_gateStepsOf : MVv yX4_gateStepsOf cX4_gateStepsOf 3 (some FieldType.int) 2 := ⟨⟨⟨kD_X4, kC_X4_gateStepsOf, ⟨by decide +kernel, by decide +kernel⟩, by decide +kernel⟩, kI_X4_gateStepsOf⟩, kV_X4_gateStepsOf⟩
theorem mv_X5_lag : MVv yX5_lag cX5_lag 6 (some FieldType.int) 3 := ⟨⟨⟨kD_X5, kC_X5_lag, ⟨by decide +kernel, by decide +kernel⟩, by decide +kernel⟩, kI_X5_lag⟩, kV_X5_lag⟩
theorem mv_X5_clash : MVv yX5_clash cX5_clash 3 (some FieldType.int) 1 := ⟨⟨⟨kD_X5, kC_X5_clash, ⟨by decide +kernel, by decide +kernel⟩, by decide +kernel⟩, kI_X5_clash⟩, kV_X5_clash⟩
theorem mv_X0_cellOfMostClashes : MVv yX0_cellOfMostClashes cX0_cellOfMostClashes 6 (some FieldType.int) 2 := ⟨⟨⟨kD_X0, kC_X0_cellOfMostClashes, ⟨by decide +kernel, by decide +kernel⟩, by decide +kernel⟩, kI_X0_cellOfMostClashes⟩, kV_X0_cellOfMostClashes⟩
theorem mv_X5_release : MVv yX5_release cX5_release 5 (some FieldType.int) 3 := ⟨⟨⟨kD_X5, kC_X5_release, ⟨by decide +kernel, by decide +kernel⟩, by decide +kernel⟩, kI_X5_release⟩, kV_X5_release⟩
theorem mv_X0_cheapestSet : MVv yX0_cheapestSet cX0_cheapestSet 10 (some FieldType.int) 4 := ⟨⟨⟨kD_X0, kC_X0_cheapestSet, ⟨by decide +kernel, by decide +kernel⟩, by decide +kernel⟩, kI_X0_cheapestSet⟩, kV_X0_cheapestSet⟩
theorem mv_X1_priceOf : MVv yX1_priceOf cX1_priceOf 4 (some FieldType.int) 1 := ⟨⟨⟨kD_X1, kC_X1_priceOf, ⟨by decide +kernel, by decide +kernel⟩, by decide +kernel⟩, kI_X1_priceOf⟩, kV_X1_priceOf⟩
theorem mv_X0_bringsLaw : MVv yX0_bringsLaw cX0_bringsLaw 6 (some FieldType.boolean) 5 := ⟨⟨⟨kD_X0, kC_X0_bringsLaw, ⟨by decide +kernel, by decide +kernel⟩, by decide +kernel⟩, kI_X0_bringsLaw⟩, kV_X0_bringsLaw⟩
theorem mv_X0_bearsLaw : MVv yX0_bearsLaw cX0_bearsLaw 5 (some FieldType.boolean) 3 := ⟨⟨⟨kD_X0, kC_X0_bearsLaw, ⟨by decide +kernel, by decide +kernel⟩, by decide +kernel⟩, kI_X0_bearsLaw⟩, kV_X0_bearsLaw⟩
theorem mv_X5_costs : MVv yX5_costs cX5_costs 5 (some FieldType.int) 3 := ⟨⟨⟨kD_X5, kC_X5_costs, ⟨by decide +kernel, by decide +kernel⟩, by decide +kernel⟩, kI_X5_costs⟩, kV_X5_costs⟩
theorem mv_X5_farthest : MVv yX5_farthest cX5_farthest 3 (some FieldType.int) 2 := ⟨⟨⟨kD_X5, kC_X5_farthest, ⟨by decide +kernel, by decide +kernel⟩, by decide +kernel⟩, kI_X5_farthest⟩, kV_X5_farthest⟩
theorem mv_X0_farthestStart : MVv yX0_farthestStart cX0_farthestStart 8 (some FieldType.int) 3 := ⟨⟨⟨kD_X0, kC_X0_farthestStart, ⟨by decide +kernel, by decide +kernel⟩, by decide +kernel⟩, kI_X0_farthestStart⟩, kV_X0_farthestStart⟩
theorem mv_X0_arrivesFrom : MVv yX0_arrivesFrom cX0_arrivesFrom 6 (some FieldType.boolean) 4 := ⟨⟨⟨kD_X0, kC_X0_arrivesFrom, ⟨by decide +kernel, by decide +kernel⟩, by decide +kernel⟩, kI_X0_arrivesFrom⟩, kV_X0_arrivesFrom⟩
theorem mv_X5_fits : MVv yX5_fits cX5_fits 6 (some FieldType.int) 2 := ⟨⟨⟨kD_X5, kC_X5_fits, ⟨by decide +kernel, by decide +kernel⟩, by decide +kernel⟩, kI_X5_fits⟩, kV_X5_fits⟩
theorem mv_X5_trailFlaw : MVv yX5_trailFlaw cX5_trailFlaw 4 (some FieldType.int) 2 := ⟨⟨⟨kD_X5, kC_X5_trailFlaw, ⟨by decide +kernel, by decide +kernel⟩, by decide +kernel⟩, kI_X5_trailFlaw⟩, kV_X5_trailFlaw⟩
theorem mv_X5_sheetFlaw : MVv yX5_sheetFlaw cX5_sheetFlaw 2 (some FieldType.int) 1 := ⟨⟨⟨kD_X5, kC_X5_sheetFlaw, ⟨by decide +kernel, by decide +kernel⟩, by decide +kernel⟩, kI_X5_sheetFlaw⟩, kV_X5_sheetFlaw⟩
theorem mv_X5_isSheet : MVs yX5_isSheet cX5_isSheet 1 (some FieldType.boolean) 1 := ⟨kD_X5, kC_X5_isSheet, ⟨by decide +kernel, by decide +kernel⟩, by decide +kernel⟩
theorem mv_X2_isMissing : MVv yX2_isMissing cX2_isMissing 2 (some FieldType.boolean) 1 := ⟨⟨⟨kD_X2, kC_X2_isMissing, ⟨by decide +kernel, by decide +kernel⟩, by decide +kernel⟩, kI_X2_isMissing⟩, kV_X2_isMissing⟩
theorem mv_X0_leavesTrail : MVv yX0_leavesTrail cX0_leavesTrail 8 (some FieldType.boolean) 5 := ⟨⟨⟨kD_X0, kC_X0_leavesTrail, ⟨by decide +kernel, by decide +kernel⟩, by decide +kernel⟩, kI_X0_leavesTrail⟩, kV_X0_leavesTrail⟩
theorem mv_X2_numberAt : MVv yX2_numberAt cX2_numberAt 3 (some FieldType.int) 2 := ⟨⟨⟨kD_X2, kC_X2_numberAt, ⟨by decide +kernel, by decide +kernel⟩, by decide +kernel⟩, kI_X2_numberAt⟩, kV_X2_numberAt⟩
theorem mv_X5_began : MVv yX5_began cX5_began 5 (some FieldType.int) 2 := ⟨⟨⟨kD_X5, kC_X5_began, ⟨by decide +kernel, by decide +kernel⟩, by decide +kernel⟩, kI_X5_began⟩, kV_X5_began⟩
theorem mv_X5_thrushes : MVv yX5_thrushes cX5_thrushes 4 (some FieldType.int) 1 := ⟨⟨⟨kD_X5, kC_X5_thrushes, ⟨by decide +kernel, by decide +kernel⟩, by decide +kernel⟩, kI_X5_thrushes⟩, kV_X5_thrushes⟩
theorem mv_X1_drawThrushes : MVv yX1_drawThrushes cX1_drawThrushes 3 (some FieldType.int) 0 := ⟨⟨⟨kD_X1, kC_X1_drawThrushes, ⟨by decide +kernel, by decide +kernel⟩, by decide +kernel⟩, kI_X1_drawThrushes⟩, kV_X1_drawThrushes⟩
theorem mv_X5_alone : MVv yX5_alone cX5_alone 9 (some FieldType.long) 2 := ⟨⟨⟨kD_X5, kC_X5_alone, ⟨by decide +kernel, by decide +kernel⟩, by decide +kernel⟩, kI_X5_alone⟩, kV_X5_alone⟩
theorem mv_X5_commonDivisor : MVs yX5_commonDivisor cX5_commonDivisor 3 (some FieldType.int) 1 := ⟨kD_X5, kC_X5_commonDivisor, ⟨by decide +kernel, by decide +kernel⟩, by decide +kernel⟩
theorem mv_X5_seed : MVv yX5_seed cX5_seed 3 (some FieldType.int) 1 := ⟨⟨⟨kD_X5, kC_X5_seed, ⟨by decide +kernel, by decide +kernel⟩, by decide +kernel⟩, kI_X5_seed⟩, kV_X5_seed⟩
theorem mv_X5_feed : MVv yX5_feed cX5_feed 3 (some FieldType.int) 2 := ⟨⟨⟨kD_X5, kC_X5_feed, ⟨by decide +kernel, by decide +kernel⟩, by decide +kernel⟩, kI_X5_feed⟩, kV_X5_feed⟩
theorem mv_X3_append : MVv yX3_append cX3_append 4 (some FieldType.boolean) 2 := ⟨⟨⟨kD_X3, kC_X3_append, ⟨by decide +kernel, by decide +kernel⟩, by decide +kernel⟩, kI_X3_append⟩, kV_X3_append⟩
theorem mv_X5_wipe : MVv yX5_wipe cX5_wipe 2 (some FieldType.int) 0 := ⟨⟨⟨kD_X5, kC_X5_wipe, ⟨by decide +kernel, by decide +kernel⟩, by decide +kernel⟩, kI_X5_wipe⟩, kV_X5_wipe⟩
theorem mv_X5_text : MVv yX5_text cX5_text 2 (some FieldType.int) 0 := ⟨⟨⟨kD_X5, kC_X5_text, ⟨by decide +kernel, by decide +kernel⟩, by decide +kernel⟩, kI_X5_text⟩, kV_X5_text⟩
theorem mv_X0_draftOf : MVv yX0_draftOf cX0_draftOf 2 (some (FieldType.object "SnailLaws$Republic")) 1 := ⟨⟨⟨kD_X0, kC_X0_draftOf, ⟨by decide +kernel, by decide +kernel⟩, by decide +kernel⟩, kI_X0_draftOf⟩, kV_X0_draftOf⟩
theorem mv_X3_readInto : MVv yX3_readInto cX3_readInto 3 (some FieldType.int) 1 := ⟨⟨⟨kD_X3, kC_X3_readInto, ⟨by decide +kernel, by decide +kernel⟩, by decide +kernel⟩, kI_X3_readInto⟩, kV_X3_readInto⟩
theorem mv_X3_cutTokens : MVv yX3_cutTokens cX3_cutTokens 4 none 0 := ⟨⟨⟨kD_X3, kC_X3_cutTokens, ⟨by decide +kernel, by decide +kernel⟩, by decide +kernel⟩, kI_X3_cutTokens⟩, kV_X3_cutTokens⟩
theorem mv_X3_cutToken : MVv yX3_cutToken cX3_cutToken 6 (some FieldType.int) 2 := ⟨⟨⟨kD_X3, kC_X3_cutToken, ⟨by decide +kernel, by decide +kernel⟩, by decide +kernel⟩, kI_X3_cutToken⟩, kV_X3_cutToken⟩
theorem mv_X3_sortOf : MVs yX3_sortOf cX3_sortOf 1 (some FieldType.int) 1 := ⟨kD_X3, kC_X3_sortOf, ⟨by decide +kernel, by decide +kernel⟩, by decide +kernel⟩
theorem mv_X3_valueOf : MVv yX3_valueOf cX3_valueOf 5 (some FieldType.int) 2 := ⟨⟨⟨kD_X3, kC_X3_valueOf, ⟨by decide +kernel, by decide +kernel⟩, by decide +kernel⟩, kI_X3_valueOf⟩, kV_X3_valueOf⟩
theorem mv_X3_readItem : MVv yX3_readItem cX3_readItem 3 (some FieldType.boolean) 1 := ⟨⟨⟨kD_X3, kC_X3_readItem, ⟨by decide +kernel, by decide +kernel⟩, by decide +kernel⟩, kI_X3_readItem⟩, kV_X3_readItem⟩
theorem mv_X3_kindNamed : MVv yX3_kindNamed cX3_kindNamed 1 (some FieldType.int) 0 := ⟨⟨⟨kD_X3, kC_X3_kindNamed, ⟨by decide +kernel, by decide +kernel⟩, by decide +kernel⟩, kI_X3_kindNamed⟩, kV_X3_kindNamed⟩
theorem mv_X3_isWord : MVv yX3_isWord cX3_isWord 4 (some FieldType.boolean) 1 := ⟨⟨⟨kD_X3, kC_X3_isWord, ⟨by decide +kernel, by decide +kernel⟩, by decide +kernel⟩, kI_X3_isWord⟩, kV_X3_isWord⟩
theorem mv_J0_length_8abf5 : MVv yJ0_length_8abf5 cJ0_length_8abf5 1 (some FieldType.int) 0 := ⟨⟨⟨kD_J0, kC_J0_length_8abf5, ⟨by decide +kernel, by decide +kernel⟩, by decide +kernel⟩, kI_J0_length_8abf5⟩, kV_J0_length_8abf5⟩
theorem mv_J0_coder_7d493 : MVv yJ0_coder_7d493 cJ0_coder_7d493 1 (some FieldType.byte) 0 := ⟨⟨⟨kD_J0, kC_J0_coder_7d493, ⟨by decide +kernel, by decide +kernel⟩, by decide +kernel⟩, kI_J0_coder_7d493⟩, kV_J0_coder_7d493⟩
theorem mv_J0_charAt_5068e : MVv yJ0_charAt_5068e cJ0_charAt_5068e 2 (some FieldType.char) 1 := ⟨⟨⟨kD_J0, kC_J0_charAt_5068e, ⟨by decide +kernel, by decide +kernel⟩, by decide +kernel⟩, kI_J0_charAt_5068e⟩, kV_J0_charAt_5068e⟩
theorem mv_J0_isLatin1_aae02 : MVv yJ0_isLatin1_aae02 cJ0_isLatin1_aae02 1 (some FieldType.boolean) 0 := ⟨⟨⟨kD_J0, kC_J0_isLatin1_aae02, ⟨by decide +kernel, by decide +kernel⟩, by decide +kernel⟩, kI_J0_isLatin1_aae02⟩, kV_J0_isLatin1_aae02⟩
theorem mv_J1_charAt_3b067 : MVs yJ1_charAt_3b067 cJ1_charAt_3b067 2 (some FieldType.char) 2 := ⟨kD_J1, kC_J1_charAt_3b067, ⟨by decide +kernel, by decide +kernel⟩, by decide +kernel⟩
theorem mv_J0_checkIndex_df160 : MVs yJ0_checkIndex_df160 cJ0_checkIndex_df160 2 none 2 := ⟨kD_J0, kC_J0_checkIndex_df160, ⟨by decide +kernel, by decide +kernel⟩, by decide +kernel⟩
theorem mv_J3_checkIndex_8e157 : MVs yJ3_checkIndex_8e157 cJ3_checkIndex_8e157 3 (some FieldType.int) 3 := ⟨kD_J3, kC_J3_checkIndex_8e157, ⟨by decide +kernel, by decide +kernel⟩, by decide +kernel⟩
theorem mv_J2_charAt_3b067 : MVs yJ2_charAt_3b067 cJ2_charAt_3b067 2 (some FieldType.char) 2 := ⟨kD_J2, kC_J2_charAt_3b067, ⟨by decide +kernel, by decide +kernel⟩, by decide +kernel⟩
theorem mv_J2_checkIndex_2214a : MVs yJ2_checkIndex_2214a cJ2_checkIndex_2214a 2 none 2 := ⟨kD_J2, kC_J2_checkIndex_2214a, ⟨by decide +kernel, by decide +kernel⟩, by decide +kernel⟩
theorem mv_J2_length_9d52b : MVs yJ2_length_9d52b cJ2_length_9d52b 1 (some FieldType.int) 1 := ⟨kD_J2, kC_J2_length_9d52b, ⟨by decide +kernel, by decide +kernel⟩, by decide +kernel⟩
theorem mv_J2_getChar_3b067 : MVs yJ2_getChar_3b067 cJ2_getChar_3b067 2 (some FieldType.char) 2 := ⟨kD_J2, kC_J2_getChar_3b067, ⟨by decide +kernel, by decide +kernel⟩, by decide +kernel⟩
theorem mv_X3_readSnail : MVv yX3_readSnail cX3_readSnail 8 (some FieldType.boolean) 2 := ⟨⟨⟨kD_X3, kC_X3_readSnail, ⟨by decide +kernel, by decide +kernel⟩, by decide +kernel⟩, kI_X3_readSnail⟩, kV_X3_readSnail⟩
theorem mv_X3_takePart : MVv yX3_takePart cX3_takePart 4 (some FieldType.int) 3 := ⟨⟨⟨kD_X3, kC_X3_takePart, ⟨by decide +kernel, by decide +kernel⟩, by decide +kernel⟩, kI_X3_takePart⟩, kV_X3_takePart⟩
theorem mv_X3_skipWord : MVv yX3_skipWord cX3_skipWord 2 (some FieldType.boolean) 1 := ⟨⟨⟨kD_X3, kC_X3_skipWord, ⟨by decide +kernel, by decide +kernel⟩, by decide +kernel⟩, kI_X3_skipWord⟩, kV_X3_skipWord⟩
theorem mv_X3_takeNumber : MVv yX3_takeNumber cX3_takeNumber 3 (some FieldType.int) 1 := ⟨⟨⟨kD_X3, kC_X3_takeNumber, ⟨by decide +kernel, by decide +kernel⟩, by decide +kernel⟩, kI_X3_takeNumber⟩, kV_X3_takeNumber⟩
theorem mv_X3_readHedge : MVv yX3_readHedge cX3_readHedge 3 (some FieldType.boolean) 1 := ⟨⟨⟨kD_X3, kC_X3_readHedge, ⟨by decide +kernel, by decide +kernel⟩, by decide +kernel⟩, kI_X3_readHedge⟩, kV_X3_readHedge⟩
theorem mv_X3_readGreens : MVv yX3_readGreens cX3_readGreens 4 (some FieldType.boolean) 1 := ⟨⟨⟨kD_X3, kC_X3_readGreens, ⟨by decide +kernel, by decide +kernel⟩, by decide +kernel⟩, kI_X3_readGreens⟩, kV_X3_readGreens⟩
theorem mv_X3_readBans : MVv yX3_readBans cX3_readBans 4 (some FieldType.boolean) 1 := ⟨⟨⟨kD_X3, kC_X3_readBans, ⟨by decide +kernel, by decide +kernel⟩, by decide +kernel⟩, kI_X3_readBans⟩, kV_X3_readBans⟩
theorem mv_X3_readWet : MVv yX3_readWet cX3_readWet 3 (some FieldType.boolean) 1 := ⟨⟨⟨kD_X3, kC_X3_readWet, ⟨by decide +kernel, by decide +kernel⟩, by decide +kernel⟩, kI_X3_readWet⟩, kV_X3_readWet⟩
theorem mv_X3_readThrush : MVv yX3_readThrush cX3_readThrush 3 (some FieldType.boolean) 1 := ⟨⟨⟨kD_X3, kC_X3_readThrush, ⟨by decide +kernel, by decide +kernel⟩, by decide +kernel⟩, kI_X3_readThrush⟩, kV_X3_readThrush⟩
theorem mv_X5_hold : MVv yX5_hold cX5_hold 3 (some FieldType.int) 2 := ⟨⟨⟨kD_X5, kC_X5_hold, ⟨by decide +kernel, by decide +kernel⟩, by decide +kernel⟩, kI_X5_hold⟩, kV_X5_hold⟩
theorem mv_X5_as : MVv yX5_as cX5_as 4 (some FieldType.int) 2 := ⟨⟨⟨kD_X5, kC_X5_as, ⟨by decide +kernel, by decide +kernel⟩, by decide +kernel⟩, kI_X5_as⟩, kV_X5_as⟩
theorem mv_X5_sheet : MVv yX5_sheet cX5_sheet 4 (some FieldType.int) 3 := ⟨⟨⟨kD_X5, kC_X5_sheet, ⟨by decide +kernel, by decide +kernel⟩, by decide +kernel⟩, kI_X5_sheet⟩, kV_X5_sheet⟩
theorem mv_X5_isBits : MVs yX5_isBits cX5_isBits 1 (some FieldType.boolean) 1 := ⟨kD_X5, kC_X5_isBits, ⟨by decide +kernel, by decide +kernel⟩, by decide +kernel⟩
theorem mv_X2_lay : MVv yX2_lay cX2_lay 5 none 3 := ⟨⟨⟨kD_X2, kC_X2_lay, ⟨by decide +kernel, by decide +kernel⟩, by decide +kernel⟩, kI_X2_lay⟩, kV_X2_lay⟩
theorem mv_X5_write : MVv yX5_write cX5_write 5 (some FieldType.int) 3 := ⟨⟨⟨kD_X5, kC_X5_write, ⟨by decide +kernel, by decide +kernel⟩, by decide +kernel⟩, kI_X5_write⟩, kV_X5_write⟩
theorem mv_X2_put : MVv yX2_put cX2_put 5 none 3 := ⟨⟨⟨kD_X2, kC_X2_put, ⟨by decide +kernel, by decide +kernel⟩, by decide +kernel⟩, kI_X2_put⟩, kV_X2_put⟩
theorem mv_X5_copy : MVv yX5_copy cX5_copy 6 (some FieldType.int) 5 := ⟨⟨⟨kD_X5, kC_X5_copy, ⟨by decide +kernel, by decide +kernel⟩, by decide +kernel⟩, kI_X5_copy⟩, kV_X5_copy⟩
theorem mv_X2_hasRun : MVv yX2_hasRun cX2_hasRun 4 (some FieldType.boolean) 3 := ⟨⟨⟨kD_X2, kC_X2_hasRun, ⟨by decide +kernel, by decide +kernel⟩, by decide +kernel⟩, kI_X2_hasRun⟩, kV_X2_hasRun⟩
theorem mv_X2_carry : MVv yX2_carry cX2_carry 6 none 5 := ⟨⟨⟨kD_X2, kC_X2_carry, ⟨by decide +kernel, by decide +kernel⟩, by decide +kernel⟩, kI_X2_carry⟩, kV_X2_carry⟩
theorem mv_X5_load : MVv yX5_load cX5_load 4 (some FieldType.int) 1 := ⟨⟨⟨kD_X5, kC_X5_load, ⟨by decide +kernel, by decide +kernel⟩, by decide +kernel⟩, kI_X5_load⟩, kV_X5_load⟩
theorem mv_X5_judge : MVv yX5_judge cX5_judge 4 (some FieldType.int) 1 := ⟨⟨⟨kD_X5, kC_X5_judge, ⟨by decide +kernel, by decide +kernel⟩, by decide +kernel⟩, kI_X5_judge⟩, kV_X5_judge⟩
theorem mv_X5_image : MVv yX5_image cX5_image 1 (some FieldType.int) 0 := ⟨⟨⟨kD_X5, kC_X5_image, ⟨by decide +kernel, by decide +kernel⟩, by decide +kernel⟩, kI_X5_image⟩, kV_X5_image⟩
theorem mv_X5_undo : MVv yX5_undo cX5_undo 1 (some FieldType.int) 0 := ⟨⟨⟨kD_X5, kC_X5_undo, ⟨by decide +kernel, by decide +kernel⟩, by decide +kernel⟩, kI_X5_undo⟩, kV_X5_undo⟩
theorem mv_X5_tear : MVv yX5_tear cX5_tear 2 (some FieldType.int) 0 := ⟨⟨⟨kD_X5, kC_X5_tear, ⟨by decide +kernel, by decide +kernel⟩, by decide +kernel⟩, kI_X5_tear⟩, kV_X5_tear⟩
theorem mv_X5_count : MVv yX5_count cX5_count 2 (some FieldType.int) 1 := ⟨⟨⟨kD_X5, kC_X5_count, ⟨by decide +kernel, by decide +kernel⟩, by decide +kernel⟩, kI_X5_count⟩, kV_X5_count⟩
theorem mv_X1_allHedges : MVv yX1_allHedges cX1_allHedges 1 (some FieldType.int) 0 := ⟨⟨⟨kD_X1, kC_X1_allHedges, ⟨by decide +kernel, by decide +kernel⟩, by decide +kernel⟩, kI_X1_allHedges⟩, kV_X1_allHedges⟩
theorem mv_X1_heldSpots : MVv yX1_heldSpots cX1_heldSpots 3 (some FieldType.int) 0 := ⟨⟨⟨kD_X1, kC_X1_heldSpots, ⟨by decide +kernel, by decide +kernel⟩, by decide +kernel⟩, kI_X1_heldSpots⟩, kV_X1_heldSpots⟩
theorem mv_X5_status : MVv yX5_status cX5_status 4 (some FieldType.int) 1 := ⟨⟨⟨kD_X5, kC_X5_status, ⟨by decide +kernel, by decide +kernel⟩, by decide +kernel⟩, kI_X5_status⟩, kV_X5_status⟩
theorem mv_X6_init : MVi yX6_init cX6_init 2 none 0 := ⟨⟨kD_X6, kC_X6_init, ⟨by decide +kernel, by decide +kernel⟩, by decide +kernel⟩, kI_X6_init⟩
theorem mv_X6_hedge : MVv yX6_hedge cX6_hedge 4 (some FieldType.int) 2 := ⟨⟨⟨kD_X6, kC_X6_hedge, ⟨by decide +kernel, by decide +kernel⟩, by decide +kernel⟩, kI_X6_hedge⟩, kV_X6_hedge⟩
theorem mv_X6_isCell : MVs yX6_isCell cX6_isCell 1 (some FieldType.boolean) 1 := ⟨kD_X6, kC_X6_isCell, ⟨by decide +kernel, by decide +kernel⟩, by decide +kernel⟩
theorem mv_X6_in1 : MVs yX6_in1 cX6_in1 3 (some FieldType.boolean) 3 := ⟨kD_X6, kC_X6_in1, ⟨by decide +kernel, by decide +kernel⟩, by decide +kernel⟩
theorem mv_X6_no : MVv yX6_no cX6_no 2 (some FieldType.int) 1 := ⟨⟨⟨kD_X6, kC_X6_no, ⟨by decide +kernel, by decide +kernel⟩, by decide +kernel⟩, kI_X6_no⟩, kV_X6_no⟩
theorem mv_X6_greens : MVv yX6_greens cX6_greens 4 (some FieldType.int) 2 := ⟨⟨⟨kD_X6, kC_X6_greens, ⟨by decide +kernel, by decide +kernel⟩, by decide +kernel⟩, kI_X6_greens⟩, kV_X6_greens⟩
theorem mv_X6_land : MVv yX6_land cX6_land 3 (some FieldType.int) 2 := ⟨⟨⟨kD_X6, kC_X6_land, ⟨by decide +kernel, by decide +kernel⟩, by decide +kernel⟩, kI_X6_land⟩, kV_X6_land⟩
theorem mv_X6_far : MVv yX6_far cX6_far 3 (some FieldType.int) 2 := ⟨⟨⟨kD_X6, kC_X6_far, ⟨by decide +kernel, by decide +kernel⟩, by decide +kernel⟩, kI_X6_far⟩, kV_X6_far⟩
theorem mv_X6_barsHedges : MVv yX6_barsHedges cX6_barsHedges 2 none 0 := ⟨⟨⟨kD_X6, kC_X6_barsHedges, ⟨by decide +kernel, by decide +kernel⟩, by decide +kernel⟩, kI_X6_barsHedges⟩, kV_X6_barsHedges⟩
theorem mv_X6_isHedge : MVv yX6_isHedge cX6_isHedge 2 (some FieldType.boolean) 1 := ⟨⟨⟨kD_X6, kC_X6_isHedge, ⟨by decide +kernel, by decide +kernel⟩, by decide +kernel⟩, kI_X6_isHedge⟩, kV_X6_isHedge⟩
theorem mv_X6_spreads : MVv yX6_spreads cX6_spreads 7 none 2 := ⟨⟨⟨kD_X6, kC_X6_spreads, ⟨by decide +kernel, by decide +kernel⟩, by decide +kernel⟩, kI_X6_spreads⟩, kV_X6_spreads⟩
theorem mv_X6_beside : MVs yX6_beside cX6_beside 2 (some FieldType.int) 2 := ⟨kD_X6, kC_X6_beside, ⟨by decide +kernel, by decide +kernel⟩, by decide +kernel⟩
theorem mv_X6_snail : MVv yX6_snail cX6_snail 3 (some FieldType.int) 2 := ⟨⟨⟨kD_X6, kC_X6_snail, ⟨by decide +kernel, by decide +kernel⟩, by decide +kernel⟩, kI_X6_snail⟩, kV_X6_snail⟩
theorem mv_X6_addsSnail : MVv yX6_addsSnail cX6_addsSnail 4 none 2 := ⟨⟨⟨kD_X6, kC_X6_addsSnail, ⟨by decide +kernel, by decide +kernel⟩, by decide +kernel⟩, kI_X6_addsSnail⟩, kV_X6_addsSnail⟩
theorem mv_X6_puts : MVv yX6_puts cX6_puts 4 none 3 := ⟨⟨⟨kD_X6, kC_X6_puts, ⟨by decide +kernel, by decide +kernel⟩, by decide +kernel⟩, kI_X6_puts⟩, kV_X6_puts⟩
theorem mv_X6_of : MVv yX6_of cX6_of 3 (some FieldType.int) 2 := ⟨⟨⟨kD_X6, kC_X6_of, ⟨by decide +kernel, by decide +kernel⟩, by decide +kernel⟩, kI_X6_of⟩, kV_X6_of⟩
theorem mv_X6_isSnail : MVv yX6_isSnail cX6_isSnail 2 (some FieldType.boolean) 1 := ⟨⟨⟨kD_X6, kC_X6_isSnail, ⟨by decide +kernel, by decide +kernel⟩, by decide +kernel⟩, kI_X6_isSnail⟩, kV_X6_isSnail⟩
theorem mv_X6_findsFars : MVv yX6_findsFars cX6_findsFars 2 none 0 := ⟨⟨⟨kD_X6, kC_X6_findsFars, ⟨by decide +kernel, by decide +kernel⟩, by decide +kernel⟩, kI_X6_findsFars⟩, kV_X6_findsFars⟩
theorem mv_X6_get : MVv yX6_get cX6_get 3 (some FieldType.int) 2 := ⟨⟨⟨kD_X6, kC_X6_get, ⟨by decide +kernel, by decide +kernel⟩, by decide +kernel⟩, kI_X6_get⟩, kV_X6_get⟩
theorem mv_X6_movesOf : MVv yX6_movesOf cX6_movesOf 5 (some FieldType.int) 1 := ⟨⟨⟨kD_X6, kC_X6_movesOf, ⟨by decide +kernel, by decide +kernel⟩, by decide +kernel⟩, kI_X6_movesOf⟩, kV_X6_movesOf⟩
theorem mv_X6_farBy : MVv yX6_farBy cX6_farBy 3 (some FieldType.int) 2 := ⟨⟨⟨kD_X6, kC_X6_farBy, ⟨by decide +kernel, by decide +kernel⟩, by decide +kernel⟩, kI_X6_farBy⟩, kV_X6_farBy⟩
theorem mv_X6_change : MVv yX6_change cX6_change 6 (some FieldType.int) 3 := ⟨⟨⟨kD_X6, kC_X6_change, ⟨by decide +kernel, by decide +kernel⟩, by decide +kernel⟩, kI_X6_change⟩, kV_X6_change⟩
theorem mv_X6_bans : MVv yX6_bans cX6_bans 4 (some FieldType.int) 2 := ⟨⟨⟨kD_X6, kC_X6_bans, ⟨by decide +kernel, by decide +kernel⟩, by decide +kernel⟩, kI_X6_bans⟩, kV_X6_bans⟩
theorem mv_X6_isLaw : MVs yX6_isLaw cX6_isLaw 1 (some FieldType.boolean) 1 := ⟨kD_X6, kC_X6_isLaw, ⟨by decide +kernel, by decide +kernel⟩, by decide +kernel⟩
theorem mv_X6_set : MVv yX6_set cX6_set 4 (some FieldType.int) 2 := ⟨⟨⟨kD_X6, kC_X6_set, ⟨by decide +kernel, by decide +kernel⟩, by decide +kernel⟩, kI_X6_set⟩, kV_X6_set⟩
theorem mv_X6_go : MVv yX6_go cX6_go 2 (some FieldType.int) 1 := ⟨⟨⟨kD_X6, kC_X6_go, ⟨by decide +kernel, by decide +kernel⟩, by decide +kernel⟩, kI_X6_go⟩, kV_X6_go⟩
theorem mv_X6_days : MVv yX6_days cX6_days 3 none 1 := ⟨⟨⟨kD_X6, kC_X6_days, ⟨by decide +kernel, by decide +kernel⟩, by decide +kernel⟩, kI_X6_days⟩, kV_X6_days⟩
theorem mv_X6_allSnails : MVv yX6_allSnails cX6_allSnails 1 (some FieldType.int) 0 := ⟨⟨⟨kD_X6, kC_X6_allSnails, ⟨by decide +kernel, by decide +kernel⟩, by decide +kernel⟩, kI_X6_allSnails⟩, kV_X6_allSnails⟩
theorem mv_X6_day : MVv yX6_day cX6_day 3 none 1 := ⟨⟨⟨kD_X6, kC_X6_day, ⟨by decide +kernel, by decide +kernel⟩, by decide +kernel⟩, kI_X6_day⟩, kV_X6_day⟩
theorem mv_X6_isIn : MVs yX6_isIn cX6_isIn 2 (some FieldType.boolean) 2 := ⟨kD_X6, kC_X6_isIn, ⟨by decide +kernel, by decide +kernel⟩, by decide +kernel⟩
theorem mv_X6_crawls : MVv yX6_crawls cX6_crawls 5 none 1 := ⟨⟨⟨kD_X6, kC_X6_crawls, ⟨by decide +kernel, by decide +kernel⟩, by decide +kernel⟩, kI_X6_crawls⟩, kV_X6_crawls⟩
theorem mv_X6_comesUnder : MVv yX6_comesUnder cX6_comesUnder 3 none 2 := ⟨⟨⟨kD_X6, kC_X6_comesUnder, ⟨by decide +kernel, by decide +kernel⟩, by decide +kernel⟩, kI_X6_comesUnder⟩, kV_X6_comesUnder⟩
theorem mv_X6_nextOf : MVv yX6_nextOf cX6_nextOf 6 (some FieldType.int) 1 := ⟨⟨⟨kD_X6, kC_X6_nextOf, ⟨by decide +kernel, by decide +kernel⟩, by decide +kernel⟩, kI_X6_nextOf⟩, kV_X6_nextOf⟩
theorem mv_X6_isGreedy : MVv yX6_isGreedy cX6_isGreedy 2 (some FieldType.boolean) 1 := ⟨⟨⟨kD_X6, kC_X6_isGreedy, ⟨by decide +kernel, by decide +kernel⟩, by decide +kernel⟩, kI_X6_isGreedy⟩, kV_X6_isGreedy⟩
theorem mv_X6_now : MVv yX6_now cX6_now 4 (some FieldType.int) 1 := ⟨⟨⟨kD_X6, kC_X6_now, ⟨by decide +kernel, by decide +kernel⟩, by decide +kernel⟩, kI_X6_now⟩, kV_X6_now⟩
theorem mv_X6_underLaw : MVv yX6_underLaw cX6_underLaw 3 (some FieldType.int) 0 := ⟨⟨⟨kD_X6, kC_X6_underLaw, ⟨by decide +kernel, by decide +kernel⟩, by decide +kernel⟩, kI_X6_underLaw⟩, kV_X6_underLaw⟩
theorem mv_X6_isThere : MVv yX6_isThere cX6_isThere 2 (some FieldType.boolean) 1 := ⟨⟨⟨kD_X6, kC_X6_isThere, ⟨by decide +kernel, by decide +kernel⟩, by decide +kernel⟩, kI_X6_isThere⟩, kV_X6_isThere⟩
theorem mv_X6_realm : MVv yX6_realm cX6_realm 4 (some FieldType.int) 1 := ⟨⟨⟨kD_X6, kC_X6_realm, ⟨by decide +kernel, by decide +kernel⟩, by decide +kernel⟩, kI_X6_realm⟩, kV_X6_realm⟩
theorem mv_X6_repeals : MVv yX6_repeals cX6_repeals 3 (some FieldType.int) 0 := ⟨⟨⟨kD_X6, kC_X6_repeals, ⟨by decide +kernel, by decide +kernel⟩, by decide +kernel⟩, kI_X6_repeals⟩, kV_X6_repeals⟩
theorem mv_X6_may : MVv yX6_may cX6_may 3 (some FieldType.int) 2 := ⟨⟨⟨kD_X6, kC_X6_may, ⟨by decide +kernel, by decide +kernel⟩, by decide +kernel⟩, kI_X6_may⟩, kV_X6_may⟩
theorem mv_X6_isDeed : MVs yX6_isDeed cX6_isDeed 1 (some FieldType.boolean) 1 := ⟨kD_X6, kC_X6_isDeed, ⟨by decide +kernel, by decide +kernel⟩, by decide +kernel⟩
theorem mv_X6_isLawful : MVv yX6_isLawful cX6_isLawful 3 (some FieldType.boolean) 2 := ⟨⟨⟨kD_X6, kC_X6_isLawful, ⟨by decide +kernel, by decide +kernel⟩, by decide +kernel⟩, kI_X6_isLawful⟩, kV_X6_isLawful⟩
theorem mv_X6_where : MVv yX6_where cX6_where 2 (some FieldType.int) 1 := ⟨⟨⟨kD_X6, kC_X6_where, ⟨by decide +kernel, by decide +kernel⟩, by decide +kernel⟩, kI_X6_where⟩, kV_X6_where⟩
theorem mv_X6_lawfulCells : MVv yX6_lawfulCells cX6_lawfulCells 4 (some FieldType.int) 1 := ⟨⟨⟨kD_X6, kC_X6_lawfulCells, ⟨by decide +kernel, by decide +kernel⟩, by decide +kernel⟩, kI_X6_lawfulCells⟩, kV_X6_lawfulCells⟩
theorem mv_X6_route : MVv yX6_route cX6_route 5 (some FieldType.int) 3 := ⟨⟨⟨kD_X6, kC_X6_route, ⟨by decide +kernel, by decide +kernel⟩, by decide +kernel⟩, kI_X6_route⟩, kV_X6_route⟩
theorem mv_X6_free : MVv yX6_free cX6_free 4 (some FieldType.int) 0 := ⟨⟨⟨kD_X6, kC_X6_free, ⟨by decide +kernel, by decide +kernel⟩, by decide +kernel⟩, kI_X6_free⟩, kV_X6_free⟩
theorem mv_X6_ahead : MVv yX6_ahead cX6_ahead 4 (some FieldType.int) 2 := ⟨⟨⟨kD_X6, kC_X6_ahead, ⟨by decide +kernel, by decide +kernel⟩, by decide +kernel⟩, kI_X6_ahead⟩, kV_X6_ahead⟩
theorem mv_X6_setsAside : MVv yX6_setsAside cX6_setsAside 2 none 0 := ⟨⟨⟨kD_X6, kC_X6_setsAside, ⟨by decide +kernel, by decide +kernel⟩, by decide +kernel⟩, kI_X6_setsAside⟩, kV_X6_setsAside⟩
theorem mv_X6_laysBack : MVv yX6_laysBack cX6_laysBack 2 none 0 := ⟨⟨⟨kD_X6, kC_X6_laysBack, ⟨by decide +kernel, by decide +kernel⟩, by decide +kernel⟩, kI_X6_laysBack⟩, kV_X6_laysBack⟩
theorem mv_X6_lawAt : MVv yX6_lawAt cX6_lawAt 4 (some FieldType.int) 2 := ⟨⟨⟨kD_X6, kC_X6_lawAt, ⟨by decide +kernel, by decide +kernel⟩, by decide +kernel⟩, kI_X6_lawAt⟩, kV_X6_lawAt⟩
theorem mv_X6_reaches : MVv yX6_reaches cX6_reaches 4 (some FieldType.int) 2 := ⟨⟨⟨kD_X6, kC_X6_reaches, ⟨by decide +kernel, by decide +kernel⟩, by decide +kernel⟩, kI_X6_reaches⟩, kV_X6_reaches⟩
theorem mv_X6_reachedBy : MVv yX6_reachedBy cX6_reachedBy 4 (some FieldType.int) 2 := ⟨⟨⟨kD_X6, kC_X6_reachedBy, ⟨by decide +kernel, by decide +kernel⟩, by decide +kernel⟩, kI_X6_reachedBy⟩, kV_X6_reachedBy⟩
theorem mv_X6_wetFor : MVv yX6_wetFor cX6_wetFor 9 (some FieldType.int) 2 := ⟨⟨⟨kD_X6, kC_X6_wetFor, ⟨by decide +kernel, by decide +kernel⟩, by decide +kernel⟩, kI_X6_wetFor⟩, kV_X6_wetFor⟩
theorem mv_X6_comes : MVv yX6_comes cX6_comes 3 (some FieldType.int) 1 := ⟨⟨⟨kD_X6, kC_X6_comes, ⟨by decide +kernel, by decide +kernel⟩, by decide +kernel⟩, kI_X6_comes⟩, kV_X6_comes⟩
theorem mv_X6_thereBy : MVv yX6_thereBy cX6_thereBy 4 (some FieldType.int) 2 := ⟨⟨⟨kD_X6, kC_X6_thereBy, ⟨by decide +kernel, by decide +kernel⟩, by decide +kernel⟩, kI_X6_thereBy⟩, kV_X6_thereBy⟩
theorem mv_X6_kindFor : MVv yX6_kindFor cX6_kindFor 8 (some FieldType.int) 1 := ⟨⟨⟨kD_X6, kC_X6_kindFor, ⟨by decide +kernel, by decide +kernel⟩, by decide +kernel⟩, kI_X6_kindFor⟩, kV_X6_kindFor⟩
theorem mv_X6_overtakes : MVv yX6_overtakes cX6_overtakes 4 (some FieldType.int) 2 := ⟨⟨⟨kD_X6, kC_X6_overtakes, ⟨by decide +kernel, by decide +kernel⟩, by decide +kernel⟩, kI_X6_overtakes⟩, kV_X6_overtakes⟩
theorem mv_X6_lag : MVv yX6_lag cX6_lag 6 (some FieldType.int) 3 := ⟨⟨⟨kD_X6, kC_X6_lag, ⟨by decide +kernel, by decide +kernel⟩, by decide +kernel⟩, kI_X6_lag⟩, kV_X6_lag⟩
theorem mv_X6_clash : MVv yX6_clash cX6_clash 5 (some FieldType.int) 1 := ⟨⟨⟨kD_X6, kC_X6_clash, ⟨by decide +kernel, by decide +kernel⟩, by decide +kernel⟩, kI_X6_clash⟩, kV_X6_clash⟩
theorem mv_X6_release : MVv yX6_release cX6_release 5 (some FieldType.int) 3 := ⟨⟨⟨kD_X6, kC_X6_release, ⟨by decide +kernel, by decide +kernel⟩, by decide +kernel⟩, kI_X6_release⟩, kV_X6_release⟩
theorem mv_X6_isRelease : MVs yX6_isRelease cX6_isRelease 3 (some FieldType.boolean) 3 := ⟨kD_X6, kC_X6_isRelease, ⟨by decide +kernel, by decide +kernel⟩, by decide +kernel⟩
theorem mv_X6_bestRelease : MVv yX6_bestRelease cX6_bestRelease 7 (some FieldType.int) 3 := ⟨⟨⟨kD_X6, kC_X6_bestRelease, ⟨by decide +kernel, by decide +kernel⟩, by decide +kernel⟩, kI_X6_bestRelease⟩, kV_X6_bestRelease⟩
theorem mv_X6_priceOf : MVv yX6_priceOf cX6_priceOf 4 (some FieldType.int) 1 := ⟨⟨⟨kD_X6, kC_X6_priceOf, ⟨by decide +kernel, by decide +kernel⟩, by decide +kernel⟩, kI_X6_priceOf⟩, kV_X6_priceOf⟩
theorem mv_X6_costs : MVv yX6_costs cX6_costs 5 (some FieldType.int) 3 := ⟨⟨⟨kD_X6, kC_X6_costs, ⟨by decide +kernel, by decide +kernel⟩, by decide +kernel⟩, kI_X6_costs⟩, kV_X6_costs⟩
theorem mv_X6_farthest : MVv yX6_farthest cX6_farthest 7 (some FieldType.int) 2 := ⟨⟨⟨kD_X6, kC_X6_farthest, ⟨by decide +kernel, by decide +kernel⟩, by decide +kernel⟩, kI_X6_farthest⟩, kV_X6_farthest⟩
theorem mv_X6_fits : MVv yX6_fits cX6_fits 6 (some FieldType.int) 2 := ⟨⟨⟨kD_X6, kC_X6_fits, ⟨by decide +kernel, by decide +kernel⟩, by decide +kernel⟩, kI_X6_fits⟩, kV_X6_fits⟩
theorem mv_X6_wrongTrail : MVv yX6_wrongTrail cX6_wrongTrail 4 (some FieldType.int) 2 := ⟨⟨⟨kD_X6, kC_X6_wrongTrail, ⟨by decide +kernel, by decide +kernel⟩, by decide +kernel⟩, kI_X6_wrongTrail⟩, kV_X6_wrongTrail⟩
theorem mv_X6_wrongSheet : MVv yX6_wrongSheet cX6_wrongSheet 2 (some FieldType.int) 1 := ⟨⟨⟨kD_X6, kC_X6_wrongSheet, ⟨by decide +kernel, by decide +kernel⟩, by decide +kernel⟩, kI_X6_wrongSheet⟩, kV_X6_wrongSheet⟩
theorem mv_X6_isSheet : MVs yX6_isSheet cX6_isSheet 1 (some FieldType.boolean) 1 := ⟨kD_X6, kC_X6_isSheet, ⟨by decide +kernel, by decide +kernel⟩, by decide +kernel⟩
theorem mv_X6_fitsFrom : MVv yX6_fitsFrom cX6_fitsFrom 7 (some FieldType.boolean) 3 := ⟨⟨⟨kD_X6, kC_X6_fitsFrom, ⟨by decide +kernel, by decide +kernel⟩, by decide +kernel⟩, kI_X6_fitsFrom⟩, kV_X6_fitsFrom⟩
theorem mv_X6_began : MVv yX6_began cX6_began 5 (some FieldType.int) 2 := ⟨⟨⟨kD_X6, kC_X6_began, ⟨by decide +kernel, by decide +kernel⟩, by decide +kernel⟩, kI_X6_began⟩, kV_X6_began⟩
theorem mv_X6_thrushes : MVv yX6_thrushes cX6_thrushes 6 (some FieldType.int) 1 := ⟨⟨⟨kD_X6, kC_X6_thrushes, ⟨by decide +kernel, by decide +kernel⟩, by decide +kernel⟩, kI_X6_thrushes⟩, kV_X6_thrushes⟩
theorem mv_X6_draw : MVv yX6_draw cX6_draw 1 (some FieldType.int) 0 := ⟨⟨⟨kD_X6, kC_X6_draw, ⟨by decide +kernel, by decide +kernel⟩, by decide +kernel⟩, kI_X6_draw⟩, kV_X6_draw⟩
theorem mv_X6_alone : MVv yX6_alone cX6_alone 13 (some FieldType.long) 2 := ⟨⟨⟨kD_X6, kC_X6_alone, ⟨by decide +kernel, by decide +kernel⟩, by decide +kernel⟩, kI_X6_alone⟩, kV_X6_alone⟩
theorem mv_X6_seed : MVv yX6_seed cX6_seed 3 (some FieldType.int) 1 := ⟨⟨⟨kD_X6, kC_X6_seed, ⟨by decide +kernel, by decide +kernel⟩, by decide +kernel⟩, kI_X6_seed⟩, kV_X6_seed⟩
theorem mv_X6_feed : MVv yX6_feed cX6_feed 4 (some FieldType.int) 2 := ⟨⟨⟨kD_X6, kC_X6_feed, ⟨by decide +kernel, by decide +kernel⟩, by decide +kernel⟩, kI_X6_feed⟩, kV_X6_feed⟩
theorem mv_X6_wipe : MVv yX6_wipe cX6_wipe 2 (some FieldType.int) 0 := ⟨⟨⟨kD_X6, kC_X6_wipe, ⟨by decide +kernel, by decide +kernel⟩, by decide +kernel⟩, kI_X6_wipe⟩, kV_X6_wipe⟩
theorem mv_X6_text : MVv yX6_text cX6_text 3 (some FieldType.int) 0 := ⟨⟨⟨kD_X6, kC_X6_text, ⟨by decide +kernel, by decide +kernel⟩, by decide +kernel⟩, kI_X6_text⟩, kV_X6_text⟩
theorem mv_X6_nextToken : MVv yX6_nextToken cX6_nextToken 1 none 0 := ⟨⟨⟨kD_X6, kC_X6_nextToken, ⟨by decide +kernel, by decide +kernel⟩, by decide +kernel⟩, kI_X6_nextToken⟩, kV_X6_nextToken⟩
theorem mv_X6_isLetter : MVs yX6_isLetter cX6_isLetter 1 (some FieldType.boolean) 1 := ⟨kD_X6, kC_X6_isLetter, ⟨by decide +kernel, by decide +kernel⟩, by decide +kernel⟩
theorem mv_X6_isDigit : MVs yX6_isDigit cX6_isDigit 1 (some FieldType.boolean) 1 := ⟨kD_X6, kC_X6_isDigit, ⟨by decide +kernel, by decide +kernel⟩, by decide +kernel⟩
theorem mv_X6_readsItem : MVv yX6_readsItem cX6_readsItem 6 (some FieldType.boolean) 0 := ⟨⟨⟨kD_X6, kC_X6_readsItem, ⟨by decide +kernel, by decide +kernel⟩, by decide +kernel⟩, kI_X6_readsItem⟩, kV_X6_readsItem⟩
theorem mv_X6_wordOf : MVv yX6_wordOf cX6_wordOf 7 (some FieldType.int) 1 := ⟨⟨⟨kD_X6, kC_X6_wordOf, ⟨by decide +kernel, by decide +kernel⟩, by decide +kernel⟩, kI_X6_wordOf⟩, kV_X6_wordOf⟩
theorem mv_X6_readsSnail : MVv yX6_readsSnail cX6_readsSnail 5 (some FieldType.boolean) 1 := ⟨⟨⟨kD_X6, kC_X6_readsSnail, ⟨by decide +kernel, by decide +kernel⟩, by decide +kernel⟩, kI_X6_readsSnail⟩, kV_X6_readsSnail⟩
theorem mv_X6_takesNumber : MVv yX6_takesNumber cX6_takesNumber 4 (some FieldType.int) 2 := ⟨⟨⟨kD_X6, kC_X6_takesNumber, ⟨by decide +kernel, by decide +kernel⟩, by decide +kernel⟩, kI_X6_takesNumber⟩, kV_X6_takesNumber⟩
theorem mv_X6_hold : MVv yX6_hold cX6_hold 3 (some FieldType.int) 2 := ⟨⟨⟨kD_X6, kC_X6_hold, ⟨by decide +kernel, by decide +kernel⟩, by decide +kernel⟩, kI_X6_hold⟩, kV_X6_hold⟩
theorem mv_X6_isSpot : MVs yX6_isSpot cX6_isSpot 1 (some FieldType.boolean) 1 := ⟨kD_X6, kC_X6_isSpot, ⟨by decide +kernel, by decide +kernel⟩, by decide +kernel⟩
theorem mv_X6_as : MVv yX6_as cX6_as 5 (some FieldType.int) 2 := ⟨⟨⟨kD_X6, kC_X6_as, ⟨by decide +kernel, by decide +kernel⟩, by decide +kernel⟩, kI_X6_as⟩, kV_X6_as⟩
theorem mv_X6_above : MVs yX6_above cX6_above 1 (some FieldType.int) 1 := ⟨kD_X6, kC_X6_above, ⟨by decide +kernel, by decide +kernel⟩, by decide +kernel⟩
theorem mv_X6_sheet : MVv yX6_sheet cX6_sheet 5 (some FieldType.int) 3 := ⟨⟨⟨kD_X6, kC_X6_sheet, ⟨by decide +kernel, by decide +kernel⟩, by decide +kernel⟩, kI_X6_sheet⟩, kV_X6_sheet⟩
theorem mv_X6_write : MVv yX6_write cX6_write 5 (some FieldType.int) 3 := ⟨⟨⟨kD_X6, kC_X6_write, ⟨by decide +kernel, by decide +kernel⟩, by decide +kernel⟩, kI_X6_write⟩, kV_X6_write⟩
theorem mv_X6_copy : MVv yX6_copy cX6_copy 7 (some FieldType.int) 5 := ⟨⟨⟨kD_X6, kC_X6_copy, ⟨by decide +kernel, by decide +kernel⟩, by decide +kernel⟩, kI_X6_copy⟩, kV_X6_copy⟩
theorem mv_X6_load : MVv yX6_load cX6_load 4 (some FieldType.int) 1 := ⟨⟨⟨kD_X6, kC_X6_load, ⟨by decide +kernel, by decide +kernel⟩, by decide +kernel⟩, kI_X6_load⟩, kV_X6_load⟩
theorem mv_X6_judge : MVv yX6_judge cX6_judge 4 (some FieldType.int) 1 := ⟨⟨⟨kD_X6, kC_X6_judge, ⟨by decide +kernel, by decide +kernel⟩, by decide +kernel⟩, kI_X6_judge⟩, kV_X6_judge⟩
theorem mv_X6_image : MVv yX6_image cX6_image 2 (some FieldType.int) 0 := ⟨⟨⟨kD_X6, kC_X6_image, ⟨by decide +kernel, by decide +kernel⟩, by decide +kernel⟩, kI_X6_image⟩, kV_X6_image⟩
theorem mv_X6_undo : MVv yX6_undo cX6_undo 2 (some FieldType.int) 0 := ⟨⟨⟨kD_X6, kC_X6_undo, ⟨by decide +kernel, by decide +kernel⟩, by decide +kernel⟩, kI_X6_undo⟩, kV_X6_undo⟩
theorem mv_X6_tear : MVv yX6_tear cX6_tear 2 (some FieldType.int) 0 := ⟨⟨⟨kD_X6, kC_X6_tear, ⟨by decide +kernel, by decide +kernel⟩, by decide +kernel⟩, kI_X6_tear⟩, kV_X6_tear⟩
theorem mv_X6_count : MVv yX6_count cX6_count 4 (some FieldType.int) 1 := ⟨⟨⟨kD_X6, kC_X6_count, ⟨by decide +kernel, by decide +kernel⟩, by decide +kernel⟩, kI_X6_count⟩, kV_X6_count⟩
theorem mv_X6_status : MVv yX6_status cX6_status 4 (some FieldType.int) 1 := ⟨⟨⟨kD_X6, kC_X6_status, ⟨by decide +kernel, by decide +kernel⟩, by decide +kernel⟩, kI_X6_status⟩, kV_X6_status⟩
