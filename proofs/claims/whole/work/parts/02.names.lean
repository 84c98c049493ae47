/-! ===== BEGIN printed: names, fields, word lists, decode rows ===== -/
def RX0 : String := "ShuffleHall$Cycles"
def TX0 : u_T := fun k => match k with
  | _ => ("", "", "", false)
def tyX0 : Nat → FieldType := fun k => match k with
  | _ => .int
abbrev wsX00 : List Cond := u_ws RX0 TX0 0
theorem nmX0 : ∀ a, a < 0 → ∀ b, b < 0 → a ≠ b → (TX0 a).2.1 ≠ (TX0 b).2.1 := by decide +kernel
theorem tyX0_ok : ∀ k, k < 0 → parseFieldDescriptor (TX0 k).2.2.1 = some (tyX0 k) := by decide +kernel
abbrev cX0_count : ByteArray := prog_2_method_2_code
def yX0_count : MethodName := ⟨RX0, "count", "(LShuffleHall$Row;)I"⟩
abbrev cX0_fixed : ByteArray := prog_2_method_3_code
def yX0_fixed : MethodName := ⟨RX0, "fixed", "(LShuffleHall$Row;)I"⟩
abbrev cX0_longest : ByteArray := prog_2_method_4_code
def yX0_longest : MethodName := ⟨RX0, "longest", "(LShuffleHall$Row;)I"⟩
abbrev cX0_placementPeriod : ByteArray := prog_2_method_5_code
def yX0_placementPeriod : MethodName := ⟨RX0, "placementPeriod", "(LShuffleHall$Row;)I"⟩
abbrev cX0_fullPeriod : ByteArray := prog_2_method_6_code
def yX0_fullPeriod : MethodName := ⟨RX0, "fullPeriod", "(LShuffleHall$Row;)I"⟩
abbrev cX0_leastOf : ByteArray := prog_2_method_7_code
def yX0_leastOf : MethodName := ⟨RX0, "leastOf", "(LShuffleHall$Row;I)I"⟩
abbrev cX0_lengthOf : ByteArray := prog_2_method_8_code
def yX0_lengthOf : MethodName := ⟨RX0, "lengthOf", "(LShuffleHall$Row;I)I"⟩
abbrev cX0_turnsOver : ByteArray := prog_2_method_9_code
def yX0_turnsOver : MethodName := ⟨RX0, "turnsOver", "(LShuffleHall$Row;I)Z"⟩
abbrev cX0_leastMultiple : ByteArray := prog_2_method_10_code
def yX0_leastMultiple : MethodName := ⟨RX0, "leastMultiple", "(II)I"⟩
def RX1 : String := "ShuffleHall$Deck"
def TX1 : u_T := fun k => match k with
  | 0 => ("ShuffleHall$Deck", "row", "LShuffleHall$Row;", true)
  | 1 => ("ShuffleHall$Deck", "kept", "[[I", true)
  | 2 => ("ShuffleHall$Deck", "keptCount", "I", false)
  | _ => ("ShuffleHall$Deck", "shuffleCount", "I", false)
def tyX1 : Nat → FieldType := fun k => match k with
  | 0 => .object "ShuffleHall$Row"
  | 1 => .array (.array .int)
  | 2 => .int
  | _ => .int
abbrev wsX10 : List Cond := u_ws RX1 TX1 4
theorem nmX1 : ∀ a, a < 4 → ∀ b, b < 4 → a ≠ b → (TX1 a).2.1 ≠ (TX1 b).2.1 := by decide +kernel
theorem tyX1_ok : ∀ k, k < 4 → parseFieldDescriptor (TX1 k).2.2.1 = some (tyX1 k) := by decide +kernel
abbrev cX1_init : ByteArray := prog_3_method_1_code
def yX1_init : MethodName := ⟨RX1, "<init>", "()V"⟩
abbrev cX1_begin : ByteArray := prog_3_method_2_code
def yX1_begin : MethodName := ⟨RX1, "begin", "(I)V"⟩
abbrev cX1_row : ByteArray := prog_3_method_3_code
def yX1_row : MethodName := ⟨RX1, "row", "()LShuffleHall$Row;"⟩
abbrev cX1_shuffleCount : ByteArray := prog_3_method_4_code
def yX1_shuffleCount : MethodName := ⟨RX1, "shuffleCount", "()I"⟩
abbrev cX1_put : ByteArray := prog_3_method_5_code
def yX1_put : MethodName := ⟨RX1, "put", "(LShuffleHall$Row;I)V"⟩
abbrev cX1_takeBack : ByteArray := prog_3_method_6_code
def yX1_takeBack : MethodName := ⟨RX1, "takeBack", "()Z"⟩
abbrev cX1_keptPlace : ByteArray := prog_3_method_7_code
def yX1_keptPlace : MethodName := ⟨RX1, "keptPlace", "()I"⟩
def RX2 : String := "ShuffleHall$Measures"
def TX2 : u_T := fun k => match k with
  | _ => ("", "", "", false)
def tyX2 : Nat → FieldType := fun k => match k with
  | _ => .int
abbrev wsX20 : List Cond := u_ws RX2 TX2 0
theorem nmX2 : ∀ a, a < 0 → ∀ b, b < 0 → a ≠ b → (TX2 a).2.1 ≠ (TX2 b).2.1 := by decide +kernel
theorem tyX2_ok : ∀ k, k < 0 → parseFieldDescriptor (TX2 k).2.2.1 = some (tyX2 k) := by decide +kernel
abbrev cX2_inversions : ByteArray := prog_4_method_2_code
def yX2_inversions : MethodName := ⟨RX2, "inversions", "(LShuffleHall$Row;)I"⟩
abbrev cX2_risingRuns : ByteArray := prog_4_method_3_code
def yX2_risingRuns : MethodName := ⟨RX2, "risingRuns", "(LShuffleHall$Row;)I"⟩
abbrev cX2_rifflesNeeded : ByteArray := prog_4_method_4_code
def yX2_rifflesNeeded : MethodName := ⟨RX2, "rifflesNeeded", "(I)I"⟩
abbrev cX2_facesUp : ByteArray := prog_4_method_5_code
def yX2_facesUp : MethodName := ⟨RX2, "facesUp", "(LShuffleHall$Row;)I"⟩
abbrev cX2_longestRise : ByteArray := prog_4_method_6_code
def yX2_longestRise : MethodName := ⟨RX2, "longestRise", "(LShuffleHall$Row;)I"⟩
abbrev cX2_keepsGroups : ByteArray := prog_4_method_7_code
def yX2_keepsGroups : MethodName := ⟨RX2, "keepsGroups", "(LShuffleHall$Row;I)Z"⟩
abbrev cX2_isWhole : ByteArray := prog_4_method_8_code
def yX2_isWhole : MethodName := ⟨RX2, "isWhole", "(LShuffleHall$Row;)Z"⟩
abbrev cX2_isMirrored : ByteArray := prog_4_method_9_code
def yX2_isMirrored : MethodName := ⟨RX2, "isMirrored", "(LShuffleHall$Row;)Z"⟩
abbrev cX2_placesFrom : ByteArray := prog_4_method_10_code
def yX2_placesFrom : MethodName := ⟨RX2, "placesFrom", "(LShuffleHall$Row;I)I"⟩
def RX3 : String := "ShuffleHall$Row"
def TX3 : u_T := fun k => match k with
  | 0 => ("ShuffleHall$Row", "lying", "[I", true)
  | 1 => ("ShuffleHall$Row", "before", "[I", true)
  | _ => ("ShuffleHall$Row", "size", "I", false)
def tyX3 : Nat → FieldType := fun k => match k with
  | 0 => .array .int
  | 1 => .array .int
  | _ => .int
abbrev wsX30 : List Cond := u_ws RX3 TX3 3
theorem nmX3 : ∀ a, a < 3 → ∀ b, b < 3 → a ≠ b → (TX3 a).2.1 ≠ (TX3 b).2.1 := by decide +kernel
theorem tyX3_ok : ∀ k, k < 3 → parseFieldDescriptor (TX3 k).2.2.1 = some (tyX3 k) := by decide +kernel
abbrev cX3_init : ByteArray := prog_5_method_1_code
def yX3_init : MethodName := ⟨RX3, "<init>", "()V"⟩
abbrev cX3_begin : ByteArray := prog_5_method_2_code
def yX3_begin : MethodName := ⟨RX3, "begin", "(I)V"⟩
abbrev cX3_clear : ByteArray := prog_5_method_3_code
def yX3_clear : MethodName := ⟨RX3, "clear", "()V"⟩
abbrev cX3_add : ByteArray := prog_5_method_4_code
def yX3_add : MethodName := ⟨RX3, "add", "(I)V"⟩
abbrev cX3_addTurned : ByteArray := prog_5_method_5_code
def yX3_addTurned : MethodName := ⟨RX3, "addTurned", "(I)V"⟩
abbrev cX3_addSpan : ByteArray := prog_5_method_6_code
def yX3_addSpan : MethodName := ⟨RX3, "addSpan", "(II)V"⟩
abbrev cX3_addLying : ByteArray := prog_5_method_7_code
def yX3_addLying : MethodName := ⟨RX3, "addLying", "(I)V"⟩
abbrev cX3_size : ByteArray := prog_5_method_8_code
def yX3_size : MethodName := ⟨RX3, "size", "()I"⟩
abbrev cX3_has : ByteArray := prog_5_method_9_code
def yX3_has : MethodName := ⟨RX3, "has", "(I)Z"⟩
abbrev cX3_numberAt : ByteArray := prog_5_method_10_code
def yX3_numberAt : MethodName := ⟨RX3, "numberAt", "(I)I"⟩
abbrev cX3_isTurnedAt : ByteArray := prog_5_method_11_code
def yX3_isTurnedAt : MethodName := ⟨RX3, "isTurnedAt", "(I)Z"⟩
abbrev cX3_placeOf : ByteArray := prog_5_method_12_code
def yX3_placeOf : MethodName := ⟨RX3, "placeOf", "(I)I"⟩
abbrev cX3_isPlacedAs : ByteArray := prog_5_method_13_code
def yX3_isPlacedAs : MethodName := ⟨RX3, "isPlacedAs", "(LShuffleHall$Row;)Z"⟩
abbrev cX3_turnAt : ByteArray := prog_5_method_14_code
def yX3_turnAt : MethodName := ⟨RX3, "turnAt", "(I)V"⟩
abbrev cX3_copy : ByteArray := prog_5_method_15_code
def yX3_copy : MethodName := ⟨RX3, "copy", "(LShuffleHall$Row;)V"⟩
abbrev cX3_save : ByteArray := prog_5_method_16_code
def yX3_save : MethodName := ⟨RX3, "save", "([I)V"⟩
abbrev cX3_restore : ByteArray := prog_5_method_17_code
def yX3_restore : MethodName := ⟨RX3, "restore", "([I)V"⟩
abbrev cX3_follow : ByteArray := prog_5_method_18_code
def yX3_follow : MethodName := ⟨RX3, "follow", "(LShuffleHall$Row;)V"⟩
abbrev cX3_followOften : ByteArray := prog_5_method_19_code
def yX3_followOften : MethodName := ⟨RX3, "followOften", "(LShuffleHall$Row;I)V"⟩
def RX4 : String := "ShuffleHall$Sequence"
def TX4 : u_T := fun k => match k with
  | 0 => ("ShuffleHall$Sequence", "kinds", "[I", true)
  | 1 => ("ShuffleHall$Sequence", "numbers", "[I", true)
  | _ => ("ShuffleHall$Sequence", "length", "I", false)
def tyX4 : Nat → FieldType := fun k => match k with
  | 0 => .array .int
  | 1 => .array .int
  | _ => .int
abbrev wsX40 : List Cond := u_ws RX4 TX4 3
theorem nmX4 : ∀ a, a < 3 → ∀ b, b < 3 → a ≠ b → (TX4 a).2.1 ≠ (TX4 b).2.1 := by decide +kernel
theorem tyX4_ok : ∀ k, k < 3 → parseFieldDescriptor (TX4 k).2.2.1 = some (tyX4 k) := by decide +kernel
abbrev cX4_init : ByteArray := prog_6_method_1_code
def yX4_init : MethodName := ⟨RX4, "<init>", "()V"⟩
abbrev cX4_length : ByteArray := prog_6_method_2_code
def yX4_length : MethodName := ⟨RX4, "length", "()I"⟩
abbrev cX4_add : ByteArray := prog_6_method_3_code
def yX4_add : MethodName := ⟨RX4, "add", "(II)V"⟩
abbrev cX4_kindAt : ByteArray := prog_6_method_4_code
def yX4_kindAt : MethodName := ⟨RX4, "kindAt", "(I)I"⟩
abbrev cX4_numberAt : ByteArray := prog_6_method_5_code
def yX4_numberAt : MethodName := ⟨RX4, "numberAt", "(I)I"⟩
abbrev cX4_has : ByteArray := prog_6_method_6_code
def yX4_has : MethodName := ⟨RX4, "has", "(I)Z"⟩
abbrev cX4_lay : ByteArray := prog_6_method_7_code
def yX4_lay : MethodName := ⟨RX4, "lay", "(LShuffleHall$Row;LShuffleHall$Row;I)Z"⟩
def RX5 : String := "ShuffleHall$Shuffles"
def TX5 : u_T := fun k => match k with
  | _ => ("", "", "", false)
def tyX5 : Nat → FieldType := fun k => match k with
  | _ => .int
abbrev wsX50 : List Cond := u_ws RX5 TX5 0
theorem nmX5 : ∀ a, a < 0 → ∀ b, b < 0 → a ≠ b → (TX5 a).2.1 ≠ (TX5 b).2.1 := by decide +kernel
theorem tyX5_ok : ∀ k, k < 0 → parseFieldDescriptor (TX5 k).2.2.1 = some (tyX5 k) := by decide +kernel
abbrev cX5_lay : ByteArray := prog_7_method_2_code
def yX5_lay : MethodName := ⟨RX5, "lay", "(LShuffleHall$Row;III)Z"⟩
abbrev cX5_isOne : ByteArray := prog_7_method_3_code
def yX5_isOne : MethodName := ⟨RX5, "isOne", "(III)Z"⟩
abbrev cX5_layHalves : ByteArray := prog_7_method_4_code
def yX5_layHalves : MethodName := ⟨RX5, "layHalves", "(LShuffleHall$Row;III)V"⟩
abbrev cX5_layMonge : ByteArray := prog_7_method_5_code
def yX5_layMonge : MethodName := ⟨RX5, "layMonge", "(LShuffleHall$Row;I)V"⟩
abbrev cX5_layMilk : ByteArray := prog_7_method_6_code
def yX5_layMilk : MethodName := ⟨RX5, "layMilk", "(LShuffleHall$Row;I)V"⟩
abbrev cX5_layDeal : ByteArray := prog_7_method_7_code
def yX5_layDeal : MethodName := ⟨RX5, "layDeal", "(LShuffleHall$Row;II)V"⟩
abbrev cX5_layBack : ByteArray := prog_7_method_8_code
def yX5_layBack : MethodName := ⟨RX5, "layBack", "(LShuffleHall$Row;II)V"⟩
abbrev cX5_layOver : ByteArray := prog_7_method_9_code
def yX5_layOver : MethodName := ⟨RX5, "layOver", "(LShuffleHall$Row;II)V"⟩
abbrev cX5_layRiffle : ByteArray := prog_7_method_10_code
def yX5_layRiffle : MethodName := ⟨RX5, "layRiffle", "(LShuffleHall$Row;II)V"⟩
abbrev cX5_layPackets : ByteArray := prog_7_method_11_code
def yX5_layPackets : MethodName := ⟨RX5, "layPackets", "(LShuffleHall$Row;II)V"⟩
def RX6 : String := "ShuffleHall"
def TX6 : u_T := fun k => match k with
  | 0 => ("ShuffleHall", "decks", "[LShuffleHall$Deck;", true)
  | 1 => ("ShuffleHall", "sequences", "[LShuffleHall$Sequence;", true)
  | 2 => ("ShuffleHall", "deckCount", "I", false)
  | 3 => ("ShuffleHall", "sequenceCount", "I", false)
  | 4 => ("ShuffleHall", "takenBack", "I", false)
  | 5 => ("ShuffleHall", "move", "LShuffleHall$Row;", true)
  | 6 => ("ShuffleHall", "stepMove", "LShuffleHall$Row;", true)
  | _ => ("ShuffleHall", "trial", "LShuffleHall$Row;", true)
def tyX6 : Nat → FieldType := fun k => match k with
  | 0 => .array (.object "ShuffleHall$Deck")
  | 1 => .array (.object "ShuffleHall$Sequence")
  | 2 => .int
  | 3 => .int
  | 4 => .int
  | 5 => .object "ShuffleHall$Row"
  | 6 => .object "ShuffleHall$Row"
  | _ => .object "ShuffleHall$Row"
abbrev wsX60 : List Cond := u_ws RX6 TX6 8
theorem nmX6 : ∀ a, a < 8 → ∀ b, b < 8 → a ≠ b → (TX6 a).2.1 ≠ (TX6 b).2.1 := by decide +kernel
theorem tyX6_ok : ∀ k, k < 8 → parseFieldDescriptor (TX6 k).2.2.1 = some (tyX6 k) := by decide +kernel
abbrev cX6_init : ByteArray := prog_1_method_1_code
def yX6_init : MethodName := ⟨RX6, "<init>", "()V"⟩
abbrev cX6_deck : ByteArray := prog_1_method_2_code
def yX6_deck : MethodName := ⟨RX6, "deck", "(I)I"⟩
abbrev cX6_shuffle : ByteArray := prog_1_method_3_code
def yX6_shuffle : MethodName := ⟨RX6, "shuffle", "(IIII)I"⟩
abbrev cX6_undo : ByteArray := prog_1_method_4_code
def yX6_undo : MethodName := ⟨RX6, "undo", "(I)I"⟩
abbrev cX6_turn : ByteArray := prog_1_method_5_code
def yX6_turn : MethodName := ⟨RX6, "turn", "(II)Z"⟩
abbrev cX6_sequence : ByteArray := prog_1_method_6_code
def yX6_sequence : MethodName := ⟨RX6, "sequence", "()I"⟩
abbrev cX6_step : ByteArray := prog_1_method_7_code
def yX6_step : MethodName := ⟨RX6, "step", "(III)I"⟩
abbrev cX6_perform : ByteArray := prog_1_method_8_code
def yX6_perform : MethodName := ⟨RX6, "perform", "(III)I"⟩
abbrev cX6_card : ByteArray := prog_1_method_9_code
def yX6_card : MethodName := ⟨RX6, "card", "(II)I"⟩
abbrev cX6_find : ByteArray := prog_1_method_10_code
def yX6_find : MethodName := ⟨RX6, "find", "(IIZ)I"⟩
abbrev cX6_ofDeck : ByteArray := prog_1_method_11_code
def yX6_ofDeck : MethodName := ⟨RX6, "ofDeck", "(II)I"⟩
abbrev cX6_keeps : ByteArray := prog_1_method_12_code
def yX6_keeps : MethodName := ⟨RX6, "keeps", "(II)Z"⟩
abbrev cX6_chance : ByteArray := prog_1_method_13_code
def yX6_chance : MethodName := ⟨RX6, "chance", "(II)D"⟩
abbrev cX6_far : ByteArray := prog_1_method_14_code
def yX6_far : MethodName := ⟨RX6, "far", "(I)D"⟩
abbrev cX6_alike : ByteArray := prog_1_method_15_code
def yX6_alike : MethodName := ⟨RX6, "alike", "(II)I"⟩
abbrev cX6_ofSequence : ByteArray := prog_1_method_16_code
def yX6_ofSequence : MethodName := ⟨RX6, "ofSequence", "(II)I"⟩
abbrev cX6_period : ByteArray := prog_1_method_17_code
def yX6_period : MethodName := ⟨RX6, "period", "(II)I"⟩
abbrev cX6_many : ByteArray := prog_1_method_18_code
def yX6_many : MethodName := ⟨RX6, "many", "(I)I"⟩
abbrev cX6_toTop : ByteArray := prog_1_method_19_code
def yX6_toTop : MethodName := ⟨RX6, "toTop", "(II)I"⟩
abbrev cX6_goes : ByteArray := prog_1_method_20_code
def yX6_goes : MethodName := ⟨RX6, "goes", "(IIII)I"⟩
abbrev cX6_best : ByteArray := prog_1_method_21_code
def yX6_best : MethodName := ⟨RX6, "best", "(I)I"⟩
abbrev cX6_riffle : ByteArray := prog_1_method_22_code
def yX6_riffle : MethodName := ⟨RX6, "riffle", "(I)I"⟩
abbrev cX6_digest : ByteArray := prog_1_method_23_code
def yX6_digest : MethodName := ⟨RX6, "digest", "()J"⟩
abbrev cX6_mixedDeck : ByteArray := prog_1_method_24_code
def yX6_mixedDeck : MethodName := ⟨RX6, "mixedDeck", "(JI)J"⟩
abbrev cX6_mixed : ByteArray := prog_1_method_25_code
def yX6_mixed : MethodName := ⟨RX6, "mixed", "(JI)J"⟩
abbrev cX6_needDeck : ByteArray := prog_1_method_26_code
def yX6_needDeck : MethodName := ⟨RX6, "needDeck", "(I)LShuffleHall$Deck;"⟩
abbrev cX6_needSequence : ByteArray := prog_1_method_27_code
def yX6_needSequence : MethodName := ⟨RX6, "needSequence", "(I)LShuffleHall$Sequence;"⟩
abbrev cX6_needPosition : ByteArray := prog_1_method_28_code
def yX6_needPosition : MethodName := ⟨RX6, "needPosition", "(LShuffleHall$Row;I)V"⟩
abbrev cX6_needOften : ByteArray := prog_1_method_29_code
def yX6_needOften : MethodName := ⟨RX6, "needOften", "(I)V"⟩
abbrev cX6_needWhat : ByteArray := prog_1_method_30_code
def yX6_needWhat : MethodName := ⟨RX6, "needWhat", "(II)V"⟩
abbrev cX6_isDeckSize : ByteArray := prog_1_method_31_code
def yX6_isDeckSize : MethodName := ⟨RX6, "isDeckSize", "(I)Z"⟩
abbrev cX6_isWithin : ByteArray := prog_1_method_32_code
def yX6_isWithin : MethodName := ⟨RX6, "isWithin", "(III)Z"⟩
abbrev cX6_shufflesOfAll : ByteArray := prog_1_method_33_code
def yX6_shufflesOfAll : MethodName := ⟨RX6, "shufflesOfAll", "()I"⟩
abbrev cX6_cardsOfAll : ByteArray := prog_1_method_34_code
def yX6_cardsOfAll : MethodName := ⟨RX6, "cardsOfAll", "()I"⟩
abbrev cX6_facesUpOfAll : ByteArray := prog_1_method_35_code
def yX6_facesUpOfAll : MethodName := ⟨RX6, "facesUpOfAll", "()I"⟩
abbrev cX6_behindOutOrIn : ByteArray := prog_1_method_36_code
def yX6_behindOutOrIn : MethodName := ⟨RX6, "behindOutOrIn", "(II)I"⟩
def RX7 : String := "ShuffleHallModel$Deck"
def TX7 : u_T := fun k => match k with
  | 0 => ("ShuffleHallModel$Deck", "cards", "[I", false)
  | 1 => ("ShuffleHallModel$Deck", "up", "[Z", false)
  | 2 => ("ShuffleHallModel$Deck", "pastCards", "Ljava/util/ArrayList;", true)
  | 3 => ("ShuffleHallModel$Deck", "pastUp", "Ljava/util/ArrayList;", true)
  | _ => ("ShuffleHallModel$Deck", "shuffles", "I", false)
def tyX7 : Nat → FieldType := fun k => match k with
  | 0 => .array .int
  | 1 => .array .boolean
  | 2 => .object "java/util/ArrayList"
  | 3 => .object "java/util/ArrayList"
  | _ => .int
abbrev wsX70 : List Cond := u_ws RX7 TX7 5
theorem nmX7 : ∀ a, a < 5 → ∀ b, b < 5 → a ≠ b → (TX7 a).2.1 ≠ (TX7 b).2.1 := by decide +kernel
theorem tyX7_ok : ∀ k, k < 5 → parseFieldDescriptor (TX7 k).2.2.1 = some (tyX7 k) := by decide +kernel
abbrev cX7_init : ByteArray := prog_10_method_1_code
def yX7_init : MethodName := ⟨RX7, "<init>", "(I)V"⟩
abbrev cX7_size : ByteArray := prog_10_method_2_code
def yX7_size : MethodName := ⟨RX7, "size", "()I"⟩
abbrev cX7_go : ByteArray := prog_10_method_3_code
def yX7_go : MethodName := ⟨RX7, "go", "(LShuffleHallModel$Way;)V"⟩
abbrev cX7_back : ByteArray := prog_10_method_4_code
def yX7_back : MethodName := ⟨RX7, "back", "()Z"⟩
abbrev cX7_find : ByteArray := prog_10_method_5_code
def yX7_find : MethodName := ⟨RX7, "find", "(I)I"⟩
abbrev cX7_ups : ByteArray := prog_10_method_6_code
def yX7_ups : MethodName := ⟨RX7, "ups", "()I"⟩
abbrev cX7_inversions : ByteArray := prog_10_method_7_code
def yX7_inversions : MethodName := ⟨RX7, "inversions", "()I"⟩
abbrev cX7_inversions_ : ByteArray := prog_10_method_8_code
def yX7_inversions_ : MethodName := ⟨RX7, "inversions", "(LShuffleHallModel$Way;)I"⟩
abbrev cX7_runs : ByteArray := prog_10_method_9_code
def yX7_runs : MethodName := ⟨RX7, "runs", "()I"⟩
abbrev cX7_cycles : ByteArray := prog_10_method_10_code
def yX7_cycles : MethodName := ⟨RX7, "cycles", "(I)I"⟩
abbrev cX7_climb : ByteArray := prog_10_method_11_code
def yX7_climb : MethodName := ⟨RX7, "climb", "()I"⟩
abbrev cX7_hasPairs : ByteArray := prog_10_method_12_code
def yX7_hasPairs : MethodName := ⟨RX7, "hasPairs", "()Z"⟩
abbrev cX7_hasFours : ByteArray := prog_10_method_13_code
def yX7_hasFours : MethodName := ⟨RX7, "hasFours", "()Z"⟩
abbrev cX7_isWhole : ByteArray := prog_10_method_14_code
def yX7_isWhole : MethodName := ⟨RX7, "isWhole", "()Z"⟩
abbrev cX7_isMirrored : ByteArray := prog_10_method_15_code
def yX7_isMirrored : MethodName := ⟨RX7, "isMirrored", "()Z"⟩
abbrev cX7_isNew : ByteArray := prog_10_method_16_code
def yX7_isNew : MethodName := ⟨RX7, "isNew", "()Z"⟩
def RX8 : String := "ShuffleHallModel$Way"
def TX8 : u_T := fun k => match k with
  | 0 => ("ShuffleHallModel$Way", "from", "[I", true)
  | _ => ("ShuffleHallModel$Way", "isTurned", "[Z", true)
def tyX8 : Nat → FieldType := fun k => match k with
  | 0 => .array .int
  | _ => .array .boolean
abbrev wsX80 : List Cond := u_ws RX8 TX8 2
theorem nmX8 : ∀ a, a < 2 → ∀ b, b < 2 → a ≠ b → (TX8 a).2.1 ≠ (TX8 b).2.1 := by decide +kernel
theorem tyX8_ok : ∀ k, k < 2 → parseFieldDescriptor (TX8 k).2.2.1 = some (tyX8 k) := by decide +kernel
abbrev cX8_init : ByteArray := prog_11_method_1_code
def yX8_init : MethodName := ⟨RX8, "<init>", "(I)V"⟩
abbrev cX8_then : ByteArray := prog_11_method_2_code
def yX8_then : MethodName := ⟨RX8, "then", "(LShuffleHallModel$Way;)LShuffleHallModel$Way;"⟩
abbrev cX8_often : ByteArray := prog_11_method_3_code
def yX8_often : MethodName := ⟨RX8, "often", "(I)LShuffleHallModel$Way;"⟩
abbrev cX8_to : ByteArray := prog_11_method_4_code
def yX8_to : MethodName := ⟨RX8, "to", "(I)I"⟩
abbrev cX8_isStill : ByteArray := prog_11_method_5_code
def yX8_isStill : MethodName := ⟨RX8, "isStill", "()Z"⟩
def RX9 : String := "ShuffleHallModel"
def TX9 : u_T := fun k => match k with
  | 0 => ("ShuffleHallModel", "thrown", "I", false)
  | 1 => ("ShuffleHallModel", "decks", "Ljava/util/ArrayList;", true)
  | 2 => ("ShuffleHallModel", "sequences", "Ljava/util/ArrayList;", true)
  | 3 => ("ShuffleHallModel", "undone", "I", false)
  | _ => ("ShuffleHallModel", "sum", "J", false)
def tyX9 : Nat → FieldType := fun k => match k with
  | 0 => .int
  | 1 => .object "java/util/ArrayList"
  | 2 => .object "java/util/ArrayList"
  | 3 => .int
  | _ => .long
abbrev wsX90 : List Cond := u_ws RX9 TX9 5
theorem nmX9 : ∀ a, a < 5 → ∀ b, b < 5 → a ≠ b → (TX9 a).2.1 ≠ (TX9 b).2.1 := by decide +kernel
theorem tyX9_ok : ∀ k, k < 5 → parseFieldDescriptor (TX9 k).2.2.1 = some (tyX9 k) := by decide +kernel
abbrev cX9_init : ByteArray := prog_9_method_1_code
def yX9_init : MethodName := ⟨RX9, "<init>", "()V"⟩
abbrev cX9_thrown : ByteArray := prog_9_method_2_code
def yX9_thrown : MethodName := ⟨RX9, "thrown", "()I"⟩
abbrev cX9_refuse : ByteArray := prog_9_method_3_code
def yX9_refuse : MethodName := ⟨RX9, "refuse", "(I)I"⟩
abbrev cX9_is : ByteArray := prog_9_method_4_code
def yX9_is : MethodName := ⟨RX9, "is", "(III)Z"⟩
abbrev cX9_isShuffle : ByteArray := prog_9_method_5_code
def yX9_isShuffle : MethodName := ⟨RX9, "isShuffle", "(III)Z"⟩
abbrev cX9_way : ByteArray := prog_9_method_6_code
def yX9_way : MethodName := ⟨RX9, "way", "(III)LShuffleHallModel$Way;"⟩
abbrev cX9_common : ByteArray := prog_9_method_7_code
def yX9_common : MethodName := ⟨RX9, "common", "(II)I"⟩
abbrev cX9_isDeck : ByteArray := prog_9_method_8_code
def yX9_isDeck : MethodName := ⟨RX9, "isDeck", "(I)Z"⟩
abbrev cX9_isSequence : ByteArray := prog_9_method_9_code
def yX9_isSequence : MethodName := ⟨RX9, "isSequence", "(I)Z"⟩
abbrev cX9_isPlace : ByteArray := prog_9_method_10_code
def yX9_isPlace : MethodName := ⟨RX9, "isPlace", "(II)Z"⟩
abbrev cX9_deck : ByteArray := prog_9_method_11_code
def yX9_deck : MethodName := ⟨RX9, "deck", "(I)I"⟩
abbrev cX9_shuffle : ByteArray := prog_9_method_12_code
def yX9_shuffle : MethodName := ⟨RX9, "shuffle", "(IIII)I"⟩
abbrev cX9_undo : ByteArray := prog_9_method_13_code
def yX9_undo : MethodName := ⟨RX9, "undo", "(I)I"⟩
abbrev cX9_turn : ByteArray := prog_9_method_14_code
def yX9_turn : MethodName := ⟨RX9, "turn", "(II)Z"⟩
abbrev cX9_sequence : ByteArray := prog_9_method_15_code
def yX9_sequence : MethodName := ⟨RX9, "sequence", "()I"⟩
abbrev cX9_step : ByteArray := prog_9_method_16_code
def yX9_step : MethodName := ⟨RX9, "step", "(III)I"⟩
abbrev cX9_wayOf : ByteArray := prog_9_method_17_code
def yX9_wayOf : MethodName := ⟨RX9, "wayOf", "(II)LShuffleHallModel$Way;"⟩
abbrev cX9_perform : ByteArray := prog_9_method_18_code
def yX9_perform : MethodName := ⟨RX9, "perform", "(III)I"⟩
abbrev cX9_card : ByteArray := prog_9_method_19_code
def yX9_card : MethodName := ⟨RX9, "card", "(II)I"⟩
abbrev cX9_find : ByteArray := prog_9_method_20_code
def yX9_find : MethodName := ⟨RX9, "find", "(IIZ)I"⟩
abbrev cX9_needed : ByteArray := prog_9_method_21_code
def yX9_needed : MethodName := ⟨RX9, "needed", "(I)I"⟩
abbrev cX9_ofDeckNow : ByteArray := prog_9_method_22_code
def yX9_ofDeckNow : MethodName := ⟨RX9, "ofDeckNow", "(LShuffleHallModel$Deck;I)I"⟩
abbrev cX9_ofDeck : ByteArray := prog_9_method_23_code
def yX9_ofDeck : MethodName := ⟨RX9, "ofDeck", "(II)I"⟩
abbrev cX9_keepsNow : ByteArray := prog_9_method_24_code
def yX9_keepsNow : MethodName := ⟨RX9, "keepsNow", "(LShuffleHallModel$Deck;I)Z"⟩
abbrev cX9_keeps : ByteArray := prog_9_method_25_code
def yX9_keeps : MethodName := ⟨RX9, "keeps", "(II)Z"⟩
abbrev cX9_chance : ByteArray := prog_9_method_26_code
def yX9_chance : MethodName := ⟨RX9, "chance", "(II)D"⟩
abbrev cX9_far : ByteArray := prog_9_method_27_code
def yX9_far : MethodName := ⟨RX9, "far", "(I)D"⟩
abbrev cX9_alikeNow : ByteArray := prog_9_method_28_code
def yX9_alikeNow : MethodName := ⟨RX9, "alikeNow", "(LShuffleHallModel$Deck;LShuffleHallModel$Deck;)I"⟩
abbrev cX9_alike : ByteArray := prog_9_method_29_code
def yX9_alike : MethodName := ⟨RX9, "alike", "(II)I"⟩
abbrev cX9_ofSequenceNow : ByteArray := prog_9_method_30_code
def yX9_ofSequenceNow : MethodName := ⟨RX9, "ofSequenceNow", "(II)I"⟩
abbrev cX9_ofSequence : ByteArray := prog_9_method_31_code
def yX9_ofSequence : MethodName := ⟨RX9, "ofSequence", "(II)I"⟩
abbrev cX9_periodNow : ByteArray := prog_9_method_32_code
def yX9_periodNow : MethodName := ⟨RX9, "periodNow", "(II)I"⟩
abbrev cX9_period : ByteArray := prog_9_method_33_code
def yX9_period : MethodName := ⟨RX9, "period", "(II)I"⟩
abbrev cX9_manyNow : ByteArray := prog_9_method_34_code
def yX9_manyNow : MethodName := ⟨RX9, "manyNow", "(I)I"⟩
abbrev cX9_many : ByteArray := prog_9_method_35_code
def yX9_many : MethodName := ⟨RX9, "many", "(I)I"⟩
abbrev cX9_toTopNow : ByteArray := prog_9_method_36_code
def yX9_toTopNow : MethodName := ⟨RX9, "toTopNow", "(LShuffleHallModel$Deck;I)I"⟩
abbrev cX9_toTop : ByteArray := prog_9_method_37_code
def yX9_toTop : MethodName := ⟨RX9, "toTop", "(II)I"⟩
abbrev cX9_goes : ByteArray := prog_9_method_38_code
def yX9_goes : MethodName := ⟨RX9, "goes", "(IIII)I"⟩
abbrev cX9_bestNow : ByteArray := prog_9_method_39_code
def yX9_bestNow : MethodName := ⟨RX9, "bestNow", "(LShuffleHallModel$Deck;)I"⟩
abbrev cX9_best : ByteArray := prog_9_method_40_code
def yX9_best : MethodName := ⟨RX9, "best", "(I)I"⟩
abbrev cX9_riffleNow : ByteArray := prog_9_method_41_code
def yX9_riffleNow : MethodName := ⟨RX9, "riffleNow", "(LShuffleHallModel$Deck;)I"⟩
abbrev cX9_riffle : ByteArray := prog_9_method_42_code
def yX9_riffle : MethodName := ⟨RX9, "riffle", "(I)I"⟩
abbrev cX9_add : ByteArray := prog_9_method_43_code
def yX9_add : MethodName := ⟨RX9, "add", "(I)V"⟩
abbrev cX9_digest : ByteArray := prog_9_method_44_code
def yX9_digest : MethodName := ⟨RX9, "digest", "()J"⟩
def RJx145de : String := "java/io/Serializable"
def TJx145de : u_T := fun k => match k with
  | _ => ("", "", "", false)
def tyJx145de : Nat → FieldType := fun k => match k with
  | _ => .int
abbrev wsJx145de0 : List Cond := u_ws RJx145de TJx145de 0
theorem nmJx145de : ∀ a, a < 0 → ∀ b, b < 0 → a ≠ b → (TJx145de a).2.1 ≠ (TJx145de b).2.1 := by decide +kernel
theorem tyJx145de_ok : ∀ k, k < 0 → parseFieldDescriptor (TJx145de k).2.2.1 = some (tyJx145de k) := by decide +kernel
def RJx8e188 : String := "java/lang/Cloneable"
def TJx8e188 : u_T := fun k => match k with
  | _ => ("", "", "", false)
def tyJx8e188 : Nat → FieldType := fun k => match k with
  | _ => .int
abbrev wsJx8e1880 : List Cond := u_ws RJx8e188 TJx8e188 0
theorem nmJx8e188 : ∀ a, a < 0 → ∀ b, b < 0 → a ≠ b → (TJx8e188 a).2.1 ≠ (TJx8e188 b).2.1 := by decide +kernel
theorem tyJx8e188_ok : ∀ k, k < 0 → parseFieldDescriptor (TJx8e188 k).2.2.1 = some (tyJx8e188 k) := by decide +kernel
def RJ6 : String := "java/lang/Integer"
def TJ6 : u_T := fun k => match k with
  | _ => ("", "", "", false)
def tyJ6 : Nat → FieldType := fun k => match k with
  | _ => .int
abbrev wsJ60 : List Cond := u_ws RJ6 TJ6 0
theorem nmJ6 : ∀ a, a < 0 → ∀ b, b < 0 → a ≠ b → (TJ6 a).2.1 ≠ (TJ6 b).2.1 := by decide +kernel
theorem tyJ6_ok : ∀ k, k < 0 → parseFieldDescriptor (TJ6 k).2.2.1 = some (tyJ6 k) := by decide +kernel
abbrev cJ6_bitCount_0f7a4 : ByteArray := prog_18_method_49_code
def yJ6_bitCount_0f7a4 : MethodName := ⟨RJ6, "bitCount", "(I)I"⟩
def RJxab1ab : String := "java/lang/Iterable"
def TJxab1ab : u_T := fun k => match k with
  | _ => ("", "", "", false)
def tyJxab1ab : Nat → FieldType := fun k => match k with
  | _ => .int
abbrev wsJxab1ab0 : List Cond := u_ws RJxab1ab TJxab1ab 0
theorem nmJxab1ab : ∀ a, a < 0 → ∀ b, b < 0 → a ≠ b → (TJxab1ab a).2.1 ≠ (TJxab1ab b).2.1 := by decide +kernel
theorem tyJxab1ab_ok : ∀ k, k < 0 → parseFieldDescriptor (TJxab1ab k).2.2.1 = some (tyJxab1ab k) := by decide +kernel
def RJ9 : String := "java/lang/Math"
def TJ9 : u_T := fun k => match k with
  | _ => ("", "", "", false)
def tyJ9 : Nat → FieldType := fun k => match k with
  | _ => .int
abbrev wsJ90 : List Cond := u_ws RJ9 TJ9 0
theorem nmJ9 : ∀ a, a < 0 → ∀ b, b < 0 → a ≠ b → (TJ9 a).2.1 ≠ (TJ9 b).2.1 := by decide +kernel
theorem tyJ9_ok : ∀ k, k < 0 → parseFieldDescriptor (TJ9 k).2.2.1 = some (tyJ9 k) := by decide +kernel
abbrev cJ9_floorMod_7cf53 : ByteArray := prog_20_method_50_code
def yJ9_floorMod_7cf53 : MethodName := ⟨RJ9, "floorMod", "(II)I"⟩
abbrev cJ9_abs_0f7a4 : ByteArray := prog_20_method_59_code
def yJ9_abs_0f7a4 : MethodName := ⟨RJ9, "abs", "(I)I"⟩
abbrev cJ9_max_7cf53 : ByteArray := prog_20_method_65_code
def yJ9_max_7cf53 : MethodName := ⟨RJ9, "max", "(II)I"⟩
abbrev cJ9_min_7cf53 : ByteArray := prog_20_method_69_code
def yJ9_min_7cf53 : MethodName := ⟨RJ9, "min", "(II)I"⟩
def RJ0 : String := "java/lang/String"
def TJ0 : u_T := fun k => match k with
  | _ => ("", "", "", false)
def tyJ0 : Nat → FieldType := fun k => match k with
  | _ => .int
abbrev wsJ00 : List Cond := u_ws RJ0 TJ0 0
theorem nmJ0 : ∀ a, a < 0 → ∀ b, b < 0 → a ≠ b → (TJ0 a).2.1 ≠ (TJ0 b).2.1 := by decide +kernel
theorem tyJ0_ok : ∀ k, k < 0 → parseFieldDescriptor (TJ0 k).2.2.1 = some (tyJ0 k) := by decide +kernel
def RJ10 : String := "java/lang/System"
def TJ10 : u_T := fun k => match k with
  | _ => ("", "", "", false)
def tyJ10 : Nat → FieldType := fun k => match k with
  | _ => .int
abbrev wsJ100 : List Cond := u_ws RJ10 TJ10 0
theorem nmJ10 : ∀ a, a < 0 → ∀ b, b < 0 → a ≠ b → (TJ10 a).2.1 ≠ (TJ10 b).2.1 := by decide +kernel
theorem tyJ10_ok : ∀ k, k < 0 → parseFieldDescriptor (TJ10 k).2.2.1 = some (tyJ10 k) := by decide +kernel
def RJxa1e45 : String := "java/util/AbstractCollection"
def TJxa1e45 : u_T := fun k => match k with
  | _ => ("", "", "", false)
def tyJxa1e45 : Nat → FieldType := fun k => match k with
  | _ => .int
abbrev wsJxa1e450 : List Cond := u_ws RJxa1e45 TJxa1e45 0
theorem nmJxa1e45 : ∀ a, a < 0 → ∀ b, b < 0 → a ≠ b → (TJxa1e45 a).2.1 ≠ (TJxa1e45 b).2.1 := by decide +kernel
theorem tyJxa1e45_ok : ∀ k, k < 0 → parseFieldDescriptor (TJxa1e45 k).2.2.1 = some (tyJxa1e45 k) := by decide +kernel
abbrev cJxa1e45_init_da8c8 : ByteArray := prog_25_method_1_code
def yJxa1e45_init_da8c8 : MethodName := ⟨RJxa1e45, "<init>", "()V"⟩
def RJxc12de : String := "java/util/AbstractList"
def TJxc12de : u_T := fun k => match k with
  | _ => ("", "", "", false)
def tyJxc12de : Nat → FieldType := fun k => match k with
  | _ => .int
abbrev wsJxc12de0 : List Cond := u_ws RJxc12de TJxc12de 0
theorem nmJxc12de : ∀ a, a < 0 → ∀ b, b < 0 → a ≠ b → (TJxc12de a).2.1 ≠ (TJxc12de b).2.1 := by decide +kernel
theorem tyJxc12de_ok : ∀ k, k < 0 → parseFieldDescriptor (TJxc12de k).2.2.1 = some (tyJxc12de k) := by decide +kernel
abbrev cJxc12de_init_da8c8 : ByteArray := prog_26_method_1_code
def yJxc12de_init_da8c8 : MethodName := ⟨RJxc12de, "<init>", "()V"⟩
def RJx35411 : String := "java/util/ArrayList$Itr"
def TJx35411 : u_T := fun k => match k with
  | 0 => ("java/util/ArrayList$Itr", "cursor", "I", false)
  | 1 => ("java/util/ArrayList$Itr", "lastRet", "I", false)
  | 2 => ("java/util/ArrayList$Itr", "expectedModCount", "I", false)
  | _ => ("java/util/ArrayList$Itr", "this$0", "Ljava/util/ArrayList;", true)
def tyJx35411 : Nat → FieldType := fun k => match k with
  | 0 => .int
  | 1 => .int
  | 2 => .int
  | _ => .object "java/util/ArrayList"
abbrev wsJx354110 : List Cond := u_ws RJx35411 TJx35411 4
theorem nmJx35411 : ∀ a, a < 4 → ∀ b, b < 4 → a ≠ b → (TJx35411 a).2.1 ≠ (TJx35411 b).2.1 := by decide +kernel
theorem tyJx35411_ok : ∀ k, k < 4 → parseFieldDescriptor (TJx35411 k).2.2.1 = some (tyJx35411 k) := by decide +kernel
abbrev cJx35411_init_45d68 : ByteArray := prog_28_method_1_code
def yJx35411_init_45d68 : MethodName := ⟨RJx35411, "<init>", "(Ljava/util/ArrayList;)V"⟩
abbrev cJx35411_hasNext_aae02 : ByteArray := prog_28_method_2_code
def yJx35411_hasNext_aae02 : MethodName := ⟨RJx35411, "hasNext", "()Z"⟩
abbrev cJx35411_next_0502b : ByteArray := prog_28_method_3_code
def yJx35411_next_0502b : MethodName := ⟨RJx35411, "next", "()Ljava/lang/Object;"⟩
abbrev cJx35411_checkForComodification_da8c8 : ByteArray := prog_28_method_6_code
def yJx35411_checkForComodification_da8c8 : MethodName := ⟨RJx35411, "checkForComodification", "()V"⟩
def RJx4a65c : String := "java/util/ArrayList"
def TJx4a65c : u_T := fun k => match k with
  | 0 => ("java/util/AbstractList", "modCount", "I", false)
  | 1 => ("java/util/ArrayList", "elementData", "[Ljava/lang/Object;", false)
  | _ => ("java/util/ArrayList", "size", "I", false)
def tyJx4a65c : Nat → FieldType := fun k => match k with
  | 0 => .int
  | 1 => .array (.object "java/lang/Object")
  | _ => .int
abbrev wsJx4a65c0 : List Cond := u_ws RJx4a65c TJx4a65c 3
theorem nmJx4a65c : ∀ a, a < 3 → ∀ b, b < 3 → a ≠ b → (TJx4a65c a).2.1 ≠ (TJx4a65c b).2.1 := by decide +kernel
theorem tyJx4a65c_ok : ∀ k, k < 3 → parseFieldDescriptor (TJx4a65c k).2.2.1 = some (tyJx4a65c k) := by decide +kernel
abbrev cJx4a65c_init_da8c8 : ByteArray := prog_27_method_2_code
def yJx4a65c_init_da8c8 : MethodName := ⟨RJx4a65c, "<init>", "()V"⟩
abbrev cJx4a65c_grow_92f84 : ByteArray := prog_27_method_6_code
def yJx4a65c_grow_92f84 : MethodName := ⟨RJx4a65c, "grow", "(I)[Ljava/lang/Object;"⟩
abbrev cJx4a65c_grow_d5877 : ByteArray := prog_27_method_7_code
def yJx4a65c_grow_d5877 : MethodName := ⟨RJx4a65c, "grow", "()[Ljava/lang/Object;"⟩
abbrev cJx4a65c_size_8abf5 : ByteArray := prog_27_method_8_code
def yJx4a65c_size_8abf5 : MethodName := ⟨RJx4a65c, "size", "()I"⟩
abbrev cJx4a65c_elementData_915e3 : ByteArray := prog_27_method_18_code
def yJx4a65c_elementData_915e3 : MethodName := ⟨RJx4a65c, "elementData", "(I)Ljava/lang/Object;"⟩
abbrev cJx4a65c_get_915e3 : ByteArray := prog_27_method_20_code
def yJx4a65c_get_915e3 : MethodName := ⟨RJx4a65c, "get", "(I)Ljava/lang/Object;"⟩
abbrev cJx4a65c_add_72be8 : ByteArray := prog_27_method_24_code
def yJx4a65c_add_72be8 : MethodName := ⟨RJx4a65c, "add", "(Ljava/lang/Object;[Ljava/lang/Object;I)V"⟩
abbrev cJx4a65c_add_9ea2d : ByteArray := prog_27_method_25_code
def yJx4a65c_add_9ea2d : MethodName := ⟨RJx4a65c, "add", "(Ljava/lang/Object;)Z"⟩
abbrev cJx4a65c_remove_915e3 : ByteArray := prog_27_method_29_code
def yJx4a65c_remove_915e3 : MethodName := ⟨RJx4a65c, "remove", "(I)Ljava/lang/Object;"⟩
abbrev cJx4a65c_fastRemove_b59b0 : ByteArray := prog_27_method_39_code
def yJx4a65c_fastRemove_b59b0 : MethodName := ⟨RJx4a65c, "fastRemove", "([Ljava/lang/Object;I)V"⟩
abbrev cJx4a65c_iterator_32c93 : ByteArray := prog_27_method_55_code
def yJx4a65c_iterator_32c93 : MethodName := ⟨RJx4a65c, "iterator", "()Ljava/util/Iterator;"⟩
def RJ7 : String := "java/util/Arrays"
def TJ7 : u_T := fun k => match k with
  | _ => ("", "", "", false)
def tyJ7 : Nat → FieldType := fun k => match k with
  | _ => .int
abbrev wsJ70 : List Cond := u_ws RJ7 TJ7 0
theorem nmJ7 : ∀ a, a < 0 → ∀ b, b < 0 → a ≠ b → (TJ7 a).2.1 ≠ (TJ7 b).2.1 := by decide +kernel
theorem tyJ7_ok : ∀ k, k < 0 → parseFieldDescriptor (TJ7 k).2.2.1 = some (tyJ7 k) := by decide +kernel
abbrev cJ7_copyOf_1904c : ByteArray := prog_29_method_119_code
def yJ7_copyOf_1904c : MethodName := ⟨RJ7, "copyOf", "([Ljava/lang/Object;I)[Ljava/lang/Object;"⟩
abbrev cJ7_copyOf_6403c : ByteArray := prog_29_method_120_code
def yJ7_copyOf_6403c : MethodName := ⟨RJ7, "copyOf", "([Ljava/lang/Object;ILjava/lang/Class;)[Ljava/lang/Object;"⟩
def RJx5ef63 : String := "java/util/Collection"
def TJx5ef63 : u_T := fun k => match k with
  | _ => ("", "", "", false)
def tyJx5ef63 : Nat → FieldType := fun k => match k with
  | _ => .int
abbrev wsJx5ef630 : List Cond := u_ws RJx5ef63 TJx5ef63 0
theorem nmJx5ef63 : ∀ a, a < 0 → ∀ b, b < 0 → a ≠ b → (TJx5ef63 a).2.1 ≠ (TJx5ef63 b).2.1 := by decide +kernel
theorem tyJx5ef63_ok : ∀ k, k < 0 → parseFieldDescriptor (TJx5ef63 k).2.2.1 = some (tyJx5ef63 k) := by decide +kernel
def RJx4d0d8 : String := "java/util/Iterator"
def TJx4d0d8 : u_T := fun k => match k with
  | _ => ("", "", "", false)
def tyJx4d0d8 : Nat → FieldType := fun k => match k with
  | _ => .int
abbrev wsJx4d0d80 : List Cond := u_ws RJx4d0d8 TJx4d0d8 0
theorem nmJx4d0d8 : ∀ a, a < 0 → ∀ b, b < 0 → a ≠ b → (TJx4d0d8 a).2.1 ≠ (TJx4d0d8 b).2.1 := by decide +kernel
theorem tyJx4d0d8_ok : ∀ k, k < 0 → parseFieldDescriptor (TJx4d0d8 k).2.2.1 = some (tyJx4d0d8 k) := by decide +kernel
def RJxbd725 : String := "java/util/List"
def TJxbd725 : u_T := fun k => match k with
  | _ => ("", "", "", false)
def tyJxbd725 : Nat → FieldType := fun k => match k with
  | _ => .int
abbrev wsJxbd7250 : List Cond := u_ws RJxbd725 TJxbd725 0
theorem nmJxbd725 : ∀ a, a < 0 → ∀ b, b < 0 → a ≠ b → (TJxbd725 a).2.1 ≠ (TJxbd725 b).2.1 := by decide +kernel
theorem tyJxbd725_ok : ∀ k, k < 0 → parseFieldDescriptor (TJxbd725 k).2.2.1 = some (tyJxbd725 k) := by decide +kernel
def RJ15 : String := "java/util/Objects"
def TJ15 : u_T := fun k => match k with
  | _ => ("", "", "", false)
def tyJ15 : Nat → FieldType := fun k => match k with
  | _ => .int
abbrev wsJ150 : List Cond := u_ws RJ15 TJ15 0
theorem nmJ15 : ∀ a, a < 0 → ∀ b, b < 0 → a ≠ b → (TJ15 a).2.1 ≠ (TJ15 b).2.1 := by decide +kernel
theorem tyJ15_ok : ∀ k, k < 0 → parseFieldDescriptor (TJ15 k).2.2.1 = some (tyJ15 k) := by decide +kernel
abbrev cJ15_checkIndex_7cf53 : ByteArray := prog_33_method_17_code
def yJ15_checkIndex_7cf53 : MethodName := ⟨RJ15, "checkIndex", "(II)I"⟩
def RJxf0a74 : String := "java/util/RandomAccess"
def TJxf0a74 : u_T := fun k => match k with
  | _ => ("", "", "", false)
def tyJxf0a74 : Nat → FieldType := fun k => match k with
  | _ => .int
abbrev wsJxf0a740 : List Cond := u_ws RJxf0a74 TJxf0a74 0
theorem nmJxf0a74 : ∀ a, a < 0 → ∀ b, b < 0 → a ≠ b → (TJxf0a74 a).2.1 ≠ (TJxf0a74 b).2.1 := by decide +kernel
theorem tyJxf0a74_ok : ∀ k, k < 0 → parseFieldDescriptor (TJxf0a74 k).2.2.1 = some (tyJxf0a74 k) := by decide +kernel
def RJxa66e6 : String := "java/util/SequencedCollection"
def TJxa66e6 : u_T := fun k => match k with
  | _ => ("", "", "", false)
def tyJxa66e6 : Nat → FieldType := fun k => match k with
  | _ => .int
abbrev wsJxa66e60 : List Cond := u_ws RJxa66e6 TJxa66e6 0
theorem nmJxa66e6 : ∀ a, a < 0 → ∀ b, b < 0 → a ≠ b → (TJxa66e6 a).2.1 ≠ (TJxa66e6 b).2.1 := by decide +kernel
theorem tyJxa66e6_ok : ∀ k, k < 0 → parseFieldDescriptor (TJxa66e6 k).2.2.1 = some (tyJxa66e6 k) := by decide +kernel
def RJ8 : String := "jdk/internal/util/ArraysSupport"
def TJ8 : u_T := fun k => match k with
  | _ => ("", "", "", false)
def tyJ8 : Nat → FieldType := fun k => match k with
  | _ => .int
abbrev wsJ80 : List Cond := u_ws RJ8 TJ8 0
theorem nmJ8 : ∀ a, a < 0 → ∀ b, b < 0 → a ≠ b → (TJ8 a).2.1 ≠ (TJ8 b).2.1 := by decide +kernel
theorem tyJ8_ok : ∀ k, k < 0 → parseFieldDescriptor (TJ8 k).2.2.1 = some (tyJ8 k) := by decide +kernel
abbrev cJ8_newLength_cabcc : ByteArray := prog_36_method_27_code
def yJ8_newLength_cabcc : MethodName := ⟨RJ8, "newLength", "(III)I"⟩
abbrev cJ8_hugeLength_7cf53 : ByteArray := prog_36_method_28_code
def yJ8_hugeLength_7cf53 : MethodName := ⟨RJ8, "hugeLength", "(II)I"⟩
def RJ3 : String := "jdk/internal/util/Preconditions"
def TJ3 : u_T := fun k => match k with
  | _ => ("", "", "", false)
def tyJ3 : Nat → FieldType := fun k => match k with
  | _ => .int
abbrev wsJ30 : List Cond := u_ws RJ3 TJ3 0
theorem nmJ3 : ∀ a, a < 0 → ∀ b, b < 0 → a ≠ b → (TJ3 a).2.1 ≠ (TJ3 b).2.1 := by decide +kernel
theorem tyJ3_ok : ∀ k, k < 0 → parseFieldDescriptor (TJ3 k).2.2.1 = some (tyJ3 k) := by decide +kernel
abbrev cJ3_checkIndex_8e157 : ByteArray := prog_37_method_11_code
def yJ3_checkIndex_8e157 : MethodName := ⟨RJ3, "checkIndex", "(IILjava/util/function/BiFunction;)I"⟩
def RL : String := "ShuffleHallLaw"
abbrev cL_deck : ByteArray := method_3_code
def yL_deck : MethodName := ⟨RL, "deck", "(LShuffleHall;I[J)I"⟩
abbrev cL_shuffle : ByteArray := method_4_code
def yL_shuffle : MethodName := ⟨RL, "shuffle", "(LShuffleHall;IIII[J)I"⟩
abbrev cL_undo : ByteArray := method_5_code
def yL_undo : MethodName := ⟨RL, "undo", "(LShuffleHall;I[J)I"⟩
abbrev cL_turn : ByteArray := method_6_code
def yL_turn : MethodName := ⟨RL, "turn", "(LShuffleHall;II[J)I"⟩
abbrev cL_sequence : ByteArray := method_7_code
def yL_sequence : MethodName := ⟨RL, "sequence", "(LShuffleHall;[J)I"⟩
abbrev cL_step : ByteArray := method_8_code
def yL_step : MethodName := ⟨RL, "step", "(LShuffleHall;III[J)I"⟩
abbrev cL_perform : ByteArray := method_9_code
def yL_perform : MethodName := ⟨RL, "perform", "(LShuffleHall;III[J)I"⟩
abbrev cL_card : ByteArray := method_10_code
def yL_card : MethodName := ⟨RL, "card", "(LShuffleHall;II[J)I"⟩
abbrev cL_find : ByteArray := method_11_code
def yL_find : MethodName := ⟨RL, "find", "(LShuffleHall;IIZ[J)I"⟩
abbrev cL_ofDeck : ByteArray := method_12_code
def yL_ofDeck : MethodName := ⟨RL, "ofDeck", "(LShuffleHall;II[J)I"⟩
abbrev cL_keeps : ByteArray := method_13_code
def yL_keeps : MethodName := ⟨RL, "keeps", "(LShuffleHall;II[J)I"⟩
abbrev cL_chance : ByteArray := method_14_code
def yL_chance : MethodName := ⟨RL, "chance", "(LShuffleHall;II[D)I"⟩
abbrev cL_far : ByteArray := method_15_code
def yL_far : MethodName := ⟨RL, "far", "(LShuffleHall;I[D)I"⟩
abbrev cL_alike : ByteArray := method_16_code
def yL_alike : MethodName := ⟨RL, "alike", "(LShuffleHall;II[J)I"⟩
abbrev cL_ofSequence : ByteArray := method_17_code
def yL_ofSequence : MethodName := ⟨RL, "ofSequence", "(LShuffleHall;II[J)I"⟩
abbrev cL_period : ByteArray := method_18_code
def yL_period : MethodName := ⟨RL, "period", "(LShuffleHall;II[J)I"⟩
abbrev cL_many : ByteArray := method_19_code
def yL_many : MethodName := ⟨RL, "many", "(LShuffleHall;I[J)I"⟩
abbrev cL_toTop : ByteArray := method_20_code
def yL_toTop : MethodName := ⟨RL, "toTop", "(LShuffleHall;II[J)I"⟩
abbrev cL_goes : ByteArray := method_21_code
def yL_goes : MethodName := ⟨RL, "goes", "(LShuffleHall;IIII[J)I"⟩
abbrev cL_best : ByteArray := method_22_code
def yL_best : MethodName := ⟨RL, "best", "(LShuffleHall;I[J)I"⟩
abbrev cL_riffle : ByteArray := method_23_code
def yL_riffle : MethodName := ⟨RL, "riffle", "(LShuffleHall;I[J)I"⟩
abbrev cL_law : ByteArray := code
def yL_law : MethodName := ⟨RL, "law", "([I)Z"⟩
abbrev vwCl : List vw_C := [(RJx35411, TJx35411, 4), (RJx4a65c, TJx4a65c, 3), (RX1, TX1, 4), (RX3, TX3, 3), (RX4, TX4, 3), (RX6, TX6, 8), (RX7, TX7, 5), (RX8, TX8, 2), (RX9, TX9, 5)]
