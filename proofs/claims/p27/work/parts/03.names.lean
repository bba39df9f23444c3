def RX0 : String := "SlantSlate$Drawing"
def TX0 : u_T := fun k => match k with
  | 0 => ("SlantSlate$Drawing", "kinds", "[I", true)
  | 1 => ("SlantSlate$Drawing", "heads", "[I", true)
  | 2 => ("SlantSlate$Drawing", "ways", "[I", true)
  | 3 => ("SlantSlate$Drawing", "levels", "[I", true)
  | 4 => ("SlantSlate$Drawing", "loads", "[I", true)
  | 5 => ("SlantSlate$Drawing", "turns", "[I", true)
  | 6 => ("SlantSlate$Drawing", "size", "I", false)
  | _ => ("SlantSlate$Drawing", "turn", "I", false)
def tyX0 : Nat → FieldType := fun k => match k with
  | 0 => .array .int
  | 1 => .array .int
  | 2 => .array .int
  | 3 => .array .int
  | 4 => .array .int
  | 5 => .array .int
  | 6 => .int
  | _ => .int
theorem nmX0 : ∀ a, a < 8 → ∀ b, b < 8 → a ≠ b → (TX0 a).2.1 ≠ (TX0 b).2.1 := by decide +kernel
theorem tyX0_ok : ∀ k, k < 8 → parseFieldDescriptor (TX0 k).2.2.1 = some (tyX0 k) := by decide +kernel
abbrev cX0_init : ByteArray := prog_2_method_1_code
def yX0_init : MethodName := ⟨RX0, "<init>", "()V"⟩
abbrev cX0_trace : ByteArray := prog_2_method_2_code
def yX0_trace : MethodName := ⟨RX0, "trace", "(LSlantSlate$State;J)V"⟩
abbrev cX0_property : ByteArray := prog_2_method_3_code
def yX0_property : MethodName := ⟨RX0, "property", "(II)I"⟩
abbrev cX0_height : ByteArray := prog_2_method_5_code
def yX0_height : MethodName := ⟨RX0, "height", "()I"⟩
abbrev cX0_wordsOfKind : ByteArray := prog_2_method_6_code
def yX0_wordsOfKind : MethodName := ⟨RX0, "wordsOfKind", "(I)I"⟩
abbrev cX0_wordsHeld : ByteArray := prog_2_method_7_code
def yX0_wordsHeld : MethodName := ⟨RX0, "wordsHeld", "(I)I"⟩
abbrev cX0_greatestLoad : ByteArray := prog_2_method_8_code
def yX0_greatestLoad : MethodName := ⟨RX0, "greatestLoad", "()I"⟩
abbrev cX0_isWord : ByteArray := prog_2_method_9_code
def yX0_isWord : MethodName := ⟨RX0, "isWord", "(I)Z"⟩
abbrev cX0_wayOf : ByteArray := prog_2_method_10_code
def yX0_wayOf : MethodName := ⟨RX0, "wayOf", "(IIII)I"⟩
abbrev cX0_levelOf : ByteArray := prog_2_method_11_code
def yX0_levelOf : MethodName := ⟨RX0, "levelOf", "(I)I"⟩
abbrev cX0_riseOf : ByteArray := prog_2_method_12_code
def yX0_riseOf : MethodName := ⟨RX0, "riseOf", "(II)I"⟩
abbrev cX0_readAlong : ByteArray := prog_2_method_13_code
def yX0_readAlong : MethodName := ⟨RX0, "readAlong", "(II)V"⟩
def RX1 : String := "SlantSlate$Grid"
def TX1 : u_T := fun k => match k with
  | _ => ("SlantSlate$Grid", "cells", "[I", true)
def tyX1 : Nat → FieldType := fun k => match k with
  | _ => .array .int
theorem nmX1 : ∀ a, a < 1 → ∀ b, b < 1 → a ≠ b → (TX1 a).2.1 ≠ (TX1 b).2.1 := by decide +kernel
theorem tyX1_ok : ∀ k, k < 1 → parseFieldDescriptor (TX1 k).2.2.1 = some (tyX1 k) := by decide +kernel
abbrev cX1_init : ByteArray := prog_3_method_1_code
def yX1_init : MethodName := ⟨RX1, "<init>", "()V"⟩
abbrev cX1_at : ByteArray := prog_3_method_2_code
def yX1_at : MethodName := ⟨RX1, "at", "(II)I"⟩
abbrev cX1_atOrEmpty : ByteArray := prog_3_method_3_code
def yX1_atOrEmpty : MethodName := ⟨RX1, "atOrEmpty", "(II)I"⟩
abbrev cX1_put : ByteArray := prog_3_method_4_code
def yX1_put : MethodName := ⟨RX1, "put", "(III)V"⟩
def RX2 : String := "SlantSlate$Parts"
def TX2 : u_T := fun k => match k with
  | 0 => ("SlantSlate$Parts", "names", "LSlantSlate$Grid;", true)
  | 1 => ("SlantSlate$Parts", "groups", "LSlantSlate$Grid;", true)
  | 2 => ("SlantSlate$Parts", "phrases", "LSlantSlate$Grid;", true)
  | 3 => ("SlantSlate$Parts", "clauses", "LSlantSlate$Grid;", true)
  | 4 => ("SlantSlate$Parts", "hangings", "LSlantSlate$Grid;", true)
  | 5 => ("SlantSlate$Parts", "phraseRows", "LSlantSlate$Grid;", true)
  | _ => ("SlantSlate$Parts", "verbTails", "LSlantSlate$Grid;", true)
def tyX2 : Nat → FieldType := fun k => match k with
  | 0 => .object "SlantSlate$Grid"
  | 1 => .object "SlantSlate$Grid"
  | 2 => .object "SlantSlate$Grid"
  | 3 => .object "SlantSlate$Grid"
  | 4 => .object "SlantSlate$Grid"
  | 5 => .object "SlantSlate$Grid"
  | _ => .object "SlantSlate$Grid"
theorem nmX2 : ∀ a, a < 7 → ∀ b, b < 7 → a ≠ b → (TX2 a).2.1 ≠ (TX2 b).2.1 := by decide +kernel
theorem tyX2_ok : ∀ k, k < 7 → parseFieldDescriptor (TX2 k).2.2.1 = some (tyX2 k) := by decide +kernel
abbrev cX2_init : ByteArray := prog_4_method_1_code
def yX2_init : MethodName := ⟨RX2, "<init>", "()V"⟩
abbrev cX2_ways : ByteArray := prog_4_method_2_code
def yX2_ways : MethodName := ⟨RX2, "ways", "(III)I"⟩
abbrev cX2_tell : ByteArray := prog_4_method_3_code
def yX2_tell : MethodName := ⟨RX2, "tell", "(LSlantSlate$State;)V"⟩
abbrev cX2_nameWays : ByteArray := prog_4_method_4_code
def yX2_nameWays : MethodName := ⟨RX2, "nameWays", "(LSlantSlate$State;II)I"⟩
abbrev cX2_groupWays : ByteArray := prog_4_method_5_code
def yX2_groupWays : MethodName := ⟨RX2, "groupWays", "(LSlantSlate$State;II)I"⟩
abbrev cX2_phraseRowWays : ByteArray := prog_4_method_6_code
def yX2_phraseRowWays : MethodName := ⟨RX2, "phraseRowWays", "(II)I"⟩
abbrev cX2_hangingWays : ByteArray := prog_4_method_7_code
def yX2_hangingWays : MethodName := ⟨RX2, "hangingWays", "(LSlantSlate$State;II)I"⟩
abbrev cX2_clauseWays : ByteArray := prog_4_method_8_code
def yX2_clauseWays : MethodName := ⟨RX2, "clauseWays", "(LSlantSlate$State;II)I"⟩
abbrev cX2_verbTailWays : ByteArray := prog_4_method_9_code
def yX2_verbTailWays : MethodName := ⟨RX2, "verbTailWays", "(LSlantSlate$State;II)I"⟩
def RX3 : String := "SlantSlate$Readings"
def TX3 : u_T := fun k => match k with
  | 0 => ("SlantSlate$Readings", "codes", "[J", true)
  | 1 => ("SlantSlate$Readings", "total", "I", false)
  | 2 => ("SlantSlate$Readings", "kinds", "[I", true)
  | 3 => ("SlantSlate$Readings", "heads", "[I", true)
  | _ => ("SlantSlate$Readings", "size", "I", false)
def tyX3 : Nat → FieldType := fun k => match k with
  | 0 => .array .long
  | 1 => .int
  | 2 => .array .int
  | 3 => .array .int
  | _ => .int
theorem nmX3 : ∀ a, a < 5 → ∀ b, b < 5 → a ≠ b → (TX3 a).2.1 ≠ (TX3 b).2.1 := by decide +kernel
theorem tyX3_ok : ∀ k, k < 5 → parseFieldDescriptor (TX3 k).2.2.1 = some (tyX3 k) := by decide +kernel
abbrev cX3_init : ByteArray := prog_5_method_1_code
def yX3_init : MethodName := ⟨RX3, "<init>", "()V"⟩
abbrev cX3_total : ByteArray := prog_5_method_2_code
def yX3_total : MethodName := ⟨RX3, "total", "()I"⟩
abbrev cX3_codeAt : ByteArray := prog_5_method_3_code
def yX3_codeAt : MethodName := ⟨RX3, "codeAt", "(I)J"⟩
abbrev cX3_headIn : ByteArray := prog_5_method_4_code
def yX3_headIn : MethodName := ⟨RX3, "headIn", "(JI)I"⟩
abbrev cX3_tell : ByteArray := prog_5_method_5_code
def yX3_tell : MethodName := ⟨RX3, "tell", "(LSlantSlate$State;)V"⟩
abbrev cX3_kindAt : ByteArray := prog_5_method_6_code
def yX3_kindAt : MethodName := ⟨RX3, "kindAt", "(I)I"⟩
abbrev cX3_headAt : ByteArray := prog_5_method_7_code
def yX3_headAt : MethodName := ⟨RX3, "headAt", "(I)I"⟩
abbrev cX3_setHead : ByteArray := prog_5_method_8_code
def yX3_setHead : MethodName := ⟨RX3, "setHead", "(II)V"⟩
abbrev cX3_setForcedHeads : ByteArray := prog_5_method_9_code
def yX3_setForcedHeads : MethodName := ⟨RX3, "setForcedHeads", "()Z"⟩
abbrev cX3_hangNoun : ByteArray := prog_5_method_10_code
def yX3_hangNoun : MethodName := ⟨RX3, "hangNoun", "(I)Z"⟩
abbrev cX3_followersOf : ByteArray := prog_5_method_11_code
def yX3_followersOf : MethodName := ⟨RX3, "followersOf", "(I)I"⟩
abbrev cX3_inMask : ByteArray := prog_5_method_12_code
def yX3_inMask : MethodName := ⟨RX3, "inMask", "(II)Z"⟩
abbrev cX3_hangFrom : ByteArray := prog_5_method_13_code
def yX3_hangFrom : MethodName := ⟨RX3, "hangFrom", "(I)V"⟩
abbrev cX3_openBehind : ByteArray := prog_5_method_14_code
def yX3_openBehind : MethodName := ⟨RX3, "openBehind", "(I)I"⟩
abbrev cX3_canHold : ByteArray := prog_5_method_15_code
def yX3_canHold : MethodName := ⟨RX3, "canHold", "(II)Z"⟩
abbrev cX3_isJoined : ByteArray := prog_5_method_16_code
def yX3_isJoined : MethodName := ⟨RX3, "isJoined", "(II)Z"⟩
abbrev cX3_pushReading : ByteArray := prog_5_method_17_code
def yX3_pushReading : MethodName := ⟨RX3, "pushReading", "()V"⟩
def RX4 : String := "SlantSlate$State"
def TX4 : u_T := fun k => match k with
  | 0 => ("SlantSlate$State", "kinds", "[I", true)
  | 1 => ("SlantSlate$State", "fixed", "[I", true)
  | 2 => ("SlantSlate$State", "size", "I", false)
  | _ => ("SlantSlate$State", "drawn", "I", false)
def tyX4 : Nat → FieldType := fun k => match k with
  | 0 => .array .int
  | 1 => .array .int
  | 2 => .int
  | _ => .int
theorem nmX4 : ∀ a, a < 4 → ∀ b, b < 4 → a ≠ b → (TX4 a).2.1 ≠ (TX4 b).2.1 := by decide +kernel
theorem tyX4_ok : ∀ k, k < 4 → parseFieldDescriptor (TX4 k).2.2.1 = some (tyX4 k) := by decide +kernel
abbrev cX4_init : ByteArray := prog_6_method_1_code
def yX4_init : MethodName := ⟨RX4, "<init>", "()V"⟩
abbrev cX4_take : ByteArray := prog_6_method_2_code
def yX4_take : MethodName := ⟨RX4, "take", "(LSlantSlate$State;)V"⟩
abbrev cX4_size : ByteArray := prog_6_method_3_code
def yX4_size : MethodName := ⟨RX4, "size", "()I"⟩
abbrev cX4_has : ByteArray := prog_6_method_4_code
def yX4_has : MethodName := ⟨RX4, "has", "(I)Z"⟩
abbrev cX4_kindAt : ByteArray := prog_6_method_5_code
def yX4_kindAt : MethodName := ⟨RX4, "kindAt", "(I)I"⟩
abbrev cX4_fixedAt : ByteArray := prog_6_method_6_code
def yX4_fixedAt : MethodName := ⟨RX4, "fixedAt", "(I)I"⟩
abbrev cX4_drawn : ByteArray := prog_6_method_7_code
def yX4_drawn : MethodName := ⟨RX4, "drawn", "()I"⟩
abbrev cX4_fixedWords : ByteArray := prog_6_method_8_code
def yX4_fixedWords : MethodName := ⟨RX4, "fixedWords", "()I"⟩
abbrev cX4_pushWord : ByteArray := prog_6_method_10_code
def yX4_pushWord : MethodName := ⟨RX4, "pushWord", "(I)V"⟩
abbrev cX4_dropWord : ByteArray := prog_6_method_11_code
def yX4_dropWord : MethodName := ⟨RX4, "dropWord", "(I)V"⟩
abbrev cX4_setKind : ByteArray := prog_6_method_12_code
def yX4_setKind : MethodName := ⟨RX4, "setKind", "(II)V"⟩
abbrev cX4_setFixed : ByteArray := prog_6_method_13_code
def yX4_setFixed : MethodName := ⟨RX4, "setFixed", "(II)V"⟩
abbrev cX4_loosenAll : ByteArray := prog_6_method_14_code
def yX4_loosenAll : MethodName := ⟨RX4, "loosenAll", "()V"⟩
abbrev cX4_setDrawn : ByteArray := prog_6_method_15_code
def yX4_setDrawn : MethodName := ⟨RX4, "setDrawn", "(I)V"⟩
def RX5 : String := "SlantSlate$States"
def TX5 : u_T := fun k => match k with
  | _ => ("SlantSlate$States", "row", "Ljava/util/ArrayList;", true)
def tyX5 : Nat → FieldType := fun k => match k with
  | _ => .object "java/util/ArrayList"
theorem nmX5 : ∀ a, a < 1 → ∀ b, b < 1 → a ≠ b → (TX5 a).2.1 ≠ (TX5 b).2.1 := by decide +kernel
theorem tyX5_ok : ∀ k, k < 1 → parseFieldDescriptor (TX5 k).2.2.1 = some (tyX5 k) := by decide +kernel
abbrev cX5_init : ByteArray := prog_7_method_1_code
def yX5_init : MethodName := ⟨RX5, "<init>", "(I)V"⟩
abbrev cX5_put : ByteArray := prog_7_method_2_code
def yX5_put : MethodName := ⟨RX5, "put", "(ILSlantSlate$State;)V"⟩
abbrev cX5_copyTo : ByteArray := prog_7_method_3_code
def yX5_copyTo : MethodName := ⟨RX5, "copyTo", "(ILSlantSlate$State;)V"⟩
abbrev cX5_turnFirst : ByteArray := prog_7_method_4_code
def yX5_turnFirst : MethodName := ⟨RX5, "turnFirst", "()V"⟩
def RX6 : String := "SlantSlate"
def TX6 : u_T := fun k => match k with
  | 0 => ("SlantSlate", "state", "LSlantSlate$State;", true)
  | 1 => ("SlantSlate", "readings", "LSlantSlate$Readings;", true)
  | 2 => ("SlantSlate", "parts", "LSlantSlate$Parts;", true)
  | 3 => ("SlantSlate", "left", "[I", true)
  | 4 => ("SlantSlate", "leftCount", "I", false)
  | 5 => ("SlantSlate", "drawn", "LSlantSlate$Drawing;", true)
  | 6 => ("SlantSlate", "other", "LSlantSlate$Drawing;", true)
  | 7 => ("SlantSlate", "trial", "LSlantSlate$State;", true)
  | 8 => ("SlantSlate", "trialReadings", "LSlantSlate$Readings;", true)
  | 9 => ("SlantSlate", "saved", "LSlantSlate$States;", true)
  | 10 => ("SlantSlate", "savedCount", "I", false)
  | 11 => ("SlantSlate", "slots", "LSlantSlate$States;", true)
  | 12 => ("SlantSlate", "slotFilled", "[Z", true)
  | 13 => ("SlantSlate", "buffer", "[I", true)
  | _ => ("SlantSlate", "bufferLength", "I", false)
def tyX6 : Nat → FieldType := fun k => match k with
  | 0 => .object "SlantSlate$State"
  | 1 => .object "SlantSlate$Readings"
  | 2 => .object "SlantSlate$Parts"
  | 3 => .array .int
  | 4 => .int
  | 5 => .object "SlantSlate$Drawing"
  | 6 => .object "SlantSlate$Drawing"
  | 7 => .object "SlantSlate$State"
  | 8 => .object "SlantSlate$Readings"
  | 9 => .object "SlantSlate$States"
  | 10 => .int
  | 11 => .object "SlantSlate$States"
  | 12 => .array .boolean
  | 13 => .array .int
  | _ => .int
theorem nmX6 : ∀ a, a < 15 → ∀ b, b < 15 → a ≠ b → (TX6 a).2.1 ≠ (TX6 b).2.1 := by decide +kernel
theorem tyX6_ok : ∀ k, k < 15 → parseFieldDescriptor (TX6 k).2.2.1 = some (tyX6 k) := by decide +kernel
abbrev cX6_init : ByteArray := prog_1_method_1_code
def yX6_init : MethodName := ⟨RX6, "<init>", "()V"⟩
abbrev cX6_add : ByteArray := prog_1_method_2_code
def yX6_add : MethodName := ⟨RX6, "add", "(I)I"⟩
abbrev cX6_change : ByteArray := prog_1_method_3_code
def yX6_change : MethodName := ⟨RX6, "change", "(II)I"⟩
abbrev cX6_wipe : ByteArray := prog_1_method_4_code
def yX6_wipe : MethodName := ⟨RX6, "wipe", "(I)I"⟩
abbrev cX6_fix : ByteArray := prog_1_method_5_code
def yX6_fix : MethodName := ⟨RX6, "fix", "(II)I"⟩
abbrev cX6_loosen : ByteArray := prog_1_method_6_code
def yX6_loosen : MethodName := ⟨RX6, "loosen", "(I)I"⟩
abbrev cX6_draw : ByteArray := prog_1_method_7_code
def yX6_draw : MethodName := ⟨RX6, "draw", "(I)I"⟩
abbrev cX6_flatten : ByteArray := prog_1_method_8_code
def yX6_flatten : MethodName := ⟨RX6, "flatten", "()I"⟩
abbrev cX6_undo : ByteArray := prog_1_method_16_code
def yX6_undo : MethodName := ⟨RX6, "undo", "()I"⟩
abbrev cX6_wordOf : ByteArray := prog_1_method_17_code
def yX6_wordOf : MethodName := ⟨RX6, "wordOf", "(II)I"⟩
abbrev cX6_readingOf : ByteArray := prog_1_method_18_code
def yX6_readingOf : MethodName := ⟨RX6, "readingOf", "(II)I"⟩
abbrev cX6_count : ByteArray := prog_1_method_19_code
def yX6_count : MethodName := ⟨RX6, "count", "(I)I"⟩
abbrev cX6_ifFixed : ByteArray := prog_1_method_21_code
def yX6_ifFixed : MethodName := ⟨RX6, "ifFixed", "(II)I"⟩
abbrev cX6_question : ByteArray := prog_1_method_22_code
def yX6_question : MethodName := ⟨RX6, "question", "()I"⟩
abbrev cX6_next : ByteArray := prog_1_method_23_code
def yX6_next : MethodName := ⟨RX6, "next", "()I"⟩
abbrev cX6_sureShare : ByteArray := prog_1_method_24_code
def yX6_sureShare : MethodName := ⟨RX6, "sureShare", "()D"⟩
abbrev cX6_needKind : ByteArray := prog_1_method_26_code
def yX6_needKind : MethodName := ⟨RX6, "needKind", "(I)V"⟩
abbrev cX6_needWord : ByteArray := prog_1_method_27_code
def yX6_needWord : MethodName := ⟨RX6, "needWord", "(I)V"⟩
abbrev cX6_needHead : ByteArray := prog_1_method_28_code
def yX6_needHead : MethodName := ⟨RX6, "needHead", "(II)V"⟩
abbrev cX6_needReading : ByteArray := prog_1_method_29_code
def yX6_needReading : MethodName := ⟨RX6, "needReading", "(I)V"⟩
abbrev cX6_needAsked : ByteArray := prog_1_method_31_code
def yX6_needAsked : MethodName := ⟨RX6, "needAsked", "(II)V"⟩
abbrev cX6_saveState : ByteArray := prog_1_method_32_code
def yX6_saveState : MethodName := ⟨RX6, "saveState", "()V"⟩
abbrev cX6_beginSentence : ByteArray := prog_1_method_33_code
def yX6_beginSentence : MethodName := ⟨RX6, "beginSentence", "()I"⟩
abbrev cX6_beginHeads : ByteArray := prog_1_method_34_code
def yX6_beginHeads : MethodName := ⟨RX6, "beginHeads", "()I"⟩
abbrev cX6_tellReadings : ByteArray := prog_1_method_35_code
def yX6_tellReadings : MethodName := ⟨RX6, "tellReadings", "()V"⟩
abbrev cX6_tellLeft : ByteArray := prog_1_method_36_code
def yX6_tellLeft : MethodName := ⟨RX6, "tellLeft", "()V"⟩
abbrev cX6_drawAgain : ByteArray := prog_1_method_37_code
def yX6_drawAgain : MethodName := ⟨RX6, "drawAgain", "()V"⟩
abbrev cX6_fits : ByteArray := prog_1_method_38_code
def yX6_fits : MethodName := ⟨RX6, "fits", "(JI)Z"⟩
abbrev cX6_rankAmongAll : ByteArray := prog_1_method_39_code
def yX6_rankAmongAll : MethodName := ⟨RX6, "rankAmongAll", "(I)I"⟩
abbrev cX6_leftCode : ByteArray := prog_1_method_40_code
def yX6_leftCode : MethodName := ⟨RX6, "leftCode", "(I)J"⟩
abbrev cX6_flattestRank : ByteArray := prog_1_method_41_code
def yX6_flattestRank : MethodName := ⟨RX6, "flattestRank", "()I"⟩
abbrev cX6_wordProperty : ByteArray := prog_1_method_47_code
def yX6_wordProperty : MethodName := ⟨RX6, "wordProperty", "(II)I"⟩
abbrev cX6_readingProperty : ByteArray := prog_1_method_48_code
def yX6_readingProperty : MethodName := ⟨RX6, "readingProperty", "(II)I"⟩
abbrev cX6_number : ByteArray := prog_1_method_49_code
def yX6_number : MethodName := ⟨RX6, "number", "(I)I"⟩
abbrev cX6_leftIf : ByteArray := prog_1_method_50_code
def yX6_leftIf : MethodName := ⟨RX6, "leftIf", "(II)I"⟩
abbrev cX6_headsLeft : ByteArray := prog_1_method_51_code
def yX6_headsLeft : MethodName := ⟨RX6, "headsLeft", "(I)I"⟩
abbrev cX6_openWords : ByteArray := prog_1_method_52_code
def yX6_openWords : MethodName := ⟨RX6, "openWords", "()I"⟩
abbrev cX6_bestQuestion : ByteArray := prog_1_method_53_code
def yX6_bestQuestion : MethodName := ⟨RX6, "bestQuestion", "()I"⟩
abbrev cX6_mostLeftBehind : ByteArray := prog_1_method_54_code
def yX6_mostLeftBehind : MethodName := ⟨RX6, "mostLeftBehind", "(I)I"⟩
abbrev cX6_share : ByteArray := prog_1_method_55_code
def yX6_share : MethodName := ⟨RX6, "share", "()D"⟩
abbrev cX6_kindsToAdd : ByteArray := prog_1_method_56_code
def yX6_kindsToAdd : MethodName := ⟨RX6, "kindsToAdd", "()I"⟩
def RX7 : String := "SlantSlateModel"
def TX7 : u_T := fun k => match k with
  | _ => ("", "", "", false)
def tyX7 : Nat → FieldType := fun k => match k with
  | _ => .int
theorem nmX7 : ∀ a, a < 0 → ∀ b, b < 0 → a ≠ b → (TX7 a).2.1 ≠ (TX7 b).2.1 := by decide +kernel
theorem tyX7_ok : ∀ k, k < 0 → parseFieldDescriptor (TX7 k).2.2.1 = some (tyX7 k) := by decide +kernel
def RJx145de : String := "java/io/Serializable"
def TJx145de : u_T := fun k => match k with
  | _ => ("", "", "", false)
def tyJx145de : Nat → FieldType := fun k => match k with
  | _ => .int
theorem nmJx145de : ∀ a, a < 0 → ∀ b, b < 0 → a ≠ b → (TJx145de a).2.1 ≠ (TJx145de b).2.1 := by decide +kernel
theorem tyJx145de_ok : ∀ k, k < 0 → parseFieldDescriptor (TJx145de k).2.2.1 = some (tyJx145de k) := by decide +kernel
def RJx8e188 : String := "java/lang/Cloneable"
def TJx8e188 : u_T := fun k => match k with
  | _ => ("", "", "", false)
def tyJx8e188 : Nat → FieldType := fun k => match k with
  | _ => .int
theorem nmJx8e188 : ∀ a, a < 0 → ∀ b, b < 0 → a ≠ b → (TJx8e188 a).2.1 ≠ (TJx8e188 b).2.1 := by decide +kernel
theorem tyJx8e188_ok : ∀ k, k < 0 → parseFieldDescriptor (TJx8e188 k).2.2.1 = some (tyJx8e188 k) := by decide +kernel
def RJ6 : String := "java/lang/Integer"
def TJ6 : u_T := fun k => match k with
  | _ => ("", "", "", false)
def tyJ6 : Nat → FieldType := fun k => match k with
  | _ => .int
theorem nmJ6 : ∀ a, a < 0 → ∀ b, b < 0 → a ≠ b → (TJ6 a).2.1 ≠ (TJ6 b).2.1 := by decide +kernel
theorem tyJ6_ok : ∀ k, k < 0 → parseFieldDescriptor (TJ6 k).2.2.1 = some (tyJ6 k) := by decide +kernel
abbrev cJ6_bitCount_0f7a4 : ByteArray := prog_16_method_49_code
def yJ6_bitCount_0f7a4 : MethodName := ⟨RJ6, "bitCount", "(I)I"⟩
def RJxab1ab : String := "java/lang/Iterable"
def TJxab1ab : u_T := fun k => match k with
  | _ => ("", "", "", false)
def tyJxab1ab : Nat → FieldType := fun k => match k with
  | _ => .int
theorem nmJxab1ab : ∀ a, a < 0 → ∀ b, b < 0 → a ≠ b → (TJxab1ab a).2.1 ≠ (TJxab1ab b).2.1 := by decide +kernel
theorem tyJxab1ab_ok : ∀ k, k < 0 → parseFieldDescriptor (TJxab1ab k).2.2.1 = some (tyJxab1ab k) := by decide +kernel
def RJ9 : String := "java/lang/Math"
def TJ9 : u_T := fun k => match k with
  | _ => ("", "", "", false)
def tyJ9 : Nat → FieldType := fun k => match k with
  | _ => .int
theorem nmJ9 : ∀ a, a < 0 → ∀ b, b < 0 → a ≠ b → (TJ9 a).2.1 ≠ (TJ9 b).2.1 := by decide +kernel
theorem tyJ9_ok : ∀ k, k < 0 → parseFieldDescriptor (TJ9 k).2.2.1 = some (tyJ9 k) := by decide +kernel
abbrev cJ9_max_7cf53 : ByteArray := prog_18_method_65_code
def yJ9_max_7cf53 : MethodName := ⟨RJ9, "max", "(II)I"⟩
abbrev cJ9_min_7cf53 : ByteArray := prog_18_method_69_code
def yJ9_min_7cf53 : MethodName := ⟨RJ9, "min", "(II)I"⟩
def RJ0 : String := "java/lang/String"
def TJ0 : u_T := fun k => match k with
  | _ => ("", "", "", false)
def tyJ0 : Nat → FieldType := fun k => match k with
  | _ => .int
theorem nmJ0 : ∀ a, a < 0 → ∀ b, b < 0 → a ≠ b → (TJ0 a).2.1 ≠ (TJ0 b).2.1 := by decide +kernel
theorem tyJ0_ok : ∀ k, k < 0 → parseFieldDescriptor (TJ0 k).2.2.1 = some (tyJ0 k) := by decide +kernel
def RJ10 : String := "java/lang/System"
def TJ10 : u_T := fun k => match k with
  | _ => ("", "", "", false)
def tyJ10 : Nat → FieldType := fun k => match k with
  | _ => .int
theorem nmJ10 : ∀ a, a < 0 → ∀ b, b < 0 → a ≠ b → (TJ10 a).2.1 ≠ (TJ10 b).2.1 := by decide +kernel
theorem tyJ10_ok : ∀ k, k < 0 → parseFieldDescriptor (TJ10 k).2.2.1 = some (tyJ10 k) := by decide +kernel
def RJxa1e45 : String := "java/util/AbstractCollection"
def TJxa1e45 : u_T := fun k => match k with
  | _ => ("", "", "", false)
def tyJxa1e45 : Nat → FieldType := fun k => match k with
  | _ => .int
theorem nmJxa1e45 : ∀ a, a < 0 → ∀ b, b < 0 → a ≠ b → (TJxa1e45 a).2.1 ≠ (TJxa1e45 b).2.1 := by decide +kernel
theorem tyJxa1e45_ok : ∀ k, k < 0 → parseFieldDescriptor (TJxa1e45 k).2.2.1 = some (tyJxa1e45 k) := by decide +kernel
abbrev cJxa1e45_init_da8c8 : ByteArray := prog_23_method_1_code
def yJxa1e45_init_da8c8 : MethodName := ⟨RJxa1e45, "<init>", "()V"⟩
def RJxc12de : String := "java/util/AbstractList"
def TJxc12de : u_T := fun k => match k with
  | _ => ("", "", "", false)
def tyJxc12de : Nat → FieldType := fun k => match k with
  | _ => .int
theorem nmJxc12de : ∀ a, a < 0 → ∀ b, b < 0 → a ≠ b → (TJxc12de a).2.1 ≠ (TJxc12de b).2.1 := by decide +kernel
theorem tyJxc12de_ok : ∀ k, k < 0 → parseFieldDescriptor (TJxc12de k).2.2.1 = some (tyJxc12de k) := by decide +kernel
abbrev cJxc12de_init_da8c8 : ByteArray := prog_24_method_1_code
def yJxc12de_init_da8c8 : MethodName := ⟨RJxc12de, "<init>", "()V"⟩
def RJx4a65c : String := "java/util/ArrayList"
def TJx4a65c : u_T := fun k => match k with
  | 0 => ("java/util/AbstractList", "modCount", "I", false)
  | 1 => ("java/util/ArrayList", "elementData", "[Ljava/lang/Object;", false)
  | _ => ("java/util/ArrayList", "size", "I", false)
def tyJx4a65c : Nat → FieldType := fun k => match k with
  | 0 => .int
  | 1 => .array (.object "java/lang/Object")
  | _ => .int
theorem nmJx4a65c : ∀ a, a < 3 → ∀ b, b < 3 → a ≠ b → (TJx4a65c a).2.1 ≠ (TJx4a65c b).2.1 := by decide +kernel
theorem tyJx4a65c_ok : ∀ k, k < 3 → parseFieldDescriptor (TJx4a65c k).2.2.1 = some (tyJx4a65c k) := by decide +kernel
abbrev cJx4a65c_init_da8c8 : ByteArray := prog_25_method_2_code
def yJx4a65c_init_da8c8 : MethodName := ⟨RJx4a65c, "<init>", "()V"⟩
abbrev cJx4a65c_grow_92f84 : ByteArray := prog_25_method_6_code
def yJx4a65c_grow_92f84 : MethodName := ⟨RJx4a65c, "grow", "(I)[Ljava/lang/Object;"⟩
abbrev cJx4a65c_grow_d5877 : ByteArray := prog_25_method_7_code
def yJx4a65c_grow_d5877 : MethodName := ⟨RJx4a65c, "grow", "()[Ljava/lang/Object;"⟩
abbrev cJx4a65c_size_8abf5 : ByteArray := prog_25_method_8_code
def yJx4a65c_size_8abf5 : MethodName := ⟨RJx4a65c, "size", "()I"⟩
abbrev cJx4a65c_elementData_915e3 : ByteArray := prog_25_method_18_code
def yJx4a65c_elementData_915e3 : MethodName := ⟨RJx4a65c, "elementData", "(I)Ljava/lang/Object;"⟩
abbrev cJx4a65c_get_915e3 : ByteArray := prog_25_method_20_code
def yJx4a65c_get_915e3 : MethodName := ⟨RJx4a65c, "get", "(I)Ljava/lang/Object;"⟩
abbrev cJx4a65c_add_72be8 : ByteArray := prog_25_method_24_code
def yJx4a65c_add_72be8 : MethodName := ⟨RJx4a65c, "add", "(Ljava/lang/Object;[Ljava/lang/Object;I)V"⟩
abbrev cJx4a65c_add_9ea2d : ByteArray := prog_25_method_25_code
def yJx4a65c_add_9ea2d : MethodName := ⟨RJx4a65c, "add", "(Ljava/lang/Object;)Z"⟩
abbrev cJx4a65c_remove_915e3 : ByteArray := prog_25_method_29_code
def yJx4a65c_remove_915e3 : MethodName := ⟨RJx4a65c, "remove", "(I)Ljava/lang/Object;"⟩
abbrev cJx4a65c_fastRemove_b59b0 : ByteArray := prog_25_method_39_code
def yJx4a65c_fastRemove_b59b0 : MethodName := ⟨RJx4a65c, "fastRemove", "([Ljava/lang/Object;I)V"⟩
def RJ7 : String := "java/util/Arrays"
def TJ7 : u_T := fun k => match k with
  | _ => ("", "", "", false)
def tyJ7 : Nat → FieldType := fun k => match k with
  | _ => .int
theorem nmJ7 : ∀ a, a < 0 → ∀ b, b < 0 → a ≠ b → (TJ7 a).2.1 ≠ (TJ7 b).2.1 := by decide +kernel
theorem tyJ7_ok : ∀ k, k < 0 → parseFieldDescriptor (TJ7 k).2.2.1 = some (tyJ7 k) := by decide +kernel
abbrev cJ7_fill_53178 : ByteArray := prog_26_method_103_code
def yJ7_fill_53178 : MethodName := ⟨RJ7, "fill", "([II)V"⟩
abbrev cJ7_copyOf_1904c : ByteArray := prog_26_method_119_code
def yJ7_copyOf_1904c : MethodName := ⟨RJ7, "copyOf", "([Ljava/lang/Object;I)[Ljava/lang/Object;"⟩
abbrev cJ7_copyOf_6403c : ByteArray := prog_26_method_120_code
def yJ7_copyOf_6403c : MethodName := ⟨RJ7, "copyOf", "([Ljava/lang/Object;ILjava/lang/Class;)[Ljava/lang/Object;"⟩
def RJx5ef63 : String := "java/util/Collection"
def TJx5ef63 : u_T := fun k => match k with
  | _ => ("", "", "", false)
def tyJx5ef63 : Nat → FieldType := fun k => match k with
  | _ => .int
theorem nmJx5ef63 : ∀ a, a < 0 → ∀ b, b < 0 → a ≠ b → (TJx5ef63 a).2.1 ≠ (TJx5ef63 b).2.1 := by decide +kernel
theorem tyJx5ef63_ok : ∀ k, k < 0 → parseFieldDescriptor (TJx5ef63 k).2.2.1 = some (tyJx5ef63 k) := by decide +kernel
def RJxbd725 : String := "java/util/List"
def TJxbd725 : u_T := fun k => match k with
  | _ => ("", "", "", false)
def tyJxbd725 : Nat → FieldType := fun k => match k with
  | _ => .int
theorem nmJxbd725 : ∀ a, a < 0 → ∀ b, b < 0 → a ≠ b → (TJxbd725 a).2.1 ≠ (TJxbd725 b).2.1 := by decide +kernel
theorem tyJxbd725_ok : ∀ k, k < 0 → parseFieldDescriptor (TJxbd725 k).2.2.1 = some (tyJxbd725 k) := by decide +kernel
def RJ15 : String := "java/util/Objects"
def TJ15 : u_T := fun k => match k with
  | _ => ("", "", "", false)
def tyJ15 : Nat → FieldType := fun k => match k with
  | _ => .int
theorem nmJ15 : ∀ a, a < 0 → ∀ b, b < 0 → a ≠ b → (TJ15 a).2.1 ≠ (TJ15 b).2.1 := by decide +kernel
theorem tyJ15_ok : ∀ k, k < 0 → parseFieldDescriptor (TJ15 k).2.2.1 = some (tyJ15 k) := by decide +kernel
abbrev cJ15_checkIndex_7cf53 : ByteArray := prog_29_method_17_code
def yJ15_checkIndex_7cf53 : MethodName := ⟨RJ15, "checkIndex", "(II)I"⟩
def RJxf0a74 : String := "java/util/RandomAccess"
def TJxf0a74 : u_T := fun k => match k with
  | _ => ("", "", "", false)
def tyJxf0a74 : Nat → FieldType := fun k => match k with
  | _ => .int
theorem nmJxf0a74 : ∀ a, a < 0 → ∀ b, b < 0 → a ≠ b → (TJxf0a74 a).2.1 ≠ (TJxf0a74 b).2.1 := by decide +kernel
theorem tyJxf0a74_ok : ∀ k, k < 0 → parseFieldDescriptor (TJxf0a74 k).2.2.1 = some (tyJxf0a74 k) := by decide +kernel
def RJxa66e6 : String := "java/util/SequencedCollection"
def TJxa66e6 : u_T := fun k => match k with
  | _ => ("", "", "", false)
def tyJxa66e6 : Nat → FieldType := fun k => match k with
  | _ => .int
theorem nmJxa66e6 : ∀ a, a < 0 → ∀ b, b < 0 → a ≠ b → (TJxa66e6 a).2.1 ≠ (TJxa66e6 b).2.1 := by decide +kernel
theorem tyJxa66e6_ok : ∀ k, k < 0 → parseFieldDescriptor (TJxa66e6 k).2.2.1 = some (tyJxa66e6 k) := by decide +kernel
def RJ8 : String := "jdk/internal/util/ArraysSupport"
def TJ8 : u_T := fun k => match k with
  | _ => ("", "", "", false)
def tyJ8 : Nat → FieldType := fun k => match k with
  | _ => .int
theorem nmJ8 : ∀ a, a < 0 → ∀ b, b < 0 → a ≠ b → (TJ8 a).2.1 ≠ (TJ8 b).2.1 := by decide +kernel
theorem tyJ8_ok : ∀ k, k < 0 → parseFieldDescriptor (TJ8 k).2.2.1 = some (tyJ8 k) := by decide +kernel
abbrev cJ8_newLength_cabcc : ByteArray := prog_32_method_27_code
def yJ8_newLength_cabcc : MethodName := ⟨RJ8, "newLength", "(III)I"⟩
abbrev cJ8_hugeLength_7cf53 : ByteArray := prog_32_method_28_code
def yJ8_hugeLength_7cf53 : MethodName := ⟨RJ8, "hugeLength", "(II)I"⟩
def RJ3 : String := "jdk/internal/util/Preconditions"
def TJ3 : u_T := fun k => match k with
  | _ => ("", "", "", false)
def tyJ3 : Nat → FieldType := fun k => match k with
  | _ => .int
theorem nmJ3 : ∀ a, a < 0 → ∀ b, b < 0 → a ≠ b → (TJ3 a).2.1 ≠ (TJ3 b).2.1 := by decide +kernel
theorem tyJ3_ok : ∀ k, k < 0 → parseFieldDescriptor (TJ3 k).2.2.1 = some (tyJ3 k) := by decide +kernel
abbrev cJ3_checkIndex_8e157 : ByteArray := prog_33_method_11_code
def yJ3_checkIndex_8e157 : MethodName := ⟨RJ3, "checkIndex", "(IILjava/util/function/BiFunction;)I"⟩
def RL : String := "SlantSlateLaw"
abbrev cL_cell : ByteArray := method_2_code
def yL_cell : MethodName := ⟨RL, "cell", "([II)I"⟩
abbrev cL_low : ByteArray := method_3_code
def yL_low : MethodName := ⟨RL, "low", "(II)I"⟩
abbrev cL_told : ByteArray := method_4_code
def yL_told : MethodName := ⟨RL, "told", "(LSlantSlate;)J"⟩
abbrev cL_act : ByteArray := method_5_code
def yL_act : MethodName := ⟨RL, "act", "(LSlantSlate;II)I"⟩
abbrev cL_holds : ByteArray := method_6_code
def yL_holds : MethodName := ⟨RL, "holds", "(LSlantSlate;)Z"⟩
abbrev cL_law : ByteArray := code
def yL_law : MethodName := ⟨RL, "law", "([I)Z"⟩
abbrev vwCl : List vw_C := [(RJx4a65c, TJx4a65c, 3), (RX0, TX0, 8), (RX1, TX1, 1), (RX2, TX2, 7), (RX3, TX3, 5), (RX4, TX4, 4), (RX5, TX5, 1), (RX6, TX6, 15)]
