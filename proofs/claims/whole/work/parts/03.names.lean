def RX0 : String := "SlantSlate$Drawing"
def TX0 : u_T := fun k => match k with
  | 0 => ("SlantSlate$Drawing", "kinds", "[I", true)
  | 1 => ("SlantSlate$Drawing", "heads", "[I", true)
  | 2 => ("SlantSlate$Drawing", "ways", "[I", true)
  | 3 => ("SlantSlate$Drawing", "levels", "[I", true)
  | 4 => ("SlantSlate$Drawing", "loads", "[I", true)
  | 5 => ("SlantSlate$Drawing", "turns", "[I", true)
  | 6 => ("SlantSlate$Drawing", "size", "I", false)
  | _ => ("SlantSlate$Drawing", "turn", "I", false)
def tyX0 : Nat → FieldType := fun k => match k with
  | 0 => .array .int
  | 1 => .array .int
  | 2 => .array .int
  | 3 => .array .int
  | 4 => .array .int
  | 5 => .array .int
  | 6 => .int
  | _ => .int
theorem nmX0 : ∀ a, a < 8 → ∀ b, b < 8 → a ≠ b → (TX0 a).2.1 ≠ (TX0 b).2.1 := by decide +kernel
theorem tyX0_ok : ∀ k, k < 8 → parseFieldDescriptor (TX0 k).2.2.1 = some (tyX0 k) := by decide +kernel
abbrev cX0_init : ByteArray := prog_2_method_1_code
def yX0_init : MethodName := ⟨RX0, "<init>", "()V"⟩
abbrev cX0_trace : ByteArray := prog_2_method_2_code
def yX0_trace : MethodName := ⟨RX0, "trace", "(LSlantSlate$State;J)V"⟩
abbrev cX0_property : ByteArray := prog_2_method_3_code
def yX0_property : MethodName := ⟨RX0, "property", "(II)I"⟩
abbrev cX0_wordAtTurn : ByteArray := prog_2_method_4_code
def yX0_wordAtTurn : MethodName := ⟨RX0, "wordAtTurn", "(I)I"⟩
abbrev cX0_height : ByteArray := prog_2_method_5_code
def yX0_height : MethodName := ⟨RX0, "height", "()I"⟩
abbrev cX0_wordsOfKind : ByteArray := prog_2_method_6_code
def yX0_wordsOfKind : MethodName := ⟨RX0, "wordsOfKind", "(I)I"⟩
abbrev cX0_wordsHeld : ByteArray := prog_2_method_7_code
def yX0_wordsHeld : MethodName := ⟨RX0, "wordsHeld", "(I)I"⟩
abbrev cX0_greatestLoad : ByteArray := prog_2_method_8_code
def yX0_greatestLoad : MethodName := ⟨RX0, "greatestLoad", "()I"⟩
abbrev cX0_isWord : ByteArray := prog_2_method_9_code
def yX0_isWord : MethodName := ⟨RX0, "isWord", "(I)Z"⟩
abbrev cX0_wayOf : ByteArray := prog_2_method_10_code
def yX0_wayOf : MethodName := ⟨RX0, "wayOf", "(IIII)I"⟩
abbrev cX0_levelOf : ByteArray := prog_2_method_11_code
def yX0_levelOf : MethodName := ⟨RX0, "levelOf", "(I)I"⟩
abbrev cX0_riseOf : ByteArray := prog_2_method_12_code
def yX0_riseOf : MethodName := ⟨RX0, "riseOf", "(II)I"⟩
abbrev cX0_readAlong : ByteArray := prog_2_method_13_code
def yX0_readAlong : MethodName := ⟨RX0, "readAlong", "(II)V"⟩
def RX1 : String := "SlantSlate$Grid"
def TX1 : u_T := fun k => match k with
  | _ => ("SlantSlate$Grid", "cells", "[I", true)
def tyX1 : Nat → FieldType := fun k => match k with
  | _ => .array .int
theorem nmX1 : ∀ a, a < 1 → ∀ b, b < 1 → a ≠ b → (TX1 a).2.1 ≠ (TX1 b).2.1 := by decide +kernel
theorem tyX1_ok : ∀ k, k < 1 → parseFieldDescriptor (TX1 k).2.2.1 = some (tyX1 k) := by decide +kernel
abbrev cX1_init : ByteArray := prog_3_method_1_code
def yX1_init : MethodName := ⟨RX1, "<init>", "()V"⟩
abbrev cX1_at : ByteArray := prog_3_method_2_code
def yX1_at : MethodName := ⟨RX1, "at", "(II)I"⟩
abbrev cX1_atOrEmpty : ByteArray := prog_3_method_3_code
def yX1_atOrEmpty : MethodName := ⟨RX1, "atOrEmpty", "(II)I"⟩
abbrev cX1_put : ByteArray := prog_3_method_4_code
def yX1_put : MethodName := ⟨RX1, "put", "(III)V"⟩
def RX2 : String := "SlantSlate$Parts"
def TX2 : u_T := fun k => match k with
  | 0 => ("SlantSlate$Parts", "names", "LSlantSlate$Grid;", true)
  | 1 => ("SlantSlate$Parts", "groups", "LSlantSlate$Grid;", true)
  | 2 => ("SlantSlate$Parts", "phrases", "LSlantSlate$Grid;", true)
  | 3 => ("SlantSlate$Parts", "clauses", "LSlantSlate$Grid;", true)
  | 4 => ("SlantSlate$Parts", "hangings", "LSlantSlate$Grid;", true)
  | 5 => ("SlantSlate$Parts", "phraseRows", "LSlantSlate$Grid;", true)
  | _ => ("SlantSlate$Parts", "verbTails", "LSlantSlate$Grid;", true)
def tyX2 : Nat → FieldType := fun k => match k with
  | 0 => .object "SlantSlate$Grid"
  | 1 => .object "SlantSlate$Grid"
  | 2 => .object "SlantSlate$Grid"
  | 3 => .object "SlantSlate$Grid"
  | 4 => .object "SlantSlate$Grid"
  | 5 => .object "SlantSlate$Grid"
  | _ => .object "SlantSlate$Grid"
theorem nmX2 : ∀ a, a < 7 → ∀ b, b < 7 → a ≠ b → (TX2 a).2.1 ≠ (TX2 b).2.1 := by decide +kernel
theorem tyX2_ok : ∀ k, k < 7 → parseFieldDescriptor (TX2 k).2.2.1 = some (tyX2 k) := by decide +kernel
abbrev cX2_init : ByteArray := prog_4_method_1_code
def yX2_init : MethodName := ⟨RX2, "<init>", "()V"⟩
abbrev cX2_ways : ByteArray := prog_4_method_2_code
def yX2_ways : MethodName := ⟨RX2, "ways", "(III)I"⟩
abbrev cX2_tell : ByteArray := prog_4_method_3_code
def yX2_tell : MethodName := ⟨RX2, "tell", "(LSlantSlate$State;)V"⟩
abbrev cX2_nameWays : ByteArray := prog_4_method_4_code
def yX2_nameWays : MethodName := ⟨RX2, "nameWays", "(LSlantSlate$State;II)I"⟩
abbrev cX2_groupWays : ByteArray := prog_4_method_5_code
def yX2_groupWays : MethodName := ⟨RX2, "groupWays", "(LSlantSlate$State;II)I"⟩
abbrev cX2_phraseRowWays : ByteArray := prog_4_method_6_code
def yX2_phraseRowWays : MethodName := ⟨RX2, "phraseRowWays", "(II)I"⟩
abbrev cX2_hangingWays : ByteArray := prog_4_method_7_code
def yX2_hangingWays : MethodName := ⟨RX2, "hangingWays", "(LSlantSlate$State;II)I"⟩
abbrev cX2_clauseWays : ByteArray := prog_4_method_8_code
def yX2_clauseWays : MethodName := ⟨RX2, "clauseWays", "(LSlantSlate$State;II)I"⟩
abbrev cX2_verbTailWays : ByteArray := prog_4_method_9_code
def yX2_verbTailWays : MethodName := ⟨RX2, "verbTailWays", "(LSlantSlate$State;II)I"⟩
def RX3 : String := "SlantSlate$Readings"
def TX3 : u_T := fun k => match k with
  | 0 => ("SlantSlate$Readings", "codes", "[J", true)
  | 1 => ("SlantSlate$Readings", "total", "I", false)
  | 2 => ("SlantSlate$Readings", "kinds", "[I", true)
  | 3 => ("SlantSlate$Readings", "heads", "[I", true)
  | _ => ("SlantSlate$Readings", "size", "I", false)
def tyX3 : Nat → FieldType := fun k => match k with
  | 0 => .array .long
  | 1 => .int
  | 2 => .array .int
  | 3 => .array .int
  | _ => .int
theorem nmX3 : ∀ a, a < 5 → ∀ b, b < 5 → a ≠ b → (TX3 a).2.1 ≠ (TX3 b).2.1 := by decide +kernel
theorem tyX3_ok : ∀ k, k < 5 → parseFieldDescriptor (TX3 k).2.2.1 = some (tyX3 k) := by decide +kernel
abbrev cX3_init : ByteArray := prog_5_method_1_code
def yX3_init : MethodName := ⟨RX3, "<init>", "()V"⟩
abbrev cX3_total : ByteArray := prog_5_method_2_code
def yX3_total : MethodName := ⟨RX3, "total", "()I"⟩
abbrev cX3_codeAt : ByteArray := prog_5_method_3_code
def yX3_codeAt : MethodName := ⟨RX3, "codeAt", "(I)J"⟩
abbrev cX3_headIn : ByteArray := prog_5_method_4_code
def yX3_headIn : MethodName := ⟨RX3, "headIn", "(JI)I"⟩
abbrev cX3_tell : ByteArray := prog_5_method_5_code
def yX3_tell : MethodName := ⟨RX3, "tell", "(LSlantSlate$State;)V"⟩
abbrev cX3_kindAt : ByteArray := prog_5_method_6_code
def yX3_kindAt : MethodName := ⟨RX3, "kindAt", "(I)I"⟩
abbrev cX3_headAt : ByteArray := prog_5_method_7_code
def yX3_headAt : MethodName := ⟨RX3, "headAt", "(I)I"⟩
abbrev cX3_setHead : ByteArray := prog_5_method_8_code
def yX3_setHead : MethodName := ⟨RX3, "setHead", "(II)V"⟩
abbrev cX3_setForcedHeads : ByteArray := prog_5_method_9_code
def yX3_setForcedHeads : MethodName := ⟨RX3, "setForcedHeads", "()Z"⟩
abbrev cX3_hangNoun : ByteArray := prog_5_method_10_code
def yX3_hangNoun : MethodName := ⟨RX3, "hangNoun", "(I)Z"⟩
abbrev cX3_followersOf : ByteArray := prog_5_method_11_code
def yX3_followersOf : MethodName := ⟨RX3, "followersOf", "(I)I"⟩
abbrev cX3_inMask : ByteArray := prog_5_method_12_code
def yX3_inMask : MethodName := ⟨RX3, "inMask", "(II)Z"⟩
abbrev cX3_hangFrom : ByteArray := prog_5_method_13_code
def yX3_hangFrom : MethodName := ⟨RX3, "hangFrom", "(I)V"⟩
abbrev cX3_openBehind : ByteArray := prog_5_method_14_code
def yX3_openBehind : MethodName := ⟨RX3, "openBehind", "(I)I"⟩
abbrev cX3_canHold : ByteArray := prog_5_method_15_code
def yX3_canHold : MethodName := ⟨RX3, "canHold", "(II)Z"⟩
abbrev cX3_isJoined : ByteArray := prog_5_method_16_code
def yX3_isJoined : MethodName := ⟨RX3, "isJoined", "(II)Z"⟩
abbrev cX3_pushReading : ByteArray := prog_5_method_17_code
def yX3_pushReading : MethodName := ⟨RX3, "pushReading", "()V"⟩
def RX4 : String := "SlantSlate$State"
def TX4 : u_T := fun k => match k with
  | 0 => ("SlantSlate$State", "kinds", "[I", true)
  | 1 => ("SlantSlate$State", "fixed", "[I", true)
  | 2 => ("SlantSlate$State", "size", "I", false)
  | _ => ("SlantSlate$State", "drawn", "I", false)
def tyX4 : Nat → FieldType := fun k => match k with
  | 0 => .array .int
  | 1 => .array .int
  | 2 => .int
  | _ => .int
theorem nmX4 : ∀ a, a < 4 → ∀ b, b < 4 → a ≠ b → (TX4 a).2.1 ≠ (TX4 b).2.1 := by decide +kernel
theorem tyX4_ok : ∀ k, k < 4 → parseFieldDescriptor (TX4 k).2.2.1 = some (tyX4 k) := by decide +kernel
abbrev cX4_init : ByteArray := prog_6_method_1_code
def yX4_init : MethodName := ⟨RX4, "<init>", "()V"⟩
abbrev cX4_take : ByteArray := prog_6_method_2_code
def yX4_take : MethodName := ⟨RX4, "take", "(LSlantSlate$State;)V"⟩
abbrev cX4_size : ByteArray := prog_6_method_3_code
def yX4_size : MethodName := ⟨RX4, "size", "()I"⟩
abbrev cX4_has : ByteArray := prog_6_method_4_code
def yX4_has : MethodName := ⟨RX4, "has", "(I)Z"⟩
abbrev cX4_kindAt : ByteArray := prog_6_method_5_code
def yX4_kindAt : MethodName := ⟨RX4, "kindAt", "(I)I"⟩
abbrev cX4_fixedAt : ByteArray := prog_6_method_6_code
def yX4_fixedAt : MethodName := ⟨RX4, "fixedAt", "(I)I"⟩
abbrev cX4_drawn : ByteArray := prog_6_method_7_code
def yX4_drawn : MethodName := ⟨RX4, "drawn", "()I"⟩
abbrev cX4_fixedWords : ByteArray := prog_6_method_8_code
def yX4_fixedWords : MethodName := ⟨RX4, "fixedWords", "()I"⟩
abbrev cX4_clearWords : ByteArray := prog_6_method_9_code
def yX4_clearWords : MethodName := ⟨RX4, "clearWords", "()V"⟩
abbrev cX4_pushWord : ByteArray := prog_6_method_10_code
def yX4_pushWord : MethodName := ⟨RX4, "pushWord", "(I)V"⟩
abbrev cX4_dropWord : ByteArray := prog_6_method_11_code
def yX4_dropWord : MethodName := ⟨RX4, "dropWord", "(I)V"⟩
abbrev cX4_setKind : ByteArray := prog_6_method_12_code
def yX4_setKind : MethodName := ⟨RX4, "setKind", "(II)V"⟩
abbrev cX4_setFixed : ByteArray := prog_6_method_13_code
def yX4_setFixed : MethodName := ⟨RX4, "setFixed", "(II)V"⟩
abbrev cX4_loosenAll : ByteArray := prog_6_method_14_code
def yX4_loosenAll : MethodName := ⟨RX4, "loosenAll", "()V"⟩
abbrev cX4_setDrawn : ByteArray := prog_6_method_15_code
def yX4_setDrawn : MethodName := ⟨RX4, "setDrawn", "(I)V"⟩
def RX5 : String := "SlantSlate$States"
def TX5 : u_T := fun k => match k with
  | _ => ("SlantSlate$States", "row", "Ljava/util/ArrayList;", true)
def tyX5 : Nat → FieldType := fun k => match k with
  | _ => .object "java/util/ArrayList"
theorem nmX5 : ∀ a, a < 1 → ∀ b, b < 1 → a ≠ b → (TX5 a).2.1 ≠ (TX5 b).2.1 := by decide +kernel
theorem tyX5_ok : ∀ k, k < 1 → parseFieldDescriptor (TX5 k).2.2.1 = some (tyX5 k) := by decide +kernel
abbrev cX5_init : ByteArray := prog_7_method_1_code
def yX5_init : MethodName := ⟨RX5, "<init>", "(I)V"⟩
abbrev cX5_put : ByteArray := prog_7_method_2_code
def yX5_put : MethodName := ⟨RX5, "put", "(ILSlantSlate$State;)V"⟩
abbrev cX5_copyTo : ByteArray := prog_7_method_3_code
def yX5_copyTo : MethodName := ⟨RX5, "copyTo", "(ILSlantSlate$State;)V"⟩
abbrev cX5_turnFirst : ByteArray := prog_7_method_4_code
def yX5_turnFirst : MethodName := ⟨RX5, "turnFirst", "()V"⟩
def RX6 : String := "SlantSlate"
def TX6 : u_T := fun k => match k with
  | 0 => ("SlantSlate", "state", "LSlantSlate$State;", true)
  | 1 => ("SlantSlate", "readings", "LSlantSlate$Readings;", true)
  | 2 => ("SlantSlate", "parts", "LSlantSlate$Parts;", true)
  | 3 => ("SlantSlate", "left", "[I", true)
  | 4 => ("SlantSlate", "leftCount", "I", false)
  | 5 => ("SlantSlate", "drawn", "LSlantSlate$Drawing;", true)
  | 6 => ("SlantSlate", "other", "LSlantSlate$Drawing;", true)
  | 7 => ("SlantSlate", "trial", "LSlantSlate$State;", true)
  | 8 => ("SlantSlate", "trialReadings", "LSlantSlate$Readings;", true)
  | 9 => ("SlantSlate", "saved", "LSlantSlate$States;", true)
  | 10 => ("SlantSlate", "savedCount", "I", false)
  | 11 => ("SlantSlate", "slots", "LSlantSlate$States;", true)
  | 12 => ("SlantSlate", "slotFilled", "[Z", true)
  | 13 => ("SlantSlate", "buffer", "[I", true)
  | _ => ("SlantSlate", "bufferLength", "I", false)
def tyX6 : Nat → FieldType := fun k => match k with
  | 0 => .object "SlantSlate$State"
  | 1 => .object "SlantSlate$Readings"
  | 2 => .object "SlantSlate$Parts"
  | 3 => .array .int
  | 4 => .int
  | 5 => .object "SlantSlate$Drawing"
  | 6 => .object "SlantSlate$Drawing"
  | 7 => .object "SlantSlate$State"
  | 8 => .object "SlantSlate$Readings"
  | 9 => .object "SlantSlate$States"
  | 10 => .int
  | 11 => .object "SlantSlate$States"
  | 12 => .array .boolean
  | 13 => .array .int
  | _ => .int
theorem nmX6 : ∀ a, a < 15 → ∀ b, b < 15 → a ≠ b → (TX6 a).2.1 ≠ (TX6 b).2.1 := by decide +kernel
theorem tyX6_ok : ∀ k, k < 15 → parseFieldDescriptor (TX6 k).2.2.1 = some (tyX6 k) := by decide +kernel
abbrev cX6_init : ByteArray := prog_1_method_1_code
def yX6_init : MethodName := ⟨RX6, "<init>", "()V"⟩
abbrev cX6_add : ByteArray := prog_1_method_2_code
def yX6_add : MethodName := ⟨RX6, "add", "(I)I"⟩
abbrev cX6_change : ByteArray := prog_1_method_3_code
def yX6_change : MethodName := ⟨RX6, "change", "(II)I"⟩
abbrev cX6_wipe : ByteArray := prog_1_method_4_code
def yX6_wipe : MethodName := ⟨RX6, "wipe", "(I)I"⟩
abbrev cX6_fix : ByteArray := prog_1_method_5_code
def yX6_fix : MethodName := ⟨RX6, "fix", "(II)I"⟩
abbrev cX6_loosen : ByteArray := prog_1_method_6_code
def yX6_loosen : MethodName := ⟨RX6, "loosen", "(I)I"⟩
abbrev cX6_draw : ByteArray := prog_1_method_7_code
def yX6_draw : MethodName := ⟨RX6, "draw", "(I)I"⟩
abbrev cX6_flatten : ByteArray := prog_1_method_8_code
def yX6_flatten : MethodName := ⟨RX6, "flatten", "()I"⟩
abbrev cX6_append : ByteArray := prog_1_method_9_code
def yX6_append : MethodName := ⟨RX6, "append", "(I)I"⟩
abbrev cX6_clearBuffer : ByteArray := prog_1_method_10_code
def yX6_clearBuffer : MethodName := ⟨RX6, "clearBuffer", "()I"⟩
abbrev cX6_firstError : ByteArray := prog_1_method_11_code
def yX6_firstError : MethodName := ⟨RX6, "firstError", "()I"⟩
abbrev cX6_load : ByteArray := prog_1_method_12_code
def yX6_load : MethodName := ⟨RX6, "load", "()I"⟩
abbrev cX6_write : ByteArray := prog_1_method_13_code
def yX6_write : MethodName := ⟨RX6, "write", "()I"⟩
abbrev cX6_keep : ByteArray := prog_1_method_14_code
def yX6_keep : MethodName := ⟨RX6, "keep", "(I)I"⟩
abbrev cX6_goBack : ByteArray := prog_1_method_15_code
def yX6_goBack : MethodName := ⟨RX6, "goBack", "(I)I"⟩
abbrev cX6_undo : ByteArray := prog_1_method_16_code
def yX6_undo : MethodName := ⟨RX6, "undo", "()I"⟩
abbrev cX6_wordOf : ByteArray := prog_1_method_17_code
def yX6_wordOf : MethodName := ⟨RX6, "wordOf", "(II)I"⟩
abbrev cX6_readingOf : ByteArray := prog_1_method_18_code
def yX6_readingOf : MethodName := ⟨RX6, "readingOf", "(II)I"⟩
abbrev cX6_count : ByteArray := prog_1_method_19_code
def yX6_count : MethodName := ⟨RX6, "count", "(I)I"⟩
abbrev cX6_part : ByteArray := prog_1_method_20_code
def yX6_part : MethodName := ⟨RX6, "part", "(III)I"⟩
abbrev cX6_ifFixed : ByteArray := prog_1_method_21_code
def yX6_ifFixed : MethodName := ⟨RX6, "ifFixed", "(II)I"⟩
abbrev cX6_question : ByteArray := prog_1_method_22_code
def yX6_question : MethodName := ⟨RX6, "question", "()I"⟩
abbrev cX6_next : ByteArray := prog_1_method_23_code
def yX6_next : MethodName := ⟨RX6, "next", "()I"⟩
abbrev cX6_sureShare : ByteArray := prog_1_method_24_code
def yX6_sureShare : MethodName := ⟨RX6, "sureShare", "()D"⟩
abbrev cX6_digest : ByteArray := prog_1_method_25_code
def yX6_digest : MethodName := ⟨RX6, "digest", "()J"⟩
abbrev cX6_needKind : ByteArray := prog_1_method_26_code
def yX6_needKind : MethodName := ⟨RX6, "needKind", "(I)V"⟩
abbrev cX6_needWord : ByteArray := prog_1_method_27_code
def yX6_needWord : MethodName := ⟨RX6, "needWord", "(I)V"⟩
abbrev cX6_needHead : ByteArray := prog_1_method_28_code
def yX6_needHead : MethodName := ⟨RX6, "needHead", "(II)V"⟩
abbrev cX6_needReading : ByteArray := prog_1_method_29_code
def yX6_needReading : MethodName := ⟨RX6, "needReading", "(I)V"⟩
abbrev cX6_needSlot : ByteArray := prog_1_method_30_code
def yX6_needSlot : MethodName := ⟨RX6, "needSlot", "(I)V"⟩
abbrev cX6_needAsked : ByteArray := prog_1_method_31_code
def yX6_needAsked : MethodName := ⟨RX6, "needAsked", "(II)V"⟩
abbrev cX6_saveState : ByteArray := prog_1_method_32_code
def yX6_saveState : MethodName := ⟨RX6, "saveState", "()V"⟩
abbrev cX6_beginSentence : ByteArray := prog_1_method_33_code
def yX6_beginSentence : MethodName := ⟨RX6, "beginSentence", "()I"⟩
abbrev cX6_beginHeads : ByteArray := prog_1_method_34_code
def yX6_beginHeads : MethodName := ⟨RX6, "beginHeads", "()I"⟩
abbrev cX6_tellReadings : ByteArray := prog_1_method_35_code
def yX6_tellReadings : MethodName := ⟨RX6, "tellReadings", "()V"⟩
abbrev cX6_tellLeft : ByteArray := prog_1_method_36_code
def yX6_tellLeft : MethodName := ⟨RX6, "tellLeft", "()V"⟩
abbrev cX6_drawAgain : ByteArray := prog_1_method_37_code
def yX6_drawAgain : MethodName := ⟨RX6, "drawAgain", "()V"⟩
abbrev cX6_fits : ByteArray := prog_1_method_38_code
def yX6_fits : MethodName := ⟨RX6, "fits", "(JI)Z"⟩
abbrev cX6_rankAmongAll : ByteArray := prog_1_method_39_code
def yX6_rankAmongAll : MethodName := ⟨RX6, "rankAmongAll", "(I)I"⟩
abbrev cX6_leftCode : ByteArray := prog_1_method_40_code
def yX6_leftCode : MethodName := ⟨RX6, "leftCode", "(I)J"⟩
abbrev cX6_flattestRank : ByteArray := prog_1_method_41_code
def yX6_flattestRank : MethodName := ⟨RX6, "flattestRank", "()I"⟩
abbrev cX6_pushCode : ByteArray := prog_1_method_42_code
def yX6_pushCode : MethodName := ⟨RX6, "pushCode", "(I)V"⟩
abbrev cX6_codeAt : ByteArray := prog_1_method_43_code
def yX6_codeAt : MethodName := ⟨RX6, "codeAt", "(I)I"⟩
abbrev cX6_errorIndex : ByteArray := prog_1_method_44_code
def yX6_errorIndex : MethodName := ⟨RX6, "errorIndex", "()I"⟩
abbrev cX6_kindOfLetter : ByteArray := prog_1_method_45_code
def yX6_kindOfLetter : MethodName := ⟨RX6, "kindOfLetter", "(I)I"⟩
abbrev cX6_letterOfKind : ByteArray := prog_1_method_46_code
def yX6_letterOfKind : MethodName := ⟨RX6, "letterOfKind", "(I)I"⟩
abbrev cX6_wordProperty : ByteArray := prog_1_method_47_code
def yX6_wordProperty : MethodName := ⟨RX6, "wordProperty", "(II)I"⟩
abbrev cX6_readingProperty : ByteArray := prog_1_method_48_code
def yX6_readingProperty : MethodName := ⟨RX6, "readingProperty", "(II)I"⟩
abbrev cX6_number : ByteArray := prog_1_method_49_code
def yX6_number : MethodName := ⟨RX6, "number", "(I)I"⟩
abbrev cX6_leftIf : ByteArray := prog_1_method_50_code
def yX6_leftIf : MethodName := ⟨RX6, "leftIf", "(II)I"⟩
abbrev cX6_headsLeft : ByteArray := prog_1_method_51_code
def yX6_headsLeft : MethodName := ⟨RX6, "headsLeft", "(I)I"⟩
abbrev cX6_openWords : ByteArray := prog_1_method_52_code
def yX6_openWords : MethodName := ⟨RX6, "openWords", "()I"⟩
abbrev cX6_bestQuestion : ByteArray := prog_1_method_53_code
def yX6_bestQuestion : MethodName := ⟨RX6, "bestQuestion", "()I"⟩
abbrev cX6_mostLeftBehind : ByteArray := prog_1_method_54_code
def yX6_mostLeftBehind : MethodName := ⟨RX6, "mostLeftBehind", "(I)I"⟩
abbrev cX6_share : ByteArray := prog_1_method_55_code
def yX6_share : MethodName := ⟨RX6, "share", "()D"⟩
abbrev cX6_kindsToAdd : ByteArray := prog_1_method_56_code
def yX6_kindsToAdd : MethodName := ⟨RX6, "kindsToAdd", "()I"⟩
abbrev cX6_digestWords : ByteArray := prog_1_method_57_code
def yX6_digestWords : MethodName := ⟨RX6, "digestWords", "(J)J"⟩
abbrev cX6_digestReadings : ByteArray := prog_1_method_58_code
def yX6_digestReadings : MethodName := ⟨RX6, "digestReadings", "(J)J"⟩
abbrev cX6_digestParts : ByteArray := prog_1_method_59_code
def yX6_digestParts : MethodName := ⟨RX6, "digestParts", "(J)J"⟩
abbrev cX6_bitsOfShare : ByteArray := prog_1_method_60_code
def yX6_bitsOfShare : MethodName := ⟨RX6, "bitsOfShare", "(D)J"⟩
def RX7 : String := "SlantSlateModel"
def TX7 : u_T := fun k => match k with
  | 0 => ("SlantSlateModel", "thrown", "I", false)
  | 1 => ("SlantSlateModel", "s", "[I", true)
  | 2 => ("SlantSlateModel", "saved", "[I", true)
  | 3 => ("SlantSlateModel", "savedMany", "I", false)
  | 4 => ("SlantSlateModel", "slots", "[I", true)
  | 5 => ("SlantSlateModel", "hasSlot", "[Z", true)
  | 6 => ("SlantSlateModel", "buffer", "[I", true)
  | 7 => ("SlantSlateModel", "length", "I", false)
  | 8 => ("SlantSlateModel", "open", "[I", true)
  | 9 => ("SlantSlateModel", "word", "[I", true)
  | 10 => ("SlantSlateModel", "more", "[I", true)
  | 11 => ("SlantSlateModel", "depth", "I", false)
  | 12 => ("SlantSlateModel", "choices", "[I", true)
  | 13 => ("SlantSlateModel", "can", "[I", true)
  | 14 => ("SlantSlateModel", "heads", "[I", true)
  | 15 => ("SlantSlateModel", "all", "[I", true)
  | 16 => ("SlantSlateModel", "allMany", "I", false)
  | 17 => ("SlantSlateModel", "left", "[I", true)
  | 18 => ("SlantSlateModel", "leftMany", "I", false)
  | 19 => ("SlantSlateModel", "phraseRows", "[I", true)
  | 20 => ("SlantSlateModel", "names", "[I", true)
  | 21 => ("SlantSlateModel", "groups", "[I", true)
  | 22 => ("SlantSlateModel", "phrases", "[I", true)
  | 23 => ("SlantSlateModel", "hangings", "[I", true)
  | 24 => ("SlantSlateModel", "clauses", "[I", true)
  | _ => ("SlantSlateModel", "hash", "J", false)
def tyX7 : Nat → FieldType := fun k => match k with
  | 0 => .int
  | 1 => .array .int
  | 2 => .array .int
  | 3 => .int
  | 4 => .array .int
  | 5 => .array .boolean
  | 6 => .array .int
  | 7 => .int
  | 8 => .array .int
  | 9 => .array .int
  | 10 => .array .int
  | 11 => .int
  | 12 => .array .int
  | 13 => .array .int
  | 14 => .array .int
  | 15 => .array .int
  | 16 => .int
  | 17 => .array .int
  | 18 => .int
  | 19 => .array .int
  | 20 => .array .int
  | 21 => .array .int
  | 22 => .array .int
  | 23 => .array .int
  | 24 => .array .int
  | _ => .long
theorem nmX7 : ∀ a, a < 26 → ∀ b, b < 26 → a ≠ b → (TX7 a).2.1 ≠ (TX7 b).2.1 := by decide +kernel
theorem tyX7_ok : ∀ k, k < 26 → parseFieldDescriptor (TX7 k).2.2.1 = some (tyX7 k) := by decide +kernel
abbrev cX7_init : ByteArray := prog_9_method_1_code
def yX7_init : MethodName := ⟨RX7, "<init>", "()V"⟩
abbrev cX7_thrown : ByteArray := prog_9_method_2_code
def yX7_thrown : MethodName := ⟨RX7, "thrown", "()I"⟩
abbrev cX7_in : ByteArray := prog_9_method_3_code
def yX7_in : MethodName := ⟨RX7, "in", "(III)Z"⟩
abbrev cX7_fails : ByteArray := prog_9_method_4_code
def yX7_fails : MethodName := ⟨RX7, "fails", "(I)I"⟩
abbrev cX7_kind : ByteArray := prog_9_method_5_code
def yX7_kind : MethodName := ⟨RX7, "kind", "(I)I"⟩
abbrev cX7_isWord : ByteArray := prog_9_method_6_code
def yX7_isWord : MethodName := ⟨RX7, "isWord", "(I)Z"⟩
abbrev cX7_saves : ByteArray := prog_9_method_7_code
def yX7_saves : MethodName := ⟨RX7, "saves", "()V"⟩
abbrev cX7_opens : ByteArray := prog_9_method_8_code
def yX7_opens : MethodName := ⟨RX7, "opens", "(III)V"⟩
abbrev cX7_isComplete : ByteArray := prog_9_method_9_code
def yX7_isComplete : MethodName := ⟨RX7, "isComplete", "(I)Z"⟩
abbrev cX7_canHold : ByteArray := prog_9_method_10_code
def yX7_canHold : MethodName := ⟨RX7, "canHold", "(II)Z"⟩
abbrev cX7_chosen : ByteArray := prog_9_method_11_code
def yX7_chosen : MethodName := ⟨RX7, "chosen", "(I)I"⟩
abbrev cX7_wantsName : ByteArray := prog_9_method_12_code
def yX7_wantsName : MethodName := ⟨RX7, "wantsName", "()Z"⟩
abbrev cX7_takesAdjective : ByteArray := prog_9_method_13_code
def yX7_takesAdjective : MethodName := ⟨RX7, "takesAdjective", "(I)Z"⟩
abbrev cX7_takesNoun : ByteArray := prog_9_method_14_code
def yX7_takesNoun : MethodName := ⟨RX7, "takesNoun", "(I)Z"⟩
abbrev cX7_takesVerb : ByteArray := prog_9_method_15_code
def yX7_takesVerb : MethodName := ⟨RX7, "takesVerb", "(I)Z"⟩
abbrev cX7_takesHanging : ByteArray := prog_9_method_16_code
def yX7_takesHanging : MethodName := ⟨RX7, "takesHanging", "(I)Z"⟩
abbrev cX7_takesOpener : ByteArray := prog_9_method_17_code
def yX7_takesOpener : MethodName := ⟨RX7, "takesOpener", "(I)Z"⟩
abbrev cX7_takes : ByteArray := prog_9_method_18_code
def yX7_takes : MethodName := ⟨RX7, "takes", "(I)Z"⟩
abbrev cX7_reads : ByteArray := prog_9_method_19_code
def yX7_reads : MethodName := ⟨RX7, "reads", "()I"⟩
abbrev cX7_isWhole : ByteArray := prog_9_method_20_code
def yX7_isWhole : MethodName := ⟨RX7, "isWhole", "()Z"⟩
abbrev cX7_isAhead : ByteArray := prog_9_method_21_code
def yX7_isAhead : MethodName := ⟨RX7, "isAhead", "(I)Z"⟩
abbrev cX7_laysReading : ByteArray := prog_9_method_22_code
def yX7_laysReading : MethodName := ⟨RX7, "laysReading", "()V"⟩
abbrev cX7_choosesNext : ByteArray := prog_9_method_23_code
def yX7_choosesNext : MethodName := ⟨RX7, "choosesNext", "(I)Z"⟩
abbrev cX7_isLeft : ByteArray := prog_9_method_24_code
def yX7_isLeft : MethodName := ⟨RX7, "isLeft", "(II)Z"⟩
abbrev cX7_laysAll : ByteArray := prog_9_method_25_code
def yX7_laysAll : MethodName := ⟨RX7, "laysAll", "()V"⟩
abbrev cX7_head : ByteArray := prog_9_method_26_code
def yX7_head : MethodName := ⟨RX7, "head", "(II)I"⟩
abbrev cX7_heldBy : ByteArray := prog_9_method_27_code
def yX7_heldBy : MethodName := ⟨RX7, "heldBy", "(II)I"⟩
abbrev cX7_step : ByteArray := prog_9_method_28_code
def yX7_step : MethodName := ⟨RX7, "step", "(II)I"⟩
abbrev cX7_level : ByteArray := prog_9_method_29_code
def yX7_level : MethodName := ⟨RX7, "level", "(II)I"⟩
abbrev cX7_height : ByteArray := prog_9_method_30_code
def yX7_height : MethodName := ⟨RX7, "height", "(I)I"⟩
abbrev cX7_holds : ByteArray := prog_9_method_31_code
def yX7_holds : MethodName := ⟨RX7, "holds", "(II)I"⟩
abbrev cX7_span : ByteArray := prog_9_method_32_code
def yX7_span : MethodName := ⟨RX7, "span", "(II)I"⟩
abbrev cX7_rowsOf : ByteArray := prog_9_method_33_code
def yX7_rowsOf : MethodName := ⟨RX7, "rowsOf", "(IIZ)I"⟩
abbrev cX7_namesOf : ByteArray := prog_9_method_34_code
def yX7_namesOf : MethodName := ⟨RX7, "namesOf", "(II)I"⟩
abbrev cX7_groupsOf : ByteArray := prog_9_method_35_code
def yX7_groupsOf : MethodName := ⟨RX7, "groupsOf", "(II)I"⟩
abbrev cX7_restsOf : ByteArray := prog_9_method_36_code
def yX7_restsOf : MethodName := ⟨RX7, "restsOf", "(II)I"⟩
abbrev cX7_clausesOf : ByteArray := prog_9_method_37_code
def yX7_clausesOf : MethodName := ⟨RX7, "clausesOf", "(II)I"⟩
abbrev cX7_laysSpan : ByteArray := prog_9_method_38_code
def yX7_laysSpan : MethodName := ⟨RX7, "laysSpan", "(II)V"⟩
abbrev cX7_laysSpans : ByteArray := prog_9_method_39_code
def yX7_laysSpans : MethodName := ⟨RX7, "laysSpans", "()V"⟩
abbrev cX7_partOf : ByteArray := prog_9_method_40_code
def yX7_partOf : MethodName := ⟨RX7, "partOf", "(III)I"⟩
abbrev cX7_allByParts : ByteArray := prog_9_method_41_code
def yX7_allByParts : MethodName := ⟨RX7, "allByParts", "()I"⟩
abbrev cX7_begins : ByteArray := prog_9_method_42_code
def yX7_begins : MethodName := ⟨RX7, "begins", "()I"⟩
abbrev cX7_add : ByteArray := prog_9_method_43_code
def yX7_add : MethodName := ⟨RX7, "add", "(I)I"⟩
abbrev cX7_change : ByteArray := prog_9_method_44_code
def yX7_change : MethodName := ⟨RX7, "change", "(II)I"⟩
abbrev cX7_wipe : ByteArray := prog_9_method_45_code
def yX7_wipe : MethodName := ⟨RX7, "wipe", "(I)I"⟩
abbrev cX7_isHead : ByteArray := prog_9_method_46_code
def yX7_isHead : MethodName := ⟨RX7, "isHead", "(II)Z"⟩
abbrev cX7_leftBy : ByteArray := prog_9_method_47_code
def yX7_leftBy : MethodName := ⟨RX7, "leftBy", "(II)I"⟩
abbrev cX7_fix : ByteArray := prog_9_method_48_code
def yX7_fix : MethodName := ⟨RX7, "fix", "(II)I"⟩
abbrev cX7_loosen : ByteArray := prog_9_method_49_code
def yX7_loosen : MethodName := ⟨RX7, "loosen", "(I)I"⟩
abbrev cX7_draw : ByteArray := prog_9_method_50_code
def yX7_draw : MethodName := ⟨RX7, "draw", "(I)I"⟩
abbrev cX7_flatten : ByteArray := prog_9_method_51_code
def yX7_flatten : MethodName := ⟨RX7, "flatten", "()I"⟩
abbrev cX7_append : ByteArray := prog_9_method_52_code
def yX7_append : MethodName := ⟨RX7, "append", "(I)I"⟩
abbrev cX7_clearBuffer : ByteArray := prog_9_method_53_code
def yX7_clearBuffer : MethodName := ⟨RX7, "clearBuffer", "()I"⟩
abbrev cX7_letterOf : ByteArray := prog_9_method_54_code
def yX7_letterOf : MethodName := ⟨RX7, "letterOf", "(I)I"⟩
abbrev cX7_kindOf : ByteArray := prog_9_method_55_code
def yX7_kindOf : MethodName := ⟨RX7, "kindOf", "(I)I"⟩
abbrev cX7_errorAt : ByteArray := prog_9_method_56_code
def yX7_errorAt : MethodName := ⟨RX7, "errorAt", "()I"⟩
abbrev cX7_firstError : ByteArray := prog_9_method_57_code
def yX7_firstError : MethodName := ⟨RX7, "firstError", "()I"⟩
abbrev cX7_load : ByteArray := prog_9_method_58_code
def yX7_load : MethodName := ⟨RX7, "load", "()I"⟩
abbrev cX7_write : ByteArray := prog_9_method_59_code
def yX7_write : MethodName := ⟨RX7, "write", "()I"⟩
abbrev cX7_keep : ByteArray := prog_9_method_60_code
def yX7_keep : MethodName := ⟨RX7, "keep", "(I)I"⟩
abbrev cX7_goBack : ByteArray := prog_9_method_61_code
def yX7_goBack : MethodName := ⟨RX7, "goBack", "(I)I"⟩
abbrev cX7_undo : ByteArray := prog_9_method_62_code
def yX7_undo : MethodName := ⟨RX7, "undo", "()I"⟩
abbrev cX7_haveHead : ByteArray := prog_9_method_63_code
def yX7_haveHead : MethodName := ⟨RX7, "haveHead", "(II)I"⟩
abbrev cX7_headsOf : ByteArray := prog_9_method_64_code
def yX7_headsOf : MethodName := ⟨RX7, "headsOf", "(IZ)I"⟩
abbrev cX7_drawn : ByteArray := prog_9_method_65_code
def yX7_drawn : MethodName := ⟨RX7, "drawn", "()I"⟩
abbrev cX7_tellsWord : ByteArray := prog_9_method_66_code
def yX7_tellsWord : MethodName := ⟨RX7, "tellsWord", "(II)I"⟩
abbrev cX7_tellsDrawn : ByteArray := prog_9_method_67_code
def yX7_tellsDrawn : MethodName := ⟨RX7, "tellsDrawn", "(III)I"⟩
abbrev cX7_wordOf : ByteArray := prog_9_method_68_code
def yX7_wordOf : MethodName := ⟨RX7, "wordOf", "(II)I"⟩
abbrev cX7_wordsOf : ByteArray := prog_9_method_69_code
def yX7_wordsOf : MethodName := ⟨RX7, "wordsOf", "(I)I"⟩
abbrev cX7_mostHeld : ByteArray := prog_9_method_70_code
def yX7_mostHeld : MethodName := ⟨RX7, "mostHeld", "(I)I"⟩
abbrev cX7_tellsReading : ByteArray := prog_9_method_71_code
def yX7_tellsReading : MethodName := ⟨RX7, "tellsReading", "(II)I"⟩
abbrev cX7_readingOf : ByteArray := prog_9_method_72_code
def yX7_readingOf : MethodName := ⟨RX7, "readingOf", "(II)I"⟩
abbrev cX7_fixedWords : ByteArray := prog_9_method_73_code
def yX7_fixedWords : MethodName := ⟨RX7, "fixedWords", "()I"⟩
abbrev cX7_wordsWith : ByteArray := prog_9_method_74_code
def yX7_wordsWith : MethodName := ⟨RX7, "wordsWith", "(Z)I"⟩
abbrev cX7_tellsCount : ByteArray := prog_9_method_75_code
def yX7_tellsCount : MethodName := ⟨RX7, "tellsCount", "(I)I"⟩
abbrev cX7_count : ByteArray := prog_9_method_76_code
def yX7_count : MethodName := ⟨RX7, "count", "(I)I"⟩
abbrev cX7_part : ByteArray := prog_9_method_77_code
def yX7_part : MethodName := ⟨RX7, "part", "(III)I"⟩
abbrev cX7_ifFixed : ByteArray := prog_9_method_78_code
def yX7_ifFixed : MethodName := ⟨RX7, "ifFixed", "(II)I"⟩
abbrev cX7_asked : ByteArray := prog_9_method_79_code
def yX7_asked : MethodName := ⟨RX7, "asked", "()I"⟩
abbrev cX7_question : ByteArray := prog_9_method_80_code
def yX7_question : MethodName := ⟨RX7, "question", "()I"⟩
abbrev cX7_addable : ByteArray := prog_9_method_81_code
def yX7_addable : MethodName := ⟨RX7, "addable", "()I"⟩
abbrev cX7_next : ByteArray := prog_9_method_82_code
def yX7_next : MethodName := ⟨RX7, "next", "()I"⟩
abbrev cX7_sure : ByteArray := prog_9_method_83_code
def yX7_sure : MethodName := ⟨RX7, "sure", "()D"⟩
abbrev cX7_sureShare : ByteArray := prog_9_method_84_code
def yX7_sureShare : MethodName := ⟨RX7, "sureShare", "()D"⟩
abbrev cX7_hashes : ByteArray := prog_9_method_85_code
def yX7_hashes : MethodName := ⟨RX7, "hashes", "(J)V"⟩
abbrev cX7_hashesParts : ByteArray := prog_9_method_86_code
def yX7_hashesParts : MethodName := ⟨RX7, "hashesParts", "()V"⟩
abbrev cX7_digest : ByteArray := prog_9_method_87_code
def yX7_digest : MethodName := ⟨RX7, "digest", "()J"⟩
def RJx145de : String := "java/io/Serializable"
def TJx145de : u_T := fun k => match k with
  | _ => ("", "", "", false)
def tyJx145de : Nat → FieldType := fun k => match k with
  | _ => .int
theorem nmJx145de : ∀ a, a < 0 → ∀ b, b < 0 → a ≠ b → (TJx145de a).2.1 ≠ (TJx145de b).2.1 := by decide +kernel
theorem tyJx145de_ok : ∀ k, k < 0 → parseFieldDescriptor (TJx145de k).2.2.1 = some (tyJx145de k) := by decide +kernel
def RJx9f9b0 : String := "java/lang/CharSequence"
def TJx9f9b0 : u_T := fun k => match k with
  | _ => ("", "", "", false)
def tyJx9f9b0 : Nat → FieldType := fun k => match k with
  | _ => .int
theorem nmJx9f9b0 : ∀ a, a < 0 → ∀ b, b < 0 → a ≠ b → (TJx9f9b0 a).2.1 ≠ (TJx9f9b0 b).2.1 := by decide +kernel
theorem tyJx9f9b0_ok : ∀ k, k < 0 → parseFieldDescriptor (TJx9f9b0 k).2.2.1 = some (tyJx9f9b0 k) := by decide +kernel
def RJx8e188 : String := "java/lang/Cloneable"
def TJx8e188 : u_T := fun k => match k with
  | _ => ("", "", "", false)
def tyJx8e188 : Nat → FieldType := fun k => match k with
  | _ => .int
theorem nmJx8e188 : ∀ a, a < 0 → ∀ b, b < 0 → a ≠ b → (TJx8e188 a).2.1 ≠ (TJx8e188 b).2.1 := by decide +kernel
theorem tyJx8e188_ok : ∀ k, k < 0 → parseFieldDescriptor (TJx8e188 k).2.2.1 = some (tyJx8e188 k) := by decide +kernel
def RJxb160c : String := "java/lang/Comparable"
def TJxb160c : u_T := fun k => match k with
  | _ => ("", "", "", false)
def tyJxb160c : Nat → FieldType := fun k => match k with
  | _ => .int
theorem nmJxb160c : ∀ a, a < 0 → ∀ b, b < 0 → a ≠ b → (TJxb160c a).2.1 ≠ (TJxb160c b).2.1 := by decide +kernel
theorem tyJxb160c_ok : ∀ k, k < 0 → parseFieldDescriptor (TJxb160c k).2.2.1 = some (tyJxb160c k) := by decide +kernel
def RJxe99ae : String := "java/lang/Double"
def TJxe99ae : u_T := fun k => match k with
  | _ => ("", "", "", false)
def tyJxe99ae : Nat → FieldType := fun k => match k with
  | _ => .int
theorem nmJxe99ae : ∀ a, a < 0 → ∀ b, b < 0 → a ≠ b → (TJxe99ae a).2.1 ≠ (TJxe99ae b).2.1 := by decide +kernel
theorem tyJxe99ae_ok : ∀ k, k < 0 → parseFieldDescriptor (TJxe99ae k).2.2.1 = some (tyJxe99ae k) := by decide +kernel
abbrev cJxe99ae_isNaN_b9ae7 : ByteArray := prog_14_method_6_code
def yJxe99ae_isNaN_b9ae7 : MethodName := ⟨RJxe99ae, "isNaN", "(D)Z"⟩
abbrev cJxe99ae_doubleToLongBits_ccdee : ByteArray := prog_14_method_23_code
def yJxe99ae_doubleToLongBits_ccdee : MethodName := ⟨RJxe99ae, "doubleToLongBits", "(D)J"⟩
def RJ6 : String := "java/lang/Integer"
def TJ6 : u_T := fun k => match k with
  | _ => ("", "", "", false)
def tyJ6 : Nat → FieldType := fun k => match k with
  | _ => .int
theorem nmJ6 : ∀ a, a < 0 → ∀ b, b < 0 → a ≠ b → (TJ6 a).2.1 ≠ (TJ6 b).2.1 := by decide +kernel
theorem tyJ6_ok : ∀ k, k < 0 → parseFieldDescriptor (TJ6 k).2.2.1 = some (tyJ6 k) := by decide +kernel
abbrev cJ6_bitCount_0f7a4 : ByteArray := prog_19_method_49_code
def yJ6_bitCount_0f7a4 : MethodName := ⟨RJ6, "bitCount", "(I)I"⟩
def RJxab1ab : String := "java/lang/Iterable"
def TJxab1ab : u_T := fun k => match k with
  | _ => ("", "", "", false)
def tyJxab1ab : Nat → FieldType := fun k => match k with
  | _ => .int
theorem nmJxab1ab : ∀ a, a < 0 → ∀ b, b < 0 → a ≠ b → (TJxab1ab a).2.1 ≠ (TJxab1ab b).2.1 := by decide +kernel
theorem tyJxab1ab_ok : ∀ k, k < 0 → parseFieldDescriptor (TJxab1ab k).2.2.1 = some (tyJxab1ab k) := by decide +kernel
def RJ9 : String := "java/lang/Math"
def TJ9 : u_T := fun k => match k with
  | _ => ("", "", "", false)
def tyJ9 : Nat → FieldType := fun k => match k with
  | _ => .int
theorem nmJ9 : ∀ a, a < 0 → ∀ b, b < 0 → a ≠ b → (TJ9 a).2.1 ≠ (TJ9 b).2.1 := by decide +kernel
theorem tyJ9_ok : ∀ k, k < 0 → parseFieldDescriptor (TJ9 k).2.2.1 = some (tyJ9 k) := by decide +kernel
abbrev cJ9_max_7cf53 : ByteArray := prog_21_method_65_code
def yJ9_max_7cf53 : MethodName := ⟨RJ9, "max", "(II)I"⟩
abbrev cJ9_min_7cf53 : ByteArray := prog_21_method_69_code
def yJ9_min_7cf53 : MethodName := ⟨RJ9, "min", "(II)I"⟩
def RJxd2413 : String := "java/lang/Number"
def TJxd2413 : u_T := fun k => match k with
  | _ => ("", "", "", false)
def tyJxd2413 : Nat → FieldType := fun k => match k with
  | _ => .int
theorem nmJxd2413 : ∀ a, a < 0 → ∀ b, b < 0 → a ≠ b → (TJxd2413 a).2.1 ≠ (TJxd2413 b).2.1 := by decide +kernel
theorem tyJxd2413_ok : ∀ k, k < 0 → parseFieldDescriptor (TJxd2413 k).2.2.1 = some (tyJxd2413 k) := by decide +kernel
def RJ0 : String := "java/lang/String"
def TJ0 : u_T := fun k => match k with
  | _ => ("", "", "", false)
def tyJ0 : Nat → FieldType := fun k => match k with
  | _ => .int
theorem nmJ0 : ∀ a, a < 0 → ∀ b, b < 0 → a ≠ b → (TJ0 a).2.1 ≠ (TJ0 b).2.1 := by decide +kernel
theorem tyJ0_ok : ∀ k, k < 0 → parseFieldDescriptor (TJ0 k).2.2.1 = some (tyJ0 k) := by decide +kernel
abbrev cJ0_length_8abf5 : ByteArray := prog_24_method_54_code
def yJ0_length_8abf5 : MethodName := ⟨RJ0, "length", "()I"⟩
abbrev cJ0_charAt_5068e : ByteArray := prog_24_method_56_code
def yJ0_charAt_5068e : MethodName := ⟨RJ0, "charAt", "(I)C"⟩
abbrev cJ0_coder_7d493 : ByteArray := prog_24_method_152_code
def yJ0_coder_7d493 : MethodName := ⟨RJ0, "coder", "()B"⟩
abbrev cJ0_isLatin1_aae02 : ByteArray := prog_24_method_154_code
def yJ0_isLatin1_aae02 : MethodName := ⟨RJ0, "isLatin1", "()Z"⟩
abbrev cJ0_checkIndex_df160 : ByteArray := prog_24_method_155_code
def yJ0_checkIndex_df160 : MethodName := ⟨RJ0, "checkIndex", "(II)V"⟩
def RJ1 : String := "java/lang/StringLatin1"
def TJ1 : u_T := fun k => match k with
  | _ => ("", "", "", false)
def tyJ1 : Nat → FieldType := fun k => match k with
  | _ => .int
theorem nmJ1 : ∀ a, a < 0 → ∀ b, b < 0 → a ≠ b → (TJ1 a).2.1 ≠ (TJ1 b).2.1 := by decide +kernel
theorem tyJ1_ok : ∀ k, k < 0 → parseFieldDescriptor (TJ1 k).2.2.1 = some (tyJ1 k) := by decide +kernel
abbrev cJ1_charAt_3b067 : ByteArray := prog_25_method_2_code
def yJ1_charAt_3b067 : MethodName := ⟨RJ1, "charAt", "([BI)C"⟩
def RJ2 : String := "java/lang/StringUTF16"
def TJ2 : u_T := fun k => match k with
  | _ => ("", "", "", false)
def tyJ2 : Nat → FieldType := fun k => match k with
  | _ => .int
theorem nmJ2 : ∀ a, a < 0 → ∀ b, b < 0 → a ≠ b → (TJ2 a).2.1 ≠ (TJ2 b).2.1 := by decide +kernel
theorem tyJ2_ok : ∀ k, k < 0 → parseFieldDescriptor (TJ2 k).2.2.1 = some (tyJ2 k) := by decide +kernel
abbrev cJ2_getChar_3b067 : ByteArray := prog_26_method_5_code
def yJ2_getChar_3b067 : MethodName := ⟨RJ2, "getChar", "([BI)C"⟩
abbrev cJ2_length_9d52b : ByteArray := prog_26_method_6_code
def yJ2_length_9d52b : MethodName := ⟨RJ2, "length", "([B)I"⟩
abbrev cJ2_charAt_3b067 : ByteArray := prog_26_method_83_code
def yJ2_charAt_3b067 : MethodName := ⟨RJ2, "charAt", "([BI)C"⟩
abbrev cJ2_checkIndex_2214a : ByteArray := prog_26_method_91_code
def yJ2_checkIndex_2214a : MethodName := ⟨RJ2, "checkIndex", "(I[B)V"⟩
def RJ10 : String := "java/lang/System"
def TJ10 : u_T := fun k => match k with
  | _ => ("", "", "", false)
def tyJ10 : Nat → FieldType := fun k => match k with
  | _ => .int
theorem nmJ10 : ∀ a, a < 0 → ∀ b, b < 0 → a ≠ b → (TJ10 a).2.1 ≠ (TJ10 b).2.1 := by decide +kernel
theorem tyJ10_ok : ∀ k, k < 0 → parseFieldDescriptor (TJ10 k).2.2.1 = some (tyJ10 k) := by decide +kernel
def RJxfd54e : String := "java/lang/constant/Constable"
def TJxfd54e : u_T := fun k => match k with
  | _ => ("", "", "", false)
def tyJxfd54e : Nat → FieldType := fun k => match k with
  | _ => .int
theorem nmJxfd54e : ∀ a, a < 0 → ∀ b, b < 0 → a ≠ b → (TJxfd54e a).2.1 ≠ (TJxfd54e b).2.1 := by decide +kernel
theorem tyJxfd54e_ok : ∀ k, k < 0 → parseFieldDescriptor (TJxfd54e k).2.2.1 = some (tyJxfd54e k) := by decide +kernel
def RJx3cf43 : String := "java/lang/constant/ConstantDesc"
def TJx3cf43 : u_T := fun k => match k with
  | _ => ("", "", "", false)
def tyJx3cf43 : Nat → FieldType := fun k => match k with
  | _ => .int
theorem nmJx3cf43 : ∀ a, a < 0 → ∀ b, b < 0 → a ≠ b → (TJx3cf43 a).2.1 ≠ (TJx3cf43 b).2.1 := by decide +kernel
theorem tyJx3cf43_ok : ∀ k, k < 0 → parseFieldDescriptor (TJx3cf43 k).2.2.1 = some (tyJx3cf43 k) := by decide +kernel
def RJxa1e45 : String := "java/util/AbstractCollection"
def TJxa1e45 : u_T := fun k => match k with
  | _ => ("", "", "", false)
def tyJxa1e45 : Nat → FieldType := fun k => match k with
  | _ => .int
theorem nmJxa1e45 : ∀ a, a < 0 → ∀ b, b < 0 → a ≠ b → (TJxa1e45 a).2.1 ≠ (TJxa1e45 b).2.1 := by decide +kernel
theorem tyJxa1e45_ok : ∀ k, k < 0 → parseFieldDescriptor (TJxa1e45 k).2.2.1 = some (tyJxa1e45 k) := by decide +kernel
abbrev cJxa1e45_init_da8c8 : ByteArray := prog_31_method_1_code
def yJxa1e45_init_da8c8 : MethodName := ⟨RJxa1e45, "<init>", "()V"⟩
def RJxc12de : String := "java/util/AbstractList"
def TJxc12de : u_T := fun k => match k with
  | _ => ("", "", "", false)
def tyJxc12de : Nat → FieldType := fun k => match k with
  | _ => .int
theorem nmJxc12de : ∀ a, a < 0 → ∀ b, b < 0 → a ≠ b → (TJxc12de a).2.1 ≠ (TJxc12de b).2.1 := by decide +kernel
theorem tyJxc12de_ok : ∀ k, k < 0 → parseFieldDescriptor (TJxc12de k).2.2.1 = some (tyJxc12de k) := by decide +kernel
abbrev cJxc12de_init_da8c8 : ByteArray := prog_32_method_1_code
def yJxc12de_init_da8c8 : MethodName := ⟨RJxc12de, "<init>", "()V"⟩
def RJx4a65c : String := "java/util/ArrayList"
def TJx4a65c : u_T := fun k => match k with
  | 0 => ("java/util/AbstractList", "modCount", "I", false)
  | 1 => ("java/util/ArrayList", "elementData", "[Ljava/lang/Object;", false)
  | _ => ("java/util/ArrayList", "size", "I", false)
def tyJx4a65c : Nat → FieldType := fun k => match k with
  | 0 => .int
  | 1 => .array (.object "java/lang/Object")
  | _ => .int
theorem nmJx4a65c : ∀ a, a < 3 → ∀ b, b < 3 → a ≠ b → (TJx4a65c a).2.1 ≠ (TJx4a65c b).2.1 := by decide +kernel
theorem tyJx4a65c_ok : ∀ k, k < 3 → parseFieldDescriptor (TJx4a65c k).2.2.1 = some (tyJx4a65c k) := by decide +kernel
abbrev cJx4a65c_init_da8c8 : ByteArray := prog_33_method_2_code
def yJx4a65c_init_da8c8 : MethodName := ⟨RJx4a65c, "<init>", "()V"⟩
abbrev cJx4a65c_grow_92f84 : ByteArray := prog_33_method_6_code
def yJx4a65c_grow_92f84 : MethodName := ⟨RJx4a65c, "grow", "(I)[Ljava/lang/Object;"⟩
abbrev cJx4a65c_grow_d5877 : ByteArray := prog_33_method_7_code
def yJx4a65c_grow_d5877 : MethodName := ⟨RJx4a65c, "grow", "()[Ljava/lang/Object;"⟩
abbrev cJx4a65c_size_8abf5 : ByteArray := prog_33_method_8_code
def yJx4a65c_size_8abf5 : MethodName := ⟨RJx4a65c, "size", "()I"⟩
abbrev cJx4a65c_elementData_915e3 : ByteArray := prog_33_method_18_code
def yJx4a65c_elementData_915e3 : MethodName := ⟨RJx4a65c, "elementData", "(I)Ljava/lang/Object;"⟩
abbrev cJx4a65c_get_915e3 : ByteArray := prog_33_method_20_code
def yJx4a65c_get_915e3 : MethodName := ⟨RJx4a65c, "get", "(I)Ljava/lang/Object;"⟩
abbrev cJx4a65c_add_72be8 : ByteArray := prog_33_method_24_code
def yJx4a65c_add_72be8 : MethodName := ⟨RJx4a65c, "add", "(Ljava/lang/Object;[Ljava/lang/Object;I)V"⟩
abbrev cJx4a65c_add_9ea2d : ByteArray := prog_33_method_25_code
def yJx4a65c_add_9ea2d : MethodName := ⟨RJx4a65c, "add", "(Ljava/lang/Object;)Z"⟩
abbrev cJx4a65c_remove_915e3 : ByteArray := prog_33_method_29_code
def yJx4a65c_remove_915e3 : MethodName := ⟨RJx4a65c, "remove", "(I)Ljava/lang/Object;"⟩
abbrev cJx4a65c_fastRemove_b59b0 : ByteArray := prog_33_method_39_code
def yJx4a65c_fastRemove_b59b0 : MethodName := ⟨RJx4a65c, "fastRemove", "([Ljava/lang/Object;I)V"⟩
def RJ7 : String := "java/util/Arrays"
def TJ7 : u_T := fun k => match k with
  | _ => ("", "", "", false)
def tyJ7 : Nat → FieldType := fun k => match k with
  | _ => .int
theorem nmJ7 : ∀ a, a < 0 → ∀ b, b < 0 → a ≠ b → (TJ7 a).2.1 ≠ (TJ7 b).2.1 := by decide +kernel
theorem tyJ7_ok : ∀ k, k < 0 → parseFieldDescriptor (TJ7 k).2.2.1 = some (tyJ7 k) := by decide +kernel
abbrev cJ7_fill_53178 : ByteArray := prog_34_method_103_code
def yJ7_fill_53178 : MethodName := ⟨RJ7, "fill", "([II)V"⟩
abbrev cJ7_copyOf_1904c : ByteArray := prog_34_method_119_code
def yJ7_copyOf_1904c : MethodName := ⟨RJ7, "copyOf", "([Ljava/lang/Object;I)[Ljava/lang/Object;"⟩
abbrev cJ7_copyOf_6403c : ByteArray := prog_34_method_120_code
def yJ7_copyOf_6403c : MethodName := ⟨RJ7, "copyOf", "([Ljava/lang/Object;ILjava/lang/Class;)[Ljava/lang/Object;"⟩
def RJx5ef63 : String := "java/util/Collection"
def TJx5ef63 : u_T := fun k => match k with
  | _ => ("", "", "", false)
def tyJx5ef63 : Nat → FieldType := fun k => match k with
  | _ => .int
theorem nmJx5ef63 : ∀ a, a < 0 → ∀ b, b < 0 → a ≠ b → (TJx5ef63 a).2.1 ≠ (TJx5ef63 b).2.1 := by decide +kernel
theorem tyJx5ef63_ok : ∀ k, k < 0 → parseFieldDescriptor (TJx5ef63 k).2.2.1 = some (tyJx5ef63 k) := by decide +kernel
def RJxbd725 : String := "java/util/List"
def TJxbd725 : u_T := fun k => match k with
  | _ => ("", "", "", false)
def tyJxbd725 : Nat → FieldType := fun k => match k with
  | _ => .int
theorem nmJxbd725 : ∀ a, a < 0 → ∀ b, b < 0 → a ≠ b → (TJxbd725 a).2.1 ≠ (TJxbd725 b).2.1 := by decide +kernel
theorem tyJxbd725_ok : ∀ k, k < 0 → parseFieldDescriptor (TJxbd725 k).2.2.1 = some (tyJxbd725 k) := by decide +kernel
def RJ15 : String := "java/util/Objects"
def TJ15 : u_T := fun k => match k with
  | _ => ("", "", "", false)
def tyJ15 : Nat → FieldType := fun k => match k with
  | _ => .int
theorem nmJ15 : ∀ a, a < 0 → ∀ b, b < 0 → a ≠ b → (TJ15 a).2.1 ≠ (TJ15 b).2.1 := by decide +kernel
theorem tyJ15_ok : ∀ k, k < 0 → parseFieldDescriptor (TJ15 k).2.2.1 = some (tyJ15 k) := by decide +kernel
abbrev cJ15_checkIndex_7cf53 : ByteArray := prog_37_method_17_code
def yJ15_checkIndex_7cf53 : MethodName := ⟨RJ15, "checkIndex", "(II)I"⟩
def RJxf0a74 : String := "java/util/RandomAccess"
def TJxf0a74 : u_T := fun k => match k with
  | _ => ("", "", "", false)
def tyJxf0a74 : Nat → FieldType := fun k => match k with
  | _ => .int
theorem nmJxf0a74 : ∀ a, a < 0 → ∀ b, b < 0 → a ≠ b → (TJxf0a74 a).2.1 ≠ (TJxf0a74 b).2.1 := by decide +kernel
theorem tyJxf0a74_ok : ∀ k, k < 0 → parseFieldDescriptor (TJxf0a74 k).2.2.1 = some (tyJxf0a74 k) := by decide +kernel
def RJxa66e6 : String := "java/util/SequencedCollection"
def TJxa66e6 : u_T := fun k => match k with
  | _ => ("", "", "", false)
def tyJxa66e6 : Nat → FieldType := fun k => match k with
  | _ => .int
theorem nmJxa66e6 : ∀ a, a < 0 → ∀ b, b < 0 → a ≠ b → (TJxa66e6 a).2.1 ≠ (TJxa66e6 b).2.1 := by decide +kernel
theorem tyJxa66e6_ok : ∀ k, k < 0 → parseFieldDescriptor (TJxa66e6 k).2.2.1 = some (tyJxa66e6 k) := by decide +kernel
def RJ8 : String := "jdk/internal/util/ArraysSupport"
def TJ8 : u_T := fun k => match k with
  | _ => ("", "", "", false)
def tyJ8 : Nat → FieldType := fun k => match k with
  | _ => .int
theorem nmJ8 : ∀ a, a < 0 → ∀ b, b < 0 → a ≠ b → (TJ8 a).2.1 ≠ (TJ8 b).2.1 := by decide +kernel
theorem tyJ8_ok : ∀ k, k < 0 → parseFieldDescriptor (TJ8 k).2.2.1 = some (tyJ8 k) := by decide +kernel
abbrev cJ8_newLength_cabcc : ByteArray := prog_40_method_27_code
def yJ8_newLength_cabcc : MethodName := ⟨RJ8, "newLength", "(III)I"⟩
abbrev cJ8_hugeLength_7cf53 : ByteArray := prog_40_method_28_code
def yJ8_hugeLength_7cf53 : MethodName := ⟨RJ8, "hugeLength", "(II)I"⟩
def RJ3 : String := "jdk/internal/util/Preconditions"
def TJ3 : u_T := fun k => match k with
  | _ => ("", "", "", false)
def tyJ3 : Nat → FieldType := fun k => match k with
  | _ => .int
theorem nmJ3 : ∀ a, a < 0 → ∀ b, b < 0 → a ≠ b → (TJ3 a).2.1 ≠ (TJ3 b).2.1 := by decide +kernel
theorem tyJ3_ok : ∀ k, k < 0 → parseFieldDescriptor (TJ3 k).2.2.1 = some (tyJ3 k) := by decide +kernel
abbrev cJ3_checkIndex_8e157 : ByteArray := prog_41_method_11_code
def yJ3_checkIndex_8e157 : MethodName := ⟨RJ3, "checkIndex", "(IILjava/util/function/BiFunction;)I"⟩
def RL : String := "SlantSlateLaw"
abbrev cL_add : ByteArray := method_3_code
def yL_add : MethodName := ⟨RL, "add", "(LSlantSlate;I[J)I"⟩
abbrev cL_change : ByteArray := method_4_code
def yL_change : MethodName := ⟨RL, "change", "(LSlantSlate;II[J)I"⟩
abbrev cL_wipe : ByteArray := method_5_code
def yL_wipe : MethodName := ⟨RL, "wipe", "(LSlantSlate;I[J)I"⟩
abbrev cL_fix : ByteArray := method_6_code
def yL_fix : MethodName := ⟨RL, "fix", "(LSlantSlate;II[J)I"⟩
abbrev cL_loosen : ByteArray := method_7_code
def yL_loosen : MethodName := ⟨RL, "loosen", "(LSlantSlate;I[J)I"⟩
abbrev cL_draw : ByteArray := method_8_code
def yL_draw : MethodName := ⟨RL, "draw", "(LSlantSlate;I[J)I"⟩
abbrev cL_flatten : ByteArray := method_9_code
def yL_flatten : MethodName := ⟨RL, "flatten", "(LSlantSlate;[J)I"⟩
abbrev cL_append : ByteArray := method_10_code
def yL_append : MethodName := ⟨RL, "append", "(LSlantSlate;I[J)I"⟩
abbrev cL_load : ByteArray := method_11_code
def yL_load : MethodName := ⟨RL, "load", "(LSlantSlate;[J)I"⟩
abbrev cL_write : ByteArray := method_12_code
def yL_write : MethodName := ⟨RL, "write", "(LSlantSlate;[J)I"⟩
abbrev cL_keep : ByteArray := method_13_code
def yL_keep : MethodName := ⟨RL, "keep", "(LSlantSlate;I[J)I"⟩
abbrev cL_goBack : ByteArray := method_14_code
def yL_goBack : MethodName := ⟨RL, "goBack", "(LSlantSlate;I[J)I"⟩
abbrev cL_undo : ByteArray := method_15_code
def yL_undo : MethodName := ⟨RL, "undo", "(LSlantSlate;[J)I"⟩
abbrev cL_wordOf : ByteArray := method_16_code
def yL_wordOf : MethodName := ⟨RL, "wordOf", "(LSlantSlate;II[J)I"⟩
abbrev cL_readingOf : ByteArray := method_17_code
def yL_readingOf : MethodName := ⟨RL, "readingOf", "(LSlantSlate;II[J)I"⟩
abbrev cL_count : ByteArray := method_18_code
def yL_count : MethodName := ⟨RL, "count", "(LSlantSlate;I[J)I"⟩
abbrev cL_part : ByteArray := method_19_code
def yL_part : MethodName := ⟨RL, "part", "(LSlantSlate;III[J)I"⟩
abbrev cL_ifFixed : ByteArray := method_20_code
def yL_ifFixed : MethodName := ⟨RL, "ifFixed", "(LSlantSlate;II[J)I"⟩
abbrev cL_law : ByteArray := code
def yL_law : MethodName := ⟨RL, "law", "([I)Z"⟩
abbrev vwCl : List vw_C := [(RJx4a65c, TJx4a65c, 3), (RX0, TX0, 8), (RX1, TX1, 1), (RX2, TX2, 7), (RX3, TX3, 5), (RX4, TX4, 4), (RX5, TX5, 1), (RX6, TX6, 15), (RX7, TX7, 26)]
