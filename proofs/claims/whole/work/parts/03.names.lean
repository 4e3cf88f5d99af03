def RX0 : String := "Fieldgrammar$CellRows"
def TX0 : u_T := fun k => match k with
  | 0 => ("Fieldgrammar$CellRows", "rows", "[J", true)
  | _ => ("Fieldgrammar$CellRows", "cells", "I", false)
def tyX0 : Nat → FieldType := fun k => match k with
  | 0 => .array .long
  | _ => .int
abbrev wsX00 : List Cond := u_ws RX0 TX0 2
theorem nmX0 : ∀ a, a < 2 → ∀ b, b < 2 → a ≠ b → (TX0 a).2.1 ≠ (TX0 b).2.1 := by decide +kernel
theorem tyX0_ok : ∀ k, k < 2 → parseFieldDescriptor (TX0 k).2.2.1 = some (tyX0 k) := by decide +kernel
abbrev cX0_init : ByteArray := prog_2_method_1_code
def yX0_init : MethodName := ⟨RX0, "<init>", "()V"⟩
abbrev cX0_isCell : ByteArray := prog_2_method_2_code
def yX0_isCell : MethodName := ⟨RX0, "isCell", "(I)Z"⟩
abbrev cX0_has : ByteArray := prog_2_method_3_code
def yX0_has : MethodName := ⟨RX0, "has", "(I)Z"⟩
abbrev cX0_in : ByteArray := prog_2_method_4_code
def yX0_in : MethodName := ⟨RX0, "in", "(I)J"⟩
abbrev cX0_give : ByteArray := prog_2_method_5_code
def yX0_give : MethodName := ⟨RX0, "give", "(IJ)V"⟩
abbrev cX0_drop : ByteArray := prog_2_method_6_code
def yX0_drop : MethodName := ⟨RX0, "drop", "(I)V"⟩
abbrev cX0_copyFrom : ByteArray := prog_2_method_7_code
def yX0_copyFrom : MethodName := ⟨RX0, "copyFrom", "(LFieldgrammar$CellRows;)V"⟩
abbrev cX0_fillGapsFrom : ByteArray := prog_2_method_8_code
def yX0_fillGapsFrom : MethodName := ⟨RX0, "fillGapsFrom", "(LFieldgrammar$CellRows;)V"⟩
abbrev cX0_moveTo : ByteArray := prog_2_method_9_code
def yX0_moveTo : MethodName := ⟨RX0, "moveTo", "(LFieldgrammar$CellRows;I)V"⟩
def RX1 : String := "Fieldgrammar$Change"
def TX1 : u_T := fun k => match k with
  | 0 => ("Fieldgrammar$Change", "from", "LFieldgrammar$Lexeme;", true)
  | 1 => ("Fieldgrammar$Change", "to", "LFieldgrammar$Lexeme;", true)
  | 2 => ("Fieldgrammar$Change", "isSplit", "Z", true)
  | 3 => ("Fieldgrammar$Change", "exceptions", "LFieldgrammar$CellRows;", true)
  | _ => ("Fieldgrammar$Change", "moved", "J", false)
def tyX1 : Nat → FieldType := fun k => match k with
  | 0 => .object "Fieldgrammar$Lexeme"
  | 1 => .object "Fieldgrammar$Lexeme"
  | 2 => .boolean
  | 3 => .object "Fieldgrammar$CellRows"
  | _ => .long
abbrev wsX10 : List Cond := u_ws RX1 TX1 5
theorem nmX1 : ∀ a, a < 5 → ∀ b, b < 5 → a ≠ b → (TX1 a).2.1 ≠ (TX1 b).2.1 := by decide +kernel
theorem tyX1_ok : ∀ k, k < 5 → parseFieldDescriptor (TX1 k).2.2.1 = some (tyX1 k) := by decide +kernel
abbrev cX1_init : ByteArray := prog_3_method_1_code
def yX1_init : MethodName := ⟨RX1, "<init>", "(LFieldgrammar$Lexeme;LFieldgrammar$Lexeme;Z)V"⟩
abbrev cX1_staying : ByteArray := prog_3_method_2_code
def yX1_staying : MethodName := ⟨RX1, "staying", "()LFieldgrammar$Lexeme;"⟩
def RX2 : String := "Fieldgrammar$Kind"
def TX2 : u_T := fun k => match k with
  | 0 => ("Fieldgrammar$Kind", "needs", "I", true)
  | 1 => ("Fieldgrammar$Kind", "bars", "I", true)
  | _ => ("Fieldgrammar$Kind", "codes", "I", false)
def tyX2 : Nat → FieldType := fun k => match k with
  | 0 => .int
  | 1 => .int
  | _ => .int
abbrev wsX20 : List Cond := u_ws RX2 TX2 3
theorem nmX2 : ∀ a, a < 3 → ∀ b, b < 3 → a ≠ b → (TX2 a).2.1 ≠ (TX2 b).2.1 := by decide +kernel
theorem tyX2_ok : ∀ k, k < 3 → parseFieldDescriptor (TX2 k).2.2.1 = some (tyX2 k) := by decide +kernel
abbrev cX2_init : ByteArray := prog_4_method_1_code
def yX2_init : MethodName := ⟨RX2, "<init>", "(III)V"⟩
abbrev cX2_look : ByteArray := prog_4_method_2_code
def yX2_look : MethodName := ⟨RX2, "look", "(II)V"⟩
def RX3 : String := "Fieldgrammar$Lexeme"
def TX3 : u_T := fun k => match k with
  | 0 => ("Fieldgrammar$Lexeme", "number", "I", true)
  | 1 => ("Fieldgrammar$Lexeme", "form", "J", false)
  | 2 => ("Fieldgrammar$Lexeme", "isGone", "Z", false)
  | _ => ("Fieldgrammar$Lexeme", "exceptions", "LFieldgrammar$CellRows;", true)
def tyX3 : Nat → FieldType := fun k => match k with
  | 0 => .int
  | 1 => .long
  | 2 => .boolean
  | _ => .object "Fieldgrammar$CellRows"
abbrev wsX30 : List Cond := u_ws RX3 TX3 4
theorem nmX3 : ∀ a, a < 4 → ∀ b, b < 4 → a ≠ b → (TX3 a).2.1 ≠ (TX3 b).2.1 := by decide +kernel
theorem tyX3_ok : ∀ k, k < 4 → parseFieldDescriptor (TX3 k).2.2.1 = some (tyX3 k) := by decide +kernel
abbrev cX3_init : ByteArray := prog_5_method_1_code
def yX3_init : MethodName := ⟨RX3, "<init>", "(IJ)V"⟩
def RX4 : String := "Fieldgrammar$Lexicon"
def TX4 : u_T := fun k => match k with
  | 0 => ("Fieldgrammar$Lexicon", "lexemes", "Ljava/util/ArrayList;", true)
  | 1 => ("Fieldgrammar$Lexicon", "words", "Ljava/util/ArrayList;", true)
  | _ => ("Fieldgrammar$Lexicon", "changes", "Ljava/util/ArrayList;", true)
def tyX4 : Nat → FieldType := fun k => match k with
  | 0 => .object "java/util/ArrayList"
  | 1 => .object "java/util/ArrayList"
  | _ => .object "java/util/ArrayList"
abbrev wsX40 : List Cond := u_ws RX4 TX4 3
theorem nmX4 : ∀ a, a < 3 → ∀ b, b < 3 → a ≠ b → (TX4 a).2.1 ≠ (TX4 b).2.1 := by decide +kernel
theorem tyX4_ok : ∀ k, k < 3 → parseFieldDescriptor (TX4 k).2.2.1 = some (tyX4 k) := by decide +kernel
abbrev cX4_init : ByteArray := prog_6_method_1_code
def yX4_init : MethodName := ⟨RX4, "<init>", "()V"⟩
abbrev cX4_lexemeCount : ByteArray := prog_6_method_2_code
def yX4_lexemeCount : MethodName := ⟨RX4, "lexemeCount", "()I"⟩
abbrev cX4_wordCount : ByteArray := prog_6_method_3_code
def yX4_wordCount : MethodName := ⟨RX4, "wordCount", "()I"⟩
abbrev cX4_changesLeft : ByteArray := prog_6_method_4_code
def yX4_changesLeft : MethodName := ⟨RX4, "changesLeft", "()I"⟩
abbrev cX4_lexemeNumbered : ByteArray := prog_6_method_5_code
def yX4_lexemeNumbered : MethodName := ⟨RX4, "lexemeNumbered", "(I)LFieldgrammar$Lexeme;"⟩
abbrev cX4_wordNumbered : ByteArray := prog_6_method_6_code
def yX4_wordNumbered : MethodName := ⟨RX4, "wordNumbered", "(I)LFieldgrammar$Word;"⟩
abbrev cX4_addLexeme : ByteArray := prog_6_method_7_code
def yX4_addLexeme : MethodName := ⟨RX4, "addLexeme", "(J)LFieldgrammar$Lexeme;"⟩
abbrev cX4_addWord : ByteArray := prog_6_method_8_code
def yX4_addWord : MethodName := ⟨RX4, "addWord", "(LFieldgrammar$Lexeme;IIJ)I"⟩
abbrev cX4_wordsLeft : ByteArray := prog_6_method_9_code
def yX4_wordsLeft : MethodName := ⟨RX4, "wordsLeft", "()I"⟩
abbrev cX4_cellsHeard : ByteArray := prog_6_method_10_code
def yX4_cellsHeard : MethodName := ⟨RX4, "cellsHeard", "(LFieldgrammar$Lexeme;)I"⟩
abbrev cX4_cellsShared : ByteArray := prog_6_method_11_code
def yX4_cellsShared : MethodName := ⟨RX4, "cellsShared", "(LFieldgrammar$Lexeme;II)I"⟩
abbrev cX4_wasHeardBy : ByteArray := prog_6_method_12_code
def yX4_wasHeardBy : MethodName := ⟨RX4, "wasHeardBy", "(ILFieldgrammar$Word;)Z"⟩
abbrev cX4_mergeInto : ByteArray := prog_6_method_13_code
def yX4_mergeInto : MethodName := ⟨RX4, "mergeInto", "(LFieldgrammar$Lexeme;LFieldgrammar$Lexeme;)I"⟩
abbrev cX4_splitOff : ByteArray := prog_6_method_14_code
def yX4_splitOff : MethodName := ⟨RX4, "splitOff", "(LFieldgrammar$Lexeme;I)I"⟩
abbrev cX4_begin : ByteArray := prog_6_method_15_code
def yX4_begin : MethodName := ⟨RX4, "begin", "(LFieldgrammar$Lexeme;LFieldgrammar$Lexeme;Z)LFieldgrammar$Change;"⟩
abbrev cX4_moveWords : ByteArray := prog_6_method_16_code
def yX4_moveWords : MethodName := ⟨RX4, "moveWords", "(LFieldgrammar$Lexeme;LFieldgrammar$Lexeme;I)J"⟩
abbrev cX4_takeBack : ByteArray := prog_6_method_17_code
def yX4_takeBack : MethodName := ⟨RX4, "takeBack", "()I"⟩
def RX5 : String := "Fieldgrammar$Phonology"
def TX5 : u_T := fun k => match k with
  | 0 => ("Fieldgrammar$Phonology", "featuresOfCode", "[I", true)
  | 1 => ("Fieldgrammar$Phonology", "codeOfFeatures", "[I", true)
  | 2 => ("Fieldgrammar$Phonology", "sounds", "I", false)
  | 3 => ("Fieldgrammar$Phonology", "kinds", "Ljava/util/ArrayList;", true)
  | 4 => ("Fieldgrammar$Phonology", "any", "LFieldgrammar$Kind;", true)
  | 5 => ("Fieldgrammar$Phonology", "edge", "LFieldgrammar$Kind;", true)
  | 6 => ("Fieldgrammar$Phonology", "rules", "Ljava/util/ArrayList;", true)
  | 7 => ("Fieldgrammar$Phonology", "order", "Ljava/util/ArrayList;", true)
  | 8 => ("Fieldgrammar$Phonology", "on", "I", false)
  | _ => ("Fieldgrammar$Phonology", "bySet", "[J", true)
def tyX5 : Nat → FieldType := fun k => match k with
  | 0 => .array .int
  | 1 => .array .int
  | 2 => .int
  | 3 => .object "java/util/ArrayList"
  | 4 => .object "Fieldgrammar$Kind"
  | 5 => .object "Fieldgrammar$Kind"
  | 6 => .object "java/util/ArrayList"
  | 7 => .object "java/util/ArrayList"
  | 8 => .int
  | _ => .array .long
abbrev wsX50 : List Cond := u_ws RX5 TX5 10
theorem nmX5 : ∀ a, a < 10 → ∀ b, b < 10 → a ≠ b → (TX5 a).2.1 ≠ (TX5 b).2.1 := by decide +kernel
theorem tyX5_ok : ∀ k, k < 10 → parseFieldDescriptor (TX5 k).2.2.1 = some (tyX5 k) := by decide +kernel
abbrev cX5_init : ByteArray := prog_7_method_1_code
def yX5_init : MethodName := ⟨RX5, "<init>", "()V"⟩
abbrev cX5_soundCount : ByteArray := prog_7_method_2_code
def yX5_soundCount : MethodName := ⟨RX5, "soundCount", "()I"⟩
abbrev cX5_kindCount : ByteArray := prog_7_method_3_code
def yX5_kindCount : MethodName := ⟨RX5, "kindCount", "()I"⟩
abbrev cX5_ruleCount : ByteArray := prog_7_method_4_code
def yX5_ruleCount : MethodName := ⟨RX5, "ruleCount", "()I"⟩
abbrev cX5_setOfOn : ByteArray := prog_7_method_5_code
def yX5_setOfOn : MethodName := ⟨RX5, "setOfOn", "()I"⟩
abbrev cX5_hasSoundWith : ByteArray := prog_7_method_6_code
def yX5_hasSoundWith : MethodName := ⟨RX5, "hasSoundWith", "(I)Z"⟩
abbrev cX5_addSound : ByteArray := prog_7_method_7_code
def yX5_addSound : MethodName := ⟨RX5, "addSound", "(I)I"⟩
abbrev cX5_addKind : ByteArray := prog_7_method_8_code
def yX5_addKind : MethodName := ⟨RX5, "addKind", "(II)I"⟩
abbrev cX5_kindNumbered : ByteArray := prog_7_method_9_code
def yX5_kindNumbered : MethodName := ⟨RX5, "kindNumbered", "(I)LFieldgrammar$Kind;"⟩
abbrev cX5_sideNumbered : ByteArray := prog_7_method_10_code
def yX5_sideNumbered : MethodName := ⟨RX5, "sideNumbered", "(I)LFieldgrammar$Kind;"⟩
abbrev cX5_ruleNumbered : ByteArray := prog_7_method_11_code
def yX5_ruleNumbered : MethodName := ⟨RX5, "ruleNumbered", "(I)LFieldgrammar$Rule;"⟩
abbrev cX5_addRule : ByteArray := prog_7_method_12_code
def yX5_addRule : MethodName := ⟨RX5, "addRule", "(LFieldgrammar$Kind;ILFieldgrammar$Kind;LFieldgrammar$Kind;)I"⟩
abbrev cX5_setOn : ByteArray := prog_7_method_13_code
def yX5_setOn : MethodName := ⟨RX5, "setOn", "(LFieldgrammar$Rule;Z)Z"⟩
abbrev cX5_moveAhead : ByteArray := prog_7_method_14_code
def yX5_moveAhead : MethodName := ⟨RX5, "moveAhead", "(LFieldgrammar$Rule;)I"⟩
abbrev cX5_turnedCode : ByteArray := prog_7_method_15_code
def yX5_turnedCode : MethodName := ⟨RX5, "turnedCode", "(II)I"⟩
abbrev cX5_goOver : ByteArray := prog_7_method_16_code
def yX5_goOver : MethodName := ⟨RX5, "goOver", "(JLFieldgrammar$Rule;)J"⟩
abbrev cX5_derive : ByteArray := prog_7_method_17_code
def yX5_derive : MethodName := ⟨RX5, "derive", "(JI)J"⟩
abbrev cX5_changesBy : ByteArray := prog_7_method_18_code
def yX5_changesBy : MethodName := ⟨RX5, "changesBy", "(LFieldgrammar$Rule;J)I"⟩
abbrev cX5_deriveByAllSets : ByteArray := prog_7_method_19_code
def yX5_deriveByAllSets : MethodName := ⟨RX5, "deriveByAllSets", "(J)V"⟩
abbrev cX5_wordBySet : ByteArray := prog_7_method_20_code
def yX5_wordBySet : MethodName := ⟨RX5, "wordBySet", "(I)J"⟩
def RX6 : String := "Fieldgrammar$Row"
def TX6 : u_T := fun k => match k with
  | _ => ("", "", "", false)
def tyX6 : Nat → FieldType := fun k => match k with
  | _ => .int
abbrev wsX60 : List Cond := u_ws RX6 TX6 0
theorem nmX6 : ∀ a, a < 0 → ∀ b, b < 0 → a ≠ b → (TX6 a).2.1 ≠ (TX6 b).2.1 := by decide +kernel
theorem tyX6_ok : ∀ k, k < 0 → parseFieldDescriptor (TX6 k).2.2.1 = some (tyX6 k) := by decide +kernel
abbrev cX6_codeOf : ByteArray := prog_8_method_2_code
def yX6_codeOf : MethodName := ⟨RX6, "codeOf", "(I)I"⟩
abbrev cX6_codeAt : ByteArray := prog_8_method_3_code
def yX6_codeAt : MethodName := ⟨RX6, "codeAt", "(JI)I"⟩
abbrev cX6_soundAt : ByteArray := prog_8_method_4_code
def yX6_soundAt : MethodName := ⟨RX6, "soundAt", "(JI)I"⟩
abbrev cX6_sizeOf : ByteArray := prog_8_method_5_code
def yX6_sizeOf : MethodName := ⟨RX6, "sizeOf", "(J)I"⟩
abbrev cX6_with : ByteArray := prog_8_method_6_code
def yX6_with : MethodName := ⟨RX6, "with", "(JII)J"⟩
abbrev cX6_joined : ByteArray := prog_8_method_7_code
def yX6_joined : MethodName := ⟨RX6, "joined", "(JJ)J"⟩
abbrev cX6_changesBetween : ByteArray := prog_8_method_8_code
def yX6_changesBetween : MethodName := ⟨RX6, "changesBetween", "(JJ)I"⟩
abbrev cX6_areApartBy : ByteArray := prog_8_method_9_code
def yX6_areApartBy : MethodName := ⟨RX6, "areApartBy", "(JJII)Z"⟩
def RX7 : String := "Fieldgrammar$Rule"
def TX7 : u_T := fun k => match k with
  | 0 => ("Fieldgrammar$Rule", "number", "I", true)
  | 1 => ("Fieldgrammar$Rule", "target", "LFieldgrammar$Kind;", true)
  | 2 => ("Fieldgrammar$Rule", "turned", "I", true)
  | 3 => ("Fieldgrammar$Rule", "left", "LFieldgrammar$Kind;", true)
  | _ => ("Fieldgrammar$Rule", "right", "LFieldgrammar$Kind;", true)
def tyX7 : Nat → FieldType := fun k => match k with
  | 0 => .int
  | 1 => .object "Fieldgrammar$Kind"
  | 2 => .int
  | 3 => .object "Fieldgrammar$Kind"
  | _ => .object "Fieldgrammar$Kind"
abbrev wsX70 : List Cond := u_ws RX7 TX7 5
theorem nmX7 : ∀ a, a < 5 → ∀ b, b < 5 → a ≠ b → (TX7 a).2.1 ≠ (TX7 b).2.1 := by decide +kernel
theorem tyX7_ok : ∀ k, k < 5 → parseFieldDescriptor (TX7 k).2.2.1 = some (tyX7 k) := by decide +kernel
abbrev cX7_init : ByteArray := prog_9_method_1_code
def yX7_init : MethodName := ⟨RX7, "<init>", "(ILFieldgrammar$Kind;ILFieldgrammar$Kind;LFieldgrammar$Kind;)V"⟩
abbrev cX7_bit : ByteArray := prog_9_method_2_code
def yX7_bit : MethodName := ⟨RX7, "bit", "()I"⟩
abbrev cX7_isIn : ByteArray := prog_9_method_3_code
def yX7_isIn : MethodName := ⟨RX7, "isIn", "(I)Z"⟩
abbrev cX7_meets : ByteArray := prog_9_method_4_code
def yX7_meets : MethodName := ⟨RX7, "meets", "(III)Z"⟩
def RX8 : String := "Fieldgrammar$Word"
def TX8 : u_T := fun k => match k with
  | 0 => ("Fieldgrammar$Word", "lexeme", "LFieldgrammar$Lexeme;", false)
  | 1 => ("Fieldgrammar$Word", "cell", "I", true)
  | 2 => ("Fieldgrammar$Word", "speaker", "I", true)
  | 3 => ("Fieldgrammar$Word", "form", "J", false)
  | _ => ("Fieldgrammar$Word", "isForgotten", "Z", false)
def tyX8 : Nat → FieldType := fun k => match k with
  | 0 => .object "Fieldgrammar$Lexeme"
  | 1 => .int
  | 2 => .int
  | 3 => .long
  | _ => .boolean
abbrev wsX80 : List Cond := u_ws RX8 TX8 5
theorem nmX8 : ∀ a, a < 5 → ∀ b, b < 5 → a ≠ b → (TX8 a).2.1 ≠ (TX8 b).2.1 := by decide +kernel
theorem tyX8_ok : ∀ k, k < 5 → parseFieldDescriptor (TX8 k).2.2.1 = some (tyX8 k) := by decide +kernel
abbrev cX8_init : ByteArray := prog_10_method_1_code
def yX8_init : MethodName := ⟨RX8, "<init>", "(LFieldgrammar$Lexeme;IIJ)V"⟩
abbrev cX8_isOfException : ByteArray := prog_10_method_2_code
def yX8_isOfException : MethodName := ⟨RX8, "isOfException", "()Z"⟩
def RX9 : String := "Fieldgrammar"
def TX9 : u_T := fun k => match k with
  | 0 => ("Fieldgrammar", "phonology", "LFieldgrammar$Phonology;", true)
  | 1 => ("Fieldgrammar", "lexicon", "LFieldgrammar$Lexicon;", true)
  | 2 => ("Fieldgrammar", "endings", "LFieldgrammar$CellRows;", true)
  | _ => ("Fieldgrammar", "draft", "J", false)
def tyX9 : Nat → FieldType := fun k => match k with
  | 0 => .object "Fieldgrammar$Phonology"
  | 1 => .object "Fieldgrammar$Lexicon"
  | 2 => .object "Fieldgrammar$CellRows"
  | _ => .long
abbrev wsX90 : List Cond := u_ws RX9 TX9 4
theorem nmX9 : ∀ a, a < 4 → ∀ b, b < 4 → a ≠ b → (TX9 a).2.1 ≠ (TX9 b).2.1 := by decide +kernel
theorem tyX9_ok : ∀ k, k < 4 → parseFieldDescriptor (TX9 k).2.2.1 = some (tyX9 k) := by decide +kernel
abbrev cX9_init : ByteArray := prog_1_method_1_code
def yX9_init : MethodName := ⟨RX9, "<init>", "()V"⟩
abbrev cX9_sound : ByteArray := prog_1_method_2_code
def yX9_sound : MethodName := ⟨RX9, "sound", "(I)I"⟩
abbrev cX9_kind : ByteArray := prog_1_method_3_code
def yX9_kind : MethodName := ⟨RX9, "kind", "(II)I"⟩
abbrev cX9_put : ByteArray := prog_1_method_4_code
def yX9_put : MethodName := ⟨RX9, "put", "(I)I"⟩
abbrev cX9_wipe : ByteArray := prog_1_method_5_code
def yX9_wipe : MethodName := ⟨RX9, "wipe", "()I"⟩
abbrev cX9_lexeme : ByteArray := prog_1_method_6_code
def yX9_lexeme : MethodName := ⟨RX9, "lexeme", "()I"⟩
abbrev cX9_reform : ByteArray := prog_1_method_7_code
def yX9_reform : MethodName := ⟨RX9, "reform", "(I)V"⟩
abbrev cX9_ending : ByteArray := prog_1_method_8_code
def yX9_ending : MethodName := ⟨RX9, "ending", "(I)V"⟩
abbrev cX9_rule : ByteArray := prog_1_method_9_code
def yX9_rule : MethodName := ⟨RX9, "rule", "(IIII)I"⟩
abbrev cX9_turn : ByteArray := prog_1_method_10_code
def yX9_turn : MethodName := ⟨RX9, "turn", "(IZ)Z"⟩
abbrev cX9_raise : ByteArray := prog_1_method_11_code
def yX9_raise : MethodName := ⟨RX9, "raise", "(I)I"⟩
abbrev cX9_hear : ByteArray := prog_1_method_12_code
def yX9_hear : MethodName := ⟨RX9, "hear", "(III)I"⟩
abbrev cX9_correct : ByteArray := prog_1_method_13_code
def yX9_correct : MethodName := ⟨RX9, "correct", "(I)Z"⟩
abbrev cX9_forget : ByteArray := prog_1_method_14_code
def yX9_forget : MethodName := ⟨RX9, "forget", "(I)I"⟩
abbrev cX9_except : ByteArray := prog_1_method_15_code
def yX9_except : MethodName := ⟨RX9, "except", "(IIZ)Z"⟩
abbrev cX9_merge : ByteArray := prog_1_method_16_code
def yX9_merge : MethodName := ⟨RX9, "merge", "(II)I"⟩
abbrev cX9_split : ByteArray := prog_1_method_17_code
def yX9_split : MethodName := ⟨RX9, "split", "(II)I"⟩
abbrev cX9_undo : ByteArray := prog_1_method_18_code
def yX9_undo : MethodName := ⟨RX9, "undo", "()I"⟩
abbrev cX9_length : ByteArray := prog_1_method_19_code
def yX9_length : MethodName := ⟨RX9, "length", "(II)I"⟩
abbrev cX9_at : ByteArray := prog_1_method_20_code
def yX9_at : MethodName := ⟨RX9, "at", "(III)I"⟩
abbrev cX9_step : ByteArray := prog_1_method_21_code
def yX9_step : MethodName := ⟨RX9, "step", "(III)I"⟩
abbrev cX9_ofWord : ByteArray := prog_1_method_22_code
def yX9_ofWord : MethodName := ⟨RX9, "ofWord", "(II)I"⟩
abbrev cX9_misfit : ByteArray := prog_1_method_23_code
def yX9_misfit : MethodName := ⟨RX9, "misfit", "(I)I"⟩
abbrev cX9_claims : ByteArray := prog_1_method_24_code
def yX9_claims : MethodName := ⟨RX9, "claims", "(IZ)I"⟩
abbrev cX9_fitting : ByteArray := prog_1_method_25_code
def yX9_fitting : MethodName := ⟨RX9, "fitting", "()I"⟩
abbrev cX9_smallest : ByteArray := prog_1_method_26_code
def yX9_smallest : MethodName := ⟨RX9, "smallest", "()I"⟩
abbrev cX9_question : ByteArray := prog_1_method_27_code
def yX9_question : MethodName := ⟨RX9, "question", "()I"⟩
abbrev cX9_pairs : ByteArray := prog_1_method_28_code
def yX9_pairs : MethodName := ⟨RX9, "pairs", "(II)I"⟩
abbrev cX9_holes : ByteArray := prog_1_method_29_code
def yX9_holes : MethodName := ⟨RX9, "holes", "(I)I"⟩
abbrev cX9_shared : ByteArray := prog_1_method_30_code
def yX9_shared : MethodName := ⟨RX9, "shared", "(II)I"⟩
abbrev cX9_checkFeatures : ByteArray := prog_1_method_31_code
def yX9_checkFeatures : MethodName := ⟨RX9, "checkFeatures", "(I)V"⟩
abbrev cX9_checkSound : ByteArray := prog_1_method_32_code
def yX9_checkSound : MethodName := ⟨RX9, "checkSound", "(I)V"⟩
abbrev cX9_checkCell : ByteArray := prog_1_method_33_code
def yX9_checkCell : MethodName := ⟨RX9, "checkCell", "(I)V"⟩
abbrev cX9_checkSpeaker : ByteArray := prog_1_method_34_code
def yX9_checkSpeaker : MethodName := ⟨RX9, "checkSpeaker", "(I)V"⟩
abbrev cX9_checkPlace : ByteArray := prog_1_method_35_code
def yX9_checkPlace : MethodName := ⟨RX9, "checkPlace", "(I)V"⟩
abbrev cX9_checkDraftIsForm : ByteArray := prog_1_method_36_code
def yX9_checkDraftIsForm : MethodName := ⟨RX9, "checkDraftIsForm", "()V"⟩
abbrev cX9_checkLexemesLeft : ByteArray := prog_1_method_37_code
def yX9_checkLexemesLeft : MethodName := ⟨RX9, "checkLexemesLeft", "()V"⟩
abbrev cX9_lexemeNumbered : ByteArray := prog_1_method_38_code
def yX9_lexemeNumbered : MethodName := ⟨RX9, "lexemeNumbered", "(I)LFieldgrammar$Lexeme;"⟩
abbrev cX9_wordNumbered : ByteArray := prog_1_method_39_code
def yX9_wordNumbered : MethodName := ⟨RX9, "wordNumbered", "(I)LFieldgrammar$Word;"⟩
abbrev cX9_ruleNumbered : ByteArray := prog_1_method_40_code
def yX9_ruleNumbered : MethodName := ⟨RX9, "ruleNumbered", "(I)LFieldgrammar$Rule;"⟩
abbrev cX9_takeDraft : ByteArray := prog_1_method_41_code
def yX9_takeDraft : MethodName := ⟨RX9, "takeDraft", "()J"⟩
abbrev cX9_underlying : ByteArray := prog_1_method_42_code
def yX9_underlying : MethodName := ⟨RX9, "underlying", "(LFieldgrammar$Lexeme;I)J"⟩
abbrev cX9_wordOf : ByteArray := prog_1_method_43_code
def yX9_wordOf : MethodName := ⟨RX9, "wordOf", "(LFieldgrammar$Lexeme;II)J"⟩
abbrev cX9_fits : ByteArray := prog_1_method_44_code
def yX9_fits : MethodName := ⟨RX9, "fits", "(LFieldgrammar$Word;I)Z"⟩
abbrev cX9_isSupport : ByteArray := prog_1_method_45_code
def yX9_isSupport : MethodName := ⟨RX9, "isSupport", "(LFieldgrammar$Word;LFieldgrammar$Rule;)Z"⟩
abbrev cX9_isContradiction : ByteArray := prog_1_method_46_code
def yX9_isContradiction : MethodName := ⟨RX9, "isContradiction", "(LFieldgrammar$Word;LFieldgrammar$Rule;)Z"⟩
abbrev cX9_fittingSets : ByteArray := prog_1_method_47_code
def yX9_fittingSets : MethodName := ⟨RX9, "fittingSets", "()J"⟩
abbrev cX9_isSetIn : ByteArray := prog_1_method_48_code
def yX9_isSetIn : MethodName := ⟨RX9, "isSetIn", "(IJ)Z"⟩
abbrev cX9_countUnlike : ByteArray := prog_1_method_49_code
def yX9_countUnlike : MethodName := ⟨RX9, "countUnlike", "(JJ)I"⟩
abbrev cX9_isWordOfLowerSet : ByteArray := prog_1_method_50_code
def yX9_isWordOfLowerSet : MethodName := ⟨RX9, "isWordOfLowerSet", "(IJ)Z"⟩
abbrev cX9_isPair : ByteArray := prog_1_method_51_code
def yX9_isPair : MethodName := ⟨RX9, "isPair", "(LFieldgrammar$Word;LFieldgrammar$Word;II)Z"⟩
def RX10 : String := "FieldgrammarModel"
def TX10 : u_T := fun k => match k with
  | 0 => ("FieldgrammarModel", "thrown", "I", false)
  | 1 => ("FieldgrammarModel", "features", "[I", true)
  | 2 => ("FieldgrammarModel", "with", "[I", true)
  | 3 => ("FieldgrammarModel", "sounds", "I", false)
  | 4 => ("FieldgrammarModel", "needs", "[I", true)
  | 5 => ("FieldgrammarModel", "bars", "[I", true)
  | 6 => ("FieldgrammarModel", "classes", "I", false)
  | 7 => ("FieldgrammarModel", "draft", "J", false)
  | 8 => ("FieldgrammarModel", "form", "[J", true)
  | 9 => ("FieldgrammarModel", "isThere", "[Z", true)
  | 10 => ("FieldgrammarModel", "lexemes", "I", false)
  | 11 => ("FieldgrammarModel", "ending", "[J", true)
  | 12 => ("FieldgrammarModel", "except", "[J", true)
  | 13 => ("FieldgrammarModel", "target", "[I", true)
  | 14 => ("FieldgrammarModel", "turned", "[I", true)
  | 15 => ("FieldgrammarModel", "left", "[I", true)
  | 16 => ("FieldgrammarModel", "right", "[I", true)
  | 17 => ("FieldgrammarModel", "order", "[I", true)
  | 18 => ("FieldgrammarModel", "on", "I", false)
  | 19 => ("FieldgrammarModel", "rules", "I", false)
  | 20 => ("FieldgrammarModel", "many", "I", false)
  | 21 => ("FieldgrammarModel", "ofLexeme", "[I", true)
  | 22 => ("FieldgrammarModel", "cellOf", "[I", true)
  | 23 => ("FieldgrammarModel", "speakerOf", "[I", true)
  | 24 => ("FieldgrammarModel", "heard", "[J", true)
  | 25 => ("FieldgrammarModel", "isHeard", "[Z", true)
  | 26 => ("FieldgrammarModel", "words", "I", false)
  | 27 => ("FieldgrammarModel", "isMerge", "[Z", true)
  | 28 => ("FieldgrammarModel", "one", "[I", true)
  | 29 => ("FieldgrammarModel", "other", "[I", true)
  | 30 => ("FieldgrammarModel", "moved", "[J", true)
  | 31 => ("FieldgrammarModel", "kept", "[J", true)
  | 32 => ("FieldgrammarModel", "deeds", "I", false)
  | _ => ("FieldgrammarModel", "unlike", "[J", true)
def tyX10 : Nat → FieldType := fun k => match k with
  | 0 => .int
  | 1 => .array .int
  | 2 => .array .int
  | 3 => .int
  | 4 => .array .int
  | 5 => .array .int
  | 6 => .int
  | 7 => .long
  | 8 => .array .long
  | 9 => .array .boolean
  | 10 => .int
  | 11 => .array .long
  | 12 => .array .long
  | 13 => .array .int
  | 14 => .array .int
  | 15 => .array .int
  | 16 => .array .int
  | 17 => .array .int
  | 18 => .int
  | 19 => .int
  | 20 => .int
  | 21 => .array .int
  | 22 => .array .int
  | 23 => .array .int
  | 24 => .array .long
  | 25 => .array .boolean
  | 26 => .int
  | 27 => .array .boolean
  | 28 => .array .int
  | 29 => .array .int
  | 30 => .array .long
  | 31 => .array .long
  | 32 => .int
  | _ => .array .long
abbrev wsX100 : List Cond := u_ws RX10 TX10 34
theorem nmX10 : ∀ a, a < 34 → ∀ b, b < 34 → a ≠ b → (TX10 a).2.1 ≠ (TX10 b).2.1 := by decide +kernel
theorem tyX10_ok : ∀ k, k < 34 → parseFieldDescriptor (TX10 k).2.2.1 = some (tyX10 k) := by decide +kernel
abbrev cX10_init : ByteArray := prog_12_method_1_code
def yX10_init : MethodName := ⟨RX10, "<init>", "()V"⟩
abbrev cX10_thrown : ByteArray := prog_12_method_2_code
def yX10_thrown : MethodName := ⟨RX10, "thrown", "()I"⟩
abbrev cX10_holds : ByteArray := prog_12_method_3_code
def yX10_holds : MethodName := ⟨RX10, "holds", "(I)Z"⟩
abbrev cX10_isIn : ByteArray := prog_12_method_4_code
def yX10_isIn : MethodName := ⟨RX10, "isIn", "(III)Z"⟩
abbrev cX10_size : ByteArray := prog_12_method_5_code
def yX10_size : MethodName := ⟨RX10, "size", "(J)I"⟩
abbrev cX10_soundAt : ByteArray := prog_12_method_6_code
def yX10_soundAt : MethodName := ⟨RX10, "soundAt", "(JI)I"⟩
abbrev cX10_with : ByteArray := prog_12_method_7_code
def yX10_with : MethodName := ⟨RX10, "with", "(JI)J"⟩
abbrev cX10_joined : ByteArray := prog_12_method_8_code
def yX10_joined : MethodName := ⟨RX10, "joined", "(JJ)J"⟩
abbrev cX10_takesDraft : ByteArray := prog_12_method_9_code
def yX10_takesDraft : MethodName := ⟨RX10, "takesDraft", "()J"⟩
abbrev cX10_isForm : ByteArray := prog_12_method_10_code
def yX10_isForm : MethodName := ⟨RX10, "isForm", "()Z"⟩
abbrev cX10_sound : ByteArray := prog_12_method_11_code
def yX10_sound : MethodName := ⟨RX10, "sound", "(I)I"⟩
abbrev cX10_kind : ByteArray := prog_12_method_12_code
def yX10_kind : MethodName := ⟨RX10, "kind", "(II)I"⟩
abbrev cX10_isSound : ByteArray := prog_12_method_13_code
def yX10_isSound : MethodName := ⟨RX10, "isSound", "(I)Z"⟩
abbrev cX10_isClass : ByteArray := prog_12_method_14_code
def yX10_isClass : MethodName := ⟨RX10, "isClass", "(I)Z"⟩
abbrev cX10_isOf : ByteArray := prog_12_method_15_code
def yX10_isOf : MethodName := ⟨RX10, "isOf", "(II)Z"⟩
abbrev cX10_put : ByteArray := prog_12_method_16_code
def yX10_put : MethodName := ⟨RX10, "put", "(I)I"⟩
abbrev cX10_wipe : ByteArray := prog_12_method_17_code
def yX10_wipe : MethodName := ⟨RX10, "wipe", "()I"⟩
abbrev cX10_isLexeme : ByteArray := prog_12_method_18_code
def yX10_isLexeme : MethodName := ⟨RX10, "isLexeme", "(I)Z"⟩
abbrev cX10_isCell : ByteArray := prog_12_method_19_code
def yX10_isCell : MethodName := ⟨RX10, "isCell", "(I)Z"⟩
abbrev cX10_isRule : ByteArray := prog_12_method_20_code
def yX10_isRule : MethodName := ⟨RX10, "isRule", "(I)Z"⟩
abbrev cX10_makes : ByteArray := prog_12_method_21_code
def yX10_makes : MethodName := ⟨RX10, "makes", "(J)I"⟩
abbrev cX10_lexeme : ByteArray := prog_12_method_22_code
def yX10_lexeme : MethodName := ⟨RX10, "lexeme", "()I"⟩
abbrev cX10_reform : ByteArray := prog_12_method_23_code
def yX10_reform : MethodName := ⟨RX10, "reform", "(I)V"⟩
abbrev cX10_ending : ByteArray := prog_12_method_24_code
def yX10_ending : MethodName := ⟨RX10, "ending", "(I)V"⟩
abbrev cX10_isSide : ByteArray := prog_12_method_25_code
def yX10_isSide : MethodName := ⟨RX10, "isSide", "(I)Z"⟩
abbrev cX10_rule : ByteArray := prog_12_method_26_code
def yX10_rule : MethodName := ⟨RX10, "rule", "(IIII)I"⟩
abbrev cX10_turn : ByteArray := prog_12_method_27_code
def yX10_turn : MethodName := ⟨RX10, "turn", "(IZ)Z"⟩
abbrev cX10_raise : ByteArray := prog_12_method_28_code
def yX10_raise : MethodName := ⟨RX10, "raise", "(I)I"⟩
abbrev cX10_isMet : ByteArray := prog_12_method_29_code
def yX10_isMet : MethodName := ⟨RX10, "isMet", "(IJIJ)Z"⟩
abbrev cX10_gone : ByteArray := prog_12_method_30_code
def yX10_gone : MethodName := ⟨RX10, "gone", "(IJ)J"⟩
abbrev cX10_derived : ByteArray := prog_12_method_31_code
def yX10_derived : MethodName := ⟨RX10, "derived", "(IIII)J"⟩
abbrev cX10_isException : ByteArray := prog_12_method_32_code
def yX10_isException : MethodName := ⟨RX10, "isException", "(II)Z"⟩
abbrev cX10_word : ByteArray := prog_12_method_33_code
def yX10_word : MethodName := ⟨RX10, "word", "(II)J"⟩
abbrev cX10_steps : ByteArray := prog_12_method_34_code
def yX10_steps : MethodName := ⟨RX10, "steps", "(III)I"⟩
abbrev cX10_isWord : ByteArray := prog_12_method_35_code
def yX10_isWord : MethodName := ⟨RX10, "isWord", "(I)Z"⟩
abbrev cX10_hear : ByteArray := prog_12_method_36_code
def yX10_hear : MethodName := ⟨RX10, "hear", "(III)I"⟩
abbrev cX10_correct : ByteArray := prog_12_method_37_code
def yX10_correct : MethodName := ⟨RX10, "correct", "(I)Z"⟩
abbrev cX10_forget : ByteArray := prog_12_method_38_code
def yX10_forget : MethodName := ⟨RX10, "forget", "(I)I"⟩
abbrev cX10_except : ByteArray := prog_12_method_39_code
def yX10_except : MethodName := ⟨RX10, "except", "(IIZ)Z"⟩
abbrev cX10_keeps : ByteArray := prog_12_method_40_code
def yX10_keeps : MethodName := ⟨RX10, "keeps", "(ZII)V"⟩
abbrev cX10_moves : ByteArray := prog_12_method_41_code
def yX10_moves : MethodName := ⟨RX10, "moves", "(III)I"⟩
abbrev cX10_merge : ByteArray := prog_12_method_42_code
def yX10_merge : MethodName := ⟨RX10, "merge", "(II)I"⟩
abbrev cX10_split : ByteArray := prog_12_method_43_code
def yX10_split : MethodName := ⟨RX10, "split", "(II)I"⟩
abbrev cX10_undo : ByteArray := prog_12_method_44_code
def yX10_undo : MethodName := ⟨RX10, "undo", "()I"⟩
abbrev cX10_length : ByteArray := prog_12_method_45_code
def yX10_length : MethodName := ⟨RX10, "length", "(II)I"⟩
abbrev cX10_at : ByteArray := prog_12_method_46_code
def yX10_at : MethodName := ⟨RX10, "at", "(III)I"⟩
abbrev cX10_step : ByteArray := prog_12_method_47_code
def yX10_step : MethodName := ⟨RX10, "step", "(III)I"⟩
abbrev cX10_fits : ByteArray := prog_12_method_48_code
def yX10_fits : MethodName := ⟨RX10, "fits", "(I)Z"⟩
abbrev cX10_ofWord : ByteArray := prog_12_method_49_code
def yX10_ofWord : MethodName := ⟨RX10, "ofWord", "(II)I"⟩
abbrev cX10_misfit : ByteArray := prog_12_method_50_code
def yX10_misfit : MethodName := ⟨RX10, "misfit", "(I)I"⟩
abbrev cX10_isBare : ByteArray := prog_12_method_51_code
def yX10_isBare : MethodName := ⟨RX10, "isBare", "(I)Z"⟩
abbrev cX10_fitsBy : ByteArray := prog_12_method_52_code
def yX10_fitsBy : MethodName := ⟨RX10, "fitsBy", "(II)Z"⟩
abbrev cX10_claims : ByteArray := prog_12_method_53_code
def yX10_claims : MethodName := ⟨RX10, "claims", "(IZ)I"⟩
abbrev cX10_isFitting : ByteArray := prog_12_method_54_code
def yX10_isFitting : MethodName := ⟨RX10, "isFitting", "(I)Z"⟩
abbrev cX10_fitting : ByteArray := prog_12_method_55_code
def yX10_fitting : MethodName := ⟨RX10, "fitting", "()I"⟩
abbrev cX10_ones : ByteArray := prog_12_method_56_code
def yX10_ones : MethodName := ⟨RX10, "ones", "(I)I"⟩
abbrev cX10_smallest : ByteArray := prog_12_method_57_code
def yX10_smallest : MethodName := ⟨RX10, "smallest", "()I"⟩
abbrev cX10_heardIn : ByteArray := prog_12_method_58_code
def yX10_heardIn : MethodName := ⟨RX10, "heardIn", "(I)I"⟩
abbrev cX10_unlikeWords : ByteArray := prog_12_method_59_code
def yX10_unlikeWords : MethodName := ⟨RX10, "unlikeWords", "(IIJ)I"⟩
abbrev cX10_question : ByteArray := prog_12_method_60_code
def yX10_question : MethodName := ⟨RX10, "question", "()I"⟩
abbrev cX10_isPair : ByteArray := prog_12_method_61_code
def yX10_isPair : MethodName := ⟨RX10, "isPair", "(IIII)Z"⟩
abbrev cX10_pairs : ByteArray := prog_12_method_62_code
def yX10_pairs : MethodName := ⟨RX10, "pairs", "(II)I"⟩
abbrev cX10_holes : ByteArray := prog_12_method_63_code
def yX10_holes : MethodName := ⟨RX10, "holes", "(I)I"⟩
abbrev cX10_isShared : ByteArray := prog_12_method_64_code
def yX10_isShared : MethodName := ⟨RX10, "isShared", "(IIII)Z"⟩
abbrev cX10_shared : ByteArray := prog_12_method_65_code
def yX10_shared : MethodName := ⟨RX10, "shared", "(II)I"⟩
def RJx145de : String := "java/io/Serializable"
def TJx145de : u_T := fun k => match k with
  | _ => ("", "", "", false)
def tyJx145de : Nat → FieldType := fun k => match k with
  | _ => .int
abbrev wsJx145de0 : List Cond := u_ws RJx145de TJx145de 0
theorem nmJx145de : ∀ a, a < 0 → ∀ b, b < 0 → a ≠ b → (TJx145de a).2.1 ≠ (TJx145de b).2.1 := by decide +kernel
theorem tyJx145de_ok : ∀ k, k < 0 → parseFieldDescriptor (TJx145de k).2.2.1 = some (tyJx145de k) := by decide +kernel
def RJx8e188 : String := "java/lang/Cloneable"
def TJx8e188 : u_T := fun k => match k with
  | _ => ("", "", "", false)
def tyJx8e188 : Nat → FieldType := fun k => match k with
  | _ => .int
abbrev wsJx8e1880 : List Cond := u_ws RJx8e188 TJx8e188 0
theorem nmJx8e188 : ∀ a, a < 0 → ∀ b, b < 0 → a ≠ b → (TJx8e188 a).2.1 ≠ (TJx8e188 b).2.1 := by decide +kernel
theorem tyJx8e188_ok : ∀ k, k < 0 → parseFieldDescriptor (TJx8e188 k).2.2.1 = some (tyJx8e188 k) := by decide +kernel
def RJ6 : String := "java/lang/Integer"
def TJ6 : u_T := fun k => match k with
  | _ => ("", "", "", false)
def tyJ6 : Nat → FieldType := fun k => match k with
  | _ => .int
abbrev wsJ60 : List Cond := u_ws RJ6 TJ6 0
theorem nmJ6 : ∀ a, a < 0 → ∀ b, b < 0 → a ≠ b → (TJ6 a).2.1 ≠ (TJ6 b).2.1 := by decide +kernel
theorem tyJ6_ok : ∀ k, k < 0 → parseFieldDescriptor (TJ6 k).2.2.1 = some (tyJ6 k) := by decide +kernel
abbrev cJ6_bitCount_0f7a4 : ByteArray := prog_19_method_49_code
def yJ6_bitCount_0f7a4 : MethodName := ⟨RJ6, "bitCount", "(I)I"⟩
def RJxab1ab : String := "java/lang/Iterable"
def TJxab1ab : u_T := fun k => match k with
  | _ => ("", "", "", false)
def tyJxab1ab : Nat → FieldType := fun k => match k with
  | _ => .int
abbrev wsJxab1ab0 : List Cond := u_ws RJxab1ab TJxab1ab 0
theorem nmJxab1ab : ∀ a, a < 0 → ∀ b, b < 0 → a ≠ b → (TJxab1ab a).2.1 ≠ (TJxab1ab b).2.1 := by decide +kernel
theorem tyJxab1ab_ok : ∀ k, k < 0 → parseFieldDescriptor (TJxab1ab k).2.2.1 = some (tyJxab1ab k) := by decide +kernel
def RJ13 : String := "java/lang/Long"
def TJ13 : u_T := fun k => match k with
  | _ => ("", "", "", false)
def tyJ13 : Nat → FieldType := fun k => match k with
  | _ => .int
abbrev wsJ130 : List Cond := u_ws RJ13 TJ13 0
theorem nmJ13 : ∀ a, a < 0 → ∀ b, b < 0 → a ≠ b → (TJ13 a).2.1 ≠ (TJ13 b).2.1 := by decide +kernel
theorem tyJ13_ok : ∀ k, k < 0 → parseFieldDescriptor (TJ13 k).2.2.1 = some (tyJ13 k) := by decide +kernel
abbrev cJ13_bitCount_95d88 : ByteArray := prog_21_method_50_code
def yJ13_bitCount_95d88 : MethodName := ⟨RJ13, "bitCount", "(J)I"⟩
def RJ9 : String := "java/lang/Math"
def TJ9 : u_T := fun k => match k with
  | _ => ("", "", "", false)
def tyJ9 : Nat → FieldType := fun k => match k with
  | _ => .int
abbrev wsJ90 : List Cond := u_ws RJ9 TJ9 0
theorem nmJ9 : ∀ a, a < 0 → ∀ b, b < 0 → a ≠ b → (TJ9 a).2.1 ≠ (TJ9 b).2.1 := by decide +kernel
theorem tyJ9_ok : ∀ k, k < 0 → parseFieldDescriptor (TJ9 k).2.2.1 = some (tyJ9 k) := by decide +kernel
abbrev cJ9_max_7cf53 : ByteArray := prog_22_method_65_code
def yJ9_max_7cf53 : MethodName := ⟨RJ9, "max", "(II)I"⟩
abbrev cJ9_min_7cf53 : ByteArray := prog_22_method_69_code
def yJ9_min_7cf53 : MethodName := ⟨RJ9, "min", "(II)I"⟩
def RJ10 : String := "java/lang/System"
def TJ10 : u_T := fun k => match k with
  | _ => ("", "", "", false)
def tyJ10 : Nat → FieldType := fun k => match k with
  | _ => .int
abbrev wsJ100 : List Cond := u_ws RJ10 TJ10 0
theorem nmJ10 : ∀ a, a < 0 → ∀ b, b < 0 → a ≠ b → (TJ10 a).2.1 ≠ (TJ10 b).2.1 := by decide +kernel
theorem tyJ10_ok : ∀ k, k < 0 → parseFieldDescriptor (TJ10 k).2.2.1 = some (tyJ10 k) := by decide +kernel
def RJxa1e45 : String := "java/util/AbstractCollection"
def TJxa1e45 : u_T := fun k => match k with
  | _ => ("", "", "", false)
def tyJxa1e45 : Nat → FieldType := fun k => match k with
  | _ => .int
abbrev wsJxa1e450 : List Cond := u_ws RJxa1e45 TJxa1e45 0
theorem nmJxa1e45 : ∀ a, a < 0 → ∀ b, b < 0 → a ≠ b → (TJxa1e45 a).2.1 ≠ (TJxa1e45 b).2.1 := by decide +kernel
theorem tyJxa1e45_ok : ∀ k, k < 0 → parseFieldDescriptor (TJxa1e45 k).2.2.1 = some (tyJxa1e45 k) := by decide +kernel
abbrev cJxa1e45_init_da8c8 : ByteArray := prog_26_method_1_code
def yJxa1e45_init_da8c8 : MethodName := ⟨RJxa1e45, "<init>", "()V"⟩
def RJxc12de : String := "java/util/AbstractList"
def TJxc12de : u_T := fun k => match k with
  | _ => ("", "", "", false)
def tyJxc12de : Nat → FieldType := fun k => match k with
  | _ => .int
abbrev wsJxc12de0 : List Cond := u_ws RJxc12de TJxc12de 0
theorem nmJxc12de : ∀ a, a < 0 → ∀ b, b < 0 → a ≠ b → (TJxc12de a).2.1 ≠ (TJxc12de b).2.1 := by decide +kernel
theorem tyJxc12de_ok : ∀ k, k < 0 → parseFieldDescriptor (TJxc12de k).2.2.1 = some (tyJxc12de k) := by decide +kernel
abbrev cJxc12de_init_da8c8 : ByteArray := prog_27_method_1_code
def yJxc12de_init_da8c8 : MethodName := ⟨RJxc12de, "<init>", "()V"⟩
def RJx4a65c : String := "java/util/ArrayList"
def TJx4a65c : u_T := fun k => match k with
  | 0 => ("java/util/AbstractList", "modCount", "I", false)
  | 1 => ("java/util/ArrayList", "elementData", "[Ljava/lang/Object;", false)
  | _ => ("java/util/ArrayList", "size", "I", false)
def tyJx4a65c : Nat → FieldType := fun k => match k with
  | 0 => .int
  | 1 => .array (.object "java/lang/Object")
  | _ => .int
abbrev wsJx4a65c0 : List Cond := u_ws RJx4a65c TJx4a65c 3
theorem nmJx4a65c : ∀ a, a < 3 → ∀ b, b < 3 → a ≠ b → (TJx4a65c a).2.1 ≠ (TJx4a65c b).2.1 := by decide +kernel
theorem tyJx4a65c_ok : ∀ k, k < 3 → parseFieldDescriptor (TJx4a65c k).2.2.1 = some (tyJx4a65c k) := by decide +kernel
abbrev cJx4a65c_init_da8c8 : ByteArray := prog_28_method_2_code
def yJx4a65c_init_da8c8 : MethodName := ⟨RJx4a65c, "<init>", "()V"⟩
abbrev cJx4a65c_grow_92f84 : ByteArray := prog_28_method_6_code
def yJx4a65c_grow_92f84 : MethodName := ⟨RJx4a65c, "grow", "(I)[Ljava/lang/Object;"⟩
abbrev cJx4a65c_grow_d5877 : ByteArray := prog_28_method_7_code
def yJx4a65c_grow_d5877 : MethodName := ⟨RJx4a65c, "grow", "()[Ljava/lang/Object;"⟩
abbrev cJx4a65c_size_8abf5 : ByteArray := prog_28_method_8_code
def yJx4a65c_size_8abf5 : MethodName := ⟨RJx4a65c, "size", "()I"⟩
abbrev cJx4a65c_elementData_915e3 : ByteArray := prog_28_method_18_code
def yJx4a65c_elementData_915e3 : MethodName := ⟨RJx4a65c, "elementData", "(I)Ljava/lang/Object;"⟩
abbrev cJx4a65c_get_915e3 : ByteArray := prog_28_method_20_code
def yJx4a65c_get_915e3 : MethodName := ⟨RJx4a65c, "get", "(I)Ljava/lang/Object;"⟩
abbrev cJx4a65c_set_bcc79 : ByteArray := prog_28_method_23_code
def yJx4a65c_set_bcc79 : MethodName := ⟨RJx4a65c, "set", "(ILjava/lang/Object;)Ljava/lang/Object;"⟩
abbrev cJx4a65c_add_72be8 : ByteArray := prog_28_method_24_code
def yJx4a65c_add_72be8 : MethodName := ⟨RJx4a65c, "add", "(Ljava/lang/Object;[Ljava/lang/Object;I)V"⟩
abbrev cJx4a65c_add_9ea2d : ByteArray := prog_28_method_25_code
def yJx4a65c_add_9ea2d : MethodName := ⟨RJx4a65c, "add", "(Ljava/lang/Object;)Z"⟩
abbrev cJx4a65c_remove_915e3 : ByteArray := prog_28_method_29_code
def yJx4a65c_remove_915e3 : MethodName := ⟨RJx4a65c, "remove", "(I)Ljava/lang/Object;"⟩
abbrev cJx4a65c_fastRemove_b59b0 : ByteArray := prog_28_method_39_code
def yJx4a65c_fastRemove_b59b0 : MethodName := ⟨RJx4a65c, "fastRemove", "([Ljava/lang/Object;I)V"⟩
def RJ7 : String := "java/util/Arrays"
def TJ7 : u_T := fun k => match k with
  | _ => ("", "", "", false)
def tyJ7 : Nat → FieldType := fun k => match k with
  | _ => .int
abbrev wsJ70 : List Cond := u_ws RJ7 TJ7 0
theorem nmJ7 : ∀ a, a < 0 → ∀ b, b < 0 → a ≠ b → (TJ7 a).2.1 ≠ (TJ7 b).2.1 := by decide +kernel
theorem tyJ7_ok : ∀ k, k < 0 → parseFieldDescriptor (TJ7 k).2.2.1 = some (tyJ7 k) := by decide +kernel
abbrev cJ7_copyOf_1904c : ByteArray := prog_29_method_119_code
def yJ7_copyOf_1904c : MethodName := ⟨RJ7, "copyOf", "([Ljava/lang/Object;I)[Ljava/lang/Object;"⟩
abbrev cJ7_copyOf_6403c : ByteArray := prog_29_method_120_code
def yJ7_copyOf_6403c : MethodName := ⟨RJ7, "copyOf", "([Ljava/lang/Object;ILjava/lang/Class;)[Ljava/lang/Object;"⟩
def RJx5ef63 : String := "java/util/Collection"
def TJx5ef63 : u_T := fun k => match k with
  | _ => ("", "", "", false)
def tyJx5ef63 : Nat → FieldType := fun k => match k with
  | _ => .int
abbrev wsJx5ef630 : List Cond := u_ws RJx5ef63 TJx5ef63 0
theorem nmJx5ef63 : ∀ a, a < 0 → ∀ b, b < 0 → a ≠ b → (TJx5ef63 a).2.1 ≠ (TJx5ef63 b).2.1 := by decide +kernel
theorem tyJx5ef63_ok : ∀ k, k < 0 → parseFieldDescriptor (TJx5ef63 k).2.2.1 = some (tyJx5ef63 k) := by decide +kernel
def RJxbd725 : String := "java/util/List"
def TJxbd725 : u_T := fun k => match k with
  | _ => ("", "", "", false)
def tyJxbd725 : Nat → FieldType := fun k => match k with
  | _ => .int
abbrev wsJxbd7250 : List Cond := u_ws RJxbd725 TJxbd725 0
theorem nmJxbd725 : ∀ a, a < 0 → ∀ b, b < 0 → a ≠ b → (TJxbd725 a).2.1 ≠ (TJxbd725 b).2.1 := by decide +kernel
theorem tyJxbd725_ok : ∀ k, k < 0 → parseFieldDescriptor (TJxbd725 k).2.2.1 = some (tyJxbd725 k) := by decide +kernel
def RJ15 : String := "java/util/Objects"
def TJ15 : u_T := fun k => match k with
  | _ => ("", "", "", false)
def tyJ15 : Nat → FieldType := fun k => match k with
  | _ => .int
abbrev wsJ150 : List Cond := u_ws RJ15 TJ15 0
theorem nmJ15 : ∀ a, a < 0 → ∀ b, b < 0 → a ≠ b → (TJ15 a).2.1 ≠ (TJ15 b).2.1 := by decide +kernel
theorem tyJ15_ok : ∀ k, k < 0 → parseFieldDescriptor (TJ15 k).2.2.1 = some (tyJ15 k) := by decide +kernel
abbrev cJ15_checkIndex_7cf53 : ByteArray := prog_32_method_17_code
def yJ15_checkIndex_7cf53 : MethodName := ⟨RJ15, "checkIndex", "(II)I"⟩
def RJxf0a74 : String := "java/util/RandomAccess"
def TJxf0a74 : u_T := fun k => match k with
  | _ => ("", "", "", false)
def tyJxf0a74 : Nat → FieldType := fun k => match k with
  | _ => .int
abbrev wsJxf0a740 : List Cond := u_ws RJxf0a74 TJxf0a74 0
theorem nmJxf0a74 : ∀ a, a < 0 → ∀ b, b < 0 → a ≠ b → (TJxf0a74 a).2.1 ≠ (TJxf0a74 b).2.1 := by decide +kernel
theorem tyJxf0a74_ok : ∀ k, k < 0 → parseFieldDescriptor (TJxf0a74 k).2.2.1 = some (tyJxf0a74 k) := by decide +kernel
def RJxa66e6 : String := "java/util/SequencedCollection"
def TJxa66e6 : u_T := fun k => match k with
  | _ => ("", "", "", false)
def tyJxa66e6 : Nat → FieldType := fun k => match k with
  | _ => .int
abbrev wsJxa66e60 : List Cond := u_ws RJxa66e6 TJxa66e6 0
theorem nmJxa66e6 : ∀ a, a < 0 → ∀ b, b < 0 → a ≠ b → (TJxa66e6 a).2.1 ≠ (TJxa66e6 b).2.1 := by decide +kernel
theorem tyJxa66e6_ok : ∀ k, k < 0 → parseFieldDescriptor (TJxa66e6 k).2.2.1 = some (tyJxa66e6 k) := by decide +kernel
def RJ8 : String := "jdk/internal/util/ArraysSupport"
def TJ8 : u_T := fun k => match k with
  | _ => ("", "", "", false)
def tyJ8 : Nat → FieldType := fun k => match k with
  | _ => .int
abbrev wsJ80 : List Cond := u_ws RJ8 TJ8 0
theorem nmJ8 : ∀ a, a < 0 → ∀ b, b < 0 → a ≠ b → (TJ8 a).2.1 ≠ (TJ8 b).2.1 := by decide +kernel
theorem tyJ8_ok : ∀ k, k < 0 → parseFieldDescriptor (TJ8 k).2.2.1 = some (tyJ8 k) := by decide +kernel
abbrev cJ8_newLength_cabcc : ByteArray := prog_35_method_27_code
def yJ8_newLength_cabcc : MethodName := ⟨RJ8, "newLength", "(III)I"⟩
abbrev cJ8_hugeLength_7cf53 : ByteArray := prog_35_method_28_code
def yJ8_hugeLength_7cf53 : MethodName := ⟨RJ8, "hugeLength", "(II)I"⟩
def RJ3 : String := "jdk/internal/util/Preconditions"
def TJ3 : u_T := fun k => match k with
  | _ => ("", "", "", false)
def tyJ3 : Nat → FieldType := fun k => match k with
  | _ => .int
abbrev wsJ30 : List Cond := u_ws RJ3 TJ3 0
theorem nmJ3 : ∀ a, a < 0 → ∀ b, b < 0 → a ≠ b → (TJ3 a).2.1 ≠ (TJ3 b).2.1 := by decide +kernel
theorem tyJ3_ok : ∀ k, k < 0 → parseFieldDescriptor (TJ3 k).2.2.1 = some (tyJ3 k) := by decide +kernel
abbrev cJ3_checkIndex_8e157 : ByteArray := prog_36_method_11_code
def yJ3_checkIndex_8e157 : MethodName := ⟨RJ3, "checkIndex", "(IILjava/util/function/BiFunction;)I"⟩
def RL : String := "FieldgrammarLaw"
abbrev cL_sound : ByteArray := method_3_code
def yL_sound : MethodName := ⟨RL, "sound", "(LFieldgrammar;I[J)I"⟩
abbrev cL_kind : ByteArray := method_4_code
def yL_kind : MethodName := ⟨RL, "kind", "(LFieldgrammar;II[J)I"⟩
abbrev cL_put : ByteArray := method_5_code
def yL_put : MethodName := ⟨RL, "put", "(LFieldgrammar;I[J)I"⟩
abbrev cL_lexeme : ByteArray := method_6_code
def yL_lexeme : MethodName := ⟨RL, "lexeme", "(LFieldgrammar;[J)I"⟩
abbrev cL_reform : ByteArray := method_7_code
def yL_reform : MethodName := ⟨RL, "reform", "(LFieldgrammar;I)I"⟩
abbrev cL_ending : ByteArray := method_8_code
def yL_ending : MethodName := ⟨RL, "ending", "(LFieldgrammar;I)I"⟩
abbrev cL_rule : ByteArray := method_9_code
def yL_rule : MethodName := ⟨RL, "rule", "(LFieldgrammar;IIII[J)I"⟩
abbrev cL_turn : ByteArray := method_10_code
def yL_turn : MethodName := ⟨RL, "turn", "(LFieldgrammar;IZ[J)I"⟩
abbrev cL_raise : ByteArray := method_11_code
def yL_raise : MethodName := ⟨RL, "raise", "(LFieldgrammar;I[J)I"⟩
abbrev cL_hear : ByteArray := method_12_code
def yL_hear : MethodName := ⟨RL, "hear", "(LFieldgrammar;III[J)I"⟩
abbrev cL_correct : ByteArray := method_13_code
def yL_correct : MethodName := ⟨RL, "correct", "(LFieldgrammar;I[J)I"⟩
abbrev cL_forget : ByteArray := method_14_code
def yL_forget : MethodName := ⟨RL, "forget", "(LFieldgrammar;I[J)I"⟩
abbrev cL_except : ByteArray := method_15_code
def yL_except : MethodName := ⟨RL, "except", "(LFieldgrammar;IIZ[J)I"⟩
abbrev cL_merge : ByteArray := method_16_code
def yL_merge : MethodName := ⟨RL, "merge", "(LFieldgrammar;II[J)I"⟩
abbrev cL_split : ByteArray := method_17_code
def yL_split : MethodName := ⟨RL, "split", "(LFieldgrammar;II[J)I"⟩
abbrev cL_undo : ByteArray := method_18_code
def yL_undo : MethodName := ⟨RL, "undo", "(LFieldgrammar;[J)I"⟩
abbrev cL_length : ByteArray := method_19_code
def yL_length : MethodName := ⟨RL, "length", "(LFieldgrammar;II[J)I"⟩
abbrev cL_at : ByteArray := method_20_code
def yL_at : MethodName := ⟨RL, "at", "(LFieldgrammar;III[J)I"⟩
abbrev cL_step : ByteArray := method_21_code
def yL_step : MethodName := ⟨RL, "step", "(LFieldgrammar;III[J)I"⟩
abbrev cL_ofWord : ByteArray := method_22_code
def yL_ofWord : MethodName := ⟨RL, "ofWord", "(LFieldgrammar;II[J)I"⟩
abbrev cL_misfit : ByteArray := method_23_code
def yL_misfit : MethodName := ⟨RL, "misfit", "(LFieldgrammar;I[J)I"⟩
abbrev cL_claims : ByteArray := method_24_code
def yL_claims : MethodName := ⟨RL, "claims", "(LFieldgrammar;IZ[J)I"⟩
abbrev cL_pairs : ByteArray := method_25_code
def yL_pairs : MethodName := ⟨RL, "pairs", "(LFieldgrammar;II[J)I"⟩
abbrev cL_holes : ByteArray := method_26_code
def yL_holes : MethodName := ⟨RL, "holes", "(LFieldgrammar;I[J)I"⟩
abbrev cL_shared : ByteArray := method_27_code
def yL_shared : MethodName := ⟨RL, "shared", "(LFieldgrammar;II[J)I"⟩
abbrev cL_law : ByteArray := code
def yL_law : MethodName := ⟨RL, "law", "([I)Z"⟩
theorem dX0_init_0 : decode cX0_init 0 = .ok (.aload_n 0, 1) := by decide +kernel
theorem dX0_init_1 : decode cX0_init 1 = .ok (.invokespecial 3, 3) := by decide +kernel
theorem dX0_init_4 : decode cX0_init 4 = .ok (.aload_n 0, 1) := by decide +kernel
theorem dX0_init_5 : decode cX0_init 5 = .ok (.bipush 8, 2) := by decide +kernel
theorem dX0_init_7 : decode cX0_init 7 = .ok (.newarray .long, 2) := by decide +kernel
theorem dX0_init_9 : decode cX0_init 9 = .ok (.putfield 9, 3) := by decide +kernel
theorem dX0_init_12 : decode cX0_init 12 = .ok (.return_, 1) := by decide +kernel
theorem dX0_isCell_0 : decode cX0_isCell 0 = .ok (.iload_n 0, 1) := by decide +kernel
theorem dX0_isCell_1 : decode cX0_isCell 1 = .ok (.ifCond .lt 13, 3) := by decide +kernel
theorem dX0_isCell_4 : decode cX0_isCell 4 = .ok (.iload_n 0, 1) := by decide +kernel
theorem dX0_isCell_5 : decode cX0_isCell 5 = .ok (.bipush 8, 2) := by decide +kernel
theorem dX0_isCell_7 : decode cX0_isCell 7 = .ok (.if_icmp .ge 7, 3) := by decide +kernel
theorem dX0_isCell_10 : decode cX0_isCell 10 = .ok (.iconst 1, 1) := by decide +kernel
theorem dX0_isCell_11 : decode cX0_isCell 11 = .ok (.goto 4, 3) := by decide +kernel
theorem dX0_isCell_14 : decode cX0_isCell 14 = .ok (.iconst 0, 1) := by decide +kernel
theorem dX0_isCell_15 : decode cX0_isCell 15 = .ok (.ireturn, 1) := by decide +kernel
theorem dX0_has_0 : decode cX0_has 0 = .ok (.iload_n 1, 1) := by decide +kernel
theorem dX0_has_1 : decode cX0_has 1 = .ok (.invokestatic 15, 3) := by decide +kernel
theorem dX0_has_4 : decode cX0_has 4 = .ok (.ifCond .eq 18, 3) := by decide +kernel
theorem dX0_has_7 : decode cX0_has 7 = .ok (.aload_n 0, 1) := by decide +kernel
theorem dX0_has_8 : decode cX0_has 8 = .ok (.getfield 19, 3) := by decide +kernel
theorem dX0_has_11 : decode cX0_has 11 = .ok (.iload_n 1, 1) := by decide +kernel
theorem dX0_has_12 : decode cX0_has 12 = .ok (.iushr, 1) := by decide +kernel
theorem dX0_has_13 : decode cX0_has 13 = .ok (.iconst 1, 1) := by decide +kernel
theorem dX0_has_14 : decode cX0_has 14 = .ok (.iand, 1) := by decide +kernel
theorem dX0_has_15 : decode cX0_has 15 = .ok (.ifCond .eq 7, 3) := by decide +kernel
theorem dX0_has_18 : decode cX0_has 18 = .ok (.iconst 1, 1) := by decide +kernel
theorem dX0_has_19 : decode cX0_has 19 = .ok (.goto 4, 3) := by decide +kernel
theorem dX0_has_22 : decode cX0_has 22 = .ok (.iconst 0, 1) := by decide +kernel
theorem dX0_has_23 : decode cX0_has 23 = .ok (.ireturn, 1) := by decide +kernel
theorem dX0_in_0 : decode cX0_in 0 = .ok (.iload_n 1, 1) := by decide +kernel
theorem dX0_in_1 : decode cX0_in 1 = .ok (.invokestatic 15, 3) := by decide +kernel
theorem dX0_in_4 : decode cX0_in 4 = .ok (.ifCond .eq 12, 3) := by decide +kernel
theorem dX0_in_7 : decode cX0_in 7 = .ok (.aload_n 0, 1) := by decide +kernel
theorem dX0_in_8 : decode cX0_in 8 = .ok (.getfield 9, 3) := by decide +kernel
theorem dX0_in_11 : decode cX0_in 11 = .ok (.iload_n 1, 1) := by decide +kernel
theorem dX0_in_12 : decode cX0_in 12 = .ok (.laload, 1) := by decide +kernel
theorem dX0_in_13 : decode cX0_in 13 = .ok (.goto 4, 3) := by decide +kernel
theorem dX0_in_16 : decode cX0_in 16 = .ok (.lconst 0, 1) := by decide +kernel
theorem dX0_in_17 : decode cX0_in 17 = .ok (.lreturn, 1) := by decide +kernel
theorem dX0_give_0 : decode cX0_give 0 = .ok (.iload_n 1, 1) := by decide +kernel
theorem dX0_give_1 : decode cX0_give 1 = .ok (.invokestatic 15, 3) := by decide +kernel
theorem dX0_give_4 : decode cX0_give 4 = .ok (.ifCond .eq 22, 3) := by decide +kernel
theorem dX0_give_7 : decode cX0_give 7 = .ok (.aload_n 0, 1) := by decide +kernel
theorem dX0_give_8 : decode cX0_give 8 = .ok (.getfield 9, 3) := by decide +kernel
theorem dX0_give_11 : decode cX0_give 11 = .ok (.iload_n 1, 1) := by decide +kernel
theorem dX0_give_12 : decode cX0_give 12 = .ok (.lload_n 2, 1) := by decide +kernel
theorem dX0_give_13 : decode cX0_give 13 = .ok (.lastore, 1) := by decide +kernel
theorem dX0_give_14 : decode cX0_give 14 = .ok (.aload_n 0, 1) := by decide +kernel
theorem dX0_give_15 : decode cX0_give 15 = .ok (.dup, 1) := by decide +kernel
theorem dX0_give_16 : decode cX0_give 16 = .ok (.getfield 19, 3) := by decide +kernel
theorem dX0_give_19 : decode cX0_give 19 = .ok (.iconst 1, 1) := by decide +kernel
theorem dX0_give_20 : decode cX0_give 20 = .ok (.iload_n 1, 1) := by decide +kernel
theorem dX0_give_21 : decode cX0_give 21 = .ok (.ishl, 1) := by decide +kernel
theorem dX0_give_22 : decode cX0_give 22 = .ok (.ior, 1) := by decide +kernel
theorem dX0_give_23 : decode cX0_give 23 = .ok (.putfield 19, 3) := by decide +kernel
theorem dX0_give_26 : decode cX0_give 26 = .ok (.return_, 1) := by decide +kernel
theorem dX0_drop_0 : decode cX0_drop 0 = .ok (.iload_n 1, 1) := by decide +kernel
theorem dX0_drop_1 : decode cX0_drop 1 = .ok (.invokestatic 15, 3) := by decide +kernel
theorem dX0_drop_4 : decode cX0_drop 4 = .ok (.ifCond .eq 24, 3) := by decide +kernel
theorem dX0_drop_7 : decode cX0_drop 7 = .ok (.aload_n 0, 1) := by decide +kernel
theorem dX0_drop_8 : decode cX0_drop 8 = .ok (.getfield 9, 3) := by decide +kernel
theorem dX0_drop_11 : decode cX0_drop 11 = .ok (.iload_n 1, 1) := by decide +kernel
theorem dX0_drop_12 : decode cX0_drop 12 = .ok (.lconst 0, 1) := by decide +kernel
theorem dX0_drop_13 : decode cX0_drop 13 = .ok (.lastore, 1) := by decide +kernel
theorem dX0_drop_14 : decode cX0_drop 14 = .ok (.aload_n 0, 1) := by decide +kernel
theorem dX0_drop_15 : decode cX0_drop 15 = .ok (.dup, 1) := by decide +kernel
theorem dX0_drop_16 : decode cX0_drop 16 = .ok (.getfield 19, 3) := by decide +kernel
theorem dX0_drop_19 : decode cX0_drop 19 = .ok (.iconst 1, 1) := by decide +kernel
theorem dX0_drop_20 : decode cX0_drop 20 = .ok (.iload_n 1, 1) := by decide +kernel
theorem dX0_drop_21 : decode cX0_drop 21 = .ok (.ishl, 1) := by decide +kernel
theorem dX0_drop_22 : decode cX0_drop 22 = .ok (.iconst (-1), 1) := by decide +kernel
theorem dX0_drop_23 : decode cX0_drop 23 = .ok (.ixor, 1) := by decide +kernel
theorem dX0_drop_24 : decode cX0_drop 24 = .ok (.iand, 1) := by decide +kernel
theorem dX0_drop_25 : decode cX0_drop 25 = .ok (.putfield 19, 3) := by decide +kernel
theorem dX0_drop_28 : decode cX0_drop 28 = .ok (.return_, 1) := by decide +kernel
theorem dX0_copyFrom_0 : decode cX0_copyFrom 0 = .ok (.iconst 0, 1) := by decide +kernel
theorem dX0_copyFrom_1 : decode cX0_copyFrom 1 = .ok (.istore_n 2, 1) := by decide +kernel
theorem dX0_copyFrom_2 : decode cX0_copyFrom 2 = .ok (.iload_n 2, 1) := by decide +kernel
theorem dX0_copyFrom_3 : decode cX0_copyFrom 3 = .ok (.bipush 8, 2) := by decide +kernel
theorem dX0_copyFrom_5 : decode cX0_copyFrom 5 = .ok (.if_icmp .ge 20, 3) := by decide +kernel
theorem dX0_copyFrom_8 : decode cX0_copyFrom 8 = .ok (.aload_n 0, 1) := by decide +kernel
theorem dX0_copyFrom_9 : decode cX0_copyFrom 9 = .ok (.getfield 9, 3) := by decide +kernel
theorem dX0_copyFrom_12 : decode cX0_copyFrom 12 = .ok (.iload_n 2, 1) := by decide +kernel
theorem dX0_copyFrom_13 : decode cX0_copyFrom 13 = .ok (.aload_n 1, 1) := by decide +kernel
theorem dX0_copyFrom_14 : decode cX0_copyFrom 14 = .ok (.iload_n 2, 1) := by decide +kernel
theorem dX0_copyFrom_15 : decode cX0_copyFrom 15 = .ok (.invokevirtual 25, 3) := by decide +kernel
theorem dX0_copyFrom_18 : decode cX0_copyFrom 18 = .ok (.lastore, 1) := by decide +kernel
theorem dX0_copyFrom_19 : decode cX0_copyFrom 19 = .ok (.iinc 2 1, 3) := by decide +kernel
theorem dX0_copyFrom_22 : decode cX0_copyFrom 22 = .ok (.goto (-20), 3) := by decide +kernel
theorem dX0_copyFrom_25 : decode cX0_copyFrom 25 = .ok (.aload_n 0, 1) := by decide +kernel
theorem dX0_copyFrom_26 : decode cX0_copyFrom 26 = .ok (.aload_n 1, 1) := by decide +kernel
theorem dX0_copyFrom_27 : decode cX0_copyFrom 27 = .ok (.getfield 19, 3) := by decide +kernel
theorem dX0_copyFrom_30 : decode cX0_copyFrom 30 = .ok (.putfield 19, 3) := by decide +kernel
theorem dX0_copyFrom_33 : decode cX0_copyFrom 33 = .ok (.return_, 1) := by decide +kernel
theorem dX0_fillGapsFrom_0 : decode cX0_fillGapsFrom 0 = .ok (.iconst 0, 1) := by decide +kernel
theorem dX0_fillGapsFrom_1 : decode cX0_fillGapsFrom 1 = .ok (.istore_n 2, 1) := by decide +kernel
theorem dX0_fillGapsFrom_2 : decode cX0_fillGapsFrom 2 = .ok (.iload_n 2, 1) := by decide +kernel
theorem dX0_fillGapsFrom_3 : decode cX0_fillGapsFrom 3 = .ok (.bipush 8, 2) := by decide +kernel
theorem dX0_fillGapsFrom_5 : decode cX0_fillGapsFrom 5 = .ok (.if_icmp .ge 35, 3) := by decide +kernel
theorem dX0_fillGapsFrom_8 : decode cX0_fillGapsFrom 8 = .ok (.aload_n 1, 1) := by decide +kernel
theorem dX0_fillGapsFrom_9 : decode cX0_fillGapsFrom 9 = .ok (.iload_n 2, 1) := by decide +kernel
theorem dX0_fillGapsFrom_10 : decode cX0_fillGapsFrom 10 = .ok (.invokevirtual 29, 3) := by decide +kernel
theorem dX0_fillGapsFrom_13 : decode cX0_fillGapsFrom 13 = .ok (.ifCond .eq 21, 3) := by decide +kernel
theorem dX0_fillGapsFrom_16 : decode cX0_fillGapsFrom 16 = .ok (.aload_n 0, 1) := by decide +kernel
theorem dX0_fillGapsFrom_17 : decode cX0_fillGapsFrom 17 = .ok (.iload_n 2, 1) := by decide +kernel
theorem dX0_fillGapsFrom_18 : decode cX0_fillGapsFrom 18 = .ok (.invokevirtual 29, 3) := by decide +kernel
theorem dX0_fillGapsFrom_21 : decode cX0_fillGapsFrom 21 = .ok (.ifCond .ne 13, 3) := by decide +kernel
theorem dX0_fillGapsFrom_24 : decode cX0_fillGapsFrom 24 = .ok (.aload_n 0, 1) := by decide +kernel
theorem dX0_fillGapsFrom_25 : decode cX0_fillGapsFrom 25 = .ok (.iload_n 2, 1) := by decide +kernel
theorem dX0_fillGapsFrom_26 : decode cX0_fillGapsFrom 26 = .ok (.aload_n 1, 1) := by decide +kernel
theorem dX0_fillGapsFrom_27 : decode cX0_fillGapsFrom 27 = .ok (.iload_n 2, 1) := by decide +kernel
theorem dX0_fillGapsFrom_28 : decode cX0_fillGapsFrom 28 = .ok (.invokevirtual 25, 3) := by decide +kernel
theorem dX0_fillGapsFrom_31 : decode cX0_fillGapsFrom 31 = .ok (.invokevirtual 32, 3) := by decide +kernel
theorem dX0_fillGapsFrom_34 : decode cX0_fillGapsFrom 34 = .ok (.iinc 2 1, 3) := by decide +kernel
theorem dX0_fillGapsFrom_37 : decode cX0_fillGapsFrom 37 = .ok (.goto (-35), 3) := by decide +kernel
theorem dX0_fillGapsFrom_40 : decode cX0_fillGapsFrom 40 = .ok (.return_, 1) := by decide +kernel
theorem dX0_moveTo_0 : decode cX0_moveTo 0 = .ok (.iconst 0, 1) := by decide +kernel
theorem dX0_moveTo_1 : decode cX0_moveTo 1 = .ok (.istore_n 3, 1) := by decide +kernel
theorem dX0_moveTo_2 : decode cX0_moveTo 2 = .ok (.iload_n 3, 1) := by decide +kernel
theorem dX0_moveTo_3 : decode cX0_moveTo 3 = .ok (.bipush 8, 2) := by decide +kernel
theorem dX0_moveTo_5 : decode cX0_moveTo 5 = .ok (.if_icmp .ge 40, 3) := by decide +kernel
theorem dX0_moveTo_8 : decode cX0_moveTo 8 = .ok (.aload_n 0, 1) := by decide +kernel
theorem dX0_moveTo_9 : decode cX0_moveTo 9 = .ok (.iload_n 3, 1) := by decide +kernel
theorem dX0_moveTo_10 : decode cX0_moveTo 10 = .ok (.invokevirtual 29, 3) := by decide +kernel
theorem dX0_moveTo_13 : decode cX0_moveTo 13 = .ok (.ifCond .eq 26, 3) := by decide +kernel
theorem dX0_moveTo_16 : decode cX0_moveTo 16 = .ok (.iload_n 2, 1) := by decide +kernel
theorem dX0_moveTo_17 : decode cX0_moveTo 17 = .ok (.iload_n 3, 1) := by decide +kernel
theorem dX0_moveTo_18 : decode cX0_moveTo 18 = .ok (.iushr, 1) := by decide +kernel
theorem dX0_moveTo_19 : decode cX0_moveTo 19 = .ok (.iconst 1, 1) := by decide +kernel
theorem dX0_moveTo_20 : decode cX0_moveTo 20 = .ok (.iand, 1) := by decide +kernel
theorem dX0_moveTo_21 : decode cX0_moveTo 21 = .ok (.ifCond .eq 18, 3) := by decide +kernel
theorem dX0_moveTo_24 : decode cX0_moveTo 24 = .ok (.aload_n 1, 1) := by decide +kernel
theorem dX0_moveTo_25 : decode cX0_moveTo 25 = .ok (.iload_n 3, 1) := by decide +kernel
theorem dX0_moveTo_26 : decode cX0_moveTo 26 = .ok (.aload_n 0, 1) := by decide +kernel
theorem dX0_moveTo_27 : decode cX0_moveTo 27 = .ok (.iload_n 3, 1) := by decide +kernel
theorem dX0_moveTo_28 : decode cX0_moveTo 28 = .ok (.invokevirtual 25, 3) := by decide +kernel
theorem dX0_moveTo_31 : decode cX0_moveTo 31 = .ok (.invokevirtual 32, 3) := by decide +kernel
theorem dX0_moveTo_34 : decode cX0_moveTo 34 = .ok (.aload_n 0, 1) := by decide +kernel
theorem dX0_moveTo_35 : decode cX0_moveTo 35 = .ok (.iload_n 3, 1) := by decide +kernel
theorem dX0_moveTo_36 : decode cX0_moveTo 36 = .ok (.invokevirtual 36, 3) := by decide +kernel
theorem dX0_moveTo_39 : decode cX0_moveTo 39 = .ok (.iinc 3 1, 3) := by decide +kernel
theorem dX0_moveTo_42 : decode cX0_moveTo 42 = .ok (.goto (-40), 3) := by decide +kernel
theorem dX0_moveTo_45 : decode cX0_moveTo 45 = .ok (.return_, 1) := by decide +kernel
theorem dX1_init_0 : decode cX1_init 0 = .ok (.aload_n 0, 1) := by decide +kernel
theorem dX1_init_1 : decode cX1_init 1 = .ok (.invokespecial 1, 3) := by decide +kernel
theorem dX1_init_4 : decode cX1_init 4 = .ok (.aload_n 0, 1) := by decide +kernel
theorem dX1_init_5 : decode cX1_init 5 = .ok (.new 7, 3) := by decide +kernel
theorem dX1_init_8 : decode cX1_init 8 = .ok (.dup, 1) := by decide +kernel
theorem dX1_init_9 : decode cX1_init 9 = .ok (.invokespecial 9, 3) := by decide +kernel
theorem dX1_init_12 : decode cX1_init 12 = .ok (.putfield 10, 3) := by decide +kernel
theorem dX1_init_15 : decode cX1_init 15 = .ok (.aload_n 0, 1) := by decide +kernel
theorem dX1_init_16 : decode cX1_init 16 = .ok (.aload_n 1, 1) := by decide +kernel
theorem dX1_init_17 : decode cX1_init 17 = .ok (.putfield 16, 3) := by decide +kernel
theorem dX1_init_20 : decode cX1_init 20 = .ok (.aload_n 0, 1) := by decide +kernel
theorem dX1_init_21 : decode cX1_init 21 = .ok (.aload_n 2, 1) := by decide +kernel
theorem dX1_init_22 : decode cX1_init 22 = .ok (.putfield 20, 3) := by decide +kernel
theorem dX1_init_25 : decode cX1_init 25 = .ok (.aload_n 0, 1) := by decide +kernel
theorem dX1_init_26 : decode cX1_init 26 = .ok (.iload_n 3, 1) := by decide +kernel
theorem dX1_init_27 : decode cX1_init 27 = .ok (.putfield 23, 3) := by decide +kernel
theorem dX1_init_30 : decode cX1_init 30 = .ok (.return_, 1) := by decide +kernel
theorem dX1_staying_0 : decode cX1_staying 0 = .ok (.aload_n 0, 1) := by decide +kernel
theorem dX1_staying_1 : decode cX1_staying 1 = .ok (.getfield 23, 3) := by decide +kernel
theorem dX1_staying_4 : decode cX1_staying 4 = .ok (.ifCond .eq 10, 3) := by decide +kernel
theorem dX1_staying_7 : decode cX1_staying 7 = .ok (.aload_n 0, 1) := by decide +kernel
theorem dX1_staying_8 : decode cX1_staying 8 = .ok (.getfield 16, 3) := by decide +kernel
theorem dX1_staying_11 : decode cX1_staying 11 = .ok (.goto 7, 3) := by decide +kernel
theorem dX1_staying_14 : decode cX1_staying 14 = .ok (.aload_n 0, 1) := by decide +kernel
theorem dX1_staying_15 : decode cX1_staying 15 = .ok (.getfield 20, 3) := by decide +kernel
theorem dX1_staying_18 : decode cX1_staying 18 = .ok (.areturn, 1) := by decide +kernel
theorem dX2_init_0 : decode cX2_init 0 = .ok (.aload_n 0, 1) := by decide +kernel
theorem dX2_init_1 : decode cX2_init 1 = .ok (.invokespecial 1, 3) := by decide +kernel
theorem dX2_init_4 : decode cX2_init 4 = .ok (.aload_n 0, 1) := by decide +kernel
theorem dX2_init_5 : decode cX2_init 5 = .ok (.iload_n 1, 1) := by decide +kernel
theorem dX2_init_6 : decode cX2_init 6 = .ok (.putfield 7, 3) := by decide +kernel
theorem dX2_init_9 : decode cX2_init 9 = .ok (.aload_n 0, 1) := by decide +kernel
theorem dX2_init_10 : decode cX2_init 10 = .ok (.iload_n 2, 1) := by decide +kernel
theorem dX2_init_11 : decode cX2_init 11 = .ok (.putfield 13, 3) := by decide +kernel
theorem dX2_init_14 : decode cX2_init 14 = .ok (.aload_n 0, 1) := by decide +kernel
theorem dX2_init_15 : decode cX2_init 15 = .ok (.iload_n 3, 1) := by decide +kernel
theorem dX2_init_16 : decode cX2_init 16 = .ok (.putfield 16, 3) := by decide +kernel
theorem dX2_init_19 : decode cX2_init 19 = .ok (.return_, 1) := by decide +kernel
theorem dX2_look_0 : decode cX2_look 0 = .ok (.iload_n 2, 1) := by decide +kernel
theorem dX2_look_1 : decode cX2_look 1 = .ok (.aload_n 0, 1) := by decide +kernel
theorem dX2_look_2 : decode cX2_look 2 = .ok (.getfield 7, 3) := by decide +kernel
theorem dX2_look_5 : decode cX2_look 5 = .ok (.iand, 1) := by decide +kernel
theorem dX2_look_6 : decode cX2_look 6 = .ok (.aload_n 0, 1) := by decide +kernel
theorem dX2_look_7 : decode cX2_look 7 = .ok (.getfield 7, 3) := by decide +kernel
theorem dX2_look_10 : decode cX2_look 10 = .ok (.if_icmp .ne 24, 3) := by decide +kernel
theorem dX2_look_13 : decode cX2_look 13 = .ok (.iload_n 2, 1) := by decide +kernel
theorem dX2_look_14 : decode cX2_look 14 = .ok (.aload_n 0, 1) := by decide +kernel
theorem dX2_look_15 : decode cX2_look 15 = .ok (.getfield 13, 3) := by decide +kernel
theorem dX2_look_18 : decode cX2_look 18 = .ok (.iand, 1) := by decide +kernel
theorem dX2_look_19 : decode cX2_look 19 = .ok (.ifCond .ne 15, 3) := by decide +kernel
theorem dX2_look_22 : decode cX2_look 22 = .ok (.aload_n 0, 1) := by decide +kernel
theorem dX2_look_23 : decode cX2_look 23 = .ok (.dup, 1) := by decide +kernel
theorem dX2_look_24 : decode cX2_look 24 = .ok (.getfield 16, 3) := by decide +kernel
theorem dX2_look_27 : decode cX2_look 27 = .ok (.iconst 1, 1) := by decide +kernel
theorem dX2_look_28 : decode cX2_look 28 = .ok (.iload_n 1, 1) := by decide +kernel
theorem dX2_look_29 : decode cX2_look 29 = .ok (.ishl, 1) := by decide +kernel
theorem dX2_look_30 : decode cX2_look 30 = .ok (.ior, 1) := by decide +kernel
theorem dX2_look_31 : decode cX2_look 31 = .ok (.putfield 16, 3) := by decide +kernel
theorem dX2_look_34 : decode cX2_look 34 = .ok (.return_, 1) := by decide +kernel
theorem dX3_init_0 : decode cX3_init 0 = .ok (.aload_n 0, 1) := by decide +kernel
theorem dX3_init_1 : decode cX3_init 1 = .ok (.invokespecial 1, 3) := by decide +kernel
theorem dX3_init_4 : decode cX3_init 4 = .ok (.aload_n 0, 1) := by decide +kernel
theorem dX3_init_5 : decode cX3_init 5 = .ok (.new 7, 3) := by decide +kernel
theorem dX3_init_8 : decode cX3_init 8 = .ok (.dup, 1) := by decide +kernel
theorem dX3_init_9 : decode cX3_init 9 = .ok (.invokespecial 9, 3) := by decide +kernel
theorem dX3_init_12 : decode cX3_init 12 = .ok (.putfield 10, 3) := by decide +kernel
theorem dX3_init_15 : decode cX3_init 15 = .ok (.aload_n 0, 1) := by decide +kernel
theorem dX3_init_16 : decode cX3_init 16 = .ok (.iload_n 1, 1) := by decide +kernel
theorem dX3_init_17 : decode cX3_init 17 = .ok (.putfield 16, 3) := by decide +kernel
theorem dX3_init_20 : decode cX3_init 20 = .ok (.aload_n 0, 1) := by decide +kernel
theorem dX3_init_21 : decode cX3_init 21 = .ok (.lload_n 2, 1) := by decide +kernel
theorem dX3_init_22 : decode cX3_init 22 = .ok (.putfield 20, 3) := by decide +kernel
theorem dX3_init_25 : decode cX3_init 25 = .ok (.return_, 1) := by decide +kernel
theorem dX4_init_0 : decode cX4_init 0 = .ok (.aload_n 0, 1) := by decide +kernel
theorem dX4_init_1 : decode cX4_init 1 = .ok (.invokespecial 3, 3) := by decide +kernel
theorem dX4_init_4 : decode cX4_init 4 = .ok (.aload_n 0, 1) := by decide +kernel
theorem dX4_init_5 : decode cX4_init 5 = .ok (.new 9, 3) := by decide +kernel
theorem dX4_init_8 : decode cX4_init 8 = .ok (.dup, 1) := by decide +kernel
theorem dX4_init_9 : decode cX4_init 9 = .ok (.invokespecial 11, 3) := by decide +kernel
theorem dX4_init_12 : decode cX4_init 12 = .ok (.putfield 12, 3) := by decide +kernel
theorem dX4_init_15 : decode cX4_init 15 = .ok (.aload_n 0, 1) := by decide +kernel
theorem dX4_init_16 : decode cX4_init 16 = .ok (.new 9, 3) := by decide +kernel
theorem dX4_init_19 : decode cX4_init 19 = .ok (.dup, 1) := by decide +kernel
theorem dX4_init_20 : decode cX4_init 20 = .ok (.invokespecial 11, 3) := by decide +kernel
theorem dX4_init_23 : decode cX4_init 23 = .ok (.putfield 18, 3) := by decide +kernel
theorem dX4_init_26 : decode cX4_init 26 = .ok (.aload_n 0, 1) := by decide +kernel
theorem dX4_init_27 : decode cX4_init 27 = .ok (.new 9, 3) := by decide +kernel
theorem dX4_init_30 : decode cX4_init 30 = .ok (.dup, 1) := by decide +kernel
theorem dX4_init_31 : decode cX4_init 31 = .ok (.invokespecial 11, 3) := by decide +kernel
theorem dX4_init_34 : decode cX4_init 34 = .ok (.putfield 21, 3) := by decide +kernel
theorem dX4_init_37 : decode cX4_init 37 = .ok (.return_, 1) := by decide +kernel
theorem dX4_lexemeCount_0 : decode cX4_lexemeCount 0 = .ok (.aload_n 0, 1) := by decide +kernel
theorem dX4_lexemeCount_1 : decode cX4_lexemeCount 1 = .ok (.getfield 12, 3) := by decide +kernel
theorem dX4_lexemeCount_4 : decode cX4_lexemeCount 4 = .ok (.invokevirtual 24, 3) := by decide +kernel
theorem dX4_lexemeCount_7 : decode cX4_lexemeCount 7 = .ok (.ireturn, 1) := by decide +kernel
theorem dX4_wordCount_0 : decode cX4_wordCount 0 = .ok (.aload_n 0, 1) := by decide +kernel
theorem dX4_wordCount_1 : decode cX4_wordCount 1 = .ok (.getfield 18, 3) := by decide +kernel
theorem dX4_wordCount_4 : decode cX4_wordCount 4 = .ok (.invokevirtual 24, 3) := by decide +kernel
theorem dX4_wordCount_7 : decode cX4_wordCount 7 = .ok (.ireturn, 1) := by decide +kernel
theorem dX4_changesLeft_0 : decode cX4_changesLeft 0 = .ok (.aload_n 0, 1) := by decide +kernel
theorem dX4_changesLeft_1 : decode cX4_changesLeft 1 = .ok (.getfield 21, 3) := by decide +kernel
theorem dX4_changesLeft_4 : decode cX4_changesLeft 4 = .ok (.invokevirtual 24, 3) := by decide +kernel
theorem dX4_changesLeft_7 : decode cX4_changesLeft 7 = .ok (.ireturn, 1) := by decide +kernel
theorem dX4_lexemeNumbered_0 : decode cX4_lexemeNumbered 0 = .ok (.iload_n 1, 1) := by decide +kernel
theorem dX4_lexemeNumbered_1 : decode cX4_lexemeNumbered 1 = .ok (.ifCond .lt 14, 3) := by decide +kernel
theorem dX4_lexemeNumbered_4 : decode cX4_lexemeNumbered 4 = .ok (.iload_n 1, 1) := by decide +kernel
theorem dX4_lexemeNumbered_5 : decode cX4_lexemeNumbered 5 = .ok (.aload_n 0, 1) := by decide +kernel
theorem dX4_lexemeNumbered_6 : decode cX4_lexemeNumbered 6 = .ok (.getfield 12, 3) := by decide +kernel
theorem dX4_lexemeNumbered_9 : decode cX4_lexemeNumbered 9 = .ok (.invokevirtual 24, 3) := by decide +kernel
theorem dX4_lexemeNumbered_12 : decode cX4_lexemeNumbered 12 = .ok (.if_icmp .lt 5, 3) := by decide +kernel
theorem dX4_lexemeNumbered_15 : decode cX4_lexemeNumbered 15 = .ok (.aconst_null, 1) := by decide +kernel
theorem dX4_lexemeNumbered_16 : decode cX4_lexemeNumbered 16 = .ok (.areturn, 1) := by decide +kernel
theorem dX4_lexemeNumbered_17 : decode cX4_lexemeNumbered 17 = .ok (.aload_n 0, 1) := by decide +kernel
theorem dX4_lexemeNumbered_18 : decode cX4_lexemeNumbered 18 = .ok (.getfield 12, 3) := by decide +kernel
theorem dX4_lexemeNumbered_21 : decode cX4_lexemeNumbered 21 = .ok (.iload_n 1, 1) := by decide +kernel
theorem dX4_lexemeNumbered_22 : decode cX4_lexemeNumbered 22 = .ok (.invokevirtual 28, 3) := by decide +kernel
theorem dX4_lexemeNumbered_25 : decode cX4_lexemeNumbered 25 = .ok (.checkcast 32, 3) := by decide +kernel
theorem dX4_lexemeNumbered_28 : decode cX4_lexemeNumbered 28 = .ok (.astore_n 2, 1) := by decide +kernel
theorem dX4_lexemeNumbered_29 : decode cX4_lexemeNumbered 29 = .ok (.aload_n 2, 1) := by decide +kernel
theorem dX4_lexemeNumbered_30 : decode cX4_lexemeNumbered 30 = .ok (.getfield 34, 3) := by decide +kernel
theorem dX4_lexemeNumbered_33 : decode cX4_lexemeNumbered 33 = .ok (.ifCond .eq 7, 3) := by decide +kernel
theorem dX4_lexemeNumbered_36 : decode cX4_lexemeNumbered 36 = .ok (.aconst_null, 1) := by decide +kernel
theorem dX4_lexemeNumbered_37 : decode cX4_lexemeNumbered 37 = .ok (.goto 4, 3) := by decide +kernel
theorem dX4_lexemeNumbered_40 : decode cX4_lexemeNumbered 40 = .ok (.aload_n 2, 1) := by decide +kernel
theorem dX4_lexemeNumbered_41 : decode cX4_lexemeNumbered 41 = .ok (.areturn, 1) := by decide +kernel
theorem dX4_wordNumbered_0 : decode cX4_wordNumbered 0 = .ok (.iload_n 1, 1) := by decide +kernel
theorem dX4_wordNumbered_1 : decode cX4_wordNumbered 1 = .ok (.ifCond .lt 14, 3) := by decide +kernel
theorem dX4_wordNumbered_4 : decode cX4_wordNumbered 4 = .ok (.iload_n 1, 1) := by decide +kernel
theorem dX4_wordNumbered_5 : decode cX4_wordNumbered 5 = .ok (.aload_n 0, 1) := by decide +kernel
theorem dX4_wordNumbered_6 : decode cX4_wordNumbered 6 = .ok (.getfield 18, 3) := by decide +kernel
theorem dX4_wordNumbered_9 : decode cX4_wordNumbered 9 = .ok (.invokevirtual 24, 3) := by decide +kernel
theorem dX4_wordNumbered_12 : decode cX4_wordNumbered 12 = .ok (.if_icmp .lt 5, 3) := by decide +kernel
theorem dX4_wordNumbered_15 : decode cX4_wordNumbered 15 = .ok (.aconst_null, 1) := by decide +kernel
theorem dX4_wordNumbered_16 : decode cX4_wordNumbered 16 = .ok (.areturn, 1) := by decide +kernel
theorem dX4_wordNumbered_17 : decode cX4_wordNumbered 17 = .ok (.aload_n 0, 1) := by decide +kernel
theorem dX4_wordNumbered_18 : decode cX4_wordNumbered 18 = .ok (.getfield 18, 3) := by decide +kernel
theorem dX4_wordNumbered_21 : decode cX4_wordNumbered 21 = .ok (.iload_n 1, 1) := by decide +kernel
theorem dX4_wordNumbered_22 : decode cX4_wordNumbered 22 = .ok (.invokevirtual 28, 3) := by decide +kernel
theorem dX4_wordNumbered_25 : decode cX4_wordNumbered 25 = .ok (.checkcast 38, 3) := by decide +kernel
theorem dX4_wordNumbered_28 : decode cX4_wordNumbered 28 = .ok (.astore_n 2, 1) := by decide +kernel
theorem dX4_wordNumbered_29 : decode cX4_wordNumbered 29 = .ok (.aload_n 2, 1) := by decide +kernel
theorem dX4_wordNumbered_30 : decode cX4_wordNumbered 30 = .ok (.getfield 40, 3) := by decide +kernel
theorem dX4_wordNumbered_33 : decode cX4_wordNumbered 33 = .ok (.ifCond .eq 7, 3) := by decide +kernel
theorem dX4_wordNumbered_36 : decode cX4_wordNumbered 36 = .ok (.aconst_null, 1) := by decide +kernel
theorem dX4_wordNumbered_37 : decode cX4_wordNumbered 37 = .ok (.goto 4, 3) := by decide +kernel
theorem dX4_wordNumbered_40 : decode cX4_wordNumbered 40 = .ok (.aload_n 2, 1) := by decide +kernel
theorem dX4_wordNumbered_41 : decode cX4_wordNumbered 41 = .ok (.areturn, 1) := by decide +kernel
theorem dX4_addLexeme_0 : decode cX4_addLexeme 0 = .ok (.new 32, 3) := by decide +kernel
theorem dX4_addLexeme_3 : decode cX4_addLexeme 3 = .ok (.dup, 1) := by decide +kernel
theorem dX4_addLexeme_4 : decode cX4_addLexeme 4 = .ok (.aload_n 0, 1) := by decide +kernel
theorem dX4_addLexeme_5 : decode cX4_addLexeme 5 = .ok (.getfield 12, 3) := by decide +kernel
theorem dX4_addLexeme_8 : decode cX4_addLexeme 8 = .ok (.invokevirtual 24, 3) := by decide +kernel
theorem dX4_addLexeme_11 : decode cX4_addLexeme 11 = .ok (.lload_n 1, 1) := by decide +kernel
theorem dX4_addLexeme_12 : decode cX4_addLexeme 12 = .ok (.invokespecial 43, 3) := by decide +kernel
theorem dX4_addLexeme_15 : decode cX4_addLexeme 15 = .ok (.astore_n 3, 1) := by decide +kernel
theorem dX4_addLexeme_16 : decode cX4_addLexeme 16 = .ok (.aload_n 0, 1) := by decide +kernel
theorem dX4_addLexeme_17 : decode cX4_addLexeme 17 = .ok (.getfield 12, 3) := by decide +kernel
theorem dX4_addLexeme_20 : decode cX4_addLexeme 20 = .ok (.aload_n 3, 1) := by decide +kernel
theorem dX4_addLexeme_21 : decode cX4_addLexeme 21 = .ok (.invokevirtual 46, 3) := by decide +kernel
theorem dX4_addLexeme_24 : decode cX4_addLexeme 24 = .ok (.pop, 1) := by decide +kernel
theorem dX4_addLexeme_25 : decode cX4_addLexeme 25 = .ok (.aload_n 3, 1) := by decide +kernel
theorem dX4_addLexeme_26 : decode cX4_addLexeme 26 = .ok (.areturn, 1) := by decide +kernel
theorem dX4_addWord_0 : decode cX4_addWord 0 = .ok (.aload_n 0, 1) := by decide +kernel
theorem dX4_addWord_1 : decode cX4_addWord 1 = .ok (.getfield 18, 3) := by decide +kernel
theorem dX4_addWord_4 : decode cX4_addWord 4 = .ok (.new 38, 3) := by decide +kernel
theorem dX4_addWord_7 : decode cX4_addWord 7 = .ok (.dup, 1) := by decide +kernel
theorem dX4_addWord_8 : decode cX4_addWord 8 = .ok (.aload_n 1, 1) := by decide +kernel
theorem dX4_addWord_9 : decode cX4_addWord 9 = .ok (.iload_n 2, 1) := by decide +kernel
theorem dX4_addWord_10 : decode cX4_addWord 10 = .ok (.iload_n 3, 1) := by decide +kernel
theorem dX4_addWord_11 : decode cX4_addWord 11 = .ok (.lload 4, 2) := by decide +kernel
theorem dX4_addWord_13 : decode cX4_addWord 13 = .ok (.invokespecial 50, 3) := by decide +kernel
theorem dX4_addWord_16 : decode cX4_addWord 16 = .ok (.invokevirtual 46, 3) := by decide +kernel
theorem dX4_addWord_19 : decode cX4_addWord 19 = .ok (.pop, 1) := by decide +kernel
theorem dX4_addWord_20 : decode cX4_addWord 20 = .ok (.aload_n 0, 1) := by decide +kernel
theorem dX4_addWord_21 : decode cX4_addWord 21 = .ok (.getfield 18, 3) := by decide +kernel
theorem dX4_addWord_24 : decode cX4_addWord 24 = .ok (.invokevirtual 24, 3) := by decide +kernel
theorem dX4_addWord_27 : decode cX4_addWord 27 = .ok (.iconst 1, 1) := by decide +kernel
theorem dX4_addWord_28 : decode cX4_addWord 28 = .ok (.isub, 1) := by decide +kernel
theorem dX4_addWord_29 : decode cX4_addWord 29 = .ok (.ireturn, 1) := by decide +kernel
theorem dX4_wordsLeft_0 : decode cX4_wordsLeft 0 = .ok (.iconst 0, 1) := by decide +kernel
theorem dX4_wordsLeft_1 : decode cX4_wordsLeft 1 = .ok (.istore_n 1, 1) := by decide +kernel
theorem dX4_wordsLeft_2 : decode cX4_wordsLeft 2 = .ok (.iconst 0, 1) := by decide +kernel
theorem dX4_wordsLeft_3 : decode cX4_wordsLeft 3 = .ok (.istore_n 2, 1) := by decide +kernel
theorem dX4_wordsLeft_4 : decode cX4_wordsLeft 4 = .ok (.iload_n 2, 1) := by decide +kernel
theorem dX4_wordsLeft_5 : decode cX4_wordsLeft 5 = .ok (.aload_n 0, 1) := by decide +kernel
theorem dX4_wordsLeft_6 : decode cX4_wordsLeft 6 = .ok (.getfield 18, 3) := by decide +kernel
theorem dX4_wordsLeft_9 : decode cX4_wordsLeft 9 = .ok (.invokevirtual 24, 3) := by decide +kernel
theorem dX4_wordsLeft_12 : decode cX4_wordsLeft 12 = .ok (.if_icmp .ge 29, 3) := by decide +kernel
theorem dX4_wordsLeft_15 : decode cX4_wordsLeft 15 = .ok (.aload_n 0, 1) := by decide +kernel
theorem dX4_wordsLeft_16 : decode cX4_wordsLeft 16 = .ok (.getfield 18, 3) := by decide +kernel
theorem dX4_wordsLeft_19 : decode cX4_wordsLeft 19 = .ok (.iload_n 2, 1) := by decide +kernel
theorem dX4_wordsLeft_20 : decode cX4_wordsLeft 20 = .ok (.invokevirtual 28, 3) := by decide +kernel
theorem dX4_wordsLeft_23 : decode cX4_wordsLeft 23 = .ok (.checkcast 38, 3) := by decide +kernel
theorem dX4_wordsLeft_26 : decode cX4_wordsLeft 26 = .ok (.getfield 40, 3) := by decide +kernel
theorem dX4_wordsLeft_29 : decode cX4_wordsLeft 29 = .ok (.ifCond .ne 6, 3) := by decide +kernel
theorem dX4_wordsLeft_32 : decode cX4_wordsLeft 32 = .ok (.iinc 1 1, 3) := by decide +kernel
theorem dX4_wordsLeft_35 : decode cX4_wordsLeft 35 = .ok (.iinc 2 1, 3) := by decide +kernel
theorem dX4_wordsLeft_38 : decode cX4_wordsLeft 38 = .ok (.goto (-34), 3) := by decide +kernel
theorem dX4_wordsLeft_41 : decode cX4_wordsLeft 41 = .ok (.iload_n 1, 1) := by decide +kernel
theorem dX4_wordsLeft_42 : decode cX4_wordsLeft 42 = .ok (.ireturn, 1) := by decide +kernel
theorem dX4_cellsHeard_0 : decode cX4_cellsHeard 0 = .ok (.iconst 0, 1) := by decide +kernel
theorem dX4_cellsHeard_1 : decode cX4_cellsHeard 1 = .ok (.istore_n 2, 1) := by decide +kernel
theorem dX4_cellsHeard_2 : decode cX4_cellsHeard 2 = .ok (.iconst 0, 1) := by decide +kernel
theorem dX4_cellsHeard_3 : decode cX4_cellsHeard 3 = .ok (.istore_n 3, 1) := by decide +kernel
theorem dX4_cellsHeard_4 : decode cX4_cellsHeard 4 = .ok (.iload_n 3, 1) := by decide +kernel
theorem dX4_cellsHeard_5 : decode cX4_cellsHeard 5 = .ok (.aload_n 0, 1) := by decide +kernel
theorem dX4_cellsHeard_6 : decode cX4_cellsHeard 6 = .ok (.getfield 18, 3) := by decide +kernel
theorem dX4_cellsHeard_9 : decode cX4_cellsHeard 9 = .ok (.invokevirtual 24, 3) := by decide +kernel
theorem dX4_cellsHeard_12 : decode cX4_cellsHeard 12 = .ok (.if_icmp .ge 40, 3) := by decide +kernel
theorem dX4_cellsHeard_15 : decode cX4_cellsHeard 15 = .ok (.aload_n 0, 1) := by decide +kernel
theorem dX4_cellsHeard_16 : decode cX4_cellsHeard 16 = .ok (.iload_n 3, 1) := by decide +kernel
theorem dX4_cellsHeard_17 : decode cX4_cellsHeard 17 = .ok (.invokevirtual 53, 3) := by decide +kernel
theorem dX4_cellsHeard_20 : decode cX4_cellsHeard 20 = .ok (.astore 4, 2) := by decide +kernel
theorem dX4_cellsHeard_22 : decode cX4_cellsHeard 22 = .ok (.aload 4, 2) := by decide +kernel
theorem dX4_cellsHeard_24 : decode cX4_cellsHeard 24 = .ok (.ifnull 22, 3) := by decide +kernel
theorem dX4_cellsHeard_27 : decode cX4_cellsHeard 27 = .ok (.aload 4, 2) := by decide +kernel
theorem dX4_cellsHeard_29 : decode cX4_cellsHeard 29 = .ok (.getfield 57, 3) := by decide +kernel
theorem dX4_cellsHeard_32 : decode cX4_cellsHeard 32 = .ok (.aload_n 1, 1) := by decide +kernel
theorem dX4_cellsHeard_33 : decode cX4_cellsHeard 33 = .ok (.if_acmp .ne 13, 3) := by decide +kernel
theorem dX4_cellsHeard_36 : decode cX4_cellsHeard 36 = .ok (.iload_n 2, 1) := by decide +kernel
theorem dX4_cellsHeard_37 : decode cX4_cellsHeard 37 = .ok (.iconst 1, 1) := by decide +kernel
theorem dX4_cellsHeard_38 : decode cX4_cellsHeard 38 = .ok (.aload 4, 2) := by decide +kernel
theorem dX4_cellsHeard_40 : decode cX4_cellsHeard 40 = .ok (.getfield 61, 3) := by decide +kernel
theorem dX4_cellsHeard_43 : decode cX4_cellsHeard 43 = .ok (.ishl, 1) := by decide +kernel
theorem dX4_cellsHeard_44 : decode cX4_cellsHeard 44 = .ok (.ior, 1) := by decide +kernel
theorem dX4_cellsHeard_45 : decode cX4_cellsHeard 45 = .ok (.istore_n 2, 1) := by decide +kernel
theorem dX4_cellsHeard_46 : decode cX4_cellsHeard 46 = .ok (.iinc 3 1, 3) := by decide +kernel
theorem dX4_cellsHeard_49 : decode cX4_cellsHeard 49 = .ok (.goto (-45), 3) := by decide +kernel
theorem dX4_cellsHeard_52 : decode cX4_cellsHeard 52 = .ok (.iload_n 2, 1) := by decide +kernel
theorem dX4_cellsHeard_53 : decode cX4_cellsHeard 53 = .ok (.ireturn, 1) := by decide +kernel
theorem dX4_cellsShared_0 : decode cX4_cellsShared 0 = .ok (.iconst 0, 1) := by decide +kernel
theorem dX4_cellsShared_1 : decode cX4_cellsShared 1 = .ok (.istore 4, 2) := by decide +kernel
theorem dX4_cellsShared_3 : decode cX4_cellsShared 3 = .ok (.iconst 0, 1) := by decide +kernel
theorem dX4_cellsShared_4 : decode cX4_cellsShared 4 = .ok (.istore 5, 2) := by decide +kernel
theorem dX4_cellsShared_6 : decode cX4_cellsShared 6 = .ok (.iload 5, 2) := by decide +kernel
theorem dX4_cellsShared_8 : decode cX4_cellsShared 8 = .ok (.aload_n 0, 1) := by decide +kernel
theorem dX4_cellsShared_9 : decode cX4_cellsShared 9 = .ok (.getfield 18, 3) := by decide +kernel
theorem dX4_cellsShared_12 : decode cX4_cellsShared 12 = .ok (.invokevirtual 24, 3) := by decide +kernel
theorem dX4_cellsShared_15 : decode cX4_cellsShared 15 = .ok (.if_icmp .ge 62, 3) := by decide +kernel
theorem dX4_cellsShared_18 : decode cX4_cellsShared 18 = .ok (.aload_n 0, 1) := by decide +kernel
theorem dX4_cellsShared_19 : decode cX4_cellsShared 19 = .ok (.iload 5, 2) := by decide +kernel
theorem dX4_cellsShared_21 : decode cX4_cellsShared 21 = .ok (.invokevirtual 53, 3) := by decide +kernel
theorem dX4_cellsShared_24 : decode cX4_cellsShared 24 = .ok (.astore 6, 2) := by decide +kernel
theorem dX4_cellsShared_26 : decode cX4_cellsShared 26 = .ok (.aload 6, 2) := by decide +kernel
theorem dX4_cellsShared_28 : decode cX4_cellsShared 28 = .ok (.ifnull 43, 3) := by decide +kernel
theorem dX4_cellsShared_31 : decode cX4_cellsShared 31 = .ok (.aload 6, 2) := by decide +kernel
theorem dX4_cellsShared_33 : decode cX4_cellsShared 33 = .ok (.getfield 57, 3) := by decide +kernel
theorem dX4_cellsShared_36 : decode cX4_cellsShared 36 = .ok (.aload_n 1, 1) := by decide +kernel
theorem dX4_cellsShared_37 : decode cX4_cellsShared 37 = .ok (.if_acmp .ne 34, 3) := by decide +kernel
theorem dX4_cellsShared_40 : decode cX4_cellsShared 40 = .ok (.aload 6, 2) := by decide +kernel
theorem dX4_cellsShared_42 : decode cX4_cellsShared 42 = .ok (.getfield 65, 3) := by decide +kernel
theorem dX4_cellsShared_45 : decode cX4_cellsShared 45 = .ok (.iload_n 2, 1) := by decide +kernel
theorem dX4_cellsShared_46 : decode cX4_cellsShared 46 = .ok (.if_icmp .ne 25, 3) := by decide +kernel
theorem dX4_cellsShared_49 : decode cX4_cellsShared 49 = .ok (.aload_n 0, 1) := by decide +kernel
theorem dX4_cellsShared_50 : decode cX4_cellsShared 50 = .ok (.iload_n 3, 1) := by decide +kernel
theorem dX4_cellsShared_51 : decode cX4_cellsShared 51 = .ok (.aload 6, 2) := by decide +kernel
theorem dX4_cellsShared_53 : decode cX4_cellsShared 53 = .ok (.invokevirtual 68, 3) := by decide +kernel
theorem dX4_cellsShared_56 : decode cX4_cellsShared 56 = .ok (.ifCond .eq 15, 3) := by decide +kernel
theorem dX4_cellsShared_59 : decode cX4_cellsShared 59 = .ok (.iload 4, 2) := by decide +kernel
theorem dX4_cellsShared_61 : decode cX4_cellsShared 61 = .ok (.iconst 1, 1) := by decide +kernel
theorem dX4_cellsShared_62 : decode cX4_cellsShared 62 = .ok (.aload 6, 2) := by decide +kernel
theorem dX4_cellsShared_64 : decode cX4_cellsShared 64 = .ok (.getfield 61, 3) := by decide +kernel
theorem dX4_cellsShared_67 : decode cX4_cellsShared 67 = .ok (.ishl, 1) := by decide +kernel
theorem dX4_cellsShared_68 : decode cX4_cellsShared 68 = .ok (.ior, 1) := by decide +kernel
theorem dX4_cellsShared_69 : decode cX4_cellsShared 69 = .ok (.istore 4, 2) := by decide +kernel
theorem dX4_cellsShared_71 : decode cX4_cellsShared 71 = .ok (.iinc 5 1, 3) := by decide +kernel
theorem dX4_cellsShared_74 : decode cX4_cellsShared 74 = .ok (.goto (-68), 3) := by decide +kernel
theorem dX4_cellsShared_77 : decode cX4_cellsShared 77 = .ok (.iload 4, 2) := by decide +kernel
theorem dX4_cellsShared_79 : decode cX4_cellsShared 79 = .ok (.ireturn, 1) := by decide +kernel
theorem dX4_wasHeardBy_0 : decode cX4_wasHeardBy 0 = .ok (.iconst 0, 1) := by decide +kernel
theorem dX4_wasHeardBy_1 : decode cX4_wasHeardBy 1 = .ok (.istore_n 3, 1) := by decide +kernel
theorem dX4_wasHeardBy_2 : decode cX4_wasHeardBy 2 = .ok (.iload_n 3, 1) := by decide +kernel
theorem dX4_wasHeardBy_3 : decode cX4_wasHeardBy 3 = .ok (.aload_n 0, 1) := by decide +kernel
theorem dX4_wasHeardBy_4 : decode cX4_wasHeardBy 4 = .ok (.getfield 18, 3) := by decide +kernel
theorem dX4_wasHeardBy_7 : decode cX4_wasHeardBy 7 = .ok (.invokevirtual 24, 3) := by decide +kernel
theorem dX4_wasHeardBy_10 : decode cX4_wasHeardBy 10 = .ok (.if_icmp .ge 69, 3) := by decide +kernel
theorem dX4_wasHeardBy_13 : decode cX4_wasHeardBy 13 = .ok (.aload_n 0, 1) := by decide +kernel
theorem dX4_wasHeardBy_14 : decode cX4_wasHeardBy 14 = .ok (.iload_n 3, 1) := by decide +kernel
theorem dX4_wasHeardBy_15 : decode cX4_wasHeardBy 15 = .ok (.invokevirtual 53, 3) := by decide +kernel
theorem dX4_wasHeardBy_18 : decode cX4_wasHeardBy 18 = .ok (.astore 4, 2) := by decide +kernel
theorem dX4_wasHeardBy_20 : decode cX4_wasHeardBy 20 = .ok (.aload 4, 2) := by decide +kernel
theorem dX4_wasHeardBy_22 : decode cX4_wasHeardBy 22 = .ok (.ifnull 51, 3) := by decide +kernel
theorem dX4_wasHeardBy_25 : decode cX4_wasHeardBy 25 = .ok (.aload 4, 2) := by decide +kernel
theorem dX4_wasHeardBy_27 : decode cX4_wasHeardBy 27 = .ok (.getfield 65, 3) := by decide +kernel
theorem dX4_wasHeardBy_30 : decode cX4_wasHeardBy 30 = .ok (.iload_n 1, 1) := by decide +kernel
theorem dX4_wasHeardBy_31 : decode cX4_wasHeardBy 31 = .ok (.if_icmp .ne 42, 3) := by decide +kernel
theorem dX4_wasHeardBy_34 : decode cX4_wasHeardBy 34 = .ok (.aload 4, 2) := by decide +kernel
theorem dX4_wasHeardBy_36 : decode cX4_wasHeardBy 36 = .ok (.getfield 57, 3) := by decide +kernel
theorem dX4_wasHeardBy_39 : decode cX4_wasHeardBy 39 = .ok (.aload_n 2, 1) := by decide +kernel
theorem dX4_wasHeardBy_40 : decode cX4_wasHeardBy 40 = .ok (.getfield 57, 3) := by decide +kernel
theorem dX4_wasHeardBy_43 : decode cX4_wasHeardBy 43 = .ok (.if_acmp .ne 30, 3) := by decide +kernel
theorem dX4_wasHeardBy_46 : decode cX4_wasHeardBy 46 = .ok (.aload 4, 2) := by decide +kernel
theorem dX4_wasHeardBy_48 : decode cX4_wasHeardBy 48 = .ok (.getfield 61, 3) := by decide +kernel
theorem dX4_wasHeardBy_51 : decode cX4_wasHeardBy 51 = .ok (.aload_n 2, 1) := by decide +kernel
theorem dX4_wasHeardBy_52 : decode cX4_wasHeardBy 52 = .ok (.getfield 61, 3) := by decide +kernel
theorem dX4_wasHeardBy_55 : decode cX4_wasHeardBy 55 = .ok (.if_icmp .ne 18, 3) := by decide +kernel
theorem dX4_wasHeardBy_58 : decode cX4_wasHeardBy 58 = .ok (.aload 4, 2) := by decide +kernel
theorem dX4_wasHeardBy_60 : decode cX4_wasHeardBy 60 = .ok (.getfield 72, 3) := by decide +kernel
theorem dX4_wasHeardBy_63 : decode cX4_wasHeardBy 63 = .ok (.aload_n 2, 1) := by decide +kernel
theorem dX4_wasHeardBy_64 : decode cX4_wasHeardBy 64 = .ok (.getfield 72, 3) := by decide +kernel
theorem dX4_wasHeardBy_67 : decode cX4_wasHeardBy 67 = .ok (.lcmp, 1) := by decide +kernel
theorem dX4_wasHeardBy_68 : decode cX4_wasHeardBy 68 = .ok (.ifCond .ne 5, 3) := by decide +kernel
theorem dX4_wasHeardBy_71 : decode cX4_wasHeardBy 71 = .ok (.iconst 1, 1) := by decide +kernel
theorem dX4_wasHeardBy_72 : decode cX4_wasHeardBy 72 = .ok (.ireturn, 1) := by decide +kernel
theorem dX4_wasHeardBy_73 : decode cX4_wasHeardBy 73 = .ok (.iinc 3 1, 3) := by decide +kernel
theorem dX4_wasHeardBy_76 : decode cX4_wasHeardBy 76 = .ok (.goto (-74), 3) := by decide +kernel
theorem dX4_wasHeardBy_79 : decode cX4_wasHeardBy 79 = .ok (.iconst 0, 1) := by decide +kernel
theorem dX4_wasHeardBy_80 : decode cX4_wasHeardBy 80 = .ok (.ireturn, 1) := by decide +kernel
theorem dX4_mergeInto_0 : decode cX4_mergeInto 0 = .ok (.aload_n 0, 1) := by decide +kernel
theorem dX4_mergeInto_1 : decode cX4_mergeInto 1 = .ok (.aload_n 1, 1) := by decide +kernel
theorem dX4_mergeInto_2 : decode cX4_mergeInto 2 = .ok (.aload_n 2, 1) := by decide +kernel
theorem dX4_mergeInto_3 : decode cX4_mergeInto 3 = .ok (.iconst 0, 1) := by decide +kernel
theorem dX4_mergeInto_4 : decode cX4_mergeInto 4 = .ok (.invokevirtual 76, 3) := by decide +kernel
theorem dX4_mergeInto_7 : decode cX4_mergeInto 7 = .ok (.astore_n 3, 1) := by decide +kernel
theorem dX4_mergeInto_8 : decode cX4_mergeInto 8 = .ok (.aload_n 2, 1) := by decide +kernel
theorem dX4_mergeInto_9 : decode cX4_mergeInto 9 = .ok (.getfield 80, 3) := by decide +kernel
theorem dX4_mergeInto_12 : decode cX4_mergeInto 12 = .ok (.aload_n 1, 1) := by decide +kernel
theorem dX4_mergeInto_13 : decode cX4_mergeInto 13 = .ok (.getfield 80, 3) := by decide +kernel
theorem dX4_mergeInto_16 : decode cX4_mergeInto 16 = .ok (.invokevirtual 84, 3) := by decide +kernel
theorem dX4_mergeInto_19 : decode cX4_mergeInto 19 = .ok (.aload_n 3, 1) := by decide +kernel
theorem dX4_mergeInto_20 : decode cX4_mergeInto 20 = .ok (.aload_n 0, 1) := by decide +kernel
theorem dX4_mergeInto_21 : decode cX4_mergeInto 21 = .ok (.aload_n 1, 1) := by decide +kernel
theorem dX4_mergeInto_22 : decode cX4_mergeInto 22 = .ok (.aload_n 2, 1) := by decide +kernel
theorem dX4_mergeInto_23 : decode cX4_mergeInto 23 = .ok (.sipush 255, 3) := by decide +kernel
theorem dX4_mergeInto_26 : decode cX4_mergeInto 26 = .ok (.invokevirtual 90, 3) := by decide +kernel
theorem dX4_mergeInto_29 : decode cX4_mergeInto 29 = .ok (.putfield 94, 3) := by decide +kernel
theorem dX4_mergeInto_32 : decode cX4_mergeInto 32 = .ok (.aload_n 1, 1) := by decide +kernel
theorem dX4_mergeInto_33 : decode cX4_mergeInto 33 = .ok (.iconst 1, 1) := by decide +kernel
theorem dX4_mergeInto_34 : decode cX4_mergeInto 34 = .ok (.putfield 34, 3) := by decide +kernel
theorem dX4_mergeInto_37 : decode cX4_mergeInto 37 = .ok (.aload_n 3, 1) := by decide +kernel
theorem dX4_mergeInto_38 : decode cX4_mergeInto 38 = .ok (.getfield 94, 3) := by decide +kernel
theorem dX4_mergeInto_41 : decode cX4_mergeInto 41 = .ok (.invokestatic 99, 3) := by decide +kernel
theorem dX4_mergeInto_44 : decode cX4_mergeInto 44 = .ok (.ireturn, 1) := by decide +kernel
theorem dX4_splitOff_0 : decode cX4_splitOff 0 = .ok (.aload_n 0, 1) := by decide +kernel
theorem dX4_splitOff_1 : decode cX4_splitOff 1 = .ok (.aload_n 1, 1) := by decide +kernel
theorem dX4_splitOff_2 : decode cX4_splitOff 2 = .ok (.getfield 105, 3) := by decide +kernel
theorem dX4_splitOff_5 : decode cX4_splitOff 5 = .ok (.invokevirtual 106, 3) := by decide +kernel
theorem dX4_splitOff_8 : decode cX4_splitOff 8 = .ok (.astore_n 3, 1) := by decide +kernel
theorem dX4_splitOff_9 : decode cX4_splitOff 9 = .ok (.aload_n 0, 1) := by decide +kernel
theorem dX4_splitOff_10 : decode cX4_splitOff 10 = .ok (.aload_n 1, 1) := by decide +kernel
theorem dX4_splitOff_11 : decode cX4_splitOff 11 = .ok (.aload_n 3, 1) := by decide +kernel
theorem dX4_splitOff_12 : decode cX4_splitOff 12 = .ok (.iconst 1, 1) := by decide +kernel
theorem dX4_splitOff_13 : decode cX4_splitOff 13 = .ok (.invokevirtual 76, 3) := by decide +kernel
theorem dX4_splitOff_16 : decode cX4_splitOff 16 = .ok (.astore 4, 2) := by decide +kernel
theorem dX4_splitOff_18 : decode cX4_splitOff 18 = .ok (.aload_n 1, 1) := by decide +kernel
theorem dX4_splitOff_19 : decode cX4_splitOff 19 = .ok (.getfield 80, 3) := by decide +kernel
theorem dX4_splitOff_22 : decode cX4_splitOff 22 = .ok (.aload_n 3, 1) := by decide +kernel
theorem dX4_splitOff_23 : decode cX4_splitOff 23 = .ok (.getfield 80, 3) := by decide +kernel
theorem dX4_splitOff_26 : decode cX4_splitOff 26 = .ok (.iload_n 2, 1) := by decide +kernel
theorem dX4_splitOff_27 : decode cX4_splitOff 27 = .ok (.invokevirtual 110, 3) := by decide +kernel
theorem dX4_splitOff_30 : decode cX4_splitOff 30 = .ok (.aload 4, 2) := by decide +kernel
theorem dX4_splitOff_32 : decode cX4_splitOff 32 = .ok (.aload_n 0, 1) := by decide +kernel
theorem dX4_splitOff_33 : decode cX4_splitOff 33 = .ok (.aload_n 1, 1) := by decide +kernel
theorem dX4_splitOff_34 : decode cX4_splitOff 34 = .ok (.aload_n 3, 1) := by decide +kernel
theorem dX4_splitOff_35 : decode cX4_splitOff 35 = .ok (.iload_n 2, 1) := by decide +kernel
theorem dX4_splitOff_36 : decode cX4_splitOff 36 = .ok (.invokevirtual 90, 3) := by decide +kernel
theorem dX4_splitOff_39 : decode cX4_splitOff 39 = .ok (.putfield 94, 3) := by decide +kernel
theorem dX4_splitOff_42 : decode cX4_splitOff 42 = .ok (.aload_n 3, 1) := by decide +kernel
theorem dX4_splitOff_43 : decode cX4_splitOff 43 = .ok (.getfield 114, 3) := by decide +kernel
theorem dX4_splitOff_46 : decode cX4_splitOff 46 = .ok (.ireturn, 1) := by decide +kernel
theorem dX4_begin_0 : decode cX4_begin 0 = .ok (.new 95, 3) := by decide +kernel
theorem dX4_begin_3 : decode cX4_begin 3 = .ok (.dup, 1) := by decide +kernel
theorem dX4_begin_4 : decode cX4_begin 4 = .ok (.aload_n 1, 1) := by decide +kernel
theorem dX4_begin_5 : decode cX4_begin 5 = .ok (.aload_n 2, 1) := by decide +kernel
theorem dX4_begin_6 : decode cX4_begin 6 = .ok (.iload_n 3, 1) := by decide +kernel
theorem dX4_begin_7 : decode cX4_begin 7 = .ok (.invokespecial 117, 3) := by decide +kernel
theorem dX4_begin_10 : decode cX4_begin 10 = .ok (.astore 4, 2) := by decide +kernel
theorem dX4_begin_12 : decode cX4_begin 12 = .ok (.aload 4, 2) := by decide +kernel
theorem dX4_begin_14 : decode cX4_begin 14 = .ok (.getfield 120, 3) := by decide +kernel
theorem dX4_begin_17 : decode cX4_begin 17 = .ok (.aload 4, 2) := by decide +kernel
theorem dX4_begin_19 : decode cX4_begin 19 = .ok (.invokevirtual 121, 3) := by decide +kernel
theorem dX4_begin_22 : decode cX4_begin 22 = .ok (.getfield 80, 3) := by decide +kernel
theorem dX4_begin_25 : decode cX4_begin 25 = .ok (.invokevirtual 125, 3) := by decide +kernel
theorem dX4_begin_28 : decode cX4_begin 28 = .ok (.aload_n 0, 1) := by decide +kernel
theorem dX4_begin_29 : decode cX4_begin 29 = .ok (.getfield 21, 3) := by decide +kernel
theorem dX4_begin_32 : decode cX4_begin 32 = .ok (.aload 4, 2) := by decide +kernel
theorem dX4_begin_34 : decode cX4_begin 34 = .ok (.invokevirtual 46, 3) := by decide +kernel
theorem dX4_begin_37 : decode cX4_begin 37 = .ok (.pop, 1) := by decide +kernel
theorem dX4_begin_38 : decode cX4_begin 38 = .ok (.aload 4, 2) := by decide +kernel
theorem dX4_begin_40 : decode cX4_begin 40 = .ok (.areturn, 1) := by decide +kernel
theorem dX4_moveWords_0 : decode cX4_moveWords 0 = .ok (.lconst 0, 1) := by decide +kernel
theorem dX4_moveWords_1 : decode cX4_moveWords 1 = .ok (.lstore 4, 2) := by decide +kernel
theorem dX4_moveWords_3 : decode cX4_moveWords 3 = .ok (.iconst 0, 1) := by decide +kernel
theorem dX4_moveWords_4 : decode cX4_moveWords 4 = .ok (.istore 6, 2) := by decide +kernel
theorem dX4_moveWords_6 : decode cX4_moveWords 6 = .ok (.iload 6, 2) := by decide +kernel
theorem dX4_moveWords_8 : decode cX4_moveWords 8 = .ok (.aload_n 0, 1) := by decide +kernel
theorem dX4_moveWords_9 : decode cX4_moveWords 9 = .ok (.getfield 18, 3) := by decide +kernel
theorem dX4_moveWords_12 : decode cX4_moveWords 12 = .ok (.invokevirtual 24, 3) := by decide +kernel
theorem dX4_moveWords_15 : decode cX4_moveWords 15 = .ok (.if_icmp .ge 58, 3) := by decide +kernel
theorem dX4_moveWords_18 : decode cX4_moveWords 18 = .ok (.aload_n 0, 1) := by decide +kernel
theorem dX4_moveWords_19 : decode cX4_moveWords 19 = .ok (.iload 6, 2) := by decide +kernel
theorem dX4_moveWords_21 : decode cX4_moveWords 21 = .ok (.invokevirtual 53, 3) := by decide +kernel
theorem dX4_moveWords_24 : decode cX4_moveWords 24 = .ok (.astore 7, 2) := by decide +kernel
theorem dX4_moveWords_26 : decode cX4_moveWords 26 = .ok (.aload 7, 2) := by decide +kernel
theorem dX4_moveWords_28 : decode cX4_moveWords 28 = .ok (.ifnull 39, 3) := by decide +kernel
theorem dX4_moveWords_31 : decode cX4_moveWords 31 = .ok (.aload 7, 2) := by decide +kernel
theorem dX4_moveWords_33 : decode cX4_moveWords 33 = .ok (.getfield 57, 3) := by decide +kernel
theorem dX4_moveWords_36 : decode cX4_moveWords 36 = .ok (.aload_n 1, 1) := by decide +kernel
theorem dX4_moveWords_37 : decode cX4_moveWords 37 = .ok (.if_acmp .ne 30, 3) := by decide +kernel
theorem dX4_moveWords_40 : decode cX4_moveWords 40 = .ok (.iload_n 3, 1) := by decide +kernel
theorem dX4_moveWords_41 : decode cX4_moveWords 41 = .ok (.aload 7, 2) := by decide +kernel
theorem dX4_moveWords_43 : decode cX4_moveWords 43 = .ok (.getfield 61, 3) := by decide +kernel
theorem dX4_moveWords_46 : decode cX4_moveWords 46 = .ok (.iushr, 1) := by decide +kernel
theorem dX4_moveWords_47 : decode cX4_moveWords 47 = .ok (.iconst 1, 1) := by decide +kernel
theorem dX4_moveWords_48 : decode cX4_moveWords 48 = .ok (.iand, 1) := by decide +kernel
theorem dX4_moveWords_49 : decode cX4_moveWords 49 = .ok (.ifCond .eq 18, 3) := by decide +kernel
theorem dX4_moveWords_52 : decode cX4_moveWords 52 = .ok (.aload 7, 2) := by decide +kernel
theorem dX4_moveWords_54 : decode cX4_moveWords 54 = .ok (.aload_n 2, 1) := by decide +kernel
theorem dX4_moveWords_55 : decode cX4_moveWords 55 = .ok (.putfield 57, 3) := by decide +kernel
theorem dX4_moveWords_58 : decode cX4_moveWords 58 = .ok (.lload 4, 2) := by decide +kernel
theorem dX4_moveWords_60 : decode cX4_moveWords 60 = .ok (.lconst 1, 1) := by decide +kernel
theorem dX4_moveWords_61 : decode cX4_moveWords 61 = .ok (.iload 6, 2) := by decide +kernel
theorem dX4_moveWords_63 : decode cX4_moveWords 63 = .ok (.lshl, 1) := by decide +kernel
theorem dX4_moveWords_64 : decode cX4_moveWords 64 = .ok (.lor, 1) := by decide +kernel
theorem dX4_moveWords_65 : decode cX4_moveWords 65 = .ok (.lstore 4, 2) := by decide +kernel
theorem dX4_moveWords_67 : decode cX4_moveWords 67 = .ok (.iinc 6 1, 3) := by decide +kernel
theorem dX4_moveWords_70 : decode cX4_moveWords 70 = .ok (.goto (-64), 3) := by decide +kernel
theorem dX4_moveWords_73 : decode cX4_moveWords 73 = .ok (.lload 4, 2) := by decide +kernel
theorem dX4_moveWords_75 : decode cX4_moveWords 75 = .ok (.lreturn, 1) := by decide +kernel
theorem dX4_takeBack_0 : decode cX4_takeBack 0 = .ok (.aload_n 0, 1) := by decide +kernel
theorem dX4_takeBack_1 : decode cX4_takeBack 1 = .ok (.getfield 21, 3) := by decide +kernel
theorem dX4_takeBack_4 : decode cX4_takeBack 4 = .ok (.invokevirtual 24, 3) := by decide +kernel
theorem dX4_takeBack_7 : decode cX4_takeBack 7 = .ok (.iconst 1, 1) := by decide +kernel
theorem dX4_takeBack_8 : decode cX4_takeBack 8 = .ok (.isub, 1) := by decide +kernel
theorem dX4_takeBack_9 : decode cX4_takeBack 9 = .ok (.istore_n 1, 1) := by decide +kernel
theorem dX4_takeBack_10 : decode cX4_takeBack 10 = .ok (.iload_n 1, 1) := by decide +kernel
theorem dX4_takeBack_11 : decode cX4_takeBack 11 = .ok (.ifCond .ge 5, 3) := by decide +kernel
theorem dX4_takeBack_14 : decode cX4_takeBack 14 = .ok (.iconst 0, 1) := by decide +kernel
theorem dX4_takeBack_15 : decode cX4_takeBack 15 = .ok (.ireturn, 1) := by decide +kernel
theorem dX4_takeBack_16 : decode cX4_takeBack 16 = .ok (.aload_n 0, 1) := by decide +kernel
theorem dX4_takeBack_17 : decode cX4_takeBack 17 = .ok (.getfield 21, 3) := by decide +kernel
theorem dX4_takeBack_20 : decode cX4_takeBack 20 = .ok (.iload_n 1, 1) := by decide +kernel
theorem dX4_takeBack_21 : decode cX4_takeBack 21 = .ok (.invokevirtual 128, 3) := by decide +kernel
theorem dX4_takeBack_24 : decode cX4_takeBack 24 = .ok (.checkcast 95, 3) := by decide +kernel
theorem dX4_takeBack_27 : decode cX4_takeBack 27 = .ok (.astore_n 2, 1) := by decide +kernel
theorem dX4_takeBack_28 : decode cX4_takeBack 28 = .ok (.iconst 0, 1) := by decide +kernel
theorem dX4_takeBack_29 : decode cX4_takeBack 29 = .ok (.istore_n 3, 1) := by decide +kernel
theorem dX4_takeBack_30 : decode cX4_takeBack 30 = .ok (.iload_n 3, 1) := by decide +kernel
theorem dX4_takeBack_31 : decode cX4_takeBack 31 = .ok (.aload_n 0, 1) := by decide +kernel
theorem dX4_takeBack_32 : decode cX4_takeBack 32 = .ok (.getfield 18, 3) := by decide +kernel
theorem dX4_takeBack_35 : decode cX4_takeBack 35 = .ok (.invokevirtual 24, 3) := by decide +kernel
theorem dX4_takeBack_38 : decode cX4_takeBack 38 = .ok (.if_icmp .ge 83, 3) := by decide +kernel
theorem dX4_takeBack_41 : decode cX4_takeBack 41 = .ok (.aload_n 0, 1) := by decide +kernel
theorem dX4_takeBack_42 : decode cX4_takeBack 42 = .ok (.getfield 18, 3) := by decide +kernel
theorem dX4_takeBack_45 : decode cX4_takeBack 45 = .ok (.iload_n 3, 1) := by decide +kernel
theorem dX4_takeBack_46 : decode cX4_takeBack 46 = .ok (.invokevirtual 28, 3) := by decide +kernel
theorem dX4_takeBack_49 : decode cX4_takeBack 49 = .ok (.checkcast 38, 3) := by decide +kernel
theorem dX4_takeBack_52 : decode cX4_takeBack 52 = .ok (.astore 4, 2) := by decide +kernel
theorem dX4_takeBack_54 : decode cX4_takeBack 54 = .ok (.aload_n 2, 1) := by decide +kernel
theorem dX4_takeBack_55 : decode cX4_takeBack 55 = .ok (.getfield 131, 3) := by decide +kernel
theorem dX4_takeBack_58 : decode cX4_takeBack 58 = .ok (.ifCond .eq 23, 3) := by decide +kernel
theorem dX4_takeBack_61 : decode cX4_takeBack 61 = .ok (.aload 4, 2) := by decide +kernel
theorem dX4_takeBack_63 : decode cX4_takeBack 63 = .ok (.getfield 57, 3) := by decide +kernel
theorem dX4_takeBack_66 : decode cX4_takeBack 66 = .ok (.aload_n 2, 1) := by decide +kernel
theorem dX4_takeBack_67 : decode cX4_takeBack 67 = .ok (.getfield 134, 3) := by decide +kernel
theorem dX4_takeBack_70 : decode cX4_takeBack 70 = .ok (.if_acmp .ne 7, 3) := by decide +kernel
theorem dX4_takeBack_73 : decode cX4_takeBack 73 = .ok (.iconst 1, 1) := by decide +kernel
theorem dX4_takeBack_74 : decode cX4_takeBack 74 = .ok (.goto 25, 3) := by decide +kernel
theorem dX4_takeBack_77 : decode cX4_takeBack 77 = .ok (.iconst 0, 1) := by decide +kernel
theorem dX4_takeBack_78 : decode cX4_takeBack 78 = .ok (.goto 21, 3) := by decide +kernel
theorem dX4_takeBack_81 : decode cX4_takeBack 81 = .ok (.aload_n 2, 1) := by decide +kernel
theorem dX4_takeBack_82 : decode cX4_takeBack 82 = .ok (.getfield 94, 3) := by decide +kernel
theorem dX4_takeBack_85 : decode cX4_takeBack 85 = .ok (.iload_n 3, 1) := by decide +kernel
theorem dX4_takeBack_86 : decode cX4_takeBack 86 = .ok (.lushr, 1) := by decide +kernel
theorem dX4_takeBack_87 : decode cX4_takeBack 87 = .ok (.lconst 1, 1) := by decide +kernel
theorem dX4_takeBack_88 : decode cX4_takeBack 88 = .ok (.land, 1) := by decide +kernel
theorem dX4_takeBack_89 : decode cX4_takeBack 89 = .ok (.lconst 0, 1) := by decide +kernel
theorem dX4_takeBack_90 : decode cX4_takeBack 90 = .ok (.lcmp, 1) := by decide +kernel
theorem dX4_takeBack_91 : decode cX4_takeBack 91 = .ok (.ifCond .eq 7, 3) := by decide +kernel
theorem dX4_takeBack_94 : decode cX4_takeBack 94 = .ok (.iconst 1, 1) := by decide +kernel
theorem dX4_takeBack_95 : decode cX4_takeBack 95 = .ok (.goto 4, 3) := by decide +kernel
theorem dX4_takeBack_98 : decode cX4_takeBack 98 = .ok (.iconst 0, 1) := by decide +kernel
theorem dX4_takeBack_99 : decode cX4_takeBack 99 = .ok (.istore 5, 2) := by decide +kernel
theorem dX4_takeBack_101 : decode cX4_takeBack 101 = .ok (.iload 5, 2) := by decide +kernel
theorem dX4_takeBack_103 : decode cX4_takeBack 103 = .ok (.ifCond .eq 12, 3) := by decide +kernel
theorem dX4_takeBack_106 : decode cX4_takeBack 106 = .ok (.aload 4, 2) := by decide +kernel
theorem dX4_takeBack_108 : decode cX4_takeBack 108 = .ok (.aload_n 2, 1) := by decide +kernel
theorem dX4_takeBack_109 : decode cX4_takeBack 109 = .ok (.getfield 137, 3) := by decide +kernel
theorem dX4_takeBack_112 : decode cX4_takeBack 112 = .ok (.putfield 57, 3) := by decide +kernel
theorem dX4_takeBack_115 : decode cX4_takeBack 115 = .ok (.iinc 3 1, 3) := by decide +kernel
theorem dX4_takeBack_118 : decode cX4_takeBack 118 = .ok (.goto (-88), 3) := by decide +kernel
theorem dX4_takeBack_121 : decode cX4_takeBack 121 = .ok (.aload_n 2, 1) := by decide +kernel
theorem dX4_takeBack_122 : decode cX4_takeBack 122 = .ok (.invokevirtual 121, 3) := by decide +kernel
theorem dX4_takeBack_125 : decode cX4_takeBack 125 = .ok (.getfield 80, 3) := by decide +kernel
theorem dX4_takeBack_128 : decode cX4_takeBack 128 = .ok (.aload_n 2, 1) := by decide +kernel
theorem dX4_takeBack_129 : decode cX4_takeBack 129 = .ok (.getfield 120, 3) := by decide +kernel
theorem dX4_takeBack_132 : decode cX4_takeBack 132 = .ok (.invokevirtual 125, 3) := by decide +kernel
theorem dX4_takeBack_135 : decode cX4_takeBack 135 = .ok (.aload_n 2, 1) := by decide +kernel
theorem dX4_takeBack_136 : decode cX4_takeBack 136 = .ok (.getfield 134, 3) := by decide +kernel
theorem dX4_takeBack_139 : decode cX4_takeBack 139 = .ok (.aload_n 2, 1) := by decide +kernel
theorem dX4_takeBack_140 : decode cX4_takeBack 140 = .ok (.getfield 131, 3) := by decide +kernel
theorem dX4_takeBack_143 : decode cX4_takeBack 143 = .ok (.putfield 34, 3) := by decide +kernel
theorem dX4_takeBack_146 : decode cX4_takeBack 146 = .ok (.aload_n 2, 1) := by decide +kernel
theorem dX4_takeBack_147 : decode cX4_takeBack 147 = .ok (.getfield 137, 3) := by decide +kernel
theorem dX4_takeBack_150 : decode cX4_takeBack 150 = .ok (.iconst 0, 1) := by decide +kernel
theorem dX4_takeBack_151 : decode cX4_takeBack 151 = .ok (.putfield 34, 3) := by decide +kernel
theorem dX4_takeBack_154 : decode cX4_takeBack 154 = .ok (.iload_n 1, 1) := by decide +kernel
theorem dX4_takeBack_155 : decode cX4_takeBack 155 = .ok (.ireturn, 1) := by decide +kernel
theorem dX5_init_0 : decode cX5_init 0 = .ok (.aload_n 0, 1) := by decide +kernel
theorem dX5_init_1 : decode cX5_init 1 = .ok (.invokespecial 3, 3) := by decide +kernel
theorem dX5_init_4 : decode cX5_init 4 = .ok (.aload_n 0, 1) := by decide +kernel
theorem dX5_init_5 : decode cX5_init 5 = .ok (.bipush 32, 2) := by decide +kernel
theorem dX5_init_7 : decode cX5_init 7 = .ok (.newarray .int, 2) := by decide +kernel
theorem dX5_init_9 : decode cX5_init 9 = .ok (.putfield 11, 3) := by decide +kernel
theorem dX5_init_12 : decode cX5_init 12 = .ok (.aload_n 0, 1) := by decide +kernel
theorem dX5_init_13 : decode cX5_init 13 = .ok (.bipush 64, 2) := by decide +kernel
theorem dX5_init_15 : decode cX5_init 15 = .ok (.newarray .int, 2) := by decide +kernel
theorem dX5_init_17 : decode cX5_init 17 = .ok (.putfield 17, 3) := by decide +kernel
theorem dX5_init_20 : decode cX5_init 20 = .ok (.aload_n 0, 1) := by decide +kernel
theorem dX5_init_21 : decode cX5_init 21 = .ok (.new 20, 3) := by decide +kernel
theorem dX5_init_24 : decode cX5_init 24 = .ok (.dup, 1) := by decide +kernel
theorem dX5_init_25 : decode cX5_init 25 = .ok (.invokespecial 22, 3) := by decide +kernel
theorem dX5_init_28 : decode cX5_init 28 = .ok (.putfield 23, 3) := by decide +kernel
theorem dX5_init_31 : decode cX5_init 31 = .ok (.aload_n 0, 1) := by decide +kernel
theorem dX5_init_32 : decode cX5_init 32 = .ok (.new 27, 3) := by decide +kernel
theorem dX5_init_35 : decode cX5_init 35 = .ok (.dup, 1) := by decide +kernel
theorem dX5_init_36 : decode cX5_init 36 = .ok (.iconst 0, 1) := by decide +kernel
theorem dX5_init_37 : decode cX5_init 37 = .ok (.iconst 0, 1) := by decide +kernel
theorem dX5_init_38 : decode cX5_init 38 = .ok (.iconst (-1), 1) := by decide +kernel
theorem dX5_init_39 : decode cX5_init 39 = .ok (.invokespecial 29, 3) := by decide +kernel
theorem dX5_init_42 : decode cX5_init 42 = .ok (.putfield 32, 3) := by decide +kernel
theorem dX5_init_45 : decode cX5_init 45 = .ok (.aload_n 0, 1) := by decide +kernel
theorem dX5_init_46 : decode cX5_init 46 = .ok (.new 27, 3) := by decide +kernel
theorem dX5_init_49 : decode cX5_init 49 = .ok (.dup, 1) := by decide +kernel
theorem dX5_init_50 : decode cX5_init 50 = .ok (.iconst 0, 1) := by decide +kernel
theorem dX5_init_51 : decode cX5_init 51 = .ok (.iconst 0, 1) := by decide +kernel
theorem dX5_init_52 : decode cX5_init 52 = .ok (.iconst 1, 1) := by decide +kernel
theorem dX5_init_53 : decode cX5_init 53 = .ok (.invokespecial 29, 3) := by decide +kernel
theorem dX5_init_56 : decode cX5_init 56 = .ok (.putfield 36, 3) := by decide +kernel
theorem dX5_init_59 : decode cX5_init 59 = .ok (.aload_n 0, 1) := by decide +kernel
theorem dX5_init_60 : decode cX5_init 60 = .ok (.new 20, 3) := by decide +kernel
theorem dX5_init_63 : decode cX5_init 63 = .ok (.dup, 1) := by decide +kernel
theorem dX5_init_64 : decode cX5_init 64 = .ok (.invokespecial 22, 3) := by decide +kernel
theorem dX5_init_67 : decode cX5_init 67 = .ok (.putfield 39, 3) := by decide +kernel
theorem dX5_init_70 : decode cX5_init 70 = .ok (.aload_n 0, 1) := by decide +kernel
theorem dX5_init_71 : decode cX5_init 71 = .ok (.new 20, 3) := by decide +kernel
theorem dX5_init_74 : decode cX5_init 74 = .ok (.dup, 1) := by decide +kernel
theorem dX5_init_75 : decode cX5_init 75 = .ok (.invokespecial 22, 3) := by decide +kernel
theorem dX5_init_78 : decode cX5_init 78 = .ok (.putfield 42, 3) := by decide +kernel
theorem dX5_init_81 : decode cX5_init 81 = .ok (.aload_n 0, 1) := by decide +kernel
theorem dX5_init_82 : decode cX5_init 82 = .ok (.bipush 64, 2) := by decide +kernel
theorem dX5_init_84 : decode cX5_init 84 = .ok (.newarray .long, 2) := by decide +kernel
theorem dX5_init_86 : decode cX5_init 86 = .ok (.putfield 45, 3) := by decide +kernel
theorem dX5_init_89 : decode cX5_init 89 = .ok (.return_, 1) := by decide +kernel
theorem dX5_soundCount_0 : decode cX5_soundCount 0 = .ok (.aload_n 0, 1) := by decide +kernel
theorem dX5_soundCount_1 : decode cX5_soundCount 1 = .ok (.getfield 49, 3) := by decide +kernel
theorem dX5_soundCount_4 : decode cX5_soundCount 4 = .ok (.ireturn, 1) := by decide +kernel
theorem dX5_kindCount_0 : decode cX5_kindCount 0 = .ok (.aload_n 0, 1) := by decide +kernel
theorem dX5_kindCount_1 : decode cX5_kindCount 1 = .ok (.getfield 23, 3) := by decide +kernel
theorem dX5_kindCount_4 : decode cX5_kindCount 4 = .ok (.invokevirtual 53, 3) := by decide +kernel
theorem dX5_kindCount_7 : decode cX5_kindCount 7 = .ok (.ireturn, 1) := by decide +kernel
theorem dX5_ruleCount_0 : decode cX5_ruleCount 0 = .ok (.aload_n 0, 1) := by decide +kernel
theorem dX5_ruleCount_1 : decode cX5_ruleCount 1 = .ok (.getfield 39, 3) := by decide +kernel
theorem dX5_ruleCount_4 : decode cX5_ruleCount 4 = .ok (.invokevirtual 53, 3) := by decide +kernel
theorem dX5_ruleCount_7 : decode cX5_ruleCount 7 = .ok (.ireturn, 1) := by decide +kernel
theorem dX5_setOfOn_0 : decode cX5_setOfOn 0 = .ok (.aload_n 0, 1) := by decide +kernel
theorem dX5_setOfOn_1 : decode cX5_setOfOn 1 = .ok (.getfield 57, 3) := by decide +kernel
theorem dX5_setOfOn_4 : decode cX5_setOfOn 4 = .ok (.ireturn, 1) := by decide +kernel
theorem dX5_hasSoundWith_0 : decode cX5_hasSoundWith 0 = .ok (.aload_n 0, 1) := by decide +kernel
theorem dX5_hasSoundWith_1 : decode cX5_hasSoundWith 1 = .ok (.getfield 17, 3) := by decide +kernel
theorem dX5_hasSoundWith_4 : decode cX5_hasSoundWith 4 = .ok (.iload_n 1, 1) := by decide +kernel
theorem dX5_hasSoundWith_5 : decode cX5_hasSoundWith 5 = .ok (.bipush 63, 2) := by decide +kernel
theorem dX5_hasSoundWith_7 : decode cX5_hasSoundWith 7 = .ok (.iand, 1) := by decide +kernel
theorem dX5_hasSoundWith_8 : decode cX5_hasSoundWith 8 = .ok (.iaload, 1) := by decide +kernel
theorem dX5_hasSoundWith_9 : decode cX5_hasSoundWith 9 = .ok (.ifCond .eq 7, 3) := by decide +kernel
theorem dX5_hasSoundWith_12 : decode cX5_hasSoundWith 12 = .ok (.iconst 1, 1) := by decide +kernel
theorem dX5_hasSoundWith_13 : decode cX5_hasSoundWith 13 = .ok (.goto 4, 3) := by decide +kernel
theorem dX5_hasSoundWith_16 : decode cX5_hasSoundWith 16 = .ok (.iconst 0, 1) := by decide +kernel
theorem dX5_hasSoundWith_17 : decode cX5_hasSoundWith 17 = .ok (.ireturn, 1) := by decide +kernel
theorem dX5_addSound_0 : decode cX5_addSound 0 = .ok (.aload_n 0, 1) := by decide +kernel
theorem dX5_addSound_1 : decode cX5_addSound 1 = .ok (.getfield 49, 3) := by decide +kernel
theorem dX5_addSound_4 : decode cX5_addSound 4 = .ok (.istore_n 2, 1) := by decide +kernel
theorem dX5_addSound_5 : decode cX5_addSound 5 = .ok (.iload_n 2, 1) := by decide +kernel
theorem dX5_addSound_6 : decode cX5_addSound 6 = .ok (.invokestatic 60, 3) := by decide +kernel
theorem dX5_addSound_9 : decode cX5_addSound 9 = .ok (.istore_n 3, 1) := by decide +kernel
theorem dX5_addSound_10 : decode cX5_addSound 10 = .ok (.aload_n 0, 1) := by decide +kernel
theorem dX5_addSound_11 : decode cX5_addSound 11 = .ok (.getfield 11, 3) := by decide +kernel
theorem dX5_addSound_14 : decode cX5_addSound 14 = .ok (.iload_n 3, 1) := by decide +kernel
theorem dX5_addSound_15 : decode cX5_addSound 15 = .ok (.bipush 31, 2) := by decide +kernel
theorem dX5_addSound_17 : decode cX5_addSound 17 = .ok (.iand, 1) := by decide +kernel
theorem dX5_addSound_18 : decode cX5_addSound 18 = .ok (.iload_n 1, 1) := by decide +kernel
theorem dX5_addSound_19 : decode cX5_addSound 19 = .ok (.iastore, 1) := by decide +kernel
theorem dX5_addSound_20 : decode cX5_addSound 20 = .ok (.aload_n 0, 1) := by decide +kernel
theorem dX5_addSound_21 : decode cX5_addSound 21 = .ok (.getfield 17, 3) := by decide +kernel
theorem dX5_addSound_24 : decode cX5_addSound 24 = .ok (.iload_n 1, 1) := by decide +kernel
theorem dX5_addSound_25 : decode cX5_addSound 25 = .ok (.bipush 63, 2) := by decide +kernel
theorem dX5_addSound_27 : decode cX5_addSound 27 = .ok (.iand, 1) := by decide +kernel
theorem dX5_addSound_28 : decode cX5_addSound 28 = .ok (.iload_n 3, 1) := by decide +kernel
theorem dX5_addSound_29 : decode cX5_addSound 29 = .ok (.iastore, 1) := by decide +kernel
theorem dX5_addSound_30 : decode cX5_addSound 30 = .ok (.iconst 0, 1) := by decide +kernel
theorem dX5_addSound_31 : decode cX5_addSound 31 = .ok (.istore 4, 2) := by decide +kernel
theorem dX5_addSound_33 : decode cX5_addSound 33 = .ok (.iload 4, 2) := by decide +kernel
theorem dX5_addSound_35 : decode cX5_addSound 35 = .ok (.aload_n 0, 1) := by decide +kernel
theorem dX5_addSound_36 : decode cX5_addSound 36 = .ok (.getfield 23, 3) := by decide +kernel
theorem dX5_addSound_39 : decode cX5_addSound 39 = .ok (.invokevirtual 53, 3) := by decide +kernel
theorem dX5_addSound_42 : decode cX5_addSound 42 = .ok (.if_icmp .ge 26, 3) := by decide +kernel
theorem dX5_addSound_45 : decode cX5_addSound 45 = .ok (.aload_n 0, 1) := by decide +kernel
theorem dX5_addSound_46 : decode cX5_addSound 46 = .ok (.getfield 23, 3) := by decide +kernel
theorem dX5_addSound_49 : decode cX5_addSound 49 = .ok (.iload 4, 2) := by decide +kernel
theorem dX5_addSound_51 : decode cX5_addSound 51 = .ok (.invokevirtual 64, 3) := by decide +kernel
theorem dX5_addSound_54 : decode cX5_addSound 54 = .ok (.checkcast 27, 3) := by decide +kernel
theorem dX5_addSound_57 : decode cX5_addSound 57 = .ok (.iload_n 3, 1) := by decide +kernel
theorem dX5_addSound_58 : decode cX5_addSound 58 = .ok (.iload_n 1, 1) := by decide +kernel
theorem dX5_addSound_59 : decode cX5_addSound 59 = .ok (.invokevirtual 68, 3) := by decide +kernel
theorem dX5_addSound_62 : decode cX5_addSound 62 = .ok (.iinc 4 1, 3) := by decide +kernel
theorem dX5_addSound_65 : decode cX5_addSound 65 = .ok (.goto (-32), 3) := by decide +kernel
theorem dX5_addSound_68 : decode cX5_addSound 68 = .ok (.aload_n 0, 1) := by decide +kernel
theorem dX5_addSound_69 : decode cX5_addSound 69 = .ok (.dup, 1) := by decide +kernel
theorem dX5_addSound_70 : decode cX5_addSound 70 = .ok (.getfield 49, 3) := by decide +kernel
theorem dX5_addSound_73 : decode cX5_addSound 73 = .ok (.iconst 1, 1) := by decide +kernel
theorem dX5_addSound_74 : decode cX5_addSound 74 = .ok (.iadd, 1) := by decide +kernel
theorem dX5_addSound_75 : decode cX5_addSound 75 = .ok (.putfield 49, 3) := by decide +kernel
theorem dX5_addSound_78 : decode cX5_addSound 78 = .ok (.iload_n 2, 1) := by decide +kernel
theorem dX5_addSound_79 : decode cX5_addSound 79 = .ok (.ireturn, 1) := by decide +kernel
theorem dX5_addKind_0 : decode cX5_addKind 0 = .ok (.new 27, 3) := by decide +kernel
theorem dX5_addKind_3 : decode cX5_addKind 3 = .ok (.dup, 1) := by decide +kernel
theorem dX5_addKind_4 : decode cX5_addKind 4 = .ok (.iload_n 1, 1) := by decide +kernel
theorem dX5_addKind_5 : decode cX5_addKind 5 = .ok (.iload_n 2, 1) := by decide +kernel
theorem dX5_addKind_6 : decode cX5_addKind 6 = .ok (.iconst 0, 1) := by decide +kernel
theorem dX5_addKind_7 : decode cX5_addKind 7 = .ok (.invokespecial 29, 3) := by decide +kernel
theorem dX5_addKind_10 : decode cX5_addKind 10 = .ok (.astore_n 3, 1) := by decide +kernel
theorem dX5_addKind_11 : decode cX5_addKind 11 = .ok (.iconst 0, 1) := by decide +kernel
theorem dX5_addKind_12 : decode cX5_addKind 12 = .ok (.istore 4, 2) := by decide +kernel
theorem dX5_addKind_14 : decode cX5_addKind 14 = .ok (.iload 4, 2) := by decide +kernel
theorem dX5_addKind_16 : decode cX5_addKind 16 = .ok (.aload_n 0, 1) := by decide +kernel
theorem dX5_addKind_17 : decode cX5_addKind 17 = .ok (.getfield 49, 3) := by decide +kernel
theorem dX5_addKind_20 : decode cX5_addKind 20 = .ok (.if_icmp .ge 32, 3) := by decide +kernel
theorem dX5_addKind_23 : decode cX5_addKind 23 = .ok (.iload 4, 2) := by decide +kernel
theorem dX5_addKind_25 : decode cX5_addKind 25 = .ok (.invokestatic 60, 3) := by decide +kernel
theorem dX5_addKind_28 : decode cX5_addKind 28 = .ok (.istore 5, 2) := by decide +kernel
theorem dX5_addKind_30 : decode cX5_addKind 30 = .ok (.aload_n 3, 1) := by decide +kernel
theorem dX5_addKind_31 : decode cX5_addKind 31 = .ok (.iload 5, 2) := by decide +kernel
theorem dX5_addKind_33 : decode cX5_addKind 33 = .ok (.aload_n 0, 1) := by decide +kernel
theorem dX5_addKind_34 : decode cX5_addKind 34 = .ok (.getfield 11, 3) := by decide +kernel
theorem dX5_addKind_37 : decode cX5_addKind 37 = .ok (.iload 5, 2) := by decide +kernel
theorem dX5_addKind_39 : decode cX5_addKind 39 = .ok (.bipush 31, 2) := by decide +kernel
theorem dX5_addKind_41 : decode cX5_addKind 41 = .ok (.iand, 1) := by decide +kernel
theorem dX5_addKind_42 : decode cX5_addKind 42 = .ok (.iaload, 1) := by decide +kernel
theorem dX5_addKind_43 : decode cX5_addKind 43 = .ok (.invokevirtual 68, 3) := by decide +kernel
theorem dX5_addKind_46 : decode cX5_addKind 46 = .ok (.iinc 4 1, 3) := by decide +kernel
theorem dX5_addKind_49 : decode cX5_addKind 49 = .ok (.goto (-35), 3) := by decide +kernel
theorem dX5_addKind_52 : decode cX5_addKind 52 = .ok (.aload_n 0, 1) := by decide +kernel
theorem dX5_addKind_53 : decode cX5_addKind 53 = .ok (.getfield 23, 3) := by decide +kernel
theorem dX5_addKind_56 : decode cX5_addKind 56 = .ok (.aload_n 3, 1) := by decide +kernel
theorem dX5_addKind_57 : decode cX5_addKind 57 = .ok (.invokevirtual 72, 3) := by decide +kernel
theorem dX5_addKind_60 : decode cX5_addKind 60 = .ok (.pop, 1) := by decide +kernel
theorem dX5_addKind_61 : decode cX5_addKind 61 = .ok (.aload_n 0, 1) := by decide +kernel
theorem dX5_addKind_62 : decode cX5_addKind 62 = .ok (.getfield 23, 3) := by decide +kernel
theorem dX5_addKind_65 : decode cX5_addKind 65 = .ok (.invokevirtual 53, 3) := by decide +kernel
theorem dX5_addKind_68 : decode cX5_addKind 68 = .ok (.iconst 1, 1) := by decide +kernel
theorem dX5_addKind_69 : decode cX5_addKind 69 = .ok (.isub, 1) := by decide +kernel
theorem dX5_addKind_70 : decode cX5_addKind 70 = .ok (.ireturn, 1) := by decide +kernel
theorem dX5_kindNumbered_0 : decode cX5_kindNumbered 0 = .ok (.iload_n 1, 1) := by decide +kernel
theorem dX5_kindNumbered_1 : decode cX5_kindNumbered 1 = .ok (.ifCond .lt 28, 3) := by decide +kernel
theorem dX5_kindNumbered_4 : decode cX5_kindNumbered 4 = .ok (.iload_n 1, 1) := by decide +kernel
theorem dX5_kindNumbered_5 : decode cX5_kindNumbered 5 = .ok (.aload_n 0, 1) := by decide +kernel
theorem dX5_kindNumbered_6 : decode cX5_kindNumbered 6 = .ok (.getfield 23, 3) := by decide +kernel
theorem dX5_kindNumbered_9 : decode cX5_kindNumbered 9 = .ok (.invokevirtual 53, 3) := by decide +kernel
theorem dX5_kindNumbered_12 : decode cX5_kindNumbered 12 = .ok (.if_icmp .ge 17, 3) := by decide +kernel
theorem dX5_kindNumbered_15 : decode cX5_kindNumbered 15 = .ok (.aload_n 0, 1) := by decide +kernel
theorem dX5_kindNumbered_16 : decode cX5_kindNumbered 16 = .ok (.getfield 23, 3) := by decide +kernel
theorem dX5_kindNumbered_19 : decode cX5_kindNumbered 19 = .ok (.iload_n 1, 1) := by decide +kernel
theorem dX5_kindNumbered_20 : decode cX5_kindNumbered 20 = .ok (.invokevirtual 64, 3) := by decide +kernel
theorem dX5_kindNumbered_23 : decode cX5_kindNumbered 23 = .ok (.checkcast 27, 3) := by decide +kernel
theorem dX5_kindNumbered_26 : decode cX5_kindNumbered 26 = .ok (.goto 4, 3) := by decide +kernel
theorem dX5_kindNumbered_29 : decode cX5_kindNumbered 29 = .ok (.aconst_null, 1) := by decide +kernel
theorem dX5_kindNumbered_30 : decode cX5_kindNumbered 30 = .ok (.areturn, 1) := by decide +kernel
theorem dX5_sideNumbered_0 : decode cX5_sideNumbered 0 = .ok (.iload_n 1, 1) := by decide +kernel
theorem dX5_sideNumbered_1 : decode cX5_sideNumbered 1 = .ok (.iconst (-1), 1) := by decide +kernel
theorem dX5_sideNumbered_2 : decode cX5_sideNumbered 2 = .ok (.if_icmp .ne 8, 3) := by decide +kernel
theorem dX5_sideNumbered_5 : decode cX5_sideNumbered 5 = .ok (.aload_n 0, 1) := by decide +kernel
theorem dX5_sideNumbered_6 : decode cX5_sideNumbered 6 = .ok (.getfield 32, 3) := by decide +kernel
theorem dX5_sideNumbered_9 : decode cX5_sideNumbered 9 = .ok (.areturn, 1) := by decide +kernel
theorem dX5_sideNumbered_10 : decode cX5_sideNumbered 10 = .ok (.iload_n 1, 1) := by decide +kernel
theorem dX5_sideNumbered_11 : decode cX5_sideNumbered 11 = .ok (.bipush (-2), 2) := by decide +kernel
theorem dX5_sideNumbered_13 : decode cX5_sideNumbered 13 = .ok (.if_icmp .ne 10, 3) := by decide +kernel
theorem dX5_sideNumbered_16 : decode cX5_sideNumbered 16 = .ok (.aload_n 0, 1) := by decide +kernel
theorem dX5_sideNumbered_17 : decode cX5_sideNumbered 17 = .ok (.getfield 36, 3) := by decide +kernel
theorem dX5_sideNumbered_20 : decode cX5_sideNumbered 20 = .ok (.goto 8, 3) := by decide +kernel
theorem dX5_sideNumbered_23 : decode cX5_sideNumbered 23 = .ok (.aload_n 0, 1) := by decide +kernel
theorem dX5_sideNumbered_24 : decode cX5_sideNumbered 24 = .ok (.iload_n 1, 1) := by decide +kernel
theorem dX5_sideNumbered_25 : decode cX5_sideNumbered 25 = .ok (.invokevirtual 76, 3) := by decide +kernel
theorem dX5_sideNumbered_28 : decode cX5_sideNumbered 28 = .ok (.areturn, 1) := by decide +kernel
theorem dX5_ruleNumbered_0 : decode cX5_ruleNumbered 0 = .ok (.iload_n 1, 1) := by decide +kernel
theorem dX5_ruleNumbered_1 : decode cX5_ruleNumbered 1 = .ok (.ifCond .lt 28, 3) := by decide +kernel
theorem dX5_ruleNumbered_4 : decode cX5_ruleNumbered 4 = .ok (.iload_n 1, 1) := by decide +kernel
theorem dX5_ruleNumbered_5 : decode cX5_ruleNumbered 5 = .ok (.aload_n 0, 1) := by decide +kernel
theorem dX5_ruleNumbered_6 : decode cX5_ruleNumbered 6 = .ok (.getfield 39, 3) := by decide +kernel
theorem dX5_ruleNumbered_9 : decode cX5_ruleNumbered 9 = .ok (.invokevirtual 53, 3) := by decide +kernel
theorem dX5_ruleNumbered_12 : decode cX5_ruleNumbered 12 = .ok (.if_icmp .ge 17, 3) := by decide +kernel
theorem dX5_ruleNumbered_15 : decode cX5_ruleNumbered 15 = .ok (.aload_n 0, 1) := by decide +kernel
theorem dX5_ruleNumbered_16 : decode cX5_ruleNumbered 16 = .ok (.getfield 39, 3) := by decide +kernel
theorem dX5_ruleNumbered_19 : decode cX5_ruleNumbered 19 = .ok (.iload_n 1, 1) := by decide +kernel
theorem dX5_ruleNumbered_20 : decode cX5_ruleNumbered 20 = .ok (.invokevirtual 64, 3) := by decide +kernel
theorem dX5_ruleNumbered_23 : decode cX5_ruleNumbered 23 = .ok (.checkcast 80, 3) := by decide +kernel
theorem dX5_ruleNumbered_26 : decode cX5_ruleNumbered 26 = .ok (.goto 4, 3) := by decide +kernel
theorem dX5_ruleNumbered_29 : decode cX5_ruleNumbered 29 = .ok (.aconst_null, 1) := by decide +kernel
theorem dX5_ruleNumbered_30 : decode cX5_ruleNumbered 30 = .ok (.areturn, 1) := by decide +kernel
theorem dX5_addRule_0 : decode cX5_addRule 0 = .ok (.new 80, 3) := by decide +kernel
theorem dX5_addRule_3 : decode cX5_addRule 3 = .ok (.dup, 1) := by decide +kernel
theorem dX5_addRule_4 : decode cX5_addRule 4 = .ok (.aload_n 0, 1) := by decide +kernel
theorem dX5_addRule_5 : decode cX5_addRule 5 = .ok (.getfield 39, 3) := by decide +kernel
theorem dX5_addRule_8 : decode cX5_addRule 8 = .ok (.invokevirtual 53, 3) := by decide +kernel
theorem dX5_addRule_11 : decode cX5_addRule 11 = .ok (.aload_n 1, 1) := by decide +kernel
theorem dX5_addRule_12 : decode cX5_addRule 12 = .ok (.iload_n 2, 1) := by decide +kernel
theorem dX5_addRule_13 : decode cX5_addRule 13 = .ok (.aload_n 3, 1) := by decide +kernel
theorem dX5_addRule_14 : decode cX5_addRule 14 = .ok (.aload 4, 2) := by decide +kernel
theorem dX5_addRule_16 : decode cX5_addRule 16 = .ok (.invokespecial 82, 3) := by decide +kernel
theorem dX5_addRule_19 : decode cX5_addRule 19 = .ok (.astore 5, 2) := by decide +kernel
theorem dX5_addRule_21 : decode cX5_addRule 21 = .ok (.aload_n 0, 1) := by decide +kernel
theorem dX5_addRule_22 : decode cX5_addRule 22 = .ok (.getfield 39, 3) := by decide +kernel
theorem dX5_addRule_25 : decode cX5_addRule 25 = .ok (.aload 5, 2) := by decide +kernel
theorem dX5_addRule_27 : decode cX5_addRule 27 = .ok (.invokevirtual 72, 3) := by decide +kernel
theorem dX5_addRule_30 : decode cX5_addRule 30 = .ok (.pop, 1) := by decide +kernel
theorem dX5_addRule_31 : decode cX5_addRule 31 = .ok (.aload_n 0, 1) := by decide +kernel
theorem dX5_addRule_32 : decode cX5_addRule 32 = .ok (.getfield 42, 3) := by decide +kernel
theorem dX5_addRule_35 : decode cX5_addRule 35 = .ok (.aload 5, 2) := by decide +kernel
theorem dX5_addRule_37 : decode cX5_addRule 37 = .ok (.invokevirtual 72, 3) := by decide +kernel
theorem dX5_addRule_40 : decode cX5_addRule 40 = .ok (.pop, 1) := by decide +kernel
theorem dX5_addRule_41 : decode cX5_addRule 41 = .ok (.aload_n 0, 1) := by decide +kernel
theorem dX5_addRule_42 : decode cX5_addRule 42 = .ok (.dup, 1) := by decide +kernel
theorem dX5_addRule_43 : decode cX5_addRule 43 = .ok (.getfield 57, 3) := by decide +kernel
theorem dX5_addRule_46 : decode cX5_addRule 46 = .ok (.aload 5, 2) := by decide +kernel
theorem dX5_addRule_48 : decode cX5_addRule 48 = .ok (.invokevirtual 85, 3) := by decide +kernel
theorem dX5_addRule_51 : decode cX5_addRule 51 = .ok (.ior, 1) := by decide +kernel
theorem dX5_addRule_52 : decode cX5_addRule 52 = .ok (.putfield 57, 3) := by decide +kernel
theorem dX5_addRule_55 : decode cX5_addRule 55 = .ok (.aload 5, 2) := by decide +kernel
theorem dX5_addRule_57 : decode cX5_addRule 57 = .ok (.getfield 88, 3) := by decide +kernel
theorem dX5_addRule_60 : decode cX5_addRule 60 = .ok (.ireturn, 1) := by decide +kernel
theorem dX5_setOn_0 : decode cX5_setOn 0 = .ok (.aload_n 1, 1) := by decide +kernel
theorem dX5_setOn_1 : decode cX5_setOn 1 = .ok (.aload_n 0, 1) := by decide +kernel
theorem dX5_setOn_2 : decode cX5_setOn 2 = .ok (.getfield 57, 3) := by decide +kernel
theorem dX5_setOn_5 : decode cX5_setOn 5 = .ok (.invokevirtual 91, 3) := by decide +kernel
theorem dX5_setOn_8 : decode cX5_setOn 8 = .ok (.iload_n 2, 1) := by decide +kernel
theorem dX5_setOn_9 : decode cX5_setOn 9 = .ok (.if_icmp .eq 7, 3) := by decide +kernel
theorem dX5_setOn_12 : decode cX5_setOn 12 = .ok (.iconst 1, 1) := by decide +kernel
theorem dX5_setOn_13 : decode cX5_setOn 13 = .ok (.goto 4, 3) := by decide +kernel
theorem dX5_setOn_16 : decode cX5_setOn 16 = .ok (.iconst 0, 1) := by decide +kernel
theorem dX5_setOn_17 : decode cX5_setOn 17 = .ok (.istore_n 3, 1) := by decide +kernel
theorem dX5_setOn_18 : decode cX5_setOn 18 = .ok (.aload_n 0, 1) := by decide +kernel
theorem dX5_setOn_19 : decode cX5_setOn 19 = .ok (.iload_n 2, 1) := by decide +kernel
theorem dX5_setOn_20 : decode cX5_setOn 20 = .ok (.ifCond .eq 15, 3) := by decide +kernel
theorem dX5_setOn_23 : decode cX5_setOn 23 = .ok (.aload_n 0, 1) := by decide +kernel
theorem dX5_setOn_24 : decode cX5_setOn 24 = .ok (.getfield 57, 3) := by decide +kernel
theorem dX5_setOn_27 : decode cX5_setOn 27 = .ok (.aload_n 1, 1) := by decide +kernel
theorem dX5_setOn_28 : decode cX5_setOn 28 = .ok (.invokevirtual 85, 3) := by decide +kernel
theorem dX5_setOn_31 : decode cX5_setOn 31 = .ok (.ior, 1) := by decide +kernel
theorem dX5_setOn_32 : decode cX5_setOn 32 = .ok (.goto 14, 3) := by decide +kernel
theorem dX5_setOn_35 : decode cX5_setOn 35 = .ok (.aload_n 0, 1) := by decide +kernel
theorem dX5_setOn_36 : decode cX5_setOn 36 = .ok (.getfield 57, 3) := by decide +kernel
theorem dX5_setOn_39 : decode cX5_setOn 39 = .ok (.aload_n 1, 1) := by decide +kernel
theorem dX5_setOn_40 : decode cX5_setOn 40 = .ok (.invokevirtual 85, 3) := by decide +kernel
theorem dX5_setOn_43 : decode cX5_setOn 43 = .ok (.iconst (-1), 1) := by decide +kernel
theorem dX5_setOn_44 : decode cX5_setOn 44 = .ok (.ixor, 1) := by decide +kernel
theorem dX5_setOn_45 : decode cX5_setOn 45 = .ok (.iand, 1) := by decide +kernel
theorem dX5_setOn_46 : decode cX5_setOn 46 = .ok (.putfield 57, 3) := by decide +kernel
theorem dX5_setOn_49 : decode cX5_setOn 49 = .ok (.iload_n 3, 1) := by decide +kernel
theorem dX5_setOn_50 : decode cX5_setOn 50 = .ok (.ireturn, 1) := by decide +kernel
theorem dX5_moveAhead_0 : decode cX5_moveAhead 0 = .ok (.iconst 1, 1) := by decide +kernel
theorem dX5_moveAhead_1 : decode cX5_moveAhead 1 = .ok (.istore_n 2, 1) := by decide +kernel
theorem dX5_moveAhead_2 : decode cX5_moveAhead 2 = .ok (.iload_n 2, 1) := by decide +kernel
theorem dX5_moveAhead_3 : decode cX5_moveAhead 3 = .ok (.aload_n 0, 1) := by decide +kernel
theorem dX5_moveAhead_4 : decode cX5_moveAhead 4 = .ok (.getfield 42, 3) := by decide +kernel
theorem dX5_moveAhead_7 : decode cX5_moveAhead 7 = .ok (.invokevirtual 53, 3) := by decide +kernel
theorem dX5_moveAhead_10 : decode cX5_moveAhead 10 = .ok (.if_icmp .ge 59, 3) := by decide +kernel
theorem dX5_moveAhead_13 : decode cX5_moveAhead 13 = .ok (.aload_n 0, 1) := by decide +kernel
theorem dX5_moveAhead_14 : decode cX5_moveAhead 14 = .ok (.getfield 42, 3) := by decide +kernel
theorem dX5_moveAhead_17 : decode cX5_moveAhead 17 = .ok (.iload_n 2, 1) := by decide +kernel
theorem dX5_moveAhead_18 : decode cX5_moveAhead 18 = .ok (.invokevirtual 64, 3) := by decide +kernel
theorem dX5_moveAhead_21 : decode cX5_moveAhead 21 = .ok (.aload_n 1, 1) := by decide +kernel
theorem dX5_moveAhead_22 : decode cX5_moveAhead 22 = .ok (.if_acmp .ne 41, 3) := by decide +kernel
theorem dX5_moveAhead_25 : decode cX5_moveAhead 25 = .ok (.aload_n 0, 1) := by decide +kernel
theorem dX5_moveAhead_26 : decode cX5_moveAhead 26 = .ok (.getfield 42, 3) := by decide +kernel
theorem dX5_moveAhead_29 : decode cX5_moveAhead 29 = .ok (.iload_n 2, 1) := by decide +kernel
theorem dX5_moveAhead_30 : decode cX5_moveAhead 30 = .ok (.aload_n 0, 1) := by decide +kernel
theorem dX5_moveAhead_31 : decode cX5_moveAhead 31 = .ok (.getfield 42, 3) := by decide +kernel
theorem dX5_moveAhead_34 : decode cX5_moveAhead 34 = .ok (.iload_n 2, 1) := by decide +kernel
theorem dX5_moveAhead_35 : decode cX5_moveAhead 35 = .ok (.iconst 1, 1) := by decide +kernel
theorem dX5_moveAhead_36 : decode cX5_moveAhead 36 = .ok (.isub, 1) := by decide +kernel
theorem dX5_moveAhead_37 : decode cX5_moveAhead 37 = .ok (.invokevirtual 64, 3) := by decide +kernel
theorem dX5_moveAhead_40 : decode cX5_moveAhead 40 = .ok (.checkcast 80, 3) := by decide +kernel
theorem dX5_moveAhead_43 : decode cX5_moveAhead 43 = .ok (.invokevirtual 95, 3) := by decide +kernel
theorem dX5_moveAhead_46 : decode cX5_moveAhead 46 = .ok (.pop, 1) := by decide +kernel
theorem dX5_moveAhead_47 : decode cX5_moveAhead 47 = .ok (.aload_n 0, 1) := by decide +kernel
theorem dX5_moveAhead_48 : decode cX5_moveAhead 48 = .ok (.getfield 42, 3) := by decide +kernel
theorem dX5_moveAhead_51 : decode cX5_moveAhead 51 = .ok (.iload_n 2, 1) := by decide +kernel
theorem dX5_moveAhead_52 : decode cX5_moveAhead 52 = .ok (.iconst 1, 1) := by decide +kernel
theorem dX5_moveAhead_53 : decode cX5_moveAhead 53 = .ok (.isub, 1) := by decide +kernel
theorem dX5_moveAhead_54 : decode cX5_moveAhead 54 = .ok (.aload_n 1, 1) := by decide +kernel
theorem dX5_moveAhead_55 : decode cX5_moveAhead 55 = .ok (.invokevirtual 95, 3) := by decide +kernel
theorem dX5_moveAhead_58 : decode cX5_moveAhead 58 = .ok (.pop, 1) := by decide +kernel
theorem dX5_moveAhead_59 : decode cX5_moveAhead 59 = .ok (.iload_n 2, 1) := by decide +kernel
theorem dX5_moveAhead_60 : decode cX5_moveAhead 60 = .ok (.iconst 1, 1) := by decide +kernel
theorem dX5_moveAhead_61 : decode cX5_moveAhead 61 = .ok (.isub, 1) := by decide +kernel
theorem dX5_moveAhead_62 : decode cX5_moveAhead 62 = .ok (.ireturn, 1) := by decide +kernel
theorem dX5_moveAhead_63 : decode cX5_moveAhead 63 = .ok (.iinc 2 1, 3) := by decide +kernel
theorem dX5_moveAhead_66 : decode cX5_moveAhead 66 = .ok (.goto (-64), 3) := by decide +kernel
theorem dX5_moveAhead_69 : decode cX5_moveAhead 69 = .ok (.iconst 0, 1) := by decide +kernel
theorem dX5_moveAhead_70 : decode cX5_moveAhead 70 = .ok (.ireturn, 1) := by decide +kernel
theorem dX5_turnedCode_0 : decode cX5_turnedCode 0 = .ok (.iload_n 2, 1) := by decide +kernel
theorem dX5_turnedCode_1 : decode cX5_turnedCode 1 = .ok (.ifCond .ne 5, 3) := by decide +kernel
theorem dX5_turnedCode_4 : decode cX5_turnedCode 4 = .ok (.iconst 0, 1) := by decide +kernel
theorem dX5_turnedCode_5 : decode cX5_turnedCode 5 = .ok (.ireturn, 1) := by decide +kernel
theorem dX5_turnedCode_6 : decode cX5_turnedCode 6 = .ok (.aload_n 0, 1) := by decide +kernel
theorem dX5_turnedCode_7 : decode cX5_turnedCode 7 = .ok (.getfield 11, 3) := by decide +kernel
theorem dX5_turnedCode_10 : decode cX5_turnedCode 10 = .ok (.iload_n 1, 1) := by decide +kernel
theorem dX5_turnedCode_11 : decode cX5_turnedCode 11 = .ok (.bipush 31, 2) := by decide +kernel
theorem dX5_turnedCode_13 : decode cX5_turnedCode 13 = .ok (.iand, 1) := by decide +kernel
theorem dX5_turnedCode_14 : decode cX5_turnedCode 14 = .ok (.iaload, 1) := by decide +kernel
theorem dX5_turnedCode_15 : decode cX5_turnedCode 15 = .ok (.iload_n 2, 1) := by decide +kernel
theorem dX5_turnedCode_16 : decode cX5_turnedCode 16 = .ok (.ixor, 1) := by decide +kernel
theorem dX5_turnedCode_17 : decode cX5_turnedCode 17 = .ok (.istore_n 3, 1) := by decide +kernel
theorem dX5_turnedCode_18 : decode cX5_turnedCode 18 = .ok (.aload_n 0, 1) := by decide +kernel
theorem dX5_turnedCode_19 : decode cX5_turnedCode 19 = .ok (.getfield 17, 3) := by decide +kernel
theorem dX5_turnedCode_22 : decode cX5_turnedCode 22 = .ok (.iload_n 3, 1) := by decide +kernel
theorem dX5_turnedCode_23 : decode cX5_turnedCode 23 = .ok (.bipush 63, 2) := by decide +kernel
theorem dX5_turnedCode_25 : decode cX5_turnedCode 25 = .ok (.iand, 1) := by decide +kernel
theorem dX5_turnedCode_26 : decode cX5_turnedCode 26 = .ok (.iaload, 1) := by decide +kernel
theorem dX5_turnedCode_27 : decode cX5_turnedCode 27 = .ok (.istore 4, 2) := by decide +kernel
theorem dX5_turnedCode_29 : decode cX5_turnedCode 29 = .ok (.iload 4, 2) := by decide +kernel
theorem dX5_turnedCode_31 : decode cX5_turnedCode 31 = .ok (.ifCond .ne 7, 3) := by decide +kernel
theorem dX5_turnedCode_34 : decode cX5_turnedCode 34 = .ok (.iload_n 1, 1) := by decide +kernel
theorem dX5_turnedCode_35 : decode cX5_turnedCode 35 = .ok (.goto 5, 3) := by decide +kernel
theorem dX5_turnedCode_38 : decode cX5_turnedCode 38 = .ok (.iload 4, 2) := by decide +kernel
theorem dX5_turnedCode_40 : decode cX5_turnedCode 40 = .ok (.ireturn, 1) := by decide +kernel
theorem dX5_goOver_0 : decode cX5_goOver 0 = .ok (.lconst 0, 1) := by decide +kernel
theorem dX5_goOver_1 : decode cX5_goOver 1 = .ok (.lstore 4, 2) := by decide +kernel
theorem dX5_goOver_3 : decode cX5_goOver 3 = .ok (.iconst 0, 1) := by decide +kernel
theorem dX5_goOver_4 : decode cX5_goOver 4 = .ok (.istore 6, 2) := by decide +kernel
theorem dX5_goOver_6 : decode cX5_goOver 6 = .ok (.iconst 0, 1) := by decide +kernel
theorem dX5_goOver_7 : decode cX5_goOver 7 = .ok (.istore 7, 2) := by decide +kernel
theorem dX5_goOver_9 : decode cX5_goOver 9 = .ok (.iconst 0, 1) := by decide +kernel
theorem dX5_goOver_10 : decode cX5_goOver 10 = .ok (.istore 8, 2) := by decide +kernel
theorem dX5_goOver_12 : decode cX5_goOver 12 = .ok (.iload 8, 2) := by decide +kernel
theorem dX5_goOver_14 : decode cX5_goOver 14 = .ok (.bipush 8, 2) := by decide +kernel
theorem dX5_goOver_16 : decode cX5_goOver 16 = .ok (.if_icmp .ge 79, 3) := by decide +kernel
theorem dX5_goOver_19 : decode cX5_goOver 19 = .ok (.lload_n 1, 1) := by decide +kernel
theorem dX5_goOver_20 : decode cX5_goOver 20 = .ok (.iload 8, 2) := by decide +kernel
theorem dX5_goOver_22 : decode cX5_goOver 22 = .ok (.invokestatic 99, 3) := by decide +kernel
theorem dX5_goOver_25 : decode cX5_goOver 25 = .ok (.istore 9, 2) := by decide +kernel
theorem dX5_goOver_27 : decode cX5_goOver 27 = .ok (.iload 9, 2) := by decide +kernel
theorem dX5_goOver_29 : decode cX5_goOver 29 = .ok (.ifCond .ne 6, 3) := by decide +kernel
theorem dX5_goOver_32 : decode cX5_goOver 32 = .ok (.goto 63, 3) := by decide +kernel
theorem dX5_goOver_35 : decode cX5_goOver 35 = .ok (.aload_n 3, 1) := by decide +kernel
theorem dX5_goOver_36 : decode cX5_goOver 36 = .ok (.iload 7, 2) := by decide +kernel
theorem dX5_goOver_38 : decode cX5_goOver 38 = .ok (.iload 9, 2) := by decide +kernel
theorem dX5_goOver_40 : decode cX5_goOver 40 = .ok (.lload_n 1, 1) := by decide +kernel
theorem dX5_goOver_41 : decode cX5_goOver 41 = .ok (.iload 8, 2) := by decide +kernel
theorem dX5_goOver_43 : decode cX5_goOver 43 = .ok (.iconst 1, 1) := by decide +kernel
theorem dX5_goOver_44 : decode cX5_goOver 44 = .ok (.iadd, 1) := by decide +kernel
theorem dX5_goOver_45 : decode cX5_goOver 45 = .ok (.invokestatic 99, 3) := by decide +kernel
theorem dX5_goOver_48 : decode cX5_goOver 48 = .ok (.invokevirtual 103, 3) := by decide +kernel
theorem dX5_goOver_51 : decode cX5_goOver 51 = .ok (.ifCond .eq 15, 3) := by decide +kernel
theorem dX5_goOver_54 : decode cX5_goOver 54 = .ok (.aload_n 0, 1) := by decide +kernel
theorem dX5_goOver_55 : decode cX5_goOver 55 = .ok (.iload 9, 2) := by decide +kernel
theorem dX5_goOver_57 : decode cX5_goOver 57 = .ok (.aload_n 3, 1) := by decide +kernel
theorem dX5_goOver_58 : decode cX5_goOver 58 = .ok (.getfield 107, 3) := by decide +kernel
theorem dX5_goOver_61 : decode cX5_goOver 61 = .ok (.invokevirtual 110, 3) := by decide +kernel
theorem dX5_goOver_64 : decode cX5_goOver 64 = .ok (.istore 9, 2) := by decide +kernel
theorem dX5_goOver_66 : decode cX5_goOver 66 = .ok (.iload 9, 2) := by decide +kernel
theorem dX5_goOver_68 : decode cX5_goOver 68 = .ok (.ifCond .eq 21, 3) := by decide +kernel
theorem dX5_goOver_71 : decode cX5_goOver 71 = .ok (.lload 4, 2) := by decide +kernel
theorem dX5_goOver_73 : decode cX5_goOver 73 = .ok (.iload 6, 2) := by decide +kernel
theorem dX5_goOver_75 : decode cX5_goOver 75 = .ok (.iload 9, 2) := by decide +kernel
theorem dX5_goOver_77 : decode cX5_goOver 77 = .ok (.invokestatic 114, 3) := by decide +kernel
theorem dX5_goOver_80 : decode cX5_goOver 80 = .ok (.lstore 4, 2) := by decide +kernel
theorem dX5_goOver_82 : decode cX5_goOver 82 = .ok (.iinc 6 1, 3) := by decide +kernel
theorem dX5_goOver_85 : decode cX5_goOver 85 = .ok (.iload 9, 2) := by decide +kernel
theorem dX5_goOver_87 : decode cX5_goOver 87 = .ok (.istore 7, 2) := by decide +kernel
theorem dX5_goOver_89 : decode cX5_goOver 89 = .ok (.iinc 8 1, 3) := by decide +kernel
theorem dX5_goOver_92 : decode cX5_goOver 92 = .ok (.goto (-80), 3) := by decide +kernel
theorem dX5_goOver_95 : decode cX5_goOver 95 = .ok (.lload 4, 2) := by decide +kernel
theorem dX5_goOver_97 : decode cX5_goOver 97 = .ok (.lreturn, 1) := by decide +kernel
theorem dX5_derive_0 : decode cX5_derive 0 = .ok (.lload_n 1, 1) := by decide +kernel
theorem dX5_derive_1 : decode cX5_derive 1 = .ok (.lstore 4, 2) := by decide +kernel
theorem dX5_derive_3 : decode cX5_derive 3 = .ok (.iconst 0, 1) := by decide +kernel
theorem dX5_derive_4 : decode cX5_derive 4 = .ok (.istore 6, 2) := by decide +kernel
theorem dX5_derive_6 : decode cX5_derive 6 = .ok (.iload 6, 2) := by decide +kernel
theorem dX5_derive_8 : decode cX5_derive 8 = .ok (.aload_n 0, 1) := by decide +kernel
theorem dX5_derive_9 : decode cX5_derive 9 = .ok (.getfield 42, 3) := by decide +kernel
theorem dX5_derive_12 : decode cX5_derive 12 = .ok (.invokevirtual 53, 3) := by decide +kernel
theorem dX5_derive_15 : decode cX5_derive 15 = .ok (.if_icmp .ge 42, 3) := by decide +kernel
theorem dX5_derive_18 : decode cX5_derive 18 = .ok (.aload_n 0, 1) := by decide +kernel
theorem dX5_derive_19 : decode cX5_derive 19 = .ok (.getfield 42, 3) := by decide +kernel
theorem dX5_derive_22 : decode cX5_derive 22 = .ok (.iload 6, 2) := by decide +kernel
theorem dX5_derive_24 : decode cX5_derive 24 = .ok (.invokevirtual 64, 3) := by decide +kernel
theorem dX5_derive_27 : decode cX5_derive 27 = .ok (.checkcast 80, 3) := by decide +kernel
theorem dX5_derive_30 : decode cX5_derive 30 = .ok (.astore 7, 2) := by decide +kernel
theorem dX5_derive_32 : decode cX5_derive 32 = .ok (.aload 7, 2) := by decide +kernel
theorem dX5_derive_34 : decode cX5_derive 34 = .ok (.iload_n 3, 1) := by decide +kernel
theorem dX5_derive_35 : decode cX5_derive 35 = .ok (.invokevirtual 91, 3) := by decide +kernel
theorem dX5_derive_38 : decode cX5_derive 38 = .ok (.ifCond .eq 13, 3) := by decide +kernel
theorem dX5_derive_41 : decode cX5_derive 41 = .ok (.aload_n 0, 1) := by decide +kernel
theorem dX5_derive_42 : decode cX5_derive 42 = .ok (.lload 4, 2) := by decide +kernel
theorem dX5_derive_44 : decode cX5_derive 44 = .ok (.aload 7, 2) := by decide +kernel
theorem dX5_derive_46 : decode cX5_derive 46 = .ok (.invokevirtual 118, 3) := by decide +kernel
theorem dX5_derive_49 : decode cX5_derive 49 = .ok (.lstore 4, 2) := by decide +kernel
theorem dX5_derive_51 : decode cX5_derive 51 = .ok (.iinc 6 1, 3) := by decide +kernel
theorem dX5_derive_54 : decode cX5_derive 54 = .ok (.goto (-48), 3) := by decide +kernel
theorem dX5_derive_57 : decode cX5_derive 57 = .ok (.lload 4, 2) := by decide +kernel
theorem dX5_derive_59 : decode cX5_derive 59 = .ok (.lreturn, 1) := by decide +kernel
theorem dX5_changesBy_0 : decode cX5_changesBy 0 = .ok (.lload_n 2, 1) := by decide +kernel
theorem dX5_changesBy_1 : decode cX5_changesBy 1 = .ok (.lstore 4, 2) := by decide +kernel
theorem dX5_changesBy_3 : decode cX5_changesBy 3 = .ok (.iconst 0, 1) := by decide +kernel
theorem dX5_changesBy_4 : decode cX5_changesBy 4 = .ok (.istore 6, 2) := by decide +kernel
theorem dX5_changesBy_6 : decode cX5_changesBy 6 = .ok (.iload 6, 2) := by decide +kernel
theorem dX5_changesBy_8 : decode cX5_changesBy 8 = .ok (.aload_n 0, 1) := by decide +kernel
theorem dX5_changesBy_9 : decode cX5_changesBy 9 = .ok (.getfield 42, 3) := by decide +kernel
theorem dX5_changesBy_12 : decode cX5_changesBy 12 = .ok (.invokevirtual 53, 3) := by decide +kernel
theorem dX5_changesBy_15 : decode cX5_changesBy 15 = .ok (.if_icmp .ge 63, 3) := by decide +kernel
theorem dX5_changesBy_18 : decode cX5_changesBy 18 = .ok (.aload_n 0, 1) := by decide +kernel
theorem dX5_changesBy_19 : decode cX5_changesBy 19 = .ok (.getfield 42, 3) := by decide +kernel
theorem dX5_changesBy_22 : decode cX5_changesBy 22 = .ok (.iload 6, 2) := by decide +kernel
theorem dX5_changesBy_24 : decode cX5_changesBy 24 = .ok (.invokevirtual 64, 3) := by decide +kernel
theorem dX5_changesBy_27 : decode cX5_changesBy 27 = .ok (.checkcast 80, 3) := by decide +kernel
theorem dX5_changesBy_30 : decode cX5_changesBy 30 = .ok (.astore 7, 2) := by decide +kernel
theorem dX5_changesBy_32 : decode cX5_changesBy 32 = .ok (.aload 7, 2) := by decide +kernel
theorem dX5_changesBy_34 : decode cX5_changesBy 34 = .ok (.aload_n 0, 1) := by decide +kernel
theorem dX5_changesBy_35 : decode cX5_changesBy 35 = .ok (.getfield 57, 3) := by decide +kernel
theorem dX5_changesBy_38 : decode cX5_changesBy 38 = .ok (.invokevirtual 91, 3) := by decide +kernel
theorem dX5_changesBy_41 : decode cX5_changesBy 41 = .ok (.ifCond .eq 31, 3) := by decide +kernel
theorem dX5_changesBy_44 : decode cX5_changesBy 44 = .ok (.aload_n 0, 1) := by decide +kernel
theorem dX5_changesBy_45 : decode cX5_changesBy 45 = .ok (.lload 4, 2) := by decide +kernel
theorem dX5_changesBy_47 : decode cX5_changesBy 47 = .ok (.aload 7, 2) := by decide +kernel
theorem dX5_changesBy_49 : decode cX5_changesBy 49 = .ok (.invokevirtual 118, 3) := by decide +kernel
theorem dX5_changesBy_52 : decode cX5_changesBy 52 = .ok (.lstore 8, 2) := by decide +kernel
theorem dX5_changesBy_54 : decode cX5_changesBy 54 = .ok (.aload 7, 2) := by decide +kernel
theorem dX5_changesBy_56 : decode cX5_changesBy 56 = .ok (.aload_n 1, 1) := by decide +kernel
theorem dX5_changesBy_57 : decode cX5_changesBy 57 = .ok (.if_acmp .ne 11, 3) := by decide +kernel
theorem dX5_changesBy_60 : decode cX5_changesBy 60 = .ok (.lload 4, 2) := by decide +kernel
theorem dX5_changesBy_62 : decode cX5_changesBy 62 = .ok (.lload 8, 2) := by decide +kernel
theorem dX5_changesBy_64 : decode cX5_changesBy 64 = .ok (.invokestatic 122, 3) := by decide +kernel
theorem dX5_changesBy_67 : decode cX5_changesBy 67 = .ok (.ireturn, 1) := by decide +kernel
theorem dX5_changesBy_68 : decode cX5_changesBy 68 = .ok (.lload 8, 2) := by decide +kernel
theorem dX5_changesBy_70 : decode cX5_changesBy 70 = .ok (.lstore 4, 2) := by decide +kernel
theorem dX5_changesBy_72 : decode cX5_changesBy 72 = .ok (.iinc 6 1, 3) := by decide +kernel
theorem dX5_changesBy_75 : decode cX5_changesBy 75 = .ok (.goto (-69), 3) := by decide +kernel
theorem dX5_changesBy_78 : decode cX5_changesBy 78 = .ok (.iconst 0, 1) := by decide +kernel
theorem dX5_changesBy_79 : decode cX5_changesBy 79 = .ok (.ireturn, 1) := by decide +kernel
theorem dX5_deriveByAllSets_0 : decode cX5_deriveByAllSets 0 = .ok (.aload_n 0, 1) := by decide +kernel
theorem dX5_deriveByAllSets_1 : decode cX5_deriveByAllSets 1 = .ok (.getfield 45, 3) := by decide +kernel
theorem dX5_deriveByAllSets_4 : decode cX5_deriveByAllSets 4 = .ok (.iconst 0, 1) := by decide +kernel
theorem dX5_deriveByAllSets_5 : decode cX5_deriveByAllSets 5 = .ok (.lload_n 1, 1) := by decide +kernel
theorem dX5_deriveByAllSets_6 : decode cX5_deriveByAllSets 6 = .ok (.lastore, 1) := by decide +kernel
theorem dX5_deriveByAllSets_7 : decode cX5_deriveByAllSets 7 = .ok (.iconst 0, 1) := by decide +kernel
theorem dX5_deriveByAllSets_8 : decode cX5_deriveByAllSets 8 = .ok (.istore_n 3, 1) := by decide +kernel
theorem dX5_deriveByAllSets_9 : decode cX5_deriveByAllSets 9 = .ok (.iconst 0, 1) := by decide +kernel
theorem dX5_deriveByAllSets_10 : decode cX5_deriveByAllSets 10 = .ok (.istore 4, 2) := by decide +kernel
theorem dX5_deriveByAllSets_12 : decode cX5_deriveByAllSets 12 = .ok (.iload 4, 2) := by decide +kernel
theorem dX5_deriveByAllSets_14 : decode cX5_deriveByAllSets 14 = .ok (.aload_n 0, 1) := by decide +kernel
theorem dX5_deriveByAllSets_15 : decode cX5_deriveByAllSets 15 = .ok (.getfield 42, 3) := by decide +kernel
theorem dX5_deriveByAllSets_18 : decode cX5_deriveByAllSets 18 = .ok (.invokevirtual 53, 3) := by decide +kernel
theorem dX5_deriveByAllSets_21 : decode cX5_deriveByAllSets 21 = .ok (.if_icmp .ge 85, 3) := by decide +kernel
theorem dX5_deriveByAllSets_24 : decode cX5_deriveByAllSets 24 = .ok (.aload_n 0, 1) := by decide +kernel
theorem dX5_deriveByAllSets_25 : decode cX5_deriveByAllSets 25 = .ok (.getfield 42, 3) := by decide +kernel
theorem dX5_deriveByAllSets_28 : decode cX5_deriveByAllSets 28 = .ok (.iload 4, 2) := by decide +kernel
theorem dX5_deriveByAllSets_30 : decode cX5_deriveByAllSets 30 = .ok (.invokevirtual 64, 3) := by decide +kernel
theorem dX5_deriveByAllSets_33 : decode cX5_deriveByAllSets 33 = .ok (.checkcast 80, 3) := by decide +kernel
theorem dX5_deriveByAllSets_36 : decode cX5_deriveByAllSets 36 = .ok (.astore 5, 2) := by decide +kernel
theorem dX5_deriveByAllSets_38 : decode cX5_deriveByAllSets 38 = .ok (.iconst 0, 1) := by decide +kernel
theorem dX5_deriveByAllSets_39 : decode cX5_deriveByAllSets 39 = .ok (.istore 6, 2) := by decide +kernel
theorem dX5_deriveByAllSets_41 : decode cX5_deriveByAllSets 41 = .ok (.iload 6, 2) := by decide +kernel
theorem dX5_deriveByAllSets_43 : decode cX5_deriveByAllSets 43 = .ok (.bipush 64, 2) := by decide +kernel
theorem dX5_deriveByAllSets_45 : decode cX5_deriveByAllSets 45 = .ok (.if_icmp .ge 47, 3) := by decide +kernel
theorem dX5_deriveByAllSets_48 : decode cX5_deriveByAllSets 48 = .ok (.iload 6, 2) := by decide +kernel
theorem dX5_deriveByAllSets_50 : decode cX5_deriveByAllSets 50 = .ok (.iload_n 3, 1) := by decide +kernel
theorem dX5_deriveByAllSets_51 : decode cX5_deriveByAllSets 51 = .ok (.iconst (-1), 1) := by decide +kernel
theorem dX5_deriveByAllSets_52 : decode cX5_deriveByAllSets 52 = .ok (.ixor, 1) := by decide +kernel
theorem dX5_deriveByAllSets_53 : decode cX5_deriveByAllSets 53 = .ok (.iand, 1) := by decide +kernel
theorem dX5_deriveByAllSets_54 : decode cX5_deriveByAllSets 54 = .ok (.ifCond .ne 32, 3) := by decide +kernel
theorem dX5_deriveByAllSets_57 : decode cX5_deriveByAllSets 57 = .ok (.aload_n 0, 1) := by decide +kernel
theorem dX5_deriveByAllSets_58 : decode cX5_deriveByAllSets 58 = .ok (.getfield 45, 3) := by decide +kernel
theorem dX5_deriveByAllSets_61 : decode cX5_deriveByAllSets 61 = .ok (.iload 6, 2) := by decide +kernel
theorem dX5_deriveByAllSets_63 : decode cX5_deriveByAllSets 63 = .ok (.aload 5, 2) := by decide +kernel
theorem dX5_deriveByAllSets_65 : decode cX5_deriveByAllSets 65 = .ok (.invokevirtual 85, 3) := by decide +kernel
theorem dX5_deriveByAllSets_68 : decode cX5_deriveByAllSets 68 = .ok (.ior, 1) := by decide +kernel
theorem dX5_deriveByAllSets_69 : decode cX5_deriveByAllSets 69 = .ok (.bipush 63, 2) := by decide +kernel
theorem dX5_deriveByAllSets_71 : decode cX5_deriveByAllSets 71 = .ok (.iand, 1) := by decide +kernel
theorem dX5_deriveByAllSets_72 : decode cX5_deriveByAllSets 72 = .ok (.aload_n 0, 1) := by decide +kernel
theorem dX5_deriveByAllSets_73 : decode cX5_deriveByAllSets 73 = .ok (.aload_n 0, 1) := by decide +kernel
theorem dX5_deriveByAllSets_74 : decode cX5_deriveByAllSets 74 = .ok (.getfield 45, 3) := by decide +kernel
theorem dX5_deriveByAllSets_77 : decode cX5_deriveByAllSets 77 = .ok (.iload 6, 2) := by decide +kernel
theorem dX5_deriveByAllSets_79 : decode cX5_deriveByAllSets 79 = .ok (.laload, 1) := by decide +kernel
theorem dX5_deriveByAllSets_80 : decode cX5_deriveByAllSets 80 = .ok (.aload 5, 2) := by decide +kernel
theorem dX5_deriveByAllSets_82 : decode cX5_deriveByAllSets 82 = .ok (.invokevirtual 118, 3) := by decide +kernel
theorem dX5_deriveByAllSets_85 : decode cX5_deriveByAllSets 85 = .ok (.lastore, 1) := by decide +kernel
theorem dX5_deriveByAllSets_86 : decode cX5_deriveByAllSets 86 = .ok (.iinc 6 1, 3) := by decide +kernel
theorem dX5_deriveByAllSets_89 : decode cX5_deriveByAllSets 89 = .ok (.goto (-48), 3) := by decide +kernel
theorem dX5_deriveByAllSets_92 : decode cX5_deriveByAllSets 92 = .ok (.iload_n 3, 1) := by decide +kernel
theorem dX5_deriveByAllSets_93 : decode cX5_deriveByAllSets 93 = .ok (.aload 5, 2) := by decide +kernel
theorem dX5_deriveByAllSets_95 : decode cX5_deriveByAllSets 95 = .ok (.invokevirtual 85, 3) := by decide +kernel
theorem dX5_deriveByAllSets_98 : decode cX5_deriveByAllSets 98 = .ok (.ior, 1) := by decide +kernel
theorem dX5_deriveByAllSets_99 : decode cX5_deriveByAllSets 99 = .ok (.istore_n 3, 1) := by decide +kernel
theorem dX5_deriveByAllSets_100 : decode cX5_deriveByAllSets 100 = .ok (.iinc 4 1, 3) := by decide +kernel
theorem dX5_deriveByAllSets_103 : decode cX5_deriveByAllSets 103 = .ok (.goto (-91), 3) := by decide +kernel
theorem dX5_deriveByAllSets_106 : decode cX5_deriveByAllSets 106 = .ok (.return_, 1) := by decide +kernel
theorem dX5_wordBySet_0 : decode cX5_wordBySet 0 = .ok (.aload_n 0, 1) := by decide +kernel
theorem dX5_wordBySet_1 : decode cX5_wordBySet 1 = .ok (.getfield 45, 3) := by decide +kernel
theorem dX5_wordBySet_4 : decode cX5_wordBySet 4 = .ok (.iload_n 1, 1) := by decide +kernel
theorem dX5_wordBySet_5 : decode cX5_wordBySet 5 = .ok (.bipush 63, 2) := by decide +kernel
theorem dX5_wordBySet_7 : decode cX5_wordBySet 7 = .ok (.iand, 1) := by decide +kernel
theorem dX5_wordBySet_8 : decode cX5_wordBySet 8 = .ok (.laload, 1) := by decide +kernel
theorem dX5_wordBySet_9 : decode cX5_wordBySet 9 = .ok (.lreturn, 1) := by decide +kernel
theorem dX6_codeOf_0 : decode cX6_codeOf 0 = .ok (.iload_n 0, 1) := by decide +kernel
theorem dX6_codeOf_1 : decode cX6_codeOf 1 = .ok (.iconst 1, 1) := by decide +kernel
theorem dX6_codeOf_2 : decode cX6_codeOf 2 = .ok (.iadd, 1) := by decide +kernel
theorem dX6_codeOf_3 : decode cX6_codeOf 3 = .ok (.ireturn, 1) := by decide +kernel
theorem dX6_codeAt_0 : decode cX6_codeAt 0 = .ok (.iload_n 2, 1) := by decide +kernel
theorem dX6_codeAt_1 : decode cX6_codeAt 1 = .ok (.ifCond .lt 9, 3) := by decide +kernel
theorem dX6_codeAt_4 : decode cX6_codeAt 4 = .ok (.iload_n 2, 1) := by decide +kernel
theorem dX6_codeAt_5 : decode cX6_codeAt 5 = .ok (.bipush 8, 2) := by decide +kernel
theorem dX6_codeAt_7 : decode cX6_codeAt 7 = .ok (.if_icmp .lt 5, 3) := by decide +kernel
theorem dX6_codeAt_10 : decode cX6_codeAt 10 = .ok (.iconst 0, 1) := by decide +kernel
theorem dX6_codeAt_11 : decode cX6_codeAt 11 = .ok (.ireturn, 1) := by decide +kernel
theorem dX6_codeAt_12 : decode cX6_codeAt 12 = .ok (.lload_n 0, 1) := by decide +kernel
theorem dX6_codeAt_13 : decode cX6_codeAt 13 = .ok (.iconst 5, 1) := by decide +kernel
theorem dX6_codeAt_14 : decode cX6_codeAt 14 = .ok (.iload_n 2, 1) := by decide +kernel
theorem dX6_codeAt_15 : decode cX6_codeAt 15 = .ok (.imul, 1) := by decide +kernel
theorem dX6_codeAt_16 : decode cX6_codeAt 16 = .ok (.lushr, 1) := by decide +kernel
theorem dX6_codeAt_17 : decode cX6_codeAt 17 = .ok (.l2i, 1) := by decide +kernel
theorem dX6_codeAt_18 : decode cX6_codeAt 18 = .ok (.bipush 31, 2) := by decide +kernel
theorem dX6_codeAt_20 : decode cX6_codeAt 20 = .ok (.iand, 1) := by decide +kernel
theorem dX6_codeAt_21 : decode cX6_codeAt 21 = .ok (.ireturn, 1) := by decide +kernel
theorem dX6_soundAt_0 : decode cX6_soundAt 0 = .ok (.lload_n 0, 1) := by decide +kernel
theorem dX6_soundAt_1 : decode cX6_soundAt 1 = .ok (.iload_n 2, 1) := by decide +kernel
theorem dX6_soundAt_2 : decode cX6_soundAt 2 = .ok (.invokestatic 11, 3) := by decide +kernel
theorem dX6_soundAt_5 : decode cX6_soundAt 5 = .ok (.istore_n 3, 1) := by decide +kernel
theorem dX6_soundAt_6 : decode cX6_soundAt 6 = .ok (.iload_n 3, 1) := by decide +kernel
theorem dX6_soundAt_7 : decode cX6_soundAt 7 = .ok (.ifCond .ne 7, 3) := by decide +kernel
theorem dX6_soundAt_10 : decode cX6_soundAt 10 = .ok (.iconst (-1), 1) := by decide +kernel
theorem dX6_soundAt_11 : decode cX6_soundAt 11 = .ok (.goto 6, 3) := by decide +kernel
theorem dX6_soundAt_14 : decode cX6_soundAt 14 = .ok (.iload_n 3, 1) := by decide +kernel
theorem dX6_soundAt_15 : decode cX6_soundAt 15 = .ok (.iconst 1, 1) := by decide +kernel
theorem dX6_soundAt_16 : decode cX6_soundAt 16 = .ok (.isub, 1) := by decide +kernel
theorem dX6_soundAt_17 : decode cX6_soundAt 17 = .ok (.ireturn, 1) := by decide +kernel
theorem dX6_sizeOf_0 : decode cX6_sizeOf 0 = .ok (.iconst 0, 1) := by decide +kernel
theorem dX6_sizeOf_1 : decode cX6_sizeOf 1 = .ok (.istore_n 2, 1) := by decide +kernel
theorem dX6_sizeOf_2 : decode cX6_sizeOf 2 = .ok (.iload_n 2, 1) := by decide +kernel
theorem dX6_sizeOf_3 : decode cX6_sizeOf 3 = .ok (.bipush 8, 2) := by decide +kernel
theorem dX6_sizeOf_5 : decode cX6_sizeOf 5 = .ok (.if_icmp .ge 21, 3) := by decide +kernel
theorem dX6_sizeOf_8 : decode cX6_sizeOf 8 = .ok (.lload_n 0, 1) := by decide +kernel
theorem dX6_sizeOf_9 : decode cX6_sizeOf 9 = .ok (.iconst 5, 1) := by decide +kernel
theorem dX6_sizeOf_10 : decode cX6_sizeOf 10 = .ok (.iload_n 2, 1) := by decide +kernel
theorem dX6_sizeOf_11 : decode cX6_sizeOf 11 = .ok (.imul, 1) := by decide +kernel
theorem dX6_sizeOf_12 : decode cX6_sizeOf 12 = .ok (.lushr, 1) := by decide +kernel
theorem dX6_sizeOf_13 : decode cX6_sizeOf 13 = .ok (.lconst 0, 1) := by decide +kernel
theorem dX6_sizeOf_14 : decode cX6_sizeOf 14 = .ok (.lcmp, 1) := by decide +kernel
theorem dX6_sizeOf_15 : decode cX6_sizeOf 15 = .ok (.ifCond .ne 5, 3) := by decide +kernel
theorem dX6_sizeOf_18 : decode cX6_sizeOf 18 = .ok (.iload_n 2, 1) := by decide +kernel
theorem dX6_sizeOf_19 : decode cX6_sizeOf 19 = .ok (.ireturn, 1) := by decide +kernel
theorem dX6_sizeOf_20 : decode cX6_sizeOf 20 = .ok (.iinc 2 1, 3) := by decide +kernel
theorem dX6_sizeOf_23 : decode cX6_sizeOf 23 = .ok (.goto (-21), 3) := by decide +kernel
theorem dX6_sizeOf_26 : decode cX6_sizeOf 26 = .ok (.bipush 8, 2) := by decide +kernel
theorem dX6_sizeOf_28 : decode cX6_sizeOf 28 = .ok (.ireturn, 1) := by decide +kernel
theorem dX6_with_0 : decode cX6_with 0 = .ok (.iload_n 2, 1) := by decide +kernel
theorem dX6_with_1 : decode cX6_with 1 = .ok (.bipush 8, 2) := by decide +kernel
theorem dX6_with_3 : decode cX6_with 3 = .ok (.if_icmp .ge 14, 3) := by decide +kernel
theorem dX6_with_6 : decode cX6_with 6 = .ok (.lload_n 0, 1) := by decide +kernel
theorem dX6_with_7 : decode cX6_with 7 = .ok (.iload_n 3, 1) := by decide +kernel
theorem dX6_with_8 : decode cX6_with 8 = .ok (.i2l, 1) := by decide +kernel
theorem dX6_with_9 : decode cX6_with 9 = .ok (.iconst 5, 1) := by decide +kernel
theorem dX6_with_10 : decode cX6_with 10 = .ok (.iload_n 2, 1) := by decide +kernel
theorem dX6_with_11 : decode cX6_with 11 = .ok (.imul, 1) := by decide +kernel
theorem dX6_with_12 : decode cX6_with 12 = .ok (.lshl, 1) := by decide +kernel
theorem dX6_with_13 : decode cX6_with 13 = .ok (.lor, 1) := by decide +kernel
theorem dX6_with_14 : decode cX6_with 14 = .ok (.goto 4, 3) := by decide +kernel
theorem dX6_with_17 : decode cX6_with 17 = .ok (.lload_n 0, 1) := by decide +kernel
theorem dX6_with_18 : decode cX6_with 18 = .ok (.lreturn, 1) := by decide +kernel
theorem dX6_joined_0 : decode cX6_joined 0 = .ok (.lload_n 0, 1) := by decide +kernel
theorem dX6_joined_1 : decode cX6_joined 1 = .ok (.invokestatic 15, 3) := by decide +kernel
theorem dX6_joined_4 : decode cX6_joined 4 = .ok (.istore 4, 2) := by decide +kernel
theorem dX6_joined_6 : decode cX6_joined 6 = .ok (.iload 4, 2) := by decide +kernel
theorem dX6_joined_8 : decode cX6_joined 8 = .ok (.bipush 8, 2) := by decide +kernel
theorem dX6_joined_10 : decode cX6_joined 10 = .ok (.if_icmp .ge 14, 3) := by decide +kernel
theorem dX6_joined_13 : decode cX6_joined 13 = .ok (.lload_n 0, 1) := by decide +kernel
theorem dX6_joined_14 : decode cX6_joined 14 = .ok (.lload_n 2, 1) := by decide +kernel
theorem dX6_joined_15 : decode cX6_joined 15 = .ok (.iconst 5, 1) := by decide +kernel
theorem dX6_joined_16 : decode cX6_joined 16 = .ok (.iload 4, 2) := by decide +kernel
theorem dX6_joined_18 : decode cX6_joined 18 = .ok (.imul, 1) := by decide +kernel
theorem dX6_joined_19 : decode cX6_joined 19 = .ok (.lshl, 1) := by decide +kernel
theorem dX6_joined_20 : decode cX6_joined 20 = .ok (.lor, 1) := by decide +kernel
theorem dX6_joined_21 : decode cX6_joined 21 = .ok (.goto 4, 3) := by decide +kernel
theorem dX6_joined_24 : decode cX6_joined 24 = .ok (.lload_n 0, 1) := by decide +kernel
theorem dX6_joined_25 : decode cX6_joined 25 = .ok (.lreturn, 1) := by decide +kernel
theorem dX6_changesBetween_0 : decode cX6_changesBetween 0 = .ok (.lload_n 0, 1) := by decide +kernel
theorem dX6_changesBetween_1 : decode cX6_changesBetween 1 = .ok (.invokestatic 15, 3) := by decide +kernel
theorem dX6_changesBetween_4 : decode cX6_changesBetween 4 = .ok (.lload_n 2, 1) := by decide +kernel
theorem dX6_changesBetween_5 : decode cX6_changesBetween 5 = .ok (.invokestatic 15, 3) := by decide +kernel
theorem dX6_changesBetween_8 : decode cX6_changesBetween 8 = .ok (.isub, 1) := by decide +kernel
theorem dX6_changesBetween_9 : decode cX6_changesBetween 9 = .ok (.istore 4, 2) := by decide +kernel
theorem dX6_changesBetween_11 : decode cX6_changesBetween 11 = .ok (.iload 4, 2) := by decide +kernel
theorem dX6_changesBetween_13 : decode cX6_changesBetween 13 = .ok (.ifCond .eq 6, 3) := by decide +kernel
theorem dX6_changesBetween_16 : decode cX6_changesBetween 16 = .ok (.iload 4, 2) := by decide +kernel
theorem dX6_changesBetween_18 : decode cX6_changesBetween 18 = .ok (.ireturn, 1) := by decide +kernel
theorem dX6_changesBetween_19 : decode cX6_changesBetween 19 = .ok (.iconst 0, 1) := by decide +kernel
theorem dX6_changesBetween_20 : decode cX6_changesBetween 20 = .ok (.istore 5, 2) := by decide +kernel
theorem dX6_changesBetween_22 : decode cX6_changesBetween 22 = .ok (.iload 5, 2) := by decide +kernel
theorem dX6_changesBetween_24 : decode cX6_changesBetween 24 = .ok (.bipush 8, 2) := by decide +kernel
theorem dX6_changesBetween_26 : decode cX6_changesBetween 26 = .ok (.if_icmp .ge 27, 3) := by decide +kernel
theorem dX6_changesBetween_29 : decode cX6_changesBetween 29 = .ok (.lload_n 0, 1) := by decide +kernel
theorem dX6_changesBetween_30 : decode cX6_changesBetween 30 = .ok (.iload 5, 2) := by decide +kernel
theorem dX6_changesBetween_32 : decode cX6_changesBetween 32 = .ok (.invokestatic 11, 3) := by decide +kernel
theorem dX6_changesBetween_35 : decode cX6_changesBetween 35 = .ok (.lload_n 2, 1) := by decide +kernel
theorem dX6_changesBetween_36 : decode cX6_changesBetween 36 = .ok (.iload 5, 2) := by decide +kernel
theorem dX6_changesBetween_38 : decode cX6_changesBetween 38 = .ok (.invokestatic 11, 3) := by decide +kernel
theorem dX6_changesBetween_41 : decode cX6_changesBetween 41 = .ok (.if_icmp .eq 6, 3) := by decide +kernel
theorem dX6_changesBetween_44 : decode cX6_changesBetween 44 = .ok (.iinc 4 1, 3) := by decide +kernel
theorem dX6_changesBetween_47 : decode cX6_changesBetween 47 = .ok (.iinc 5 1, 3) := by decide +kernel
theorem dX6_changesBetween_50 : decode cX6_changesBetween 50 = .ok (.goto (-28), 3) := by decide +kernel
theorem dX6_changesBetween_53 : decode cX6_changesBetween 53 = .ok (.iload 4, 2) := by decide +kernel
theorem dX6_changesBetween_55 : decode cX6_changesBetween 55 = .ok (.ireturn, 1) := by decide +kernel
theorem dX6_areApartBy_0 : decode cX6_areApartBy 0 = .ok (.iconst 0, 1) := by decide +kernel
theorem dX6_areApartBy_1 : decode cX6_areApartBy 1 = .ok (.istore 6, 2) := by decide +kernel
theorem dX6_areApartBy_3 : decode cX6_areApartBy 3 = .ok (.iconst 0, 1) := by decide +kernel
theorem dX6_areApartBy_4 : decode cX6_areApartBy 4 = .ok (.istore 7, 2) := by decide +kernel
theorem dX6_areApartBy_6 : decode cX6_areApartBy 6 = .ok (.iload 7, 2) := by decide +kernel
theorem dX6_areApartBy_8 : decode cX6_areApartBy 8 = .ok (.bipush 8, 2) := by decide +kernel
theorem dX6_areApartBy_10 : decode cX6_areApartBy 10 = .ok (.if_icmp .ge 68, 3) := by decide +kernel
theorem dX6_areApartBy_13 : decode cX6_areApartBy 13 = .ok (.lload_n 0, 1) := by decide +kernel
theorem dX6_areApartBy_14 : decode cX6_areApartBy 14 = .ok (.iload 7, 2) := by decide +kernel
theorem dX6_areApartBy_16 : decode cX6_areApartBy 16 = .ok (.invokestatic 11, 3) := by decide +kernel
theorem dX6_areApartBy_19 : decode cX6_areApartBy 19 = .ok (.istore 8, 2) := by decide +kernel
theorem dX6_areApartBy_21 : decode cX6_areApartBy 21 = .ok (.lload_n 2, 1) := by decide +kernel
theorem dX6_areApartBy_22 : decode cX6_areApartBy 22 = .ok (.iload 7, 2) := by decide +kernel
theorem dX6_areApartBy_24 : decode cX6_areApartBy 24 = .ok (.invokestatic 11, 3) := by decide +kernel
theorem dX6_areApartBy_27 : decode cX6_areApartBy 27 = .ok (.istore 9, 2) := by decide +kernel
theorem dX6_areApartBy_29 : decode cX6_areApartBy 29 = .ok (.iload 8, 2) := by decide +kernel
theorem dX6_areApartBy_31 : decode cX6_areApartBy 31 = .ok (.iload 9, 2) := by decide +kernel
theorem dX6_areApartBy_33 : decode cX6_areApartBy 33 = .ok (.if_icmp .ne 6, 3) := by decide +kernel
theorem dX6_areApartBy_36 : decode cX6_areApartBy 36 = .ok (.goto 36, 3) := by decide +kernel
theorem dX6_areApartBy_39 : decode cX6_areApartBy 39 = .ok (.iload 8, 2) := by decide +kernel
theorem dX6_areApartBy_41 : decode cX6_areApartBy 41 = .ok (.iload 4, 2) := by decide +kernel
theorem dX6_areApartBy_43 : decode cX6_areApartBy 43 = .ok (.if_icmp .ne 10, 3) := by decide +kernel
theorem dX6_areApartBy_46 : decode cX6_areApartBy 46 = .ok (.iload 9, 2) := by decide +kernel
theorem dX6_areApartBy_48 : decode cX6_areApartBy 48 = .ok (.iload 5, 2) := by decide +kernel
theorem dX6_areApartBy_50 : decode cX6_areApartBy 50 = .ok (.if_icmp .eq 19, 3) := by decide +kernel
theorem dX6_areApartBy_53 : decode cX6_areApartBy 53 = .ok (.iload 8, 2) := by decide +kernel
theorem dX6_areApartBy_55 : decode cX6_areApartBy 55 = .ok (.iload 5, 2) := by decide +kernel
theorem dX6_areApartBy_57 : decode cX6_areApartBy 57 = .ok (.if_icmp .ne 10, 3) := by decide +kernel
theorem dX6_areApartBy_60 : decode cX6_areApartBy 60 = .ok (.iload 9, 2) := by decide +kernel
theorem dX6_areApartBy_62 : decode cX6_areApartBy 62 = .ok (.iload 4, 2) := by decide +kernel
theorem dX6_areApartBy_64 : decode cX6_areApartBy 64 = .ok (.if_icmp .eq 5, 3) := by decide +kernel
theorem dX6_areApartBy_67 : decode cX6_areApartBy 67 = .ok (.iconst 0, 1) := by decide +kernel
theorem dX6_areApartBy_68 : decode cX6_areApartBy 68 = .ok (.ireturn, 1) := by decide +kernel
theorem dX6_areApartBy_69 : decode cX6_areApartBy 69 = .ok (.iinc 6 1, 3) := by decide +kernel
theorem dX6_areApartBy_72 : decode cX6_areApartBy 72 = .ok (.iinc 7 1, 3) := by decide +kernel
theorem dX6_areApartBy_75 : decode cX6_areApartBy 75 = .ok (.goto (-69), 3) := by decide +kernel
theorem dX6_areApartBy_78 : decode cX6_areApartBy 78 = .ok (.iload 6, 2) := by decide +kernel
theorem dX6_areApartBy_80 : decode cX6_areApartBy 80 = .ok (.iconst 1, 1) := by decide +kernel
theorem dX6_areApartBy_81 : decode cX6_areApartBy 81 = .ok (.if_icmp .ne 7, 3) := by decide +kernel
theorem dX6_areApartBy_84 : decode cX6_areApartBy 84 = .ok (.iconst 1, 1) := by decide +kernel
theorem dX6_areApartBy_85 : decode cX6_areApartBy 85 = .ok (.goto 4, 3) := by decide +kernel
theorem dX6_areApartBy_88 : decode cX6_areApartBy 88 = .ok (.iconst 0, 1) := by decide +kernel
theorem dX6_areApartBy_89 : decode cX6_areApartBy 89 = .ok (.ireturn, 1) := by decide +kernel
theorem dX7_init_0 : decode cX7_init 0 = .ok (.aload_n 0, 1) := by decide +kernel
theorem dX7_init_1 : decode cX7_init 1 = .ok (.invokespecial 1, 3) := by decide +kernel
theorem dX7_init_4 : decode cX7_init 4 = .ok (.aload_n 0, 1) := by decide +kernel
theorem dX7_init_5 : decode cX7_init 5 = .ok (.iload_n 1, 1) := by decide +kernel
theorem dX7_init_6 : decode cX7_init 6 = .ok (.putfield 7, 3) := by decide +kernel
theorem dX7_init_9 : decode cX7_init 9 = .ok (.aload_n 0, 1) := by decide +kernel
theorem dX7_init_10 : decode cX7_init 10 = .ok (.aload_n 2, 1) := by decide +kernel
theorem dX7_init_11 : decode cX7_init 11 = .ok (.putfield 13, 3) := by decide +kernel
theorem dX7_init_14 : decode cX7_init 14 = .ok (.aload_n 0, 1) := by decide +kernel
theorem dX7_init_15 : decode cX7_init 15 = .ok (.iload_n 3, 1) := by decide +kernel
theorem dX7_init_16 : decode cX7_init 16 = .ok (.putfield 17, 3) := by decide +kernel
theorem dX7_init_19 : decode cX7_init 19 = .ok (.aload_n 0, 1) := by decide +kernel
theorem dX7_init_20 : decode cX7_init 20 = .ok (.aload 4, 2) := by decide +kernel
theorem dX7_init_22 : decode cX7_init 22 = .ok (.putfield 20, 3) := by decide +kernel
theorem dX7_init_25 : decode cX7_init 25 = .ok (.aload_n 0, 1) := by decide +kernel
theorem dX7_init_26 : decode cX7_init 26 = .ok (.aload 5, 2) := by decide +kernel
theorem dX7_init_28 : decode cX7_init 28 = .ok (.putfield 23, 3) := by decide +kernel
theorem dX7_init_31 : decode cX7_init 31 = .ok (.return_, 1) := by decide +kernel
theorem dX7_bit_0 : decode cX7_bit 0 = .ok (.iconst 1, 1) := by decide +kernel
theorem dX7_bit_1 : decode cX7_bit 1 = .ok (.aload_n 0, 1) := by decide +kernel
theorem dX7_bit_2 : decode cX7_bit 2 = .ok (.getfield 7, 3) := by decide +kernel
theorem dX7_bit_5 : decode cX7_bit 5 = .ok (.ishl, 1) := by decide +kernel
theorem dX7_bit_6 : decode cX7_bit 6 = .ok (.ireturn, 1) := by decide +kernel
theorem dX7_isIn_0 : decode cX7_isIn 0 = .ok (.iload_n 1, 1) := by decide +kernel
theorem dX7_isIn_1 : decode cX7_isIn 1 = .ok (.aload_n 0, 1) := by decide +kernel
theorem dX7_isIn_2 : decode cX7_isIn 2 = .ok (.invokevirtual 26, 3) := by decide +kernel
theorem dX7_isIn_5 : decode cX7_isIn 5 = .ok (.iand, 1) := by decide +kernel
theorem dX7_isIn_6 : decode cX7_isIn 6 = .ok (.ifCond .eq 7, 3) := by decide +kernel
theorem dX7_isIn_9 : decode cX7_isIn 9 = .ok (.iconst 1, 1) := by decide +kernel
theorem dX7_isIn_10 : decode cX7_isIn 10 = .ok (.goto 4, 3) := by decide +kernel
theorem dX7_isIn_13 : decode cX7_isIn 13 = .ok (.iconst 0, 1) := by decide +kernel
theorem dX7_isIn_14 : decode cX7_isIn 14 = .ok (.ireturn, 1) := by decide +kernel
theorem dX7_meets_0 : decode cX7_meets 0 = .ok (.aload_n 0, 1) := by decide +kernel
theorem dX7_meets_1 : decode cX7_meets 1 = .ok (.getfield 13, 3) := by decide +kernel
theorem dX7_meets_4 : decode cX7_meets 4 = .ok (.getfield 30, 3) := by decide +kernel
theorem dX7_meets_7 : decode cX7_meets 7 = .ok (.iload_n 2, 1) := by decide +kernel
theorem dX7_meets_8 : decode cX7_meets 8 = .ok (.iushr, 1) := by decide +kernel
theorem dX7_meets_9 : decode cX7_meets 9 = .ok (.aload_n 0, 1) := by decide +kernel
theorem dX7_meets_10 : decode cX7_meets 10 = .ok (.getfield 20, 3) := by decide +kernel
theorem dX7_meets_13 : decode cX7_meets 13 = .ok (.getfield 30, 3) := by decide +kernel
theorem dX7_meets_16 : decode cX7_meets 16 = .ok (.iload_n 1, 1) := by decide +kernel
theorem dX7_meets_17 : decode cX7_meets 17 = .ok (.iushr, 1) := by decide +kernel
theorem dX7_meets_18 : decode cX7_meets 18 = .ok (.iand, 1) := by decide +kernel
theorem dX7_meets_19 : decode cX7_meets 19 = .ok (.aload_n 0, 1) := by decide +kernel
theorem dX7_meets_20 : decode cX7_meets 20 = .ok (.getfield 23, 3) := by decide +kernel
theorem dX7_meets_23 : decode cX7_meets 23 = .ok (.getfield 30, 3) := by decide +kernel
theorem dX7_meets_26 : decode cX7_meets 26 = .ok (.iload_n 3, 1) := by decide +kernel
theorem dX7_meets_27 : decode cX7_meets 27 = .ok (.iushr, 1) := by decide +kernel
theorem dX7_meets_28 : decode cX7_meets 28 = .ok (.iand, 1) := by decide +kernel
theorem dX7_meets_29 : decode cX7_meets 29 = .ok (.iconst 1, 1) := by decide +kernel
theorem dX7_meets_30 : decode cX7_meets 30 = .ok (.iand, 1) := by decide +kernel
theorem dX7_meets_31 : decode cX7_meets 31 = .ok (.ifCond .eq 7, 3) := by decide +kernel
theorem dX7_meets_34 : decode cX7_meets 34 = .ok (.iconst 1, 1) := by decide +kernel
theorem dX7_meets_35 : decode cX7_meets 35 = .ok (.goto 4, 3) := by decide +kernel
theorem dX7_meets_38 : decode cX7_meets 38 = .ok (.iconst 0, 1) := by decide +kernel
theorem dX7_meets_39 : decode cX7_meets 39 = .ok (.ireturn, 1) := by decide +kernel
theorem dX8_init_0 : decode cX8_init 0 = .ok (.aload_n 0, 1) := by decide +kernel
theorem dX8_init_1 : decode cX8_init 1 = .ok (.invokespecial 1, 3) := by decide +kernel
theorem dX8_init_4 : decode cX8_init 4 = .ok (.aload_n 0, 1) := by decide +kernel
theorem dX8_init_5 : decode cX8_init 5 = .ok (.aload_n 1, 1) := by decide +kernel
theorem dX8_init_6 : decode cX8_init 6 = .ok (.putfield 7, 3) := by decide +kernel
theorem dX8_init_9 : decode cX8_init 9 = .ok (.aload_n 0, 1) := by decide +kernel
theorem dX8_init_10 : decode cX8_init 10 = .ok (.iload_n 2, 1) := by decide +kernel
theorem dX8_init_11 : decode cX8_init 11 = .ok (.putfield 13, 3) := by decide +kernel
theorem dX8_init_14 : decode cX8_init 14 = .ok (.aload_n 0, 1) := by decide +kernel
theorem dX8_init_15 : decode cX8_init 15 = .ok (.iload_n 3, 1) := by decide +kernel
theorem dX8_init_16 : decode cX8_init 16 = .ok (.putfield 17, 3) := by decide +kernel
theorem dX8_init_19 : decode cX8_init 19 = .ok (.aload_n 0, 1) := by decide +kernel
theorem dX8_init_20 : decode cX8_init 20 = .ok (.lload 4, 2) := by decide +kernel
theorem dX8_init_22 : decode cX8_init 22 = .ok (.putfield 20, 3) := by decide +kernel
theorem dX8_init_25 : decode cX8_init 25 = .ok (.return_, 1) := by decide +kernel
theorem dX8_isOfException_0 : decode cX8_isOfException 0 = .ok (.aload_n 0, 1) := by decide +kernel
theorem dX8_isOfException_1 : decode cX8_isOfException 1 = .ok (.getfield 7, 3) := by decide +kernel
theorem dX8_isOfException_4 : decode cX8_isOfException 4 = .ok (.getfield 24, 3) := by decide +kernel
theorem dX8_isOfException_7 : decode cX8_isOfException 7 = .ok (.aload_n 0, 1) := by decide +kernel
theorem dX8_isOfException_8 : decode cX8_isOfException 8 = .ok (.getfield 13, 3) := by decide +kernel
theorem dX8_isOfException_11 : decode cX8_isOfException 11 = .ok (.invokevirtual 30, 3) := by decide +kernel
theorem dX8_isOfException_14 : decode cX8_isOfException 14 = .ok (.ireturn, 1) := by decide +kernel
theorem dX9_init_0 : decode cX9_init 0 = .ok (.aload_n 0, 1) := by decide +kernel
theorem dX9_init_1 : decode cX9_init 1 = .ok (.invokespecial 1, 3) := by decide +kernel
theorem dX9_init_4 : decode cX9_init 4 = .ok (.aload_n 0, 1) := by decide +kernel
theorem dX9_init_5 : decode cX9_init 5 = .ok (.new 7, 3) := by decide +kernel
theorem dX9_init_8 : decode cX9_init 8 = .ok (.dup, 1) := by decide +kernel
theorem dX9_init_9 : decode cX9_init 9 = .ok (.invokespecial 9, 3) := by decide +kernel
theorem dX9_init_12 : decode cX9_init 12 = .ok (.putfield 10, 3) := by decide +kernel
theorem dX9_init_15 : decode cX9_init 15 = .ok (.aload_n 0, 1) := by decide +kernel
theorem dX9_init_16 : decode cX9_init 16 = .ok (.new 16, 3) := by decide +kernel
theorem dX9_init_19 : decode cX9_init 19 = .ok (.dup, 1) := by decide +kernel
theorem dX9_init_20 : decode cX9_init 20 = .ok (.invokespecial 18, 3) := by decide +kernel
theorem dX9_init_23 : decode cX9_init 23 = .ok (.putfield 19, 3) := by decide +kernel
theorem dX9_init_26 : decode cX9_init 26 = .ok (.aload_n 0, 1) := by decide +kernel
theorem dX9_init_27 : decode cX9_init 27 = .ok (.new 23, 3) := by decide +kernel
theorem dX9_init_30 : decode cX9_init 30 = .ok (.dup, 1) := by decide +kernel
theorem dX9_init_31 : decode cX9_init 31 = .ok (.invokespecial 25, 3) := by decide +kernel
theorem dX9_init_34 : decode cX9_init 34 = .ok (.putfield 26, 3) := by decide +kernel
theorem dX9_init_37 : decode cX9_init 37 = .ok (.aload_n 0, 1) := by decide +kernel
theorem dX9_init_38 : decode cX9_init 38 = .ok (.lconst 0, 1) := by decide +kernel
theorem dX9_init_39 : decode cX9_init 39 = .ok (.putfield 32, 3) := by decide +kernel
theorem dX9_init_42 : decode cX9_init 42 = .ok (.return_, 1) := by decide +kernel
theorem dX9_sound_0 : decode cX9_sound 0 = .ok (.iload_n 1, 1) := by decide +kernel
theorem dX9_sound_1 : decode cX9_sound 1 = .ok (.invokestatic 36, 3) := by decide +kernel
theorem dX9_sound_4 : decode cX9_sound 4 = .ok (.aload_n 0, 1) := by decide +kernel
theorem dX9_sound_5 : decode cX9_sound 5 = .ok (.getfield 10, 3) := by decide +kernel
theorem dX9_sound_8 : decode cX9_sound 8 = .ok (.iload_n 1, 1) := by decide +kernel
theorem dX9_sound_9 : decode cX9_sound 9 = .ok (.invokevirtual 40, 3) := by decide +kernel
theorem dX9_sound_12 : decode cX9_sound 12 = .ok (.ifCond .ne 15, 3) := by decide +kernel
theorem dX9_sound_15 : decode cX9_sound 15 = .ok (.aload_n 0, 1) := by decide +kernel
theorem dX9_sound_16 : decode cX9_sound 16 = .ok (.getfield 10, 3) := by decide +kernel
theorem dX9_sound_19 : decode cX9_sound 19 = .ok (.invokevirtual 44, 3) := by decide +kernel
theorem dX9_sound_22 : decode cX9_sound 22 = .ok (.bipush 16, 2) := by decide +kernel
theorem dX9_sound_24 : decode cX9_sound 24 = .ok (.if_icmp .lt 11, 3) := by decide +kernel
theorem dX9_sound_27 : decode cX9_sound 27 = .ok (.new 48, 3) := by decide +kernel
theorem dX9_sound_30 : decode cX9_sound 30 = .ok (.dup, 1) := by decide +kernel
theorem dX9_sound_31 : decode cX9_sound 31 = .ok (.invokespecial 50, 3) := by decide +kernel
theorem dX9_sound_34 : decode cX9_sound 34 = .ok (.athrow, 1) := by decide +kernel
theorem dX9_sound_35 : decode cX9_sound 35 = .ok (.aload_n 0, 1) := by decide +kernel
theorem dX9_sound_36 : decode cX9_sound 36 = .ok (.getfield 10, 3) := by decide +kernel
theorem dX9_sound_39 : decode cX9_sound 39 = .ok (.iload_n 1, 1) := by decide +kernel
theorem dX9_sound_40 : decode cX9_sound 40 = .ok (.invokevirtual 51, 3) := by decide +kernel
theorem dX9_sound_43 : decode cX9_sound 43 = .ok (.ireturn, 1) := by decide +kernel
theorem dX9_kind_0 : decode cX9_kind 0 = .ok (.iload_n 1, 1) := by decide +kernel
theorem dX9_kind_1 : decode cX9_kind 1 = .ok (.invokestatic 36, 3) := by decide +kernel
theorem dX9_kind_4 : decode cX9_kind 4 = .ok (.iload_n 2, 1) := by decide +kernel
theorem dX9_kind_5 : decode cX9_kind 5 = .ok (.invokestatic 36, 3) := by decide +kernel
theorem dX9_kind_8 : decode cX9_kind 8 = .ok (.aload_n 0, 1) := by decide +kernel
theorem dX9_kind_9 : decode cX9_kind 9 = .ok (.getfield 10, 3) := by decide +kernel
theorem dX9_kind_12 : decode cX9_kind 12 = .ok (.invokevirtual 55, 3) := by decide +kernel
theorem dX9_kind_15 : decode cX9_kind 15 = .ok (.bipush 12, 2) := by decide +kernel
theorem dX9_kind_17 : decode cX9_kind 17 = .ok (.if_icmp .lt 11, 3) := by decide +kernel
theorem dX9_kind_20 : decode cX9_kind 20 = .ok (.new 48, 3) := by decide +kernel
theorem dX9_kind_23 : decode cX9_kind 23 = .ok (.dup, 1) := by decide +kernel
theorem dX9_kind_24 : decode cX9_kind 24 = .ok (.invokespecial 50, 3) := by decide +kernel
theorem dX9_kind_27 : decode cX9_kind 27 = .ok (.athrow, 1) := by decide +kernel
theorem dX9_kind_28 : decode cX9_kind 28 = .ok (.aload_n 0, 1) := by decide +kernel
theorem dX9_kind_29 : decode cX9_kind 29 = .ok (.getfield 10, 3) := by decide +kernel
theorem dX9_kind_32 : decode cX9_kind 32 = .ok (.iload_n 1, 1) := by decide +kernel
theorem dX9_kind_33 : decode cX9_kind 33 = .ok (.iload_n 2, 1) := by decide +kernel
theorem dX9_kind_34 : decode cX9_kind 34 = .ok (.invokevirtual 58, 3) := by decide +kernel
theorem dX9_kind_37 : decode cX9_kind 37 = .ok (.ireturn, 1) := by decide +kernel
theorem dX9_put_0 : decode cX9_put 0 = .ok (.aload_n 0, 1) := by decide +kernel
theorem dX9_put_1 : decode cX9_put 1 = .ok (.iload_n 1, 1) := by decide +kernel
theorem dX9_put_2 : decode cX9_put 2 = .ok (.invokevirtual 62, 3) := by decide +kernel
theorem dX9_put_5 : decode cX9_put 5 = .ok (.aload_n 0, 1) := by decide +kernel
theorem dX9_put_6 : decode cX9_put 6 = .ok (.getfield 32, 3) := by decide +kernel
theorem dX9_put_9 : decode cX9_put 9 = .ok (.invokestatic 65, 3) := by decide +kernel
theorem dX9_put_12 : decode cX9_put 12 = .ok (.istore_n 2, 1) := by decide +kernel
theorem dX9_put_13 : decode cX9_put 13 = .ok (.iload_n 2, 1) := by decide +kernel
theorem dX9_put_14 : decode cX9_put 14 = .ok (.bipush 8, 2) := by decide +kernel
theorem dX9_put_16 : decode cX9_put 16 = .ok (.if_icmp .lt 11, 3) := by decide +kernel
theorem dX9_put_19 : decode cX9_put 19 = .ok (.new 48, 3) := by decide +kernel
theorem dX9_put_22 : decode cX9_put 22 = .ok (.dup, 1) := by decide +kernel
theorem dX9_put_23 : decode cX9_put 23 = .ok (.invokespecial 50, 3) := by decide +kernel
theorem dX9_put_26 : decode cX9_put 26 = .ok (.athrow, 1) := by decide +kernel
theorem dX9_put_27 : decode cX9_put 27 = .ok (.aload_n 0, 1) := by decide +kernel
theorem dX9_put_28 : decode cX9_put 28 = .ok (.aload_n 0, 1) := by decide +kernel
theorem dX9_put_29 : decode cX9_put 29 = .ok (.getfield 32, 3) := by decide +kernel
theorem dX9_put_32 : decode cX9_put 32 = .ok (.iload_n 2, 1) := by decide +kernel
theorem dX9_put_33 : decode cX9_put 33 = .ok (.iload_n 1, 1) := by decide +kernel
theorem dX9_put_34 : decode cX9_put 34 = .ok (.invokestatic 69, 3) := by decide +kernel
theorem dX9_put_37 : decode cX9_put 37 = .ok (.invokestatic 72, 3) := by decide +kernel
theorem dX9_put_40 : decode cX9_put 40 = .ok (.putfield 32, 3) := by decide +kernel
theorem dX9_put_43 : decode cX9_put 43 = .ok (.iload_n 2, 1) := by decide +kernel
theorem dX9_put_44 : decode cX9_put 44 = .ok (.iconst 1, 1) := by decide +kernel
theorem dX9_put_45 : decode cX9_put 45 = .ok (.iadd, 1) := by decide +kernel
theorem dX9_put_46 : decode cX9_put 46 = .ok (.ireturn, 1) := by decide +kernel
theorem dX9_wipe_0 : decode cX9_wipe 0 = .ok (.aload_n 0, 1) := by decide +kernel
theorem dX9_wipe_1 : decode cX9_wipe 1 = .ok (.invokevirtual 76, 3) := by decide +kernel
theorem dX9_wipe_4 : decode cX9_wipe 4 = .ok (.invokestatic 65, 3) := by decide +kernel
theorem dX9_wipe_7 : decode cX9_wipe 7 = .ok (.ireturn, 1) := by decide +kernel
theorem dX9_lexeme_0 : decode cX9_lexeme 0 = .ok (.aload_n 0, 1) := by decide +kernel
theorem dX9_lexeme_1 : decode cX9_lexeme 1 = .ok (.invokevirtual 80, 3) := by decide +kernel
theorem dX9_lexeme_4 : decode cX9_lexeme 4 = .ok (.aload_n 0, 1) := by decide +kernel
theorem dX9_lexeme_5 : decode cX9_lexeme 5 = .ok (.invokevirtual 83, 3) := by decide +kernel
theorem dX9_lexeme_8 : decode cX9_lexeme 8 = .ok (.aload_n 0, 1) := by decide +kernel
theorem dX9_lexeme_9 : decode cX9_lexeme 9 = .ok (.getfield 19, 3) := by decide +kernel
theorem dX9_lexeme_12 : decode cX9_lexeme 12 = .ok (.aload_n 0, 1) := by decide +kernel
theorem dX9_lexeme_13 : decode cX9_lexeme 13 = .ok (.invokevirtual 76, 3) := by decide +kernel
theorem dX9_lexeme_16 : decode cX9_lexeme 16 = .ok (.invokevirtual 86, 3) := by decide +kernel
theorem dX9_lexeme_19 : decode cX9_lexeme 19 = .ok (.getfield 90, 3) := by decide +kernel
theorem dX9_lexeme_22 : decode cX9_lexeme 22 = .ok (.ireturn, 1) := by decide +kernel
theorem dX9_reform_0 : decode cX9_reform 0 = .ok (.aload_n 0, 1) := by decide +kernel
theorem dX9_reform_1 : decode cX9_reform 1 = .ok (.iload_n 1, 1) := by decide +kernel
theorem dX9_reform_2 : decode cX9_reform 2 = .ok (.invokevirtual 96, 3) := by decide +kernel
theorem dX9_reform_5 : decode cX9_reform 5 = .ok (.astore_n 2, 1) := by decide +kernel
theorem dX9_reform_6 : decode cX9_reform 6 = .ok (.aload_n 0, 1) := by decide +kernel
theorem dX9_reform_7 : decode cX9_reform 7 = .ok (.invokevirtual 83, 3) := by decide +kernel
theorem dX9_reform_10 : decode cX9_reform 10 = .ok (.aload_n 2, 1) := by decide +kernel
theorem dX9_reform_11 : decode cX9_reform 11 = .ok (.aload_n 0, 1) := by decide +kernel
theorem dX9_reform_12 : decode cX9_reform 12 = .ok (.invokevirtual 76, 3) := by decide +kernel
theorem dX9_reform_15 : decode cX9_reform 15 = .ok (.putfield 100, 3) := by decide +kernel
theorem dX9_reform_18 : decode cX9_reform 18 = .ok (.return_, 1) := by decide +kernel
theorem dX9_ending_0 : decode cX9_ending 0 = .ok (.iload_n 1, 1) := by decide +kernel
theorem dX9_ending_1 : decode cX9_ending 1 = .ok (.invokestatic 103, 3) := by decide +kernel
theorem dX9_ending_4 : decode cX9_ending 4 = .ok (.aload_n 0, 1) := by decide +kernel
theorem dX9_ending_5 : decode cX9_ending 5 = .ok (.getfield 32, 3) := by decide +kernel
theorem dX9_ending_8 : decode cX9_ending 8 = .ok (.invokestatic 65, 3) := by decide +kernel
theorem dX9_ending_11 : decode cX9_ending 11 = .ok (.iconst 2, 1) := by decide +kernel
theorem dX9_ending_12 : decode cX9_ending 12 = .ok (.if_icmp .le 11, 3) := by decide +kernel
theorem dX9_ending_15 : decode cX9_ending 15 = .ok (.new 48, 3) := by decide +kernel
theorem dX9_ending_18 : decode cX9_ending 18 = .ok (.dup, 1) := by decide +kernel
theorem dX9_ending_19 : decode cX9_ending 19 = .ok (.invokespecial 50, 3) := by decide +kernel
theorem dX9_ending_22 : decode cX9_ending 22 = .ok (.athrow, 1) := by decide +kernel
theorem dX9_ending_23 : decode cX9_ending 23 = .ok (.aload_n 0, 1) := by decide +kernel
theorem dX9_ending_24 : decode cX9_ending 24 = .ok (.getfield 26, 3) := by decide +kernel
theorem dX9_ending_27 : decode cX9_ending 27 = .ok (.iload_n 1, 1) := by decide +kernel
theorem dX9_ending_28 : decode cX9_ending 28 = .ok (.aload_n 0, 1) := by decide +kernel
theorem dX9_ending_29 : decode cX9_ending 29 = .ok (.invokevirtual 76, 3) := by decide +kernel
theorem dX9_ending_32 : decode cX9_ending 32 = .ok (.invokevirtual 106, 3) := by decide +kernel
theorem dX9_ending_35 : decode cX9_ending 35 = .ok (.return_, 1) := by decide +kernel
theorem dX9_rule_0 : decode cX9_rule 0 = .ok (.aload_n 0, 1) := by decide +kernel
theorem dX9_rule_1 : decode cX9_rule 1 = .ok (.getfield 10, 3) := by decide +kernel
theorem dX9_rule_4 : decode cX9_rule 4 = .ok (.iload_n 1, 1) := by decide +kernel
theorem dX9_rule_5 : decode cX9_rule 5 = .ok (.invokevirtual 110, 3) := by decide +kernel
theorem dX9_rule_8 : decode cX9_rule 8 = .ok (.astore 5, 2) := by decide +kernel
theorem dX9_rule_10 : decode cX9_rule 10 = .ok (.aload_n 0, 1) := by decide +kernel
theorem dX9_rule_11 : decode cX9_rule 11 = .ok (.getfield 10, 3) := by decide +kernel
theorem dX9_rule_14 : decode cX9_rule 14 = .ok (.iload_n 3, 1) := by decide +kernel
theorem dX9_rule_15 : decode cX9_rule 15 = .ok (.invokevirtual 114, 3) := by decide +kernel
theorem dX9_rule_18 : decode cX9_rule 18 = .ok (.astore 6, 2) := by decide +kernel
theorem dX9_rule_20 : decode cX9_rule 20 = .ok (.aload_n 0, 1) := by decide +kernel
theorem dX9_rule_21 : decode cX9_rule 21 = .ok (.getfield 10, 3) := by decide +kernel
theorem dX9_rule_24 : decode cX9_rule 24 = .ok (.iload 4, 2) := by decide +kernel
theorem dX9_rule_26 : decode cX9_rule 26 = .ok (.invokevirtual 114, 3) := by decide +kernel
theorem dX9_rule_29 : decode cX9_rule 29 = .ok (.astore 7, 2) := by decide +kernel
theorem dX9_rule_31 : decode cX9_rule 31 = .ok (.aload 5, 2) := by decide +kernel
theorem dX9_rule_33 : decode cX9_rule 33 = .ok (.ifnull 13, 3) := by decide +kernel
theorem dX9_rule_36 : decode cX9_rule 36 = .ok (.aload 6, 2) := by decide +kernel
theorem dX9_rule_38 : decode cX9_rule 38 = .ok (.ifnull 8, 3) := by decide +kernel
theorem dX9_rule_41 : decode cX9_rule 41 = .ok (.aload 7, 2) := by decide +kernel
theorem dX9_rule_43 : decode cX9_rule 43 = .ok (.ifnonnull 11, 3) := by decide +kernel
theorem dX9_rule_46 : decode cX9_rule 46 = .ok (.new 117, 3) := by decide +kernel
theorem dX9_rule_49 : decode cX9_rule 49 = .ok (.dup, 1) := by decide +kernel
theorem dX9_rule_50 : decode cX9_rule 50 = .ok (.invokespecial 119, 3) := by decide +kernel
theorem dX9_rule_53 : decode cX9_rule 53 = .ok (.athrow, 1) := by decide +kernel
theorem dX9_rule_54 : decode cX9_rule 54 = .ok (.iload_n 2, 1) := by decide +kernel
theorem dX9_rule_55 : decode cX9_rule 55 = .ok (.invokestatic 36, 3) := by decide +kernel
theorem dX9_rule_58 : decode cX9_rule 58 = .ok (.aload_n 0, 1) := by decide +kernel
theorem dX9_rule_59 : decode cX9_rule 59 = .ok (.getfield 10, 3) := by decide +kernel
theorem dX9_rule_62 : decode cX9_rule 62 = .ok (.invokevirtual 120, 3) := by decide +kernel
theorem dX9_rule_65 : decode cX9_rule 65 = .ok (.bipush 6, 2) := by decide +kernel
theorem dX9_rule_67 : decode cX9_rule 67 = .ok (.if_icmp .lt 11, 3) := by decide +kernel
theorem dX9_rule_70 : decode cX9_rule 70 = .ok (.new 48, 3) := by decide +kernel
theorem dX9_rule_73 : decode cX9_rule 73 = .ok (.dup, 1) := by decide +kernel
theorem dX9_rule_74 : decode cX9_rule 74 = .ok (.invokespecial 50, 3) := by decide +kernel
theorem dX9_rule_77 : decode cX9_rule 77 = .ok (.athrow, 1) := by decide +kernel
theorem dX9_rule_78 : decode cX9_rule 78 = .ok (.aload_n 0, 1) := by decide +kernel
theorem dX9_rule_79 : decode cX9_rule 79 = .ok (.getfield 10, 3) := by decide +kernel
theorem dX9_rule_82 : decode cX9_rule 82 = .ok (.aload 5, 2) := by decide +kernel
theorem dX9_rule_84 : decode cX9_rule 84 = .ok (.iload_n 2, 1) := by decide +kernel
theorem dX9_rule_85 : decode cX9_rule 85 = .ok (.aload 6, 2) := by decide +kernel
theorem dX9_rule_87 : decode cX9_rule 87 = .ok (.aload 7, 2) := by decide +kernel
theorem dX9_rule_89 : decode cX9_rule 89 = .ok (.invokevirtual 123, 3) := by decide +kernel
theorem dX9_rule_92 : decode cX9_rule 92 = .ok (.ireturn, 1) := by decide +kernel
theorem dX9_turn_0 : decode cX9_turn 0 = .ok (.aload_n 0, 1) := by decide +kernel
theorem dX9_turn_1 : decode cX9_turn 1 = .ok (.getfield 10, 3) := by decide +kernel
theorem dX9_turn_4 : decode cX9_turn 4 = .ok (.aload_n 0, 1) := by decide +kernel
theorem dX9_turn_5 : decode cX9_turn 5 = .ok (.iload_n 1, 1) := by decide +kernel
theorem dX9_turn_6 : decode cX9_turn 6 = .ok (.invokevirtual 127, 3) := by decide +kernel
theorem dX9_turn_9 : decode cX9_turn 9 = .ok (.iload_n 2, 1) := by decide +kernel
theorem dX9_turn_10 : decode cX9_turn 10 = .ok (.invokevirtual 131, 3) := by decide +kernel
theorem dX9_turn_13 : decode cX9_turn 13 = .ok (.ireturn, 1) := by decide +kernel
theorem dX9_raise_0 : decode cX9_raise 0 = .ok (.aload_n 0, 1) := by decide +kernel
theorem dX9_raise_1 : decode cX9_raise 1 = .ok (.getfield 10, 3) := by decide +kernel
theorem dX9_raise_4 : decode cX9_raise 4 = .ok (.aload_n 0, 1) := by decide +kernel
theorem dX9_raise_5 : decode cX9_raise 5 = .ok (.iload_n 1, 1) := by decide +kernel
theorem dX9_raise_6 : decode cX9_raise 6 = .ok (.invokevirtual 127, 3) := by decide +kernel
theorem dX9_raise_9 : decode cX9_raise 9 = .ok (.invokevirtual 135, 3) := by decide +kernel
theorem dX9_raise_12 : decode cX9_raise 12 = .ok (.ireturn, 1) := by decide +kernel
theorem dX9_hear_0 : decode cX9_hear 0 = .ok (.aload_n 0, 1) := by decide +kernel
theorem dX9_hear_1 : decode cX9_hear 1 = .ok (.iload_n 1, 1) := by decide +kernel
theorem dX9_hear_2 : decode cX9_hear 2 = .ok (.invokevirtual 96, 3) := by decide +kernel
theorem dX9_hear_5 : decode cX9_hear 5 = .ok (.astore 4, 2) := by decide +kernel
theorem dX9_hear_7 : decode cX9_hear 7 = .ok (.iload_n 2, 1) := by decide +kernel
theorem dX9_hear_8 : decode cX9_hear 8 = .ok (.invokestatic 103, 3) := by decide +kernel
theorem dX9_hear_11 : decode cX9_hear 11 = .ok (.iload_n 3, 1) := by decide +kernel
theorem dX9_hear_12 : decode cX9_hear 12 = .ok (.invokestatic 139, 3) := by decide +kernel
theorem dX9_hear_15 : decode cX9_hear 15 = .ok (.aload_n 0, 1) := by decide +kernel
theorem dX9_hear_16 : decode cX9_hear 16 = .ok (.getfield 19, 3) := by decide +kernel
theorem dX9_hear_19 : decode cX9_hear 19 = .ok (.invokevirtual 142, 3) := by decide +kernel
theorem dX9_hear_22 : decode cX9_hear 22 = .ok (.bipush 40, 2) := by decide +kernel
theorem dX9_hear_24 : decode cX9_hear 24 = .ok (.if_icmp .lt 11, 3) := by decide +kernel
theorem dX9_hear_27 : decode cX9_hear 27 = .ok (.new 48, 3) := by decide +kernel
theorem dX9_hear_30 : decode cX9_hear 30 = .ok (.dup, 1) := by decide +kernel
theorem dX9_hear_31 : decode cX9_hear 31 = .ok (.invokespecial 50, 3) := by decide +kernel
theorem dX9_hear_34 : decode cX9_hear 34 = .ok (.athrow, 1) := by decide +kernel
theorem dX9_hear_35 : decode cX9_hear 35 = .ok (.aload_n 0, 1) := by decide +kernel
theorem dX9_hear_36 : decode cX9_hear 36 = .ok (.getfield 19, 3) := by decide +kernel
theorem dX9_hear_39 : decode cX9_hear 39 = .ok (.aload 4, 2) := by decide +kernel
theorem dX9_hear_41 : decode cX9_hear 41 = .ok (.iload_n 2, 1) := by decide +kernel
theorem dX9_hear_42 : decode cX9_hear 42 = .ok (.iload_n 3, 1) := by decide +kernel
theorem dX9_hear_43 : decode cX9_hear 43 = .ok (.aload_n 0, 1) := by decide +kernel
theorem dX9_hear_44 : decode cX9_hear 44 = .ok (.invokevirtual 76, 3) := by decide +kernel
theorem dX9_hear_47 : decode cX9_hear 47 = .ok (.invokevirtual 145, 3) := by decide +kernel
theorem dX9_hear_50 : decode cX9_hear 50 = .ok (.ireturn, 1) := by decide +kernel
theorem dX9_correct_0 : decode cX9_correct 0 = .ok (.aload_n 0, 1) := by decide +kernel
theorem dX9_correct_1 : decode cX9_correct 1 = .ok (.iload_n 1, 1) := by decide +kernel
theorem dX9_correct_2 : decode cX9_correct 2 = .ok (.invokevirtual 149, 3) := by decide +kernel
theorem dX9_correct_5 : decode cX9_correct 5 = .ok (.astore_n 2, 1) := by decide +kernel
theorem dX9_correct_6 : decode cX9_correct 6 = .ok (.aload_n 2, 1) := by decide +kernel
theorem dX9_correct_7 : decode cX9_correct 7 = .ok (.getfield 153, 3) := by decide +kernel
theorem dX9_correct_10 : decode cX9_correct 10 = .ok (.lstore_n 3, 1) := by decide +kernel
theorem dX9_correct_11 : decode cX9_correct 11 = .ok (.aload_n 2, 1) := by decide +kernel
theorem dX9_correct_12 : decode cX9_correct 12 = .ok (.aload_n 0, 1) := by decide +kernel
theorem dX9_correct_13 : decode cX9_correct 13 = .ok (.invokevirtual 76, 3) := by decide +kernel
theorem dX9_correct_16 : decode cX9_correct 16 = .ok (.putfield 153, 3) := by decide +kernel
theorem dX9_correct_19 : decode cX9_correct 19 = .ok (.aload_n 2, 1) := by decide +kernel
theorem dX9_correct_20 : decode cX9_correct 20 = .ok (.getfield 153, 3) := by decide +kernel
theorem dX9_correct_23 : decode cX9_correct 23 = .ok (.lload_n 3, 1) := by decide +kernel
theorem dX9_correct_24 : decode cX9_correct 24 = .ok (.lcmp, 1) := by decide +kernel
theorem dX9_correct_25 : decode cX9_correct 25 = .ok (.ifCond .eq 7, 3) := by decide +kernel
theorem dX9_correct_28 : decode cX9_correct 28 = .ok (.iconst 1, 1) := by decide +kernel
theorem dX9_correct_29 : decode cX9_correct 29 = .ok (.goto 4, 3) := by decide +kernel
theorem dX9_correct_32 : decode cX9_correct 32 = .ok (.iconst 0, 1) := by decide +kernel
theorem dX9_correct_33 : decode cX9_correct 33 = .ok (.ireturn, 1) := by decide +kernel
theorem dX9_forget_0 : decode cX9_forget 0 = .ok (.aload_n 0, 1) := by decide +kernel
theorem dX9_forget_1 : decode cX9_forget 1 = .ok (.iload_n 1, 1) := by decide +kernel
theorem dX9_forget_2 : decode cX9_forget 2 = .ok (.invokevirtual 149, 3) := by decide +kernel
theorem dX9_forget_5 : decode cX9_forget 5 = .ok (.iconst 1, 1) := by decide +kernel
theorem dX9_forget_6 : decode cX9_forget 6 = .ok (.putfield 156, 3) := by decide +kernel
theorem dX9_forget_9 : decode cX9_forget 9 = .ok (.aload_n 0, 1) := by decide +kernel
theorem dX9_forget_10 : decode cX9_forget 10 = .ok (.getfield 19, 3) := by decide +kernel
theorem dX9_forget_13 : decode cX9_forget 13 = .ok (.invokevirtual 160, 3) := by decide +kernel
theorem dX9_forget_16 : decode cX9_forget 16 = .ok (.ireturn, 1) := by decide +kernel
theorem dX9_except_0 : decode cX9_except 0 = .ok (.aload_n 0, 1) := by decide +kernel
theorem dX9_except_1 : decode cX9_except 1 = .ok (.iload_n 1, 1) := by decide +kernel
theorem dX9_except_2 : decode cX9_except 2 = .ok (.invokevirtual 96, 3) := by decide +kernel
theorem dX9_except_5 : decode cX9_except 5 = .ok (.getfield 163, 3) := by decide +kernel
theorem dX9_except_8 : decode cX9_except 8 = .ok (.astore 4, 2) := by decide +kernel
theorem dX9_except_10 : decode cX9_except 10 = .ok (.iload_n 2, 1) := by decide +kernel
theorem dX9_except_11 : decode cX9_except 11 = .ok (.invokestatic 103, 3) := by decide +kernel
theorem dX9_except_14 : decode cX9_except 14 = .ok (.aload 4, 2) := by decide +kernel
theorem dX9_except_16 : decode cX9_except 16 = .ok (.iload_n 2, 1) := by decide +kernel
theorem dX9_except_17 : decode cX9_except 17 = .ok (.invokevirtual 166, 3) := by decide +kernel
theorem dX9_except_20 : decode cX9_except 20 = .ok (.istore 5, 2) := by decide +kernel
theorem dX9_except_22 : decode cX9_except 22 = .ok (.iload_n 3, 1) := by decide +kernel
theorem dX9_except_23 : decode cX9_except 23 = .ok (.ifCond .eq 16, 3) := by decide +kernel
theorem dX9_except_26 : decode cX9_except 26 = .ok (.aload 4, 2) := by decide +kernel
theorem dX9_except_28 : decode cX9_except 28 = .ok (.iload_n 2, 1) := by decide +kernel
theorem dX9_except_29 : decode cX9_except 29 = .ok (.aload_n 0, 1) := by decide +kernel
theorem dX9_except_30 : decode cX9_except 30 = .ok (.invokevirtual 76, 3) := by decide +kernel
theorem dX9_except_33 : decode cX9_except 33 = .ok (.invokevirtual 106, 3) := by decide +kernel
theorem dX9_except_36 : decode cX9_except 36 = .ok (.goto 9, 3) := by decide +kernel
theorem dX9_except_39 : decode cX9_except 39 = .ok (.aload 4, 2) := by decide +kernel
theorem dX9_except_41 : decode cX9_except 41 = .ok (.iload_n 2, 1) := by decide +kernel
theorem dX9_except_42 : decode cX9_except 42 = .ok (.invokevirtual 169, 3) := by decide +kernel
theorem dX9_except_45 : decode cX9_except 45 = .ok (.iload 5, 2) := by decide +kernel
theorem dX9_except_47 : decode cX9_except 47 = .ok (.ireturn, 1) := by decide +kernel
theorem dX9_merge_0 : decode cX9_merge 0 = .ok (.aload_n 0, 1) := by decide +kernel
theorem dX9_merge_1 : decode cX9_merge 1 = .ok (.iload_n 1, 1) := by decide +kernel
theorem dX9_merge_2 : decode cX9_merge 2 = .ok (.invokevirtual 96, 3) := by decide +kernel
theorem dX9_merge_5 : decode cX9_merge 5 = .ok (.astore_n 3, 1) := by decide +kernel
theorem dX9_merge_6 : decode cX9_merge 6 = .ok (.aload_n 0, 1) := by decide +kernel
theorem dX9_merge_7 : decode cX9_merge 7 = .ok (.iload_n 2, 1) := by decide +kernel
theorem dX9_merge_8 : decode cX9_merge 8 = .ok (.invokevirtual 96, 3) := by decide +kernel
theorem dX9_merge_11 : decode cX9_merge 11 = .ok (.astore 4, 2) := by decide +kernel
theorem dX9_merge_13 : decode cX9_merge 13 = .ok (.aload_n 3, 1) := by decide +kernel
theorem dX9_merge_14 : decode cX9_merge 14 = .ok (.aload 4, 2) := by decide +kernel
theorem dX9_merge_16 : decode cX9_merge 16 = .ok (.if_acmp .ne 11, 3) := by decide +kernel
theorem dX9_merge_19 : decode cX9_merge 19 = .ok (.new 172, 3) := by decide +kernel
theorem dX9_merge_22 : decode cX9_merge 22 = .ok (.dup, 1) := by decide +kernel
theorem dX9_merge_23 : decode cX9_merge 23 = .ok (.invokespecial 174, 3) := by decide +kernel
theorem dX9_merge_26 : decode cX9_merge 26 = .ok (.athrow, 1) := by decide +kernel
theorem dX9_merge_27 : decode cX9_merge 27 = .ok (.aload_n 0, 1) := by decide +kernel
theorem dX9_merge_28 : decode cX9_merge 28 = .ok (.getfield 19, 3) := by decide +kernel
theorem dX9_merge_31 : decode cX9_merge 31 = .ok (.aload_n 3, 1) := by decide +kernel
theorem dX9_merge_32 : decode cX9_merge 32 = .ok (.aload 4, 2) := by decide +kernel
theorem dX9_merge_34 : decode cX9_merge 34 = .ok (.invokevirtual 175, 3) := by decide +kernel
theorem dX9_merge_37 : decode cX9_merge 37 = .ok (.ireturn, 1) := by decide +kernel
theorem dX9_split_0 : decode cX9_split 0 = .ok (.aload_n 0, 1) := by decide +kernel
theorem dX9_split_1 : decode cX9_split 1 = .ok (.iload_n 1, 1) := by decide +kernel
theorem dX9_split_2 : decode cX9_split 2 = .ok (.invokevirtual 96, 3) := by decide +kernel
theorem dX9_split_5 : decode cX9_split 5 = .ok (.astore_n 3, 1) := by decide +kernel
theorem dX9_split_6 : decode cX9_split 6 = .ok (.iload_n 2, 1) := by decide +kernel
theorem dX9_split_7 : decode cX9_split 7 = .ok (.iconst 1, 1) := by decide +kernel
theorem dX9_split_8 : decode cX9_split 8 = .ok (.if_icmp .lt 10, 3) := by decide +kernel
theorem dX9_split_11 : decode cX9_split 11 = .ok (.iload_n 2, 1) := by decide +kernel
theorem dX9_split_12 : decode cX9_split 12 = .ok (.sipush 255, 3) := by decide +kernel
theorem dX9_split_15 : decode cX9_split 15 = .ok (.if_icmp .le 11, 3) := by decide +kernel
theorem dX9_split_18 : decode cX9_split 18 = .ok (.new 172, 3) := by decide +kernel
theorem dX9_split_21 : decode cX9_split 21 = .ok (.dup, 1) := by decide +kernel
theorem dX9_split_22 : decode cX9_split 22 = .ok (.invokespecial 174, 3) := by decide +kernel
theorem dX9_split_25 : decode cX9_split 25 = .ok (.athrow, 1) := by decide +kernel
theorem dX9_split_26 : decode cX9_split 26 = .ok (.aload_n 0, 1) := by decide +kernel
theorem dX9_split_27 : decode cX9_split 27 = .ok (.invokevirtual 80, 3) := by decide +kernel
theorem dX9_split_30 : decode cX9_split 30 = .ok (.aload_n 0, 1) := by decide +kernel
theorem dX9_split_31 : decode cX9_split 31 = .ok (.getfield 19, 3) := by decide +kernel
theorem dX9_split_34 : decode cX9_split 34 = .ok (.aload_n 3, 1) := by decide +kernel
theorem dX9_split_35 : decode cX9_split 35 = .ok (.iload_n 2, 1) := by decide +kernel
theorem dX9_split_36 : decode cX9_split 36 = .ok (.invokevirtual 179, 3) := by decide +kernel
theorem dX9_split_39 : decode cX9_split 39 = .ok (.ireturn, 1) := by decide +kernel
theorem dX9_undo_0 : decode cX9_undo 0 = .ok (.aload_n 0, 1) := by decide +kernel
theorem dX9_undo_1 : decode cX9_undo 1 = .ok (.getfield 19, 3) := by decide +kernel
theorem dX9_undo_4 : decode cX9_undo 4 = .ok (.invokevirtual 183, 3) := by decide +kernel
theorem dX9_undo_7 : decode cX9_undo 7 = .ok (.ifCond .ne 11, 3) := by decide +kernel
theorem dX9_undo_10 : decode cX9_undo 10 = .ok (.new 48, 3) := by decide +kernel
theorem dX9_undo_13 : decode cX9_undo 13 = .ok (.dup, 1) := by decide +kernel
theorem dX9_undo_14 : decode cX9_undo 14 = .ok (.invokespecial 50, 3) := by decide +kernel
theorem dX9_undo_17 : decode cX9_undo 17 = .ok (.athrow, 1) := by decide +kernel
theorem dX9_undo_18 : decode cX9_undo 18 = .ok (.aload_n 0, 1) := by decide +kernel
theorem dX9_undo_19 : decode cX9_undo 19 = .ok (.getfield 19, 3) := by decide +kernel
theorem dX9_undo_22 : decode cX9_undo 22 = .ok (.invokevirtual 186, 3) := by decide +kernel
theorem dX9_undo_25 : decode cX9_undo 25 = .ok (.ireturn, 1) := by decide +kernel
theorem dX9_length_0 : decode cX9_length 0 = .ok (.aload_n 0, 1) := by decide +kernel
theorem dX9_length_1 : decode cX9_length 1 = .ok (.iload_n 1, 1) := by decide +kernel
theorem dX9_length_2 : decode cX9_length 2 = .ok (.invokevirtual 96, 3) := by decide +kernel
theorem dX9_length_5 : decode cX9_length 5 = .ok (.astore_n 3, 1) := by decide +kernel
theorem dX9_length_6 : decode cX9_length 6 = .ok (.iload_n 2, 1) := by decide +kernel
theorem dX9_length_7 : decode cX9_length 7 = .ok (.invokestatic 103, 3) := by decide +kernel
theorem dX9_length_10 : decode cX9_length 10 = .ok (.aload_n 0, 1) := by decide +kernel
theorem dX9_length_11 : decode cX9_length 11 = .ok (.aload_n 3, 1) := by decide +kernel
theorem dX9_length_12 : decode cX9_length 12 = .ok (.iload_n 2, 1) := by decide +kernel
theorem dX9_length_13 : decode cX9_length 13 = .ok (.aload_n 0, 1) := by decide +kernel
theorem dX9_length_14 : decode cX9_length 14 = .ok (.getfield 10, 3) := by decide +kernel
theorem dX9_length_17 : decode cX9_length 17 = .ok (.invokevirtual 189, 3) := by decide +kernel
theorem dX9_length_20 : decode cX9_length 20 = .ok (.invokevirtual 192, 3) := by decide +kernel
theorem dX9_length_23 : decode cX9_length 23 = .ok (.invokestatic 65, 3) := by decide +kernel
theorem dX9_length_26 : decode cX9_length 26 = .ok (.ireturn, 1) := by decide +kernel
theorem dX9_at_0 : decode cX9_at 0 = .ok (.aload_n 0, 1) := by decide +kernel
theorem dX9_at_1 : decode cX9_at 1 = .ok (.iload_n 1, 1) := by decide +kernel
theorem dX9_at_2 : decode cX9_at 2 = .ok (.invokevirtual 96, 3) := by decide +kernel
theorem dX9_at_5 : decode cX9_at 5 = .ok (.astore 4, 2) := by decide +kernel
theorem dX9_at_7 : decode cX9_at 7 = .ok (.iload_n 2, 1) := by decide +kernel
theorem dX9_at_8 : decode cX9_at 8 = .ok (.invokestatic 103, 3) := by decide +kernel
theorem dX9_at_11 : decode cX9_at 11 = .ok (.iload_n 3, 1) := by decide +kernel
theorem dX9_at_12 : decode cX9_at 12 = .ok (.invokestatic 196, 3) := by decide +kernel
theorem dX9_at_15 : decode cX9_at 15 = .ok (.aload_n 0, 1) := by decide +kernel
theorem dX9_at_16 : decode cX9_at 16 = .ok (.aload 4, 2) := by decide +kernel
theorem dX9_at_18 : decode cX9_at 18 = .ok (.iload_n 2, 1) := by decide +kernel
theorem dX9_at_19 : decode cX9_at 19 = .ok (.aload_n 0, 1) := by decide +kernel
theorem dX9_at_20 : decode cX9_at 20 = .ok (.getfield 10, 3) := by decide +kernel
theorem dX9_at_23 : decode cX9_at 23 = .ok (.invokevirtual 189, 3) := by decide +kernel
theorem dX9_at_26 : decode cX9_at 26 = .ok (.invokevirtual 192, 3) := by decide +kernel
theorem dX9_at_29 : decode cX9_at 29 = .ok (.iload_n 3, 1) := by decide +kernel
theorem dX9_at_30 : decode cX9_at 30 = .ok (.invokestatic 199, 3) := by decide +kernel
theorem dX9_at_33 : decode cX9_at 33 = .ok (.ireturn, 1) := by decide +kernel
theorem dX9_step_0 : decode cX9_step 0 = .ok (.aload_n 0, 1) := by decide +kernel
theorem dX9_step_1 : decode cX9_step 1 = .ok (.iload_n 1, 1) := by decide +kernel
theorem dX9_step_2 : decode cX9_step 2 = .ok (.invokevirtual 96, 3) := by decide +kernel
theorem dX9_step_5 : decode cX9_step 5 = .ok (.astore 4, 2) := by decide +kernel
theorem dX9_step_7 : decode cX9_step 7 = .ok (.iload_n 2, 1) := by decide +kernel
theorem dX9_step_8 : decode cX9_step 8 = .ok (.invokestatic 103, 3) := by decide +kernel
theorem dX9_step_11 : decode cX9_step 11 = .ok (.aload_n 0, 1) := by decide +kernel
theorem dX9_step_12 : decode cX9_step 12 = .ok (.getfield 10, 3) := by decide +kernel
theorem dX9_step_15 : decode cX9_step 15 = .ok (.aload_n 0, 1) := by decide +kernel
theorem dX9_step_16 : decode cX9_step 16 = .ok (.iload_n 3, 1) := by decide +kernel
theorem dX9_step_17 : decode cX9_step 17 = .ok (.invokevirtual 127, 3) := by decide +kernel
theorem dX9_step_20 : decode cX9_step 20 = .ok (.aload_n 0, 1) := by decide +kernel
theorem dX9_step_21 : decode cX9_step 21 = .ok (.aload 4, 2) := by decide +kernel
theorem dX9_step_23 : decode cX9_step 23 = .ok (.iload_n 2, 1) := by decide +kernel
theorem dX9_step_24 : decode cX9_step 24 = .ok (.invokevirtual 203, 3) := by decide +kernel
theorem dX9_step_27 : decode cX9_step 27 = .ok (.invokevirtual 207, 3) := by decide +kernel
theorem dX9_step_30 : decode cX9_step 30 = .ok (.ireturn, 1) := by decide +kernel
theorem dX9_ofWord_0 : decode cX9_ofWord 0 = .ok (.aload_n 0, 1) := by decide +kernel
theorem dX9_ofWord_1 : decode cX9_ofWord 1 = .ok (.iload_n 1, 1) := by decide +kernel
theorem dX9_ofWord_2 : decode cX9_ofWord 2 = .ok (.invokevirtual 149, 3) := by decide +kernel
theorem dX9_ofWord_5 : decode cX9_ofWord 5 = .ok (.astore_n 3, 1) := by decide +kernel
theorem dX9_ofWord_6 : decode cX9_ofWord 6 = .ok (.iload_n 2, 1) := by decide +kernel
theorem dX9_ofWord_7 : decode cX9_ofWord 7 = .ok (.tableswitch 80 0 4 #[33, 41, 46, 51, 59], 33) := by decide +kernel
theorem dX9_ofWord_40 : decode cX9_ofWord 40 = .ok (.aload_n 3, 1) := by decide +kernel
theorem dX9_ofWord_41 : decode cX9_ofWord 41 = .ok (.getfield 211, 3) := by decide +kernel
theorem dX9_ofWord_44 : decode cX9_ofWord 44 = .ok (.getfield 90, 3) := by decide +kernel
theorem dX9_ofWord_47 : decode cX9_ofWord 47 = .ok (.ireturn, 1) := by decide +kernel
theorem dX9_ofWord_48 : decode cX9_ofWord 48 = .ok (.aload_n 3, 1) := by decide +kernel
theorem dX9_ofWord_49 : decode cX9_ofWord 49 = .ok (.getfield 215, 3) := by decide +kernel
theorem dX9_ofWord_52 : decode cX9_ofWord 52 = .ok (.ireturn, 1) := by decide +kernel
theorem dX9_ofWord_53 : decode cX9_ofWord 53 = .ok (.aload_n 3, 1) := by decide +kernel
theorem dX9_ofWord_54 : decode cX9_ofWord 54 = .ok (.getfield 218, 3) := by decide +kernel
theorem dX9_ofWord_57 : decode cX9_ofWord 57 = .ok (.ireturn, 1) := by decide +kernel
theorem dX9_ofWord_58 : decode cX9_ofWord 58 = .ok (.aload_n 3, 1) := by decide +kernel
theorem dX9_ofWord_59 : decode cX9_ofWord 59 = .ok (.getfield 153, 3) := by decide +kernel
theorem dX9_ofWord_62 : decode cX9_ofWord 62 = .ok (.invokestatic 65, 3) := by decide +kernel
theorem dX9_ofWord_65 : decode cX9_ofWord 65 = .ok (.ireturn, 1) := by decide +kernel
theorem dX9_ofWord_66 : decode cX9_ofWord 66 = .ok (.aload_n 0, 1) := by decide +kernel
theorem dX9_ofWord_67 : decode cX9_ofWord 67 = .ok (.aload_n 3, 1) := by decide +kernel
theorem dX9_ofWord_68 : decode cX9_ofWord 68 = .ok (.aload_n 0, 1) := by decide +kernel
theorem dX9_ofWord_69 : decode cX9_ofWord 69 = .ok (.getfield 10, 3) := by decide +kernel
theorem dX9_ofWord_72 : decode cX9_ofWord 72 = .ok (.invokevirtual 189, 3) := by decide +kernel
theorem dX9_ofWord_75 : decode cX9_ofWord 75 = .ok (.invokevirtual 221, 3) := by decide +kernel
theorem dX9_ofWord_78 : decode cX9_ofWord 78 = .ok (.ifCond .eq 7, 3) := by decide +kernel
theorem dX9_ofWord_81 : decode cX9_ofWord 81 = .ok (.iconst 1, 1) := by decide +kernel
theorem dX9_ofWord_82 : decode cX9_ofWord 82 = .ok (.goto 4, 3) := by decide +kernel
theorem dX9_ofWord_85 : decode cX9_ofWord 85 = .ok (.iconst 0, 1) := by decide +kernel
theorem dX9_ofWord_86 : decode cX9_ofWord 86 = .ok (.ireturn, 1) := by decide +kernel
theorem dX9_ofWord_87 : decode cX9_ofWord 87 = .ok (.new 172, 3) := by decide +kernel
theorem dX9_ofWord_90 : decode cX9_ofWord 90 = .ok (.dup, 1) := by decide +kernel
theorem dX9_ofWord_91 : decode cX9_ofWord 91 = .ok (.invokespecial 174, 3) := by decide +kernel
theorem dX9_ofWord_94 : decode cX9_ofWord 94 = .ok (.athrow, 1) := by decide +kernel
theorem dX9_misfit_0 : decode cX9_misfit 0 = .ok (.iload_n 1, 1) := by decide +kernel
theorem dX9_misfit_1 : decode cX9_misfit 1 = .ok (.invokestatic 196, 3) := by decide +kernel
theorem dX9_misfit_4 : decode cX9_misfit 4 = .ok (.iconst 0, 1) := by decide +kernel
theorem dX9_misfit_5 : decode cX9_misfit 5 = .ok (.istore_n 2, 1) := by decide +kernel
theorem dX9_misfit_6 : decode cX9_misfit 6 = .ok (.iconst 0, 1) := by decide +kernel
theorem dX9_misfit_7 : decode cX9_misfit 7 = .ok (.istore_n 3, 1) := by decide +kernel
theorem dX9_misfit_8 : decode cX9_misfit 8 = .ok (.iload_n 3, 1) := by decide +kernel
theorem dX9_misfit_9 : decode cX9_misfit 9 = .ok (.aload_n 0, 1) := by decide +kernel
theorem dX9_misfit_10 : decode cX9_misfit 10 = .ok (.getfield 19, 3) := by decide +kernel
theorem dX9_misfit_13 : decode cX9_misfit 13 = .ok (.invokevirtual 142, 3) := by decide +kernel
theorem dX9_misfit_16 : decode cX9_misfit 16 = .ok (.if_icmp .ge 50, 3) := by decide +kernel
theorem dX9_misfit_19 : decode cX9_misfit 19 = .ok (.aload_n 0, 1) := by decide +kernel
theorem dX9_misfit_20 : decode cX9_misfit 20 = .ok (.getfield 19, 3) := by decide +kernel
theorem dX9_misfit_23 : decode cX9_misfit 23 = .ok (.iload_n 3, 1) := by decide +kernel
theorem dX9_misfit_24 : decode cX9_misfit 24 = .ok (.invokevirtual 225, 3) := by decide +kernel
theorem dX9_misfit_27 : decode cX9_misfit 27 = .ok (.astore 4, 2) := by decide +kernel
theorem dX9_misfit_29 : decode cX9_misfit 29 = .ok (.aload 4, 2) := by decide +kernel
theorem dX9_misfit_31 : decode cX9_misfit 31 = .ok (.ifnull 29, 3) := by decide +kernel
theorem dX9_misfit_34 : decode cX9_misfit 34 = .ok (.aload_n 0, 1) := by decide +kernel
theorem dX9_misfit_35 : decode cX9_misfit 35 = .ok (.aload 4, 2) := by decide +kernel
theorem dX9_misfit_37 : decode cX9_misfit 37 = .ok (.aload_n 0, 1) := by decide +kernel
theorem dX9_misfit_38 : decode cX9_misfit 38 = .ok (.getfield 10, 3) := by decide +kernel
theorem dX9_misfit_41 : decode cX9_misfit 41 = .ok (.invokevirtual 189, 3) := by decide +kernel
theorem dX9_misfit_44 : decode cX9_misfit 44 = .ok (.invokevirtual 221, 3) := by decide +kernel
theorem dX9_misfit_47 : decode cX9_misfit 47 = .ok (.ifCond .ne 13, 3) := by decide +kernel
theorem dX9_misfit_50 : decode cX9_misfit 50 = .ok (.iload_n 2, 1) := by decide +kernel
theorem dX9_misfit_51 : decode cX9_misfit 51 = .ok (.iload_n 1, 1) := by decide +kernel
theorem dX9_misfit_52 : decode cX9_misfit 52 = .ok (.if_icmp .ne 5, 3) := by decide +kernel
theorem dX9_misfit_55 : decode cX9_misfit 55 = .ok (.iload_n 3, 1) := by decide +kernel
theorem dX9_misfit_56 : decode cX9_misfit 56 = .ok (.ireturn, 1) := by decide +kernel
theorem dX9_misfit_57 : decode cX9_misfit 57 = .ok (.iinc 2 1, 3) := by decide +kernel
theorem dX9_misfit_60 : decode cX9_misfit 60 = .ok (.iinc 3 1, 3) := by decide +kernel
theorem dX9_misfit_63 : decode cX9_misfit 63 = .ok (.goto (-55), 3) := by decide +kernel
theorem dX9_misfit_66 : decode cX9_misfit 66 = .ok (.iconst (-1), 1) := by decide +kernel
theorem dX9_misfit_67 : decode cX9_misfit 67 = .ok (.ireturn, 1) := by decide +kernel
theorem dX9_claims_0 : decode cX9_claims 0 = .ok (.aload_n 0, 1) := by decide +kernel
theorem dX9_claims_1 : decode cX9_claims 1 = .ok (.iload_n 1, 1) := by decide +kernel
theorem dX9_claims_2 : decode cX9_claims 2 = .ok (.invokevirtual 127, 3) := by decide +kernel
theorem dX9_claims_5 : decode cX9_claims 5 = .ok (.astore_n 3, 1) := by decide +kernel
theorem dX9_claims_6 : decode cX9_claims 6 = .ok (.iconst 0, 1) := by decide +kernel
theorem dX9_claims_7 : decode cX9_claims 7 = .ok (.istore 4, 2) := by decide +kernel
theorem dX9_claims_9 : decode cX9_claims 9 = .ok (.iconst 0, 1) := by decide +kernel
theorem dX9_claims_10 : decode cX9_claims 10 = .ok (.istore 5, 2) := by decide +kernel
theorem dX9_claims_12 : decode cX9_claims 12 = .ok (.iload 5, 2) := by decide +kernel
theorem dX9_claims_14 : decode cX9_claims 14 = .ok (.aload_n 0, 1) := by decide +kernel
theorem dX9_claims_15 : decode cX9_claims 15 = .ok (.getfield 19, 3) := by decide +kernel
theorem dX9_claims_18 : decode cX9_claims 18 = .ok (.invokevirtual 142, 3) := by decide +kernel
theorem dX9_claims_21 : decode cX9_claims 21 = .ok (.if_icmp .ge 55, 3) := by decide +kernel
theorem dX9_claims_24 : decode cX9_claims 24 = .ok (.aload_n 0, 1) := by decide +kernel
theorem dX9_claims_25 : decode cX9_claims 25 = .ok (.getfield 19, 3) := by decide +kernel
theorem dX9_claims_28 : decode cX9_claims 28 = .ok (.iload 5, 2) := by decide +kernel
theorem dX9_claims_30 : decode cX9_claims 30 = .ok (.invokevirtual 225, 3) := by decide +kernel
theorem dX9_claims_33 : decode cX9_claims 33 = .ok (.astore 6, 2) := by decide +kernel
theorem dX9_claims_35 : decode cX9_claims 35 = .ok (.aload 6, 2) := by decide +kernel
theorem dX9_claims_37 : decode cX9_claims 37 = .ok (.ifnull 33, 3) := by decide +kernel
theorem dX9_claims_40 : decode cX9_claims 40 = .ok (.iload_n 2, 1) := by decide +kernel
theorem dX9_claims_41 : decode cX9_claims 41 = .ok (.ifCond .eq 16, 3) := by decide +kernel
theorem dX9_claims_44 : decode cX9_claims 44 = .ok (.aload_n 0, 1) := by decide +kernel
theorem dX9_claims_45 : decode cX9_claims 45 = .ok (.aload 6, 2) := by decide +kernel
theorem dX9_claims_47 : decode cX9_claims 47 = .ok (.aload_n 3, 1) := by decide +kernel
theorem dX9_claims_48 : decode cX9_claims 48 = .ok (.invokevirtual 226, 3) := by decide +kernel
theorem dX9_claims_51 : decode cX9_claims 51 = .ok (.ifCond .eq 19, 3) := by decide +kernel
theorem dX9_claims_54 : decode cX9_claims 54 = .ok (.goto 13, 3) := by decide +kernel
theorem dX9_claims_57 : decode cX9_claims 57 = .ok (.aload_n 0, 1) := by decide +kernel
theorem dX9_claims_58 : decode cX9_claims 58 = .ok (.aload 6, 2) := by decide +kernel
theorem dX9_claims_60 : decode cX9_claims 60 = .ok (.aload_n 3, 1) := by decide +kernel
theorem dX9_claims_61 : decode cX9_claims 61 = .ok (.invokevirtual 230, 3) := by decide +kernel
theorem dX9_claims_64 : decode cX9_claims 64 = .ok (.ifCond .eq 6, 3) := by decide +kernel
theorem dX9_claims_67 : decode cX9_claims 67 = .ok (.iinc 4 1, 3) := by decide +kernel
theorem dX9_claims_70 : decode cX9_claims 70 = .ok (.iinc 5 1, 3) := by decide +kernel
theorem dX9_claims_73 : decode cX9_claims 73 = .ok (.goto (-61), 3) := by decide +kernel
theorem dX9_claims_76 : decode cX9_claims 76 = .ok (.iload 4, 2) := by decide +kernel
theorem dX9_claims_78 : decode cX9_claims 78 = .ok (.ireturn, 1) := by decide +kernel
theorem dX9_fitting_0 : decode cX9_fitting 0 = .ok (.aload_n 0, 1) := by decide +kernel
theorem dX9_fitting_1 : decode cX9_fitting 1 = .ok (.invokevirtual 233, 3) := by decide +kernel
theorem dX9_fitting_4 : decode cX9_fitting 4 = .ok (.invokestatic 236, 3) := by decide +kernel
theorem dX9_fitting_7 : decode cX9_fitting 7 = .ok (.ireturn, 1) := by decide +kernel
theorem dX9_smallest_0 : decode cX9_smallest 0 = .ok (.aload_n 0, 1) := by decide +kernel
theorem dX9_smallest_1 : decode cX9_smallest 1 = .ok (.invokevirtual 233, 3) := by decide +kernel
theorem dX9_smallest_4 : decode cX9_smallest 4 = .ok (.lstore_n 1, 1) := by decide +kernel
theorem dX9_smallest_5 : decode cX9_smallest 5 = .ok (.iconst (-1), 1) := by decide +kernel
theorem dX9_smallest_6 : decode cX9_smallest 6 = .ok (.istore_n 3, 1) := by decide +kernel
theorem dX9_smallest_7 : decode cX9_smallest 7 = .ok (.iconst 0, 1) := by decide +kernel
theorem dX9_smallest_8 : decode cX9_smallest 8 = .ok (.istore 4, 2) := by decide +kernel
theorem dX9_smallest_10 : decode cX9_smallest 10 = .ok (.iload 4, 2) := by decide +kernel
theorem dX9_smallest_12 : decode cX9_smallest 12 = .ok (.bipush 64, 2) := by decide +kernel
theorem dX9_smallest_14 : decode cX9_smallest 14 = .ok (.if_icmp .ge 38, 3) := by decide +kernel
theorem dX9_smallest_17 : decode cX9_smallest 17 = .ok (.iload 4, 2) := by decide +kernel
theorem dX9_smallest_19 : decode cX9_smallest 19 = .ok (.lload_n 1, 1) := by decide +kernel
theorem dX9_smallest_20 : decode cX9_smallest 20 = .ok (.invokestatic 241, 3) := by decide +kernel
theorem dX9_smallest_23 : decode cX9_smallest 23 = .ok (.ifCond .eq 23, 3) := by decide +kernel
theorem dX9_smallest_26 : decode cX9_smallest 26 = .ok (.iload_n 3, 1) := by decide +kernel
theorem dX9_smallest_27 : decode cX9_smallest 27 = .ok (.iconst (-1), 1) := by decide +kernel
theorem dX9_smallest_28 : decode cX9_smallest 28 = .ok (.if_icmp .eq 15, 3) := by decide +kernel
theorem dX9_smallest_31 : decode cX9_smallest 31 = .ok (.iload 4, 2) := by decide +kernel
theorem dX9_smallest_33 : decode cX9_smallest 33 = .ok (.invokestatic 245, 3) := by decide +kernel
theorem dX9_smallest_36 : decode cX9_smallest 36 = .ok (.iload_n 3, 1) := by decide +kernel
theorem dX9_smallest_37 : decode cX9_smallest 37 = .ok (.invokestatic 245, 3) := by decide +kernel
theorem dX9_smallest_40 : decode cX9_smallest 40 = .ok (.if_icmp .ge 6, 3) := by decide +kernel
theorem dX9_smallest_43 : decode cX9_smallest 43 = .ok (.iload 4, 2) := by decide +kernel
theorem dX9_smallest_45 : decode cX9_smallest 45 = .ok (.istore_n 3, 1) := by decide +kernel
theorem dX9_smallest_46 : decode cX9_smallest 46 = .ok (.iinc 4 1, 3) := by decide +kernel
theorem dX9_smallest_49 : decode cX9_smallest 49 = .ok (.goto (-39), 3) := by decide +kernel
theorem dX9_smallest_52 : decode cX9_smallest 52 = .ok (.iload_n 3, 1) := by decide +kernel
theorem dX9_smallest_53 : decode cX9_smallest 53 = .ok (.ireturn, 1) := by decide +kernel
theorem dX9_question_0 : decode cX9_question 0 = .ok (.aload_n 0, 1) := by decide +kernel
theorem dX9_question_1 : decode cX9_question 1 = .ok (.invokevirtual 233, 3) := by decide +kernel
theorem dX9_question_4 : decode cX9_question 4 = .ok (.lstore_n 1, 1) := by decide +kernel
theorem dX9_question_5 : decode cX9_question 5 = .ok (.iconst 1, 1) := by decide +kernel
theorem dX9_question_6 : decode cX9_question 6 = .ok (.istore_n 3, 1) := by decide +kernel
theorem dX9_question_7 : decode cX9_question 7 = .ok (.iconst (-1), 1) := by decide +kernel
theorem dX9_question_8 : decode cX9_question 8 = .ok (.istore 4, 2) := by decide +kernel
theorem dX9_question_10 : decode cX9_question 10 = .ok (.iconst 0, 1) := by decide +kernel
theorem dX9_question_11 : decode cX9_question 11 = .ok (.istore 5, 2) := by decide +kernel
theorem dX9_question_13 : decode cX9_question 13 = .ok (.iload 5, 2) := by decide +kernel
theorem dX9_question_15 : decode cX9_question 15 = .ok (.aload_n 0, 1) := by decide +kernel
theorem dX9_question_16 : decode cX9_question 16 = .ok (.getfield 19, 3) := by decide +kernel
theorem dX9_question_19 : decode cX9_question 19 = .ok (.invokevirtual 249, 3) := by decide +kernel
theorem dX9_question_22 : decode cX9_question 22 = .ok (.if_icmp .ge 115, 3) := by decide +kernel
theorem dX9_question_25 : decode cX9_question 25 = .ok (.aload_n 0, 1) := by decide +kernel
theorem dX9_question_26 : decode cX9_question 26 = .ok (.getfield 19, 3) := by decide +kernel
theorem dX9_question_29 : decode cX9_question 29 = .ok (.iload 5, 2) := by decide +kernel
theorem dX9_question_31 : decode cX9_question 31 = .ok (.invokevirtual 252, 3) := by decide +kernel
theorem dX9_question_34 : decode cX9_question 34 = .ok (.astore 6, 2) := by decide +kernel
theorem dX9_question_36 : decode cX9_question 36 = .ok (.aload 6, 2) := by decide +kernel
theorem dX9_question_38 : decode cX9_question 38 = .ok (.ifnonnull 6, 3) := by decide +kernel
theorem dX9_question_41 : decode cX9_question 41 = .ok (.goto 90, 3) := by decide +kernel
theorem dX9_question_44 : decode cX9_question 44 = .ok (.aload_n 0, 1) := by decide +kernel
theorem dX9_question_45 : decode cX9_question 45 = .ok (.getfield 19, 3) := by decide +kernel
theorem dX9_question_48 : decode cX9_question 48 = .ok (.aload 6, 2) := by decide +kernel
theorem dX9_question_50 : decode cX9_question 50 = .ok (.invokevirtual 253, 3) := by decide +kernel
theorem dX9_question_53 : decode cX9_question 53 = .ok (.istore 7, 2) := by decide +kernel
theorem dX9_question_55 : decode cX9_question 55 = .ok (.iconst 0, 1) := by decide +kernel
theorem dX9_question_56 : decode cX9_question 56 = .ok (.istore 8, 2) := by decide +kernel
theorem dX9_question_58 : decode cX9_question 58 = .ok (.iload 8, 2) := by decide +kernel
theorem dX9_question_60 : decode cX9_question 60 = .ok (.bipush 8, 2) := by decide +kernel
theorem dX9_question_62 : decode cX9_question 62 = .ok (.if_icmp .ge 69, 3) := by decide +kernel
theorem dX9_question_65 : decode cX9_question 65 = .ok (.iload 7, 2) := by decide +kernel
theorem dX9_question_67 : decode cX9_question 67 = .ok (.iload 8, 2) := by decide +kernel
theorem dX9_question_69 : decode cX9_question 69 = .ok (.iushr, 1) := by decide +kernel
theorem dX9_question_70 : decode cX9_question 70 = .ok (.iconst 1, 1) := by decide +kernel
theorem dX9_question_71 : decode cX9_question 71 = .ok (.iand, 1) := by decide +kernel
theorem dX9_question_72 : decode cX9_question 72 = .ok (.ifCond .ne 53, 3) := by decide +kernel
theorem dX9_question_75 : decode cX9_question 75 = .ok (.aload 6, 2) := by decide +kernel
theorem dX9_question_77 : decode cX9_question 77 = .ok (.getfield 163, 3) := by decide +kernel
theorem dX9_question_80 : decode cX9_question 80 = .ok (.iload 8, 2) := by decide +kernel
theorem dX9_question_82 : decode cX9_question 82 = .ok (.invokevirtual 166, 3) := by decide +kernel
theorem dX9_question_85 : decode cX9_question 85 = .ok (.ifCond .eq 6, 3) := by decide +kernel
theorem dX9_question_88 : decode cX9_question 88 = .ok (.goto 37, 3) := by decide +kernel
theorem dX9_question_91 : decode cX9_question 91 = .ok (.aload_n 0, 1) := by decide +kernel
theorem dX9_question_92 : decode cX9_question 92 = .ok (.aload_n 0, 1) := by decide +kernel
theorem dX9_question_93 : decode cX9_question 93 = .ok (.aload 6, 2) := by decide +kernel
theorem dX9_question_95 : decode cX9_question 95 = .ok (.iload 8, 2) := by decide +kernel
theorem dX9_question_97 : decode cX9_question 97 = .ok (.invokevirtual 203, 3) := by decide +kernel
theorem dX9_question_100 : decode cX9_question 100 = .ok (.lload_n 1, 1) := by decide +kernel
theorem dX9_question_101 : decode cX9_question 101 = .ok (.invokevirtual 257, 3) := by decide +kernel
theorem dX9_question_104 : decode cX9_question 104 = .ok (.istore 9, 2) := by decide +kernel
theorem dX9_question_106 : decode cX9_question 106 = .ok (.iload 9, 2) := by decide +kernel
theorem dX9_question_108 : decode cX9_question 108 = .ok (.iload_n 3, 1) := by decide +kernel
theorem dX9_question_109 : decode cX9_question 109 = .ok (.if_icmp .le 16, 3) := by decide +kernel
theorem dX9_question_112 : decode cX9_question 112 = .ok (.iload 9, 2) := by decide +kernel
theorem dX9_question_114 : decode cX9_question 114 = .ok (.istore_n 3, 1) := by decide +kernel
theorem dX9_question_115 : decode cX9_question 115 = .ok (.bipush 8, 2) := by decide +kernel
theorem dX9_question_117 : decode cX9_question 117 = .ok (.iload 5, 2) := by decide +kernel
theorem dX9_question_119 : decode cX9_question 119 = .ok (.imul, 1) := by decide +kernel
theorem dX9_question_120 : decode cX9_question 120 = .ok (.iload 8, 2) := by decide +kernel
theorem dX9_question_122 : decode cX9_question 122 = .ok (.iadd, 1) := by decide +kernel
theorem dX9_question_123 : decode cX9_question 123 = .ok (.istore 4, 2) := by decide +kernel
theorem dX9_question_125 : decode cX9_question 125 = .ok (.iinc 8 1, 3) := by decide +kernel
theorem dX9_question_128 : decode cX9_question 128 = .ok (.goto (-70), 3) := by decide +kernel
theorem dX9_question_131 : decode cX9_question 131 = .ok (.iinc 5 1, 3) := by decide +kernel
theorem dX9_question_134 : decode cX9_question 134 = .ok (.goto (-121), 3) := by decide +kernel
theorem dX9_question_137 : decode cX9_question 137 = .ok (.iload 4, 2) := by decide +kernel
theorem dX9_question_139 : decode cX9_question 139 = .ok (.ireturn, 1) := by decide +kernel
theorem dX9_pairs_0 : decode cX9_pairs 0 = .ok (.aload_n 0, 1) := by decide +kernel
theorem dX9_pairs_1 : decode cX9_pairs 1 = .ok (.iload_n 1, 1) := by decide +kernel
theorem dX9_pairs_2 : decode cX9_pairs 2 = .ok (.invokevirtual 62, 3) := by decide +kernel
theorem dX9_pairs_5 : decode cX9_pairs 5 = .ok (.aload_n 0, 1) := by decide +kernel
theorem dX9_pairs_6 : decode cX9_pairs 6 = .ok (.iload_n 2, 1) := by decide +kernel
theorem dX9_pairs_7 : decode cX9_pairs 7 = .ok (.invokevirtual 62, 3) := by decide +kernel
theorem dX9_pairs_10 : decode cX9_pairs 10 = .ok (.iload_n 1, 1) := by decide +kernel
theorem dX9_pairs_11 : decode cX9_pairs 11 = .ok (.iload_n 2, 1) := by decide +kernel
theorem dX9_pairs_12 : decode cX9_pairs 12 = .ok (.if_icmp .ne 11, 3) := by decide +kernel
theorem dX9_pairs_15 : decode cX9_pairs 15 = .ok (.new 172, 3) := by decide +kernel
theorem dX9_pairs_18 : decode cX9_pairs 18 = .ok (.dup, 1) := by decide +kernel
theorem dX9_pairs_19 : decode cX9_pairs 19 = .ok (.invokespecial 174, 3) := by decide +kernel
theorem dX9_pairs_22 : decode cX9_pairs 22 = .ok (.athrow, 1) := by decide +kernel
theorem dX9_pairs_23 : decode cX9_pairs 23 = .ok (.iconst 0, 1) := by decide +kernel
theorem dX9_pairs_24 : decode cX9_pairs 24 = .ok (.istore_n 3, 1) := by decide +kernel
theorem dX9_pairs_25 : decode cX9_pairs 25 = .ok (.iconst 0, 1) := by decide +kernel
theorem dX9_pairs_26 : decode cX9_pairs 26 = .ok (.istore 4, 2) := by decide +kernel
theorem dX9_pairs_28 : decode cX9_pairs 28 = .ok (.iload 4, 2) := by decide +kernel
theorem dX9_pairs_30 : decode cX9_pairs 30 = .ok (.aload_n 0, 1) := by decide +kernel
theorem dX9_pairs_31 : decode cX9_pairs 31 = .ok (.getfield 19, 3) := by decide +kernel
theorem dX9_pairs_34 : decode cX9_pairs 34 = .ok (.invokevirtual 142, 3) := by decide +kernel
theorem dX9_pairs_37 : decode cX9_pairs 37 = .ok (.if_icmp .ge 66, 3) := by decide +kernel
theorem dX9_pairs_40 : decode cX9_pairs 40 = .ok (.aload_n 0, 1) := by decide +kernel
theorem dX9_pairs_41 : decode cX9_pairs 41 = .ok (.getfield 19, 3) := by decide +kernel
theorem dX9_pairs_44 : decode cX9_pairs 44 = .ok (.iload 4, 2) := by decide +kernel
theorem dX9_pairs_46 : decode cX9_pairs 46 = .ok (.invokevirtual 225, 3) := by decide +kernel
theorem dX9_pairs_49 : decode cX9_pairs 49 = .ok (.astore 5, 2) := by decide +kernel
theorem dX9_pairs_51 : decode cX9_pairs 51 = .ok (.iload 4, 2) := by decide +kernel
theorem dX9_pairs_53 : decode cX9_pairs 53 = .ok (.iconst 1, 1) := by decide +kernel
theorem dX9_pairs_54 : decode cX9_pairs 54 = .ok (.iadd, 1) := by decide +kernel
theorem dX9_pairs_55 : decode cX9_pairs 55 = .ok (.istore 6, 2) := by decide +kernel
theorem dX9_pairs_57 : decode cX9_pairs 57 = .ok (.iload 6, 2) := by decide +kernel
theorem dX9_pairs_59 : decode cX9_pairs 59 = .ok (.aload_n 0, 1) := by decide +kernel
theorem dX9_pairs_60 : decode cX9_pairs 60 = .ok (.getfield 19, 3) := by decide +kernel
theorem dX9_pairs_63 : decode cX9_pairs 63 = .ok (.invokevirtual 142, 3) := by decide +kernel
theorem dX9_pairs_66 : decode cX9_pairs 66 = .ok (.if_icmp .ge 31, 3) := by decide +kernel
theorem dX9_pairs_69 : decode cX9_pairs 69 = .ok (.aload 5, 2) := by decide +kernel
theorem dX9_pairs_71 : decode cX9_pairs 71 = .ok (.aload_n 0, 1) := by decide +kernel
theorem dX9_pairs_72 : decode cX9_pairs 72 = .ok (.getfield 19, 3) := by decide +kernel
theorem dX9_pairs_75 : decode cX9_pairs 75 = .ok (.iload 6, 2) := by decide +kernel
theorem dX9_pairs_77 : decode cX9_pairs 77 = .ok (.invokevirtual 225, 3) := by decide +kernel
theorem dX9_pairs_80 : decode cX9_pairs 80 = .ok (.iload_n 1, 1) := by decide +kernel
theorem dX9_pairs_81 : decode cX9_pairs 81 = .ok (.iload_n 2, 1) := by decide +kernel
theorem dX9_pairs_82 : decode cX9_pairs 82 = .ok (.invokestatic 261, 3) := by decide +kernel
theorem dX9_pairs_85 : decode cX9_pairs 85 = .ok (.ifCond .eq 6, 3) := by decide +kernel
theorem dX9_pairs_88 : decode cX9_pairs 88 = .ok (.iinc 3 1, 3) := by decide +kernel
theorem dX9_pairs_91 : decode cX9_pairs 91 = .ok (.iinc 6 1, 3) := by decide +kernel
theorem dX9_pairs_94 : decode cX9_pairs 94 = .ok (.goto (-37), 3) := by decide +kernel
theorem dX9_pairs_97 : decode cX9_pairs 97 = .ok (.iinc 4 1, 3) := by decide +kernel
theorem dX9_pairs_100 : decode cX9_pairs 100 = .ok (.goto (-72), 3) := by decide +kernel
theorem dX9_pairs_103 : decode cX9_pairs 103 = .ok (.iload_n 3, 1) := by decide +kernel
theorem dX9_pairs_104 : decode cX9_pairs 104 = .ok (.ireturn, 1) := by decide +kernel
theorem dX9_holes_0 : decode cX9_holes 0 = .ok (.sipush 255, 3) := by decide +kernel
theorem dX9_holes_3 : decode cX9_holes 3 = .ok (.aload_n 0, 1) := by decide +kernel
theorem dX9_holes_4 : decode cX9_holes 4 = .ok (.getfield 19, 3) := by decide +kernel
theorem dX9_holes_7 : decode cX9_holes 7 = .ok (.aload_n 0, 1) := by decide +kernel
theorem dX9_holes_8 : decode cX9_holes 8 = .ok (.iload_n 1, 1) := by decide +kernel
theorem dX9_holes_9 : decode cX9_holes 9 = .ok (.invokevirtual 96, 3) := by decide +kernel
theorem dX9_holes_12 : decode cX9_holes 12 = .ok (.invokevirtual 253, 3) := by decide +kernel
theorem dX9_holes_15 : decode cX9_holes 15 = .ok (.iconst (-1), 1) := by decide +kernel
theorem dX9_holes_16 : decode cX9_holes 16 = .ok (.ixor, 1) := by decide +kernel
theorem dX9_holes_17 : decode cX9_holes 17 = .ok (.iand, 1) := by decide +kernel
theorem dX9_holes_18 : decode cX9_holes 18 = .ok (.ireturn, 1) := by decide +kernel
theorem dX9_shared_0 : decode cX9_shared 0 = .ok (.iload_n 1, 1) := by decide +kernel
theorem dX9_shared_1 : decode cX9_shared 1 = .ok (.invokestatic 139, 3) := by decide +kernel
theorem dX9_shared_4 : decode cX9_shared 4 = .ok (.iload_n 2, 1) := by decide +kernel
theorem dX9_shared_5 : decode cX9_shared 5 = .ok (.invokestatic 139, 3) := by decide +kernel
theorem dX9_shared_8 : decode cX9_shared 8 = .ok (.iconst 0, 1) := by decide +kernel
theorem dX9_shared_9 : decode cX9_shared 9 = .ok (.istore_n 3, 1) := by decide +kernel
theorem dX9_shared_10 : decode cX9_shared 10 = .ok (.iconst 0, 1) := by decide +kernel
theorem dX9_shared_11 : decode cX9_shared 11 = .ok (.istore 4, 2) := by decide +kernel
theorem dX9_shared_13 : decode cX9_shared 13 = .ok (.iload 4, 2) := by decide +kernel
theorem dX9_shared_15 : decode cX9_shared 15 = .ok (.aload_n 0, 1) := by decide +kernel
theorem dX9_shared_16 : decode cX9_shared 16 = .ok (.getfield 19, 3) := by decide +kernel
theorem dX9_shared_19 : decode cX9_shared 19 = .ok (.invokevirtual 249, 3) := by decide +kernel
theorem dX9_shared_22 : decode cX9_shared 22 = .ok (.if_icmp .ge 42, 3) := by decide +kernel
theorem dX9_shared_25 : decode cX9_shared 25 = .ok (.aload_n 0, 1) := by decide +kernel
theorem dX9_shared_26 : decode cX9_shared 26 = .ok (.getfield 19, 3) := by decide +kernel
theorem dX9_shared_29 : decode cX9_shared 29 = .ok (.iload 4, 2) := by decide +kernel
theorem dX9_shared_31 : decode cX9_shared 31 = .ok (.invokevirtual 252, 3) := by decide +kernel
theorem dX9_shared_34 : decode cX9_shared 34 = .ok (.astore 5, 2) := by decide +kernel
theorem dX9_shared_36 : decode cX9_shared 36 = .ok (.aload 5, 2) := by decide +kernel
theorem dX9_shared_38 : decode cX9_shared 38 = .ok (.ifnull 20, 3) := by decide +kernel
theorem dX9_shared_41 : decode cX9_shared 41 = .ok (.iload_n 3, 1) := by decide +kernel
theorem dX9_shared_42 : decode cX9_shared 42 = .ok (.aload_n 0, 1) := by decide +kernel
theorem dX9_shared_43 : decode cX9_shared 43 = .ok (.getfield 19, 3) := by decide +kernel
theorem dX9_shared_46 : decode cX9_shared 46 = .ok (.aload 5, 2) := by decide +kernel
theorem dX9_shared_48 : decode cX9_shared 48 = .ok (.iload_n 1, 1) := by decide +kernel
theorem dX9_shared_49 : decode cX9_shared 49 = .ok (.iload_n 2, 1) := by decide +kernel
theorem dX9_shared_50 : decode cX9_shared 50 = .ok (.invokevirtual 265, 3) := by decide +kernel
theorem dX9_shared_53 : decode cX9_shared 53 = .ok (.invokestatic 245, 3) := by decide +kernel
theorem dX9_shared_56 : decode cX9_shared 56 = .ok (.iadd, 1) := by decide +kernel
theorem dX9_shared_57 : decode cX9_shared 57 = .ok (.istore_n 3, 1) := by decide +kernel
theorem dX9_shared_58 : decode cX9_shared 58 = .ok (.iinc 4 1, 3) := by decide +kernel
theorem dX9_shared_61 : decode cX9_shared 61 = .ok (.goto (-48), 3) := by decide +kernel
theorem dX9_shared_64 : decode cX9_shared 64 = .ok (.iload_n 3, 1) := by decide +kernel
theorem dX9_shared_65 : decode cX9_shared 65 = .ok (.ireturn, 1) := by decide +kernel
theorem dX9_checkFeatures_0 : decode cX9_checkFeatures 0 = .ok (.iload_n 0, 1) := by decide +kernel
theorem dX9_checkFeatures_1 : decode cX9_checkFeatures 1 = .ok (.ifCond .lt 9, 3) := by decide +kernel
theorem dX9_checkFeatures_4 : decode cX9_checkFeatures 4 = .ok (.iload_n 0, 1) := by decide +kernel
theorem dX9_checkFeatures_5 : decode cX9_checkFeatures 5 = .ok (.bipush 64, 2) := by decide +kernel
theorem dX9_checkFeatures_7 : decode cX9_checkFeatures 7 = .ok (.if_icmp .lt 11, 3) := by decide +kernel
theorem dX9_checkFeatures_10 : decode cX9_checkFeatures 10 = .ok (.new 172, 3) := by decide +kernel
theorem dX9_checkFeatures_13 : decode cX9_checkFeatures 13 = .ok (.dup, 1) := by decide +kernel
theorem dX9_checkFeatures_14 : decode cX9_checkFeatures 14 = .ok (.invokespecial 174, 3) := by decide +kernel
theorem dX9_checkFeatures_17 : decode cX9_checkFeatures 17 = .ok (.athrow, 1) := by decide +kernel
theorem dX9_checkFeatures_18 : decode cX9_checkFeatures 18 = .ok (.return_, 1) := by decide +kernel
theorem dX9_checkSound_0 : decode cX9_checkSound 0 = .ok (.iload_n 1, 1) := by decide +kernel
theorem dX9_checkSound_1 : decode cX9_checkSound 1 = .ok (.ifCond .lt 14, 3) := by decide +kernel
theorem dX9_checkSound_4 : decode cX9_checkSound 4 = .ok (.iload_n 1, 1) := by decide +kernel
theorem dX9_checkSound_5 : decode cX9_checkSound 5 = .ok (.aload_n 0, 1) := by decide +kernel
theorem dX9_checkSound_6 : decode cX9_checkSound 6 = .ok (.getfield 10, 3) := by decide +kernel
theorem dX9_checkSound_9 : decode cX9_checkSound 9 = .ok (.invokevirtual 44, 3) := by decide +kernel
theorem dX9_checkSound_12 : decode cX9_checkSound 12 = .ok (.if_icmp .lt 11, 3) := by decide +kernel
theorem dX9_checkSound_15 : decode cX9_checkSound 15 = .ok (.new 117, 3) := by decide +kernel
theorem dX9_checkSound_18 : decode cX9_checkSound 18 = .ok (.dup, 1) := by decide +kernel
theorem dX9_checkSound_19 : decode cX9_checkSound 19 = .ok (.invokespecial 119, 3) := by decide +kernel
theorem dX9_checkSound_22 : decode cX9_checkSound 22 = .ok (.athrow, 1) := by decide +kernel
theorem dX9_checkSound_23 : decode cX9_checkSound 23 = .ok (.return_, 1) := by decide +kernel
theorem dX9_checkCell_0 : decode cX9_checkCell 0 = .ok (.iload_n 0, 1) := by decide +kernel
theorem dX9_checkCell_1 : decode cX9_checkCell 1 = .ok (.invokestatic 269, 3) := by decide +kernel
theorem dX9_checkCell_4 : decode cX9_checkCell 4 = .ok (.ifCond .ne 11, 3) := by decide +kernel
theorem dX9_checkCell_7 : decode cX9_checkCell 7 = .ok (.new 117, 3) := by decide +kernel
theorem dX9_checkCell_10 : decode cX9_checkCell 10 = .ok (.dup, 1) := by decide +kernel
theorem dX9_checkCell_11 : decode cX9_checkCell 11 = .ok (.invokespecial 119, 3) := by decide +kernel
theorem dX9_checkCell_14 : decode cX9_checkCell 14 = .ok (.athrow, 1) := by decide +kernel
theorem dX9_checkCell_15 : decode cX9_checkCell 15 = .ok (.return_, 1) := by decide +kernel
theorem dX9_checkSpeaker_0 : decode cX9_checkSpeaker 0 = .ok (.iload_n 0, 1) := by decide +kernel
theorem dX9_checkSpeaker_1 : decode cX9_checkSpeaker 1 = .ok (.ifCond .lt 8, 3) := by decide +kernel
theorem dX9_checkSpeaker_4 : decode cX9_checkSpeaker 4 = .ok (.iload_n 0, 1) := by decide +kernel
theorem dX9_checkSpeaker_5 : decode cX9_checkSpeaker 5 = .ok (.iconst 4, 1) := by decide +kernel
theorem dX9_checkSpeaker_6 : decode cX9_checkSpeaker 6 = .ok (.if_icmp .lt 11, 3) := by decide +kernel
theorem dX9_checkSpeaker_9 : decode cX9_checkSpeaker 9 = .ok (.new 117, 3) := by decide +kernel
theorem dX9_checkSpeaker_12 : decode cX9_checkSpeaker 12 = .ok (.dup, 1) := by decide +kernel
theorem dX9_checkSpeaker_13 : decode cX9_checkSpeaker 13 = .ok (.invokespecial 119, 3) := by decide +kernel
theorem dX9_checkSpeaker_16 : decode cX9_checkSpeaker 16 = .ok (.athrow, 1) := by decide +kernel
theorem dX9_checkSpeaker_17 : decode cX9_checkSpeaker 17 = .ok (.return_, 1) := by decide +kernel
theorem dX9_checkPlace_0 : decode cX9_checkPlace 0 = .ok (.iload_n 0, 1) := by decide +kernel
theorem dX9_checkPlace_1 : decode cX9_checkPlace 1 = .ok (.ifCond .ge 11, 3) := by decide +kernel
theorem dX9_checkPlace_4 : decode cX9_checkPlace 4 = .ok (.new 117, 3) := by decide +kernel
theorem dX9_checkPlace_7 : decode cX9_checkPlace 7 = .ok (.dup, 1) := by decide +kernel
theorem dX9_checkPlace_8 : decode cX9_checkPlace 8 = .ok (.invokespecial 119, 3) := by decide +kernel
theorem dX9_checkPlace_11 : decode cX9_checkPlace 11 = .ok (.athrow, 1) := by decide +kernel
theorem dX9_checkPlace_12 : decode cX9_checkPlace 12 = .ok (.return_, 1) := by decide +kernel
theorem dX9_checkDraftIsForm_0 : decode cX9_checkDraftIsForm 0 = .ok (.aload_n 0, 1) := by decide +kernel
theorem dX9_checkDraftIsForm_1 : decode cX9_checkDraftIsForm 1 = .ok (.getfield 32, 3) := by decide +kernel
theorem dX9_checkDraftIsForm_4 : decode cX9_checkDraftIsForm 4 = .ok (.invokestatic 65, 3) := by decide +kernel
theorem dX9_checkDraftIsForm_7 : decode cX9_checkDraftIsForm 7 = .ok (.istore_n 1, 1) := by decide +kernel
theorem dX9_checkDraftIsForm_8 : decode cX9_checkDraftIsForm 8 = .ok (.iload_n 1, 1) := by decide +kernel
theorem dX9_checkDraftIsForm_9 : decode cX9_checkDraftIsForm 9 = .ok (.iconst 1, 1) := by decide +kernel
theorem dX9_checkDraftIsForm_10 : decode cX9_checkDraftIsForm 10 = .ok (.if_icmp .lt 9, 3) := by decide +kernel
theorem dX9_checkDraftIsForm_13 : decode cX9_checkDraftIsForm 13 = .ok (.iload_n 1, 1) := by decide +kernel
theorem dX9_checkDraftIsForm_14 : decode cX9_checkDraftIsForm 14 = .ok (.bipush 6, 2) := by decide +kernel
theorem dX9_checkDraftIsForm_16 : decode cX9_checkDraftIsForm 16 = .ok (.if_icmp .le 11, 3) := by decide +kernel
theorem dX9_checkDraftIsForm_19 : decode cX9_checkDraftIsForm 19 = .ok (.new 48, 3) := by decide +kernel
theorem dX9_checkDraftIsForm_22 : decode cX9_checkDraftIsForm 22 = .ok (.dup, 1) := by decide +kernel
theorem dX9_checkDraftIsForm_23 : decode cX9_checkDraftIsForm 23 = .ok (.invokespecial 50, 3) := by decide +kernel
theorem dX9_checkDraftIsForm_26 : decode cX9_checkDraftIsForm 26 = .ok (.athrow, 1) := by decide +kernel
theorem dX9_checkDraftIsForm_27 : decode cX9_checkDraftIsForm 27 = .ok (.return_, 1) := by decide +kernel
theorem dX9_checkLexemesLeft_0 : decode cX9_checkLexemesLeft 0 = .ok (.aload_n 0, 1) := by decide +kernel
theorem dX9_checkLexemesLeft_1 : decode cX9_checkLexemesLeft 1 = .ok (.getfield 19, 3) := by decide +kernel
theorem dX9_checkLexemesLeft_4 : decode cX9_checkLexemesLeft 4 = .ok (.invokevirtual 249, 3) := by decide +kernel
theorem dX9_checkLexemesLeft_7 : decode cX9_checkLexemesLeft 7 = .ok (.bipush 16, 2) := by decide +kernel
theorem dX9_checkLexemesLeft_9 : decode cX9_checkLexemesLeft 9 = .ok (.if_icmp .lt 11, 3) := by decide +kernel
theorem dX9_checkLexemesLeft_12 : decode cX9_checkLexemesLeft 12 = .ok (.new 48, 3) := by decide +kernel
theorem dX9_checkLexemesLeft_15 : decode cX9_checkLexemesLeft 15 = .ok (.dup, 1) := by decide +kernel
theorem dX9_checkLexemesLeft_16 : decode cX9_checkLexemesLeft 16 = .ok (.invokespecial 50, 3) := by decide +kernel
theorem dX9_checkLexemesLeft_19 : decode cX9_checkLexemesLeft 19 = .ok (.athrow, 1) := by decide +kernel
theorem dX9_checkLexemesLeft_20 : decode cX9_checkLexemesLeft 20 = .ok (.return_, 1) := by decide +kernel
theorem dX9_lexemeNumbered_0 : decode cX9_lexemeNumbered 0 = .ok (.aload_n 0, 1) := by decide +kernel
theorem dX9_lexemeNumbered_1 : decode cX9_lexemeNumbered 1 = .ok (.getfield 19, 3) := by decide +kernel
theorem dX9_lexemeNumbered_4 : decode cX9_lexemeNumbered 4 = .ok (.iload_n 1, 1) := by decide +kernel
theorem dX9_lexemeNumbered_5 : decode cX9_lexemeNumbered 5 = .ok (.invokevirtual 252, 3) := by decide +kernel
theorem dX9_lexemeNumbered_8 : decode cX9_lexemeNumbered 8 = .ok (.astore_n 2, 1) := by decide +kernel
theorem dX9_lexemeNumbered_9 : decode cX9_lexemeNumbered 9 = .ok (.aload_n 2, 1) := by decide +kernel
theorem dX9_lexemeNumbered_10 : decode cX9_lexemeNumbered 10 = .ok (.ifnonnull 11, 3) := by decide +kernel
theorem dX9_lexemeNumbered_13 : decode cX9_lexemeNumbered 13 = .ok (.new 117, 3) := by decide +kernel
theorem dX9_lexemeNumbered_16 : decode cX9_lexemeNumbered 16 = .ok (.dup, 1) := by decide +kernel
theorem dX9_lexemeNumbered_17 : decode cX9_lexemeNumbered 17 = .ok (.invokespecial 119, 3) := by decide +kernel
theorem dX9_lexemeNumbered_20 : decode cX9_lexemeNumbered 20 = .ok (.athrow, 1) := by decide +kernel
theorem dX9_lexemeNumbered_21 : decode cX9_lexemeNumbered 21 = .ok (.aload_n 2, 1) := by decide +kernel
theorem dX9_lexemeNumbered_22 : decode cX9_lexemeNumbered 22 = .ok (.areturn, 1) := by decide +kernel
theorem dX9_wordNumbered_0 : decode cX9_wordNumbered 0 = .ok (.aload_n 0, 1) := by decide +kernel
theorem dX9_wordNumbered_1 : decode cX9_wordNumbered 1 = .ok (.getfield 19, 3) := by decide +kernel
theorem dX9_wordNumbered_4 : decode cX9_wordNumbered 4 = .ok (.iload_n 1, 1) := by decide +kernel
theorem dX9_wordNumbered_5 : decode cX9_wordNumbered 5 = .ok (.invokevirtual 225, 3) := by decide +kernel
theorem dX9_wordNumbered_8 : decode cX9_wordNumbered 8 = .ok (.astore_n 2, 1) := by decide +kernel
theorem dX9_wordNumbered_9 : decode cX9_wordNumbered 9 = .ok (.aload_n 2, 1) := by decide +kernel
theorem dX9_wordNumbered_10 : decode cX9_wordNumbered 10 = .ok (.ifnonnull 11, 3) := by decide +kernel
theorem dX9_wordNumbered_13 : decode cX9_wordNumbered 13 = .ok (.new 117, 3) := by decide +kernel
theorem dX9_wordNumbered_16 : decode cX9_wordNumbered 16 = .ok (.dup, 1) := by decide +kernel
theorem dX9_wordNumbered_17 : decode cX9_wordNumbered 17 = .ok (.invokespecial 119, 3) := by decide +kernel
theorem dX9_wordNumbered_20 : decode cX9_wordNumbered 20 = .ok (.athrow, 1) := by decide +kernel
theorem dX9_wordNumbered_21 : decode cX9_wordNumbered 21 = .ok (.aload_n 2, 1) := by decide +kernel
theorem dX9_wordNumbered_22 : decode cX9_wordNumbered 22 = .ok (.areturn, 1) := by decide +kernel
theorem dX9_ruleNumbered_0 : decode cX9_ruleNumbered 0 = .ok (.aload_n 0, 1) := by decide +kernel
theorem dX9_ruleNumbered_1 : decode cX9_ruleNumbered 1 = .ok (.getfield 10, 3) := by decide +kernel
theorem dX9_ruleNumbered_4 : decode cX9_ruleNumbered 4 = .ok (.iload_n 1, 1) := by decide +kernel
theorem dX9_ruleNumbered_5 : decode cX9_ruleNumbered 5 = .ok (.invokevirtual 272, 3) := by decide +kernel
theorem dX9_ruleNumbered_8 : decode cX9_ruleNumbered 8 = .ok (.astore_n 2, 1) := by decide +kernel
theorem dX9_ruleNumbered_9 : decode cX9_ruleNumbered 9 = .ok (.aload_n 2, 1) := by decide +kernel
theorem dX9_ruleNumbered_10 : decode cX9_ruleNumbered 10 = .ok (.ifnonnull 11, 3) := by decide +kernel
theorem dX9_ruleNumbered_13 : decode cX9_ruleNumbered 13 = .ok (.new 117, 3) := by decide +kernel
theorem dX9_ruleNumbered_16 : decode cX9_ruleNumbered 16 = .ok (.dup, 1) := by decide +kernel
theorem dX9_ruleNumbered_17 : decode cX9_ruleNumbered 17 = .ok (.invokespecial 119, 3) := by decide +kernel
theorem dX9_ruleNumbered_20 : decode cX9_ruleNumbered 20 = .ok (.athrow, 1) := by decide +kernel
theorem dX9_ruleNumbered_21 : decode cX9_ruleNumbered 21 = .ok (.aload_n 2, 1) := by decide +kernel
theorem dX9_ruleNumbered_22 : decode cX9_ruleNumbered 22 = .ok (.areturn, 1) := by decide +kernel
theorem dX9_takeDraft_0 : decode cX9_takeDraft 0 = .ok (.aload_n 0, 1) := by decide +kernel
theorem dX9_takeDraft_1 : decode cX9_takeDraft 1 = .ok (.getfield 32, 3) := by decide +kernel
theorem dX9_takeDraft_4 : decode cX9_takeDraft 4 = .ok (.lstore_n 1, 1) := by decide +kernel
theorem dX9_takeDraft_5 : decode cX9_takeDraft 5 = .ok (.aload_n 0, 1) := by decide +kernel
theorem dX9_takeDraft_6 : decode cX9_takeDraft 6 = .ok (.lconst 0, 1) := by decide +kernel
theorem dX9_takeDraft_7 : decode cX9_takeDraft 7 = .ok (.putfield 32, 3) := by decide +kernel
theorem dX9_takeDraft_10 : decode cX9_takeDraft 10 = .ok (.lload_n 1, 1) := by decide +kernel
theorem dX9_takeDraft_11 : decode cX9_takeDraft 11 = .ok (.lreturn, 1) := by decide +kernel
theorem dX9_underlying_0 : decode cX9_underlying 0 = .ok (.aload_n 1, 1) := by decide +kernel
theorem dX9_underlying_1 : decode cX9_underlying 1 = .ok (.getfield 100, 3) := by decide +kernel
theorem dX9_underlying_4 : decode cX9_underlying 4 = .ok (.aload_n 0, 1) := by decide +kernel
theorem dX9_underlying_5 : decode cX9_underlying 5 = .ok (.getfield 26, 3) := by decide +kernel
theorem dX9_underlying_8 : decode cX9_underlying 8 = .ok (.iload_n 2, 1) := by decide +kernel
theorem dX9_underlying_9 : decode cX9_underlying 9 = .ok (.invokevirtual 273, 3) := by decide +kernel
theorem dX9_underlying_12 : decode cX9_underlying 12 = .ok (.invokestatic 277, 3) := by decide +kernel
theorem dX9_underlying_15 : decode cX9_underlying 15 = .ok (.lreturn, 1) := by decide +kernel
theorem dX9_wordOf_0 : decode cX9_wordOf 0 = .ok (.aload_n 1, 1) := by decide +kernel
theorem dX9_wordOf_1 : decode cX9_wordOf 1 = .ok (.getfield 163, 3) := by decide +kernel
theorem dX9_wordOf_4 : decode cX9_wordOf 4 = .ok (.iload_n 2, 1) := by decide +kernel
theorem dX9_wordOf_5 : decode cX9_wordOf 5 = .ok (.invokevirtual 166, 3) := by decide +kernel
theorem dX9_wordOf_8 : decode cX9_wordOf 8 = .ok (.ifCond .eq 12, 3) := by decide +kernel
theorem dX9_wordOf_11 : decode cX9_wordOf 11 = .ok (.aload_n 1, 1) := by decide +kernel
theorem dX9_wordOf_12 : decode cX9_wordOf 12 = .ok (.getfield 163, 3) := by decide +kernel
theorem dX9_wordOf_15 : decode cX9_wordOf 15 = .ok (.iload_n 2, 1) := by decide +kernel
theorem dX9_wordOf_16 : decode cX9_wordOf 16 = .ok (.invokevirtual 273, 3) := by decide +kernel
theorem dX9_wordOf_19 : decode cX9_wordOf 19 = .ok (.lreturn, 1) := by decide +kernel
theorem dX9_wordOf_20 : decode cX9_wordOf 20 = .ok (.aload_n 0, 1) := by decide +kernel
theorem dX9_wordOf_21 : decode cX9_wordOf 21 = .ok (.getfield 10, 3) := by decide +kernel
theorem dX9_wordOf_24 : decode cX9_wordOf 24 = .ok (.aload_n 0, 1) := by decide +kernel
theorem dX9_wordOf_25 : decode cX9_wordOf 25 = .ok (.aload_n 1, 1) := by decide +kernel
theorem dX9_wordOf_26 : decode cX9_wordOf 26 = .ok (.iload_n 2, 1) := by decide +kernel
theorem dX9_wordOf_27 : decode cX9_wordOf 27 = .ok (.invokevirtual 203, 3) := by decide +kernel
theorem dX9_wordOf_30 : decode cX9_wordOf 30 = .ok (.iload_n 3, 1) := by decide +kernel
theorem dX9_wordOf_31 : decode cX9_wordOf 31 = .ok (.invokevirtual 281, 3) := by decide +kernel
theorem dX9_wordOf_34 : decode cX9_wordOf 34 = .ok (.lreturn, 1) := by decide +kernel
theorem dX9_fits_0 : decode cX9_fits 0 = .ok (.aload_n 1, 1) := by decide +kernel
theorem dX9_fits_1 : decode cX9_fits 1 = .ok (.getfield 153, 3) := by decide +kernel
theorem dX9_fits_4 : decode cX9_fits 4 = .ok (.aload_n 0, 1) := by decide +kernel
theorem dX9_fits_5 : decode cX9_fits 5 = .ok (.aload_n 1, 1) := by decide +kernel
theorem dX9_fits_6 : decode cX9_fits 6 = .ok (.getfield 211, 3) := by decide +kernel
theorem dX9_fits_9 : decode cX9_fits 9 = .ok (.aload_n 1, 1) := by decide +kernel
theorem dX9_fits_10 : decode cX9_fits 10 = .ok (.getfield 215, 3) := by decide +kernel
theorem dX9_fits_13 : decode cX9_fits 13 = .ok (.iload_n 2, 1) := by decide +kernel
theorem dX9_fits_14 : decode cX9_fits 14 = .ok (.invokevirtual 192, 3) := by decide +kernel
theorem dX9_fits_17 : decode cX9_fits 17 = .ok (.lcmp, 1) := by decide +kernel
theorem dX9_fits_18 : decode cX9_fits 18 = .ok (.ifCond .ne 7, 3) := by decide +kernel
theorem dX9_fits_21 : decode cX9_fits 21 = .ok (.iconst 1, 1) := by decide +kernel
theorem dX9_fits_22 : decode cX9_fits 22 = .ok (.goto 4, 3) := by decide +kernel
theorem dX9_fits_25 : decode cX9_fits 25 = .ok (.iconst 0, 1) := by decide +kernel
theorem dX9_fits_26 : decode cX9_fits 26 = .ok (.ireturn, 1) := by decide +kernel
theorem dX9_isSupport_0 : decode cX9_isSupport 0 = .ok (.aload_n 1, 1) := by decide +kernel
theorem dX9_isSupport_1 : decode cX9_isSupport 1 = .ok (.invokevirtual 285, 3) := by decide +kernel
theorem dX9_isSupport_4 : decode cX9_isSupport 4 = .ok (.ifCond .ne 45, 3) := by decide +kernel
theorem dX9_isSupport_7 : decode cX9_isSupport 7 = .ok (.aload_n 0, 1) := by decide +kernel
theorem dX9_isSupport_8 : decode cX9_isSupport 8 = .ok (.aload_n 1, 1) := by decide +kernel
theorem dX9_isSupport_9 : decode cX9_isSupport 9 = .ok (.aload_n 0, 1) := by decide +kernel
theorem dX9_isSupport_10 : decode cX9_isSupport 10 = .ok (.getfield 10, 3) := by decide +kernel
theorem dX9_isSupport_13 : decode cX9_isSupport 13 = .ok (.invokevirtual 189, 3) := by decide +kernel
theorem dX9_isSupport_16 : decode cX9_isSupport 16 = .ok (.invokevirtual 221, 3) := by decide +kernel
theorem dX9_isSupport_19 : decode cX9_isSupport 19 = .ok (.ifCond .eq 30, 3) := by decide +kernel
theorem dX9_isSupport_22 : decode cX9_isSupport 22 = .ok (.aload_n 0, 1) := by decide +kernel
theorem dX9_isSupport_23 : decode cX9_isSupport 23 = .ok (.getfield 10, 3) := by decide +kernel
theorem dX9_isSupport_26 : decode cX9_isSupport 26 = .ok (.aload_n 2, 1) := by decide +kernel
theorem dX9_isSupport_27 : decode cX9_isSupport 27 = .ok (.aload_n 0, 1) := by decide +kernel
theorem dX9_isSupport_28 : decode cX9_isSupport 28 = .ok (.aload_n 1, 1) := by decide +kernel
theorem dX9_isSupport_29 : decode cX9_isSupport 29 = .ok (.getfield 211, 3) := by decide +kernel
theorem dX9_isSupport_32 : decode cX9_isSupport 32 = .ok (.aload_n 1, 1) := by decide +kernel
theorem dX9_isSupport_33 : decode cX9_isSupport 33 = .ok (.getfield 215, 3) := by decide +kernel
theorem dX9_isSupport_36 : decode cX9_isSupport 36 = .ok (.invokevirtual 203, 3) := by decide +kernel
theorem dX9_isSupport_39 : decode cX9_isSupport 39 = .ok (.invokevirtual 207, 3) := by decide +kernel
theorem dX9_isSupport_42 : decode cX9_isSupport 42 = .ok (.ifCond .le 7, 3) := by decide +kernel
theorem dX9_isSupport_45 : decode cX9_isSupport 45 = .ok (.iconst 1, 1) := by decide +kernel
theorem dX9_isSupport_46 : decode cX9_isSupport 46 = .ok (.goto 4, 3) := by decide +kernel
theorem dX9_isSupport_49 : decode cX9_isSupport 49 = .ok (.iconst 0, 1) := by decide +kernel
theorem dX9_isSupport_50 : decode cX9_isSupport 50 = .ok (.ireturn, 1) := by decide +kernel
theorem dX9_isContradiction_0 : decode cX9_isContradiction 0 = .ok (.aload_n 0, 1) := by decide +kernel
theorem dX9_isContradiction_1 : decode cX9_isContradiction 1 = .ok (.getfield 10, 3) := by decide +kernel
theorem dX9_isContradiction_4 : decode cX9_isContradiction 4 = .ok (.invokevirtual 189, 3) := by decide +kernel
theorem dX9_isContradiction_7 : decode cX9_isContradiction 7 = .ok (.istore_n 3, 1) := by decide +kernel
theorem dX9_isContradiction_8 : decode cX9_isContradiction 8 = .ok (.aload_n 0, 1) := by decide +kernel
theorem dX9_isContradiction_9 : decode cX9_isContradiction 9 = .ok (.aload_n 1, 1) := by decide +kernel
theorem dX9_isContradiction_10 : decode cX9_isContradiction 10 = .ok (.iload_n 3, 1) := by decide +kernel
theorem dX9_isContradiction_11 : decode cX9_isContradiction 11 = .ok (.invokevirtual 221, 3) := by decide +kernel
theorem dX9_isContradiction_14 : decode cX9_isContradiction 14 = .ok (.ifCond .ne 23, 3) := by decide +kernel
theorem dX9_isContradiction_17 : decode cX9_isContradiction 17 = .ok (.aload_n 0, 1) := by decide +kernel
theorem dX9_isContradiction_18 : decode cX9_isContradiction 18 = .ok (.aload_n 1, 1) := by decide +kernel
theorem dX9_isContradiction_19 : decode cX9_isContradiction 19 = .ok (.iload_n 3, 1) := by decide +kernel
theorem dX9_isContradiction_20 : decode cX9_isContradiction 20 = .ok (.aload_n 2, 1) := by decide +kernel
theorem dX9_isContradiction_21 : decode cX9_isContradiction 21 = .ok (.invokevirtual 289, 3) := by decide +kernel
theorem dX9_isContradiction_24 : decode cX9_isContradiction 24 = .ok (.iconst (-1), 1) := by decide +kernel
theorem dX9_isContradiction_25 : decode cX9_isContradiction 25 = .ok (.ixor, 1) := by decide +kernel
theorem dX9_isContradiction_26 : decode cX9_isContradiction 26 = .ok (.iand, 1) := by decide +kernel
theorem dX9_isContradiction_27 : decode cX9_isContradiction 27 = .ok (.invokevirtual 221, 3) := by decide +kernel
theorem dX9_isContradiction_30 : decode cX9_isContradiction 30 = .ok (.ifCond .eq 7, 3) := by decide +kernel
theorem dX9_isContradiction_33 : decode cX9_isContradiction 33 = .ok (.iconst 1, 1) := by decide +kernel
theorem dX9_isContradiction_34 : decode cX9_isContradiction 34 = .ok (.goto 4, 3) := by decide +kernel
theorem dX9_isContradiction_37 : decode cX9_isContradiction 37 = .ok (.iconst 0, 1) := by decide +kernel
theorem dX9_isContradiction_38 : decode cX9_isContradiction 38 = .ok (.ireturn, 1) := by decide +kernel
theorem dX9_fittingSets_0 : decode cX9_fittingSets 0 = .ok (.iconst 1, 1) := by decide +kernel
theorem dX9_fittingSets_1 : decode cX9_fittingSets 1 = .ok (.aload_n 0, 1) := by decide +kernel
theorem dX9_fittingSets_2 : decode cX9_fittingSets 2 = .ok (.getfield 10, 3) := by decide +kernel
theorem dX9_fittingSets_5 : decode cX9_fittingSets 5 = .ok (.invokevirtual 120, 3) := by decide +kernel
theorem dX9_fittingSets_8 : decode cX9_fittingSets 8 = .ok (.ishl, 1) := by decide +kernel
theorem dX9_fittingSets_9 : decode cX9_fittingSets 9 = .ok (.istore_n 1, 1) := by decide +kernel
theorem dX9_fittingSets_10 : decode cX9_fittingSets 10 = .ok (.ldc2_w 294, 3) := by decide +kernel
theorem dX9_fittingSets_13 : decode cX9_fittingSets 13 = .ok (.bipush 64, 2) := by decide +kernel
theorem dX9_fittingSets_15 : decode cX9_fittingSets 15 = .ok (.iload_n 1, 1) := by decide +kernel
theorem dX9_fittingSets_16 : decode cX9_fittingSets 16 = .ok (.isub, 1) := by decide +kernel
theorem dX9_fittingSets_17 : decode cX9_fittingSets 17 = .ok (.lushr, 1) := by decide +kernel
theorem dX9_fittingSets_18 : decode cX9_fittingSets 18 = .ok (.lstore_n 2, 1) := by decide +kernel
theorem dX9_fittingSets_19 : decode cX9_fittingSets 19 = .ok (.iconst 0, 1) := by decide +kernel
theorem dX9_fittingSets_20 : decode cX9_fittingSets 20 = .ok (.istore 4, 2) := by decide +kernel
theorem dX9_fittingSets_22 : decode cX9_fittingSets 22 = .ok (.iload 4, 2) := by decide +kernel
theorem dX9_fittingSets_24 : decode cX9_fittingSets 24 = .ok (.aload_n 0, 1) := by decide +kernel
theorem dX9_fittingSets_25 : decode cX9_fittingSets 25 = .ok (.getfield 19, 3) := by decide +kernel
theorem dX9_fittingSets_28 : decode cX9_fittingSets 28 = .ok (.invokevirtual 142, 3) := by decide +kernel
theorem dX9_fittingSets_31 : decode cX9_fittingSets 31 = .ok (.if_icmp .ge 101, 3) := by decide +kernel
theorem dX9_fittingSets_34 : decode cX9_fittingSets 34 = .ok (.aload_n 0, 1) := by decide +kernel
theorem dX9_fittingSets_35 : decode cX9_fittingSets 35 = .ok (.getfield 19, 3) := by decide +kernel
theorem dX9_fittingSets_38 : decode cX9_fittingSets 38 = .ok (.iload 4, 2) := by decide +kernel
theorem dX9_fittingSets_40 : decode cX9_fittingSets 40 = .ok (.invokevirtual 225, 3) := by decide +kernel
theorem dX9_fittingSets_43 : decode cX9_fittingSets 43 = .ok (.astore 5, 2) := by decide +kernel
theorem dX9_fittingSets_45 : decode cX9_fittingSets 45 = .ok (.aload 5, 2) := by decide +kernel
theorem dX9_fittingSets_47 : decode cX9_fittingSets 47 = .ok (.ifnull 79, 3) := by decide +kernel
theorem dX9_fittingSets_50 : decode cX9_fittingSets 50 = .ok (.aload 5, 2) := by decide +kernel
theorem dX9_fittingSets_52 : decode cX9_fittingSets 52 = .ok (.invokevirtual 285, 3) := by decide +kernel
theorem dX9_fittingSets_55 : decode cX9_fittingSets 55 = .ok (.ifCond .eq 6, 3) := by decide +kernel
theorem dX9_fittingSets_58 : decode cX9_fittingSets 58 = .ok (.goto 68, 3) := by decide +kernel
theorem dX9_fittingSets_61 : decode cX9_fittingSets 61 = .ok (.aload_n 0, 1) := by decide +kernel
theorem dX9_fittingSets_62 : decode cX9_fittingSets 62 = .ok (.getfield 10, 3) := by decide +kernel
theorem dX9_fittingSets_65 : decode cX9_fittingSets 65 = .ok (.aload_n 0, 1) := by decide +kernel
theorem dX9_fittingSets_66 : decode cX9_fittingSets 66 = .ok (.aload 5, 2) := by decide +kernel
theorem dX9_fittingSets_68 : decode cX9_fittingSets 68 = .ok (.getfield 211, 3) := by decide +kernel
theorem dX9_fittingSets_71 : decode cX9_fittingSets 71 = .ok (.aload 5, 2) := by decide +kernel
theorem dX9_fittingSets_73 : decode cX9_fittingSets 73 = .ok (.getfield 215, 3) := by decide +kernel
theorem dX9_fittingSets_76 : decode cX9_fittingSets 76 = .ok (.invokevirtual 203, 3) := by decide +kernel
theorem dX9_fittingSets_79 : decode cX9_fittingSets 79 = .ok (.invokevirtual 296, 3) := by decide +kernel
theorem dX9_fittingSets_82 : decode cX9_fittingSets 82 = .ok (.iconst 0, 1) := by decide +kernel
theorem dX9_fittingSets_83 : decode cX9_fittingSets 83 = .ok (.istore 6, 2) := by decide +kernel
theorem dX9_fittingSets_85 : decode cX9_fittingSets 85 = .ok (.iload 6, 2) := by decide +kernel
theorem dX9_fittingSets_87 : decode cX9_fittingSets 87 = .ok (.iload_n 1, 1) := by decide +kernel
theorem dX9_fittingSets_88 : decode cX9_fittingSets 88 = .ok (.if_icmp .ge 38, 3) := by decide +kernel
theorem dX9_fittingSets_91 : decode cX9_fittingSets 91 = .ok (.aload_n 0, 1) := by decide +kernel
theorem dX9_fittingSets_92 : decode cX9_fittingSets 92 = .ok (.getfield 10, 3) := by decide +kernel
theorem dX9_fittingSets_95 : decode cX9_fittingSets 95 = .ok (.iload 6, 2) := by decide +kernel
theorem dX9_fittingSets_97 : decode cX9_fittingSets 97 = .ok (.invokevirtual 300, 3) := by decide +kernel
theorem dX9_fittingSets_100 : decode cX9_fittingSets 100 = .ok (.aload 5, 2) := by decide +kernel
theorem dX9_fittingSets_102 : decode cX9_fittingSets 102 = .ok (.getfield 153, 3) := by decide +kernel
theorem dX9_fittingSets_105 : decode cX9_fittingSets 105 = .ok (.lcmp, 1) := by decide +kernel
theorem dX9_fittingSets_106 : decode cX9_fittingSets 106 = .ok (.ifCond .eq 14, 3) := by decide +kernel
theorem dX9_fittingSets_109 : decode cX9_fittingSets 109 = .ok (.lload_n 2, 1) := by decide +kernel
theorem dX9_fittingSets_110 : decode cX9_fittingSets 110 = .ok (.lconst 1, 1) := by decide +kernel
theorem dX9_fittingSets_111 : decode cX9_fittingSets 111 = .ok (.iload 6, 2) := by decide +kernel
theorem dX9_fittingSets_113 : decode cX9_fittingSets 113 = .ok (.lshl, 1) := by decide +kernel
theorem dX9_fittingSets_114 : decode cX9_fittingSets 114 = .ok (.ldc2_w 294, 3) := by decide +kernel
theorem dX9_fittingSets_117 : decode cX9_fittingSets 117 = .ok (.lxor, 1) := by decide +kernel
theorem dX9_fittingSets_118 : decode cX9_fittingSets 118 = .ok (.land, 1) := by decide +kernel
theorem dX9_fittingSets_119 : decode cX9_fittingSets 119 = .ok (.lstore_n 2, 1) := by decide +kernel
theorem dX9_fittingSets_120 : decode cX9_fittingSets 120 = .ok (.iinc 6 1, 3) := by decide +kernel
theorem dX9_fittingSets_123 : decode cX9_fittingSets 123 = .ok (.goto (-38), 3) := by decide +kernel
theorem dX9_fittingSets_126 : decode cX9_fittingSets 126 = .ok (.iinc 4 1, 3) := by decide +kernel
theorem dX9_fittingSets_129 : decode cX9_fittingSets 129 = .ok (.goto (-107), 3) := by decide +kernel
theorem dX9_fittingSets_132 : decode cX9_fittingSets 132 = .ok (.lload_n 2, 1) := by decide +kernel
theorem dX9_fittingSets_133 : decode cX9_fittingSets 133 = .ok (.lreturn, 1) := by decide +kernel
theorem dX9_isSetIn_0 : decode cX9_isSetIn 0 = .ok (.lload_n 1, 1) := by decide +kernel
theorem dX9_isSetIn_1 : decode cX9_isSetIn 1 = .ok (.iload_n 0, 1) := by decide +kernel
theorem dX9_isSetIn_2 : decode cX9_isSetIn 2 = .ok (.lushr, 1) := by decide +kernel
theorem dX9_isSetIn_3 : decode cX9_isSetIn 3 = .ok (.lconst 1, 1) := by decide +kernel
theorem dX9_isSetIn_4 : decode cX9_isSetIn 4 = .ok (.land, 1) := by decide +kernel
theorem dX9_isSetIn_5 : decode cX9_isSetIn 5 = .ok (.lconst 0, 1) := by decide +kernel
theorem dX9_isSetIn_6 : decode cX9_isSetIn 6 = .ok (.lcmp, 1) := by decide +kernel
theorem dX9_isSetIn_7 : decode cX9_isSetIn 7 = .ok (.ifCond .eq 7, 3) := by decide +kernel
theorem dX9_isSetIn_10 : decode cX9_isSetIn 10 = .ok (.iconst 1, 1) := by decide +kernel
theorem dX9_isSetIn_11 : decode cX9_isSetIn 11 = .ok (.goto 4, 3) := by decide +kernel
theorem dX9_isSetIn_14 : decode cX9_isSetIn 14 = .ok (.iconst 0, 1) := by decide +kernel
theorem dX9_isSetIn_15 : decode cX9_isSetIn 15 = .ok (.ireturn, 1) := by decide +kernel
theorem dX9_countUnlike_0 : decode cX9_countUnlike 0 = .ok (.aload_n 0, 1) := by decide +kernel
theorem dX9_countUnlike_1 : decode cX9_countUnlike 1 = .ok (.getfield 10, 3) := by decide +kernel
theorem dX9_countUnlike_4 : decode cX9_countUnlike 4 = .ok (.lload_n 1, 1) := by decide +kernel
theorem dX9_countUnlike_5 : decode cX9_countUnlike 5 = .ok (.invokevirtual 296, 3) := by decide +kernel
theorem dX9_countUnlike_8 : decode cX9_countUnlike 8 = .ok (.iconst 0, 1) := by decide +kernel
theorem dX9_countUnlike_9 : decode cX9_countUnlike 9 = .ok (.istore 5, 2) := by decide +kernel
theorem dX9_countUnlike_11 : decode cX9_countUnlike 11 = .ok (.iconst 0, 1) := by decide +kernel
theorem dX9_countUnlike_12 : decode cX9_countUnlike 12 = .ok (.istore 6, 2) := by decide +kernel
theorem dX9_countUnlike_14 : decode cX9_countUnlike 14 = .ok (.iload 6, 2) := by decide +kernel
theorem dX9_countUnlike_16 : decode cX9_countUnlike 16 = .ok (.bipush 64, 2) := by decide +kernel
theorem dX9_countUnlike_18 : decode cX9_countUnlike 18 = .ok (.if_icmp .ge 31, 3) := by decide +kernel
theorem dX9_countUnlike_21 : decode cX9_countUnlike 21 = .ok (.iload 6, 2) := by decide +kernel
theorem dX9_countUnlike_23 : decode cX9_countUnlike 23 = .ok (.lload_n 3, 1) := by decide +kernel
theorem dX9_countUnlike_24 : decode cX9_countUnlike 24 = .ok (.invokestatic 241, 3) := by decide +kernel
theorem dX9_countUnlike_27 : decode cX9_countUnlike 27 = .ok (.ifCond .eq 16, 3) := by decide +kernel
theorem dX9_countUnlike_30 : decode cX9_countUnlike 30 = .ok (.aload_n 0, 1) := by decide +kernel
theorem dX9_countUnlike_31 : decode cX9_countUnlike 31 = .ok (.iload 6, 2) := by decide +kernel
theorem dX9_countUnlike_33 : decode cX9_countUnlike 33 = .ok (.lload_n 3, 1) := by decide +kernel
theorem dX9_countUnlike_34 : decode cX9_countUnlike 34 = .ok (.invokevirtual 303, 3) := by decide +kernel
theorem dX9_countUnlike_37 : decode cX9_countUnlike 37 = .ok (.ifCond .ne 6, 3) := by decide +kernel
theorem dX9_countUnlike_40 : decode cX9_countUnlike 40 = .ok (.iinc 5 1, 3) := by decide +kernel
theorem dX9_countUnlike_43 : decode cX9_countUnlike 43 = .ok (.iinc 6 1, 3) := by decide +kernel
theorem dX9_countUnlike_46 : decode cX9_countUnlike 46 = .ok (.goto (-32), 3) := by decide +kernel
theorem dX9_countUnlike_49 : decode cX9_countUnlike 49 = .ok (.iload 5, 2) := by decide +kernel
theorem dX9_countUnlike_51 : decode cX9_countUnlike 51 = .ok (.ireturn, 1) := by decide +kernel
theorem dX9_isWordOfLowerSet_0 : decode cX9_isWordOfLowerSet 0 = .ok (.iconst 0, 1) := by decide +kernel
theorem dX9_isWordOfLowerSet_1 : decode cX9_isWordOfLowerSet 1 = .ok (.istore 4, 2) := by decide +kernel
theorem dX9_isWordOfLowerSet_3 : decode cX9_isWordOfLowerSet 3 = .ok (.iload 4, 2) := by decide +kernel
theorem dX9_isWordOfLowerSet_5 : decode cX9_isWordOfLowerSet 5 = .ok (.iload_n 1, 1) := by decide +kernel
theorem dX9_isWordOfLowerSet_6 : decode cX9_isWordOfLowerSet 6 = .ok (.if_icmp .ge 41, 3) := by decide +kernel
theorem dX9_isWordOfLowerSet_9 : decode cX9_isWordOfLowerSet 9 = .ok (.iload 4, 2) := by decide +kernel
theorem dX9_isWordOfLowerSet_11 : decode cX9_isWordOfLowerSet 11 = .ok (.lload_n 2, 1) := by decide +kernel
theorem dX9_isWordOfLowerSet_12 : decode cX9_isWordOfLowerSet 12 = .ok (.invokestatic 241, 3) := by decide +kernel
theorem dX9_isWordOfLowerSet_15 : decode cX9_isWordOfLowerSet 15 = .ok (.ifCond .eq 26, 3) := by decide +kernel
theorem dX9_isWordOfLowerSet_18 : decode cX9_isWordOfLowerSet 18 = .ok (.aload_n 0, 1) := by decide +kernel
theorem dX9_isWordOfLowerSet_19 : decode cX9_isWordOfLowerSet 19 = .ok (.getfield 10, 3) := by decide +kernel
theorem dX9_isWordOfLowerSet_22 : decode cX9_isWordOfLowerSet 22 = .ok (.iload 4, 2) := by decide +kernel
theorem dX9_isWordOfLowerSet_24 : decode cX9_isWordOfLowerSet 24 = .ok (.invokevirtual 300, 3) := by decide +kernel
theorem dX9_isWordOfLowerSet_27 : decode cX9_isWordOfLowerSet 27 = .ok (.aload_n 0, 1) := by decide +kernel
theorem dX9_isWordOfLowerSet_28 : decode cX9_isWordOfLowerSet 28 = .ok (.getfield 10, 3) := by decide +kernel
theorem dX9_isWordOfLowerSet_31 : decode cX9_isWordOfLowerSet 31 = .ok (.iload_n 1, 1) := by decide +kernel
theorem dX9_isWordOfLowerSet_32 : decode cX9_isWordOfLowerSet 32 = .ok (.invokevirtual 300, 3) := by decide +kernel
theorem dX9_isWordOfLowerSet_35 : decode cX9_isWordOfLowerSet 35 = .ok (.lcmp, 1) := by decide +kernel
theorem dX9_isWordOfLowerSet_36 : decode cX9_isWordOfLowerSet 36 = .ok (.ifCond .ne 5, 3) := by decide +kernel
theorem dX9_isWordOfLowerSet_39 : decode cX9_isWordOfLowerSet 39 = .ok (.iconst 1, 1) := by decide +kernel
theorem dX9_isWordOfLowerSet_40 : decode cX9_isWordOfLowerSet 40 = .ok (.ireturn, 1) := by decide +kernel
theorem dX9_isWordOfLowerSet_41 : decode cX9_isWordOfLowerSet 41 = .ok (.iinc 4 1, 3) := by decide +kernel
theorem dX9_isWordOfLowerSet_44 : decode cX9_isWordOfLowerSet 44 = .ok (.goto (-41), 3) := by decide +kernel
theorem dX9_isWordOfLowerSet_47 : decode cX9_isWordOfLowerSet 47 = .ok (.iconst 0, 1) := by decide +kernel
theorem dX9_isWordOfLowerSet_48 : decode cX9_isWordOfLowerSet 48 = .ok (.ireturn, 1) := by decide +kernel
theorem dX9_isPair_0 : decode cX9_isPair 0 = .ok (.aload_n 0, 1) := by decide +kernel
theorem dX9_isPair_1 : decode cX9_isPair 1 = .ok (.ifnull 18, 3) := by decide +kernel
theorem dX9_isPair_4 : decode cX9_isPair 4 = .ok (.aload_n 1, 1) := by decide +kernel
theorem dX9_isPair_5 : decode cX9_isPair 5 = .ok (.ifnull 14, 3) := by decide +kernel
theorem dX9_isPair_8 : decode cX9_isPair 8 = .ok (.aload_n 0, 1) := by decide +kernel
theorem dX9_isPair_9 : decode cX9_isPair 9 = .ok (.getfield 211, 3) := by decide +kernel
theorem dX9_isPair_12 : decode cX9_isPair 12 = .ok (.aload_n 1, 1) := by decide +kernel
theorem dX9_isPair_13 : decode cX9_isPair 13 = .ok (.getfield 211, 3) := by decide +kernel
theorem dX9_isPair_16 : decode cX9_isPair 16 = .ok (.if_acmp .ne 5, 3) := by decide +kernel
theorem dX9_isPair_19 : decode cX9_isPair 19 = .ok (.iconst 0, 1) := by decide +kernel
theorem dX9_isPair_20 : decode cX9_isPair 20 = .ok (.ireturn, 1) := by decide +kernel
theorem dX9_isPair_21 : decode cX9_isPair 21 = .ok (.aload_n 0, 1) := by decide +kernel
theorem dX9_isPair_22 : decode cX9_isPair 22 = .ok (.getfield 153, 3) := by decide +kernel
theorem dX9_isPair_25 : decode cX9_isPair 25 = .ok (.aload_n 1, 1) := by decide +kernel
theorem dX9_isPair_26 : decode cX9_isPair 26 = .ok (.getfield 153, 3) := by decide +kernel
theorem dX9_isPair_29 : decode cX9_isPair 29 = .ok (.iload_n 2, 1) := by decide +kernel
theorem dX9_isPair_30 : decode cX9_isPair 30 = .ok (.invokestatic 69, 3) := by decide +kernel
theorem dX9_isPair_33 : decode cX9_isPair 33 = .ok (.iload_n 3, 1) := by decide +kernel
theorem dX9_isPair_34 : decode cX9_isPair 34 = .ok (.invokestatic 69, 3) := by decide +kernel
theorem dX9_isPair_37 : decode cX9_isPair 37 = .ok (.invokestatic 306, 3) := by decide +kernel
theorem dX9_isPair_40 : decode cX9_isPair 40 = .ok (.ireturn, 1) := by decide +kernel
theorem dX10_init_0 : decode cX10_init 0 = .ok (.aload_n 0, 1) := by decide +kernel
theorem dX10_init_1 : decode cX10_init 1 = .ok (.invokespecial 1, 3) := by decide +kernel
theorem dX10_init_4 : decode cX10_init 4 = .ok (.aload_n 0, 1) := by decide +kernel
theorem dX10_init_5 : decode cX10_init 5 = .ok (.bipush 16, 2) := by decide +kernel
theorem dX10_init_7 : decode cX10_init 7 = .ok (.newarray .int, 2) := by decide +kernel
theorem dX10_init_9 : decode cX10_init 9 = .ok (.putfield 7, 3) := by decide +kernel
theorem dX10_init_12 : decode cX10_init 12 = .ok (.aload_n 0, 1) := by decide +kernel
theorem dX10_init_13 : decode cX10_init 13 = .ok (.bipush 64, 2) := by decide +kernel
theorem dX10_init_15 : decode cX10_init 15 = .ok (.newarray .int, 2) := by decide +kernel
theorem dX10_init_17 : decode cX10_init 17 = .ok (.putfield 13, 3) := by decide +kernel
theorem dX10_init_20 : decode cX10_init 20 = .ok (.aload_n 0, 1) := by decide +kernel
theorem dX10_init_21 : decode cX10_init 21 = .ok (.bipush 12, 2) := by decide +kernel
theorem dX10_init_23 : decode cX10_init 23 = .ok (.newarray .int, 2) := by decide +kernel
theorem dX10_init_25 : decode cX10_init 25 = .ok (.putfield 16, 3) := by decide +kernel
theorem dX10_init_28 : decode cX10_init 28 = .ok (.aload_n 0, 1) := by decide +kernel
theorem dX10_init_29 : decode cX10_init 29 = .ok (.bipush 12, 2) := by decide +kernel
theorem dX10_init_31 : decode cX10_init 31 = .ok (.newarray .int, 2) := by decide +kernel
theorem dX10_init_33 : decode cX10_init 33 = .ok (.putfield 19, 3) := by decide +kernel
theorem dX10_init_36 : decode cX10_init 36 = .ok (.aload_n 0, 1) := by decide +kernel
theorem dX10_init_37 : decode cX10_init 37 = .ok (.bipush 16, 2) := by decide +kernel
theorem dX10_init_39 : decode cX10_init 39 = .ok (.newarray .long, 2) := by decide +kernel
theorem dX10_init_41 : decode cX10_init 41 = .ok (.putfield 22, 3) := by decide +kernel
theorem dX10_init_44 : decode cX10_init 44 = .ok (.aload_n 0, 1) := by decide +kernel
theorem dX10_init_45 : decode cX10_init 45 = .ok (.bipush 16, 2) := by decide +kernel
theorem dX10_init_47 : decode cX10_init 47 = .ok (.newarray .boolean, 2) := by decide +kernel
theorem dX10_init_49 : decode cX10_init 49 = .ok (.putfield 26, 3) := by decide +kernel
theorem dX10_init_52 : decode cX10_init 52 = .ok (.aload_n 0, 1) := by decide +kernel
theorem dX10_init_53 : decode cX10_init 53 = .ok (.bipush 8, 2) := by decide +kernel
theorem dX10_init_55 : decode cX10_init 55 = .ok (.newarray .long, 2) := by decide +kernel
theorem dX10_init_57 : decode cX10_init 57 = .ok (.putfield 30, 3) := by decide +kernel
theorem dX10_init_60 : decode cX10_init 60 = .ok (.aload_n 0, 1) := by decide +kernel
theorem dX10_init_61 : decode cX10_init 61 = .ok (.sipush 128, 3) := by decide +kernel
theorem dX10_init_64 : decode cX10_init 64 = .ok (.newarray .long, 2) := by decide +kernel
theorem dX10_init_66 : decode cX10_init 66 = .ok (.putfield 33, 3) := by decide +kernel
theorem dX10_init_69 : decode cX10_init 69 = .ok (.aload_n 0, 1) := by decide +kernel
theorem dX10_init_70 : decode cX10_init 70 = .ok (.bipush 6, 2) := by decide +kernel
theorem dX10_init_72 : decode cX10_init 72 = .ok (.newarray .int, 2) := by decide +kernel
theorem dX10_init_74 : decode cX10_init 74 = .ok (.putfield 36, 3) := by decide +kernel
theorem dX10_init_77 : decode cX10_init 77 = .ok (.aload_n 0, 1) := by decide +kernel
theorem dX10_init_78 : decode cX10_init 78 = .ok (.bipush 6, 2) := by decide +kernel
theorem dX10_init_80 : decode cX10_init 80 = .ok (.newarray .int, 2) := by decide +kernel
theorem dX10_init_82 : decode cX10_init 82 = .ok (.putfield 39, 3) := by decide +kernel
theorem dX10_init_85 : decode cX10_init 85 = .ok (.aload_n 0, 1) := by decide +kernel
theorem dX10_init_86 : decode cX10_init 86 = .ok (.bipush 6, 2) := by decide +kernel
theorem dX10_init_88 : decode cX10_init 88 = .ok (.newarray .int, 2) := by decide +kernel
theorem dX10_init_90 : decode cX10_init 90 = .ok (.putfield 42, 3) := by decide +kernel
theorem dX10_init_93 : decode cX10_init 93 = .ok (.aload_n 0, 1) := by decide +kernel
theorem dX10_init_94 : decode cX10_init 94 = .ok (.bipush 6, 2) := by decide +kernel
theorem dX10_init_96 : decode cX10_init 96 = .ok (.newarray .int, 2) := by decide +kernel
theorem dX10_init_98 : decode cX10_init 98 = .ok (.putfield 45, 3) := by decide +kernel
theorem dX10_init_101 : decode cX10_init 101 = .ok (.aload_n 0, 1) := by decide +kernel
theorem dX10_init_102 : decode cX10_init 102 = .ok (.bipush 6, 2) := by decide +kernel
theorem dX10_init_104 : decode cX10_init 104 = .ok (.newarray .int, 2) := by decide +kernel
theorem dX10_init_106 : decode cX10_init 106 = .ok (.putfield 48, 3) := by decide +kernel
theorem dX10_init_109 : decode cX10_init 109 = .ok (.aload_n 0, 1) := by decide +kernel
theorem dX10_init_110 : decode cX10_init 110 = .ok (.bipush 40, 2) := by decide +kernel
theorem dX10_init_112 : decode cX10_init 112 = .ok (.newarray .int, 2) := by decide +kernel
theorem dX10_init_114 : decode cX10_init 114 = .ok (.putfield 51, 3) := by decide +kernel
theorem dX10_init_117 : decode cX10_init 117 = .ok (.aload_n 0, 1) := by decide +kernel
theorem dX10_init_118 : decode cX10_init 118 = .ok (.bipush 40, 2) := by decide +kernel
theorem dX10_init_120 : decode cX10_init 120 = .ok (.newarray .int, 2) := by decide +kernel
theorem dX10_init_122 : decode cX10_init 122 = .ok (.putfield 54, 3) := by decide +kernel
theorem dX10_init_125 : decode cX10_init 125 = .ok (.aload_n 0, 1) := by decide +kernel
theorem dX10_init_126 : decode cX10_init 126 = .ok (.bipush 40, 2) := by decide +kernel
theorem dX10_init_128 : decode cX10_init 128 = .ok (.newarray .int, 2) := by decide +kernel
theorem dX10_init_130 : decode cX10_init 130 = .ok (.putfield 57, 3) := by decide +kernel
theorem dX10_init_133 : decode cX10_init 133 = .ok (.aload_n 0, 1) := by decide +kernel
theorem dX10_init_134 : decode cX10_init 134 = .ok (.bipush 40, 2) := by decide +kernel
theorem dX10_init_136 : decode cX10_init 136 = .ok (.newarray .long, 2) := by decide +kernel
theorem dX10_init_138 : decode cX10_init 138 = .ok (.putfield 60, 3) := by decide +kernel
theorem dX10_init_141 : decode cX10_init 141 = .ok (.aload_n 0, 1) := by decide +kernel
theorem dX10_init_142 : decode cX10_init 142 = .ok (.bipush 40, 2) := by decide +kernel
theorem dX10_init_144 : decode cX10_init 144 = .ok (.newarray .boolean, 2) := by decide +kernel
theorem dX10_init_146 : decode cX10_init 146 = .ok (.putfield 63, 3) := by decide +kernel
theorem dX10_init_149 : decode cX10_init 149 = .ok (.aload_n 0, 1) := by decide +kernel
theorem dX10_init_150 : decode cX10_init 150 = .ok (.bipush 32, 2) := by decide +kernel
theorem dX10_init_152 : decode cX10_init 152 = .ok (.newarray .boolean, 2) := by decide +kernel
theorem dX10_init_154 : decode cX10_init 154 = .ok (.putfield 66, 3) := by decide +kernel
theorem dX10_init_157 : decode cX10_init 157 = .ok (.aload_n 0, 1) := by decide +kernel
theorem dX10_init_158 : decode cX10_init 158 = .ok (.bipush 32, 2) := by decide +kernel
theorem dX10_init_160 : decode cX10_init 160 = .ok (.newarray .int, 2) := by decide +kernel
theorem dX10_init_162 : decode cX10_init 162 = .ok (.putfield 69, 3) := by decide +kernel
theorem dX10_init_165 : decode cX10_init 165 = .ok (.aload_n 0, 1) := by decide +kernel
theorem dX10_init_166 : decode cX10_init 166 = .ok (.bipush 32, 2) := by decide +kernel
theorem dX10_init_168 : decode cX10_init 168 = .ok (.newarray .int, 2) := by decide +kernel
theorem dX10_init_170 : decode cX10_init 170 = .ok (.putfield 72, 3) := by decide +kernel
theorem dX10_init_173 : decode cX10_init 173 = .ok (.aload_n 0, 1) := by decide +kernel
theorem dX10_init_174 : decode cX10_init 174 = .ok (.bipush 32, 2) := by decide +kernel
theorem dX10_init_176 : decode cX10_init 176 = .ok (.newarray .long, 2) := by decide +kernel
theorem dX10_init_178 : decode cX10_init 178 = .ok (.putfield 75, 3) := by decide +kernel
theorem dX10_init_181 : decode cX10_init 181 = .ok (.aload_n 0, 1) := by decide +kernel
theorem dX10_init_182 : decode cX10_init 182 = .ok (.sipush 512, 3) := by decide +kernel
theorem dX10_init_185 : decode cX10_init 185 = .ok (.newarray .long, 2) := by decide +kernel
theorem dX10_init_187 : decode cX10_init 187 = .ok (.putfield 78, 3) := by decide +kernel
theorem dX10_init_190 : decode cX10_init 190 = .ok (.aload_n 0, 1) := by decide +kernel
theorem dX10_init_191 : decode cX10_init 191 = .ok (.bipush 64, 2) := by decide +kernel
theorem dX10_init_193 : decode cX10_init 193 = .ok (.newarray .long, 2) := by decide +kernel
theorem dX10_init_195 : decode cX10_init 195 = .ok (.putfield 81, 3) := by decide +kernel
theorem dX10_init_198 : decode cX10_init 198 = .ok (.iconst 0, 1) := by decide +kernel
theorem dX10_init_199 : decode cX10_init 199 = .ok (.istore_n 1, 1) := by decide +kernel
theorem dX10_init_200 : decode cX10_init 200 = .ok (.iload_n 1, 1) := by decide +kernel
theorem dX10_init_201 : decode cX10_init 201 = .ok (.bipush 64, 2) := by decide +kernel
theorem dX10_init_203 : decode cX10_init 203 = .ok (.if_icmp .ge 16, 3) := by decide +kernel
theorem dX10_init_206 : decode cX10_init 206 = .ok (.aload_n 0, 1) := by decide +kernel
theorem dX10_init_207 : decode cX10_init 207 = .ok (.getfield 13, 3) := by decide +kernel
theorem dX10_init_210 : decode cX10_init 210 = .ok (.iload_n 1, 1) := by decide +kernel
theorem dX10_init_211 : decode cX10_init 211 = .ok (.iconst (-1), 1) := by decide +kernel
theorem dX10_init_212 : decode cX10_init 212 = .ok (.iastore, 1) := by decide +kernel
theorem dX10_init_213 : decode cX10_init 213 = .ok (.iinc 1 1, 3) := by decide +kernel
theorem dX10_init_216 : decode cX10_init 216 = .ok (.goto (-16), 3) := by decide +kernel
theorem dX10_init_219 : decode cX10_init 219 = .ok (.iconst 0, 1) := by decide +kernel
theorem dX10_init_220 : decode cX10_init 220 = .ok (.istore_n 1, 1) := by decide +kernel
theorem dX10_init_221 : decode cX10_init 221 = .ok (.iload_n 1, 1) := by decide +kernel
theorem dX10_init_222 : decode cX10_init 222 = .ok (.sipush 128, 3) := by decide +kernel
theorem dX10_init_225 : decode cX10_init 225 = .ok (.if_icmp .ge 18, 3) := by decide +kernel
theorem dX10_init_228 : decode cX10_init 228 = .ok (.aload_n 0, 1) := by decide +kernel
theorem dX10_init_229 : decode cX10_init 229 = .ok (.getfield 33, 3) := by decide +kernel
theorem dX10_init_232 : decode cX10_init 232 = .ok (.iload_n 1, 1) := by decide +kernel
theorem dX10_init_233 : decode cX10_init 233 = .ok (.ldc2_w 84, 3) := by decide +kernel
theorem dX10_init_236 : decode cX10_init 236 = .ok (.lastore, 1) := by decide +kernel
theorem dX10_init_237 : decode cX10_init 237 = .ok (.iinc 1 1, 3) := by decide +kernel
theorem dX10_init_240 : decode cX10_init 240 = .ok (.goto (-19), 3) := by decide +kernel
theorem dX10_init_243 : decode cX10_init 243 = .ok (.return_, 1) := by decide +kernel
theorem dX10_thrown_0 : decode cX10_thrown 0 = .ok (.aload_n 0, 1) := by decide +kernel
theorem dX10_thrown_1 : decode cX10_thrown 1 = .ok (.getfield 86, 3) := by decide +kernel
theorem dX10_thrown_4 : decode cX10_thrown 4 = .ok (.ireturn, 1) := by decide +kernel
theorem dX10_holds_0 : decode cX10_holds 0 = .ok (.aload_n 0, 1) := by decide +kernel
theorem dX10_holds_1 : decode cX10_holds 1 = .ok (.iload_n 1, 1) := by decide +kernel
theorem dX10_holds_2 : decode cX10_holds 2 = .ok (.putfield 86, 3) := by decide +kernel
theorem dX10_holds_5 : decode cX10_holds 5 = .ok (.iload_n 1, 1) := by decide +kernel
theorem dX10_holds_6 : decode cX10_holds 6 = .ok (.ifCond .ne 7, 3) := by decide +kernel
theorem dX10_holds_9 : decode cX10_holds 9 = .ok (.iconst 1, 1) := by decide +kernel
theorem dX10_holds_10 : decode cX10_holds 10 = .ok (.goto 4, 3) := by decide +kernel
theorem dX10_holds_13 : decode cX10_holds 13 = .ok (.iconst 0, 1) := by decide +kernel
theorem dX10_holds_14 : decode cX10_holds 14 = .ok (.ireturn, 1) := by decide +kernel
theorem dX10_isIn_0 : decode cX10_isIn 0 = .ok (.iload_n 0, 1) := by decide +kernel
theorem dX10_isIn_1 : decode cX10_isIn 1 = .ok (.iload_n 1, 1) := by decide +kernel
theorem dX10_isIn_2 : decode cX10_isIn 2 = .ok (.if_icmp .lt 12, 3) := by decide +kernel
theorem dX10_isIn_5 : decode cX10_isIn 5 = .ok (.iload_n 0, 1) := by decide +kernel
theorem dX10_isIn_6 : decode cX10_isIn 6 = .ok (.iload_n 2, 1) := by decide +kernel
theorem dX10_isIn_7 : decode cX10_isIn 7 = .ok (.if_icmp .gt 7, 3) := by decide +kernel
theorem dX10_isIn_10 : decode cX10_isIn 10 = .ok (.iconst 1, 1) := by decide +kernel
theorem dX10_isIn_11 : decode cX10_isIn 11 = .ok (.goto 4, 3) := by decide +kernel
theorem dX10_isIn_14 : decode cX10_isIn 14 = .ok (.iconst 0, 1) := by decide +kernel
theorem dX10_isIn_15 : decode cX10_isIn 15 = .ok (.ireturn, 1) := by decide +kernel
theorem dX10_size_0 : decode cX10_size 0 = .ok (.lload_n 0, 1) := by decide +kernel
theorem dX10_size_1 : decode cX10_size 1 = .ok (.bipush 32, 2) := by decide +kernel
theorem dX10_size_3 : decode cX10_size 3 = .ok (.lshr, 1) := by decide +kernel
theorem dX10_size_4 : decode cX10_size 4 = .ok (.l2i, 1) := by decide +kernel
theorem dX10_size_5 : decode cX10_size 5 = .ok (.ireturn, 1) := by decide +kernel
theorem dX10_soundAt_0 : decode cX10_soundAt 0 = .ok (.lload_n 0, 1) := by decide +kernel
theorem dX10_soundAt_1 : decode cX10_soundAt 1 = .ok (.iconst 4, 1) := by decide +kernel
theorem dX10_soundAt_2 : decode cX10_soundAt 2 = .ok (.iload_n 2, 1) := by decide +kernel
theorem dX10_soundAt_3 : decode cX10_soundAt 3 = .ok (.imul, 1) := by decide +kernel
theorem dX10_soundAt_4 : decode cX10_soundAt 4 = .ok (.lshr, 1) := by decide +kernel
theorem dX10_soundAt_5 : decode cX10_soundAt 5 = .ok (.ldc2_w 90, 3) := by decide +kernel
theorem dX10_soundAt_8 : decode cX10_soundAt 8 = .ok (.land, 1) := by decide +kernel
theorem dX10_soundAt_9 : decode cX10_soundAt 9 = .ok (.l2i, 1) := by decide +kernel
theorem dX10_soundAt_10 : decode cX10_soundAt 10 = .ok (.ireturn, 1) := by decide +kernel
theorem dX10_with_0 : decode cX10_with 0 = .ok (.lload_n 0, 1) := by decide +kernel
theorem dX10_with_1 : decode cX10_with 1 = .ok (.iload_n 2, 1) := by decide +kernel
theorem dX10_with_2 : decode cX10_with 2 = .ok (.i2l, 1) := by decide +kernel
theorem dX10_with_3 : decode cX10_with 3 = .ok (.iconst 4, 1) := by decide +kernel
theorem dX10_with_4 : decode cX10_with 4 = .ok (.lload_n 0, 1) := by decide +kernel
theorem dX10_with_5 : decode cX10_with 5 = .ok (.invokestatic 92, 3) := by decide +kernel
theorem dX10_with_8 : decode cX10_with 8 = .ok (.imul, 1) := by decide +kernel
theorem dX10_with_9 : decode cX10_with 9 = .ok (.lshl, 1) := by decide +kernel
theorem dX10_with_10 : decode cX10_with 10 = .ok (.lor, 1) := by decide +kernel
theorem dX10_with_11 : decode cX10_with 11 = .ok (.ldc2_w 96, 3) := by decide +kernel
theorem dX10_with_14 : decode cX10_with 14 = .ok (.ladd, 1) := by decide +kernel
theorem dX10_with_15 : decode cX10_with 15 = .ok (.lreturn, 1) := by decide +kernel
theorem dX10_joined_0 : decode cX10_joined 0 = .ok (.lload_n 0, 1) := by decide +kernel
theorem dX10_joined_1 : decode cX10_joined 1 = .ok (.lstore 4, 2) := by decide +kernel
theorem dX10_joined_3 : decode cX10_joined 3 = .ok (.iconst 0, 1) := by decide +kernel
theorem dX10_joined_4 : decode cX10_joined 4 = .ok (.istore 6, 2) := by decide +kernel
theorem dX10_joined_6 : decode cX10_joined 6 = .ok (.iload 6, 2) := by decide +kernel
theorem dX10_joined_8 : decode cX10_joined 8 = .ok (.lload_n 2, 1) := by decide +kernel
theorem dX10_joined_9 : decode cX10_joined 9 = .ok (.invokestatic 92, 3) := by decide +kernel
theorem dX10_joined_12 : decode cX10_joined 12 = .ok (.if_icmp .ge 22, 3) := by decide +kernel
theorem dX10_joined_15 : decode cX10_joined 15 = .ok (.lload 4, 2) := by decide +kernel
theorem dX10_joined_17 : decode cX10_joined 17 = .ok (.lload_n 2, 1) := by decide +kernel
theorem dX10_joined_18 : decode cX10_joined 18 = .ok (.iload 6, 2) := by decide +kernel
theorem dX10_joined_20 : decode cX10_joined 20 = .ok (.invokestatic 98, 3) := by decide +kernel
theorem dX10_joined_23 : decode cX10_joined 23 = .ok (.invokestatic 102, 3) := by decide +kernel
theorem dX10_joined_26 : decode cX10_joined 26 = .ok (.lstore 4, 2) := by decide +kernel
theorem dX10_joined_28 : decode cX10_joined 28 = .ok (.iinc 6 1, 3) := by decide +kernel
theorem dX10_joined_31 : decode cX10_joined 31 = .ok (.goto (-25), 3) := by decide +kernel
theorem dX10_joined_34 : decode cX10_joined 34 = .ok (.lload 4, 2) := by decide +kernel
theorem dX10_joined_36 : decode cX10_joined 36 = .ok (.lreturn, 1) := by decide +kernel
theorem dX10_takesDraft_0 : decode cX10_takesDraft 0 = .ok (.aload_n 0, 1) := by decide +kernel
theorem dX10_takesDraft_1 : decode cX10_takesDraft 1 = .ok (.getfield 105, 3) := by decide +kernel
theorem dX10_takesDraft_4 : decode cX10_takesDraft 4 = .ok (.lstore_n 1, 1) := by decide +kernel
theorem dX10_takesDraft_5 : decode cX10_takesDraft 5 = .ok (.aload_n 0, 1) := by decide +kernel
theorem dX10_takesDraft_6 : decode cX10_takesDraft 6 = .ok (.lconst 0, 1) := by decide +kernel
theorem dX10_takesDraft_7 : decode cX10_takesDraft 7 = .ok (.putfield 105, 3) := by decide +kernel
theorem dX10_takesDraft_10 : decode cX10_takesDraft 10 = .ok (.lload_n 1, 1) := by decide +kernel
theorem dX10_takesDraft_11 : decode cX10_takesDraft 11 = .ok (.lreturn, 1) := by decide +kernel
theorem dX10_isForm_0 : decode cX10_isForm 0 = .ok (.aload_n 0, 1) := by decide +kernel
theorem dX10_isForm_1 : decode cX10_isForm 1 = .ok (.getfield 105, 3) := by decide +kernel
theorem dX10_isForm_4 : decode cX10_isForm 4 = .ok (.invokestatic 92, 3) := by decide +kernel
theorem dX10_isForm_7 : decode cX10_isForm 7 = .ok (.iconst 1, 1) := by decide +kernel
theorem dX10_isForm_8 : decode cX10_isForm 8 = .ok (.bipush 6, 2) := by decide +kernel
theorem dX10_isForm_10 : decode cX10_isForm 10 = .ok (.invokestatic 109, 3) := by decide +kernel
theorem dX10_isForm_13 : decode cX10_isForm 13 = .ok (.ireturn, 1) := by decide +kernel
theorem dX10_sound_0 : decode cX10_sound 0 = .ok (.iload_n 1, 1) := by decide +kernel
theorem dX10_sound_1 : decode cX10_sound 1 = .ok (.iconst 0, 1) := by decide +kernel
theorem dX10_sound_2 : decode cX10_sound 2 = .ok (.bipush 63, 2) := by decide +kernel
theorem dX10_sound_4 : decode cX10_sound 4 = .ok (.invokestatic 109, 3) := by decide +kernel
theorem dX10_sound_7 : decode cX10_sound 7 = .ok (.istore_n 2, 1) := by decide +kernel
theorem dX10_sound_8 : decode cX10_sound 8 = .ok (.aload_n 0, 1) := by decide +kernel
theorem dX10_sound_9 : decode cX10_sound 9 = .ok (.iload_n 2, 1) := by decide +kernel
theorem dX10_sound_10 : decode cX10_sound 10 = .ok (.ifCond .ne 7, 3) := by decide +kernel
theorem dX10_sound_13 : decode cX10_sound 13 = .ok (.iconst 1, 1) := by decide +kernel
theorem dX10_sound_14 : decode cX10_sound 14 = .ok (.goto 27, 3) := by decide +kernel
theorem dX10_sound_17 : decode cX10_sound 17 = .ok (.aload_n 0, 1) := by decide +kernel
theorem dX10_sound_18 : decode cX10_sound 18 = .ok (.getfield 13, 3) := by decide +kernel
theorem dX10_sound_21 : decode cX10_sound 21 = .ok (.iload_n 1, 1) := by decide +kernel
theorem dX10_sound_22 : decode cX10_sound 22 = .ok (.iaload, 1) := by decide +kernel
theorem dX10_sound_23 : decode cX10_sound 23 = .ok (.iconst (-1), 1) := by decide +kernel
theorem dX10_sound_24 : decode cX10_sound 24 = .ok (.if_icmp .ne 12, 3) := by decide +kernel
theorem dX10_sound_27 : decode cX10_sound 27 = .ok (.aload_n 0, 1) := by decide +kernel
theorem dX10_sound_28 : decode cX10_sound 28 = .ok (.getfield 113, 3) := by decide +kernel
theorem dX10_sound_31 : decode cX10_sound 31 = .ok (.bipush 16, 2) := by decide +kernel
theorem dX10_sound_33 : decode cX10_sound 33 = .ok (.if_icmp .ne 7, 3) := by decide +kernel
theorem dX10_sound_36 : decode cX10_sound 36 = .ok (.iconst 2, 1) := by decide +kernel
theorem dX10_sound_37 : decode cX10_sound 37 = .ok (.goto 4, 3) := by decide +kernel
theorem dX10_sound_40 : decode cX10_sound 40 = .ok (.iconst 0, 1) := by decide +kernel
theorem dX10_sound_41 : decode cX10_sound 41 = .ok (.invokevirtual 116, 3) := by decide +kernel
theorem dX10_sound_44 : decode cX10_sound 44 = .ok (.ifCond .ne 5, 3) := by decide +kernel
theorem dX10_sound_47 : decode cX10_sound 47 = .ok (.iconst 0, 1) := by decide +kernel
theorem dX10_sound_48 : decode cX10_sound 48 = .ok (.ireturn, 1) := by decide +kernel
theorem dX10_sound_49 : decode cX10_sound 49 = .ok (.aload_n 0, 1) := by decide +kernel
theorem dX10_sound_50 : decode cX10_sound 50 = .ok (.getfield 7, 3) := by decide +kernel
theorem dX10_sound_53 : decode cX10_sound 53 = .ok (.aload_n 0, 1) := by decide +kernel
theorem dX10_sound_54 : decode cX10_sound 54 = .ok (.getfield 113, 3) := by decide +kernel
theorem dX10_sound_57 : decode cX10_sound 57 = .ok (.iload_n 1, 1) := by decide +kernel
theorem dX10_sound_58 : decode cX10_sound 58 = .ok (.iastore, 1) := by decide +kernel
theorem dX10_sound_59 : decode cX10_sound 59 = .ok (.aload_n 0, 1) := by decide +kernel
theorem dX10_sound_60 : decode cX10_sound 60 = .ok (.getfield 13, 3) := by decide +kernel
theorem dX10_sound_63 : decode cX10_sound 63 = .ok (.iload_n 1, 1) := by decide +kernel
theorem dX10_sound_64 : decode cX10_sound 64 = .ok (.aload_n 0, 1) := by decide +kernel
theorem dX10_sound_65 : decode cX10_sound 65 = .ok (.getfield 113, 3) := by decide +kernel
theorem dX10_sound_68 : decode cX10_sound 68 = .ok (.iastore, 1) := by decide +kernel
theorem dX10_sound_69 : decode cX10_sound 69 = .ok (.aload_n 0, 1) := by decide +kernel
theorem dX10_sound_70 : decode cX10_sound 70 = .ok (.dup, 1) := by decide +kernel
theorem dX10_sound_71 : decode cX10_sound 71 = .ok (.getfield 113, 3) := by decide +kernel
theorem dX10_sound_74 : decode cX10_sound 74 = .ok (.iconst 1, 1) := by decide +kernel
theorem dX10_sound_75 : decode cX10_sound 75 = .ok (.iadd, 1) := by decide +kernel
theorem dX10_sound_76 : decode cX10_sound 76 = .ok (.putfield 113, 3) := by decide +kernel
theorem dX10_sound_79 : decode cX10_sound 79 = .ok (.aload_n 0, 1) := by decide +kernel
theorem dX10_sound_80 : decode cX10_sound 80 = .ok (.getfield 113, 3) := by decide +kernel
theorem dX10_sound_83 : decode cX10_sound 83 = .ok (.iconst 1, 1) := by decide +kernel
theorem dX10_sound_84 : decode cX10_sound 84 = .ok (.isub, 1) := by decide +kernel
theorem dX10_sound_85 : decode cX10_sound 85 = .ok (.ireturn, 1) := by decide +kernel
theorem dX10_kind_0 : decode cX10_kind 0 = .ok (.aload_n 0, 1) := by decide +kernel
theorem dX10_kind_1 : decode cX10_kind 1 = .ok (.iload_n 1, 1) := by decide +kernel
theorem dX10_kind_2 : decode cX10_kind 2 = .ok (.iconst 0, 1) := by decide +kernel
theorem dX10_kind_3 : decode cX10_kind 3 = .ok (.bipush 63, 2) := by decide +kernel
theorem dX10_kind_5 : decode cX10_kind 5 = .ok (.invokestatic 109, 3) := by decide +kernel
theorem dX10_kind_8 : decode cX10_kind 8 = .ok (.ifCond .eq 13, 3) := by decide +kernel
theorem dX10_kind_11 : decode cX10_kind 11 = .ok (.iload_n 2, 1) := by decide +kernel
theorem dX10_kind_12 : decode cX10_kind 12 = .ok (.iconst 0, 1) := by decide +kernel
theorem dX10_kind_13 : decode cX10_kind 13 = .ok (.bipush 63, 2) := by decide +kernel
theorem dX10_kind_15 : decode cX10_kind 15 = .ok (.invokestatic 109, 3) := by decide +kernel
theorem dX10_kind_18 : decode cX10_kind 18 = .ok (.ifCond .ne 7, 3) := by decide +kernel
theorem dX10_kind_21 : decode cX10_kind 21 = .ok (.iconst 1, 1) := by decide +kernel
theorem dX10_kind_22 : decode cX10_kind 22 = .ok (.goto 17, 3) := by decide +kernel
theorem dX10_kind_25 : decode cX10_kind 25 = .ok (.aload_n 0, 1) := by decide +kernel
theorem dX10_kind_26 : decode cX10_kind 26 = .ok (.getfield 120, 3) := by decide +kernel
theorem dX10_kind_29 : decode cX10_kind 29 = .ok (.bipush 12, 2) := by decide +kernel
theorem dX10_kind_31 : decode cX10_kind 31 = .ok (.if_icmp .ne 7, 3) := by decide +kernel
theorem dX10_kind_34 : decode cX10_kind 34 = .ok (.iconst 2, 1) := by decide +kernel
theorem dX10_kind_35 : decode cX10_kind 35 = .ok (.goto 4, 3) := by decide +kernel
theorem dX10_kind_38 : decode cX10_kind 38 = .ok (.iconst 0, 1) := by decide +kernel
theorem dX10_kind_39 : decode cX10_kind 39 = .ok (.invokevirtual 116, 3) := by decide +kernel
theorem dX10_kind_42 : decode cX10_kind 42 = .ok (.ifCond .ne 5, 3) := by decide +kernel
theorem dX10_kind_45 : decode cX10_kind 45 = .ok (.iconst 0, 1) := by decide +kernel
theorem dX10_kind_46 : decode cX10_kind 46 = .ok (.ireturn, 1) := by decide +kernel
theorem dX10_kind_47 : decode cX10_kind 47 = .ok (.aload_n 0, 1) := by decide +kernel
theorem dX10_kind_48 : decode cX10_kind 48 = .ok (.getfield 16, 3) := by decide +kernel
theorem dX10_kind_51 : decode cX10_kind 51 = .ok (.aload_n 0, 1) := by decide +kernel
theorem dX10_kind_52 : decode cX10_kind 52 = .ok (.getfield 120, 3) := by decide +kernel
theorem dX10_kind_55 : decode cX10_kind 55 = .ok (.iload_n 1, 1) := by decide +kernel
theorem dX10_kind_56 : decode cX10_kind 56 = .ok (.iastore, 1) := by decide +kernel
theorem dX10_kind_57 : decode cX10_kind 57 = .ok (.aload_n 0, 1) := by decide +kernel
theorem dX10_kind_58 : decode cX10_kind 58 = .ok (.getfield 19, 3) := by decide +kernel
theorem dX10_kind_61 : decode cX10_kind 61 = .ok (.aload_n 0, 1) := by decide +kernel
theorem dX10_kind_62 : decode cX10_kind 62 = .ok (.getfield 120, 3) := by decide +kernel
theorem dX10_kind_65 : decode cX10_kind 65 = .ok (.iload_n 2, 1) := by decide +kernel
theorem dX10_kind_66 : decode cX10_kind 66 = .ok (.iastore, 1) := by decide +kernel
theorem dX10_kind_67 : decode cX10_kind 67 = .ok (.aload_n 0, 1) := by decide +kernel
theorem dX10_kind_68 : decode cX10_kind 68 = .ok (.dup, 1) := by decide +kernel
theorem dX10_kind_69 : decode cX10_kind 69 = .ok (.getfield 120, 3) := by decide +kernel
theorem dX10_kind_72 : decode cX10_kind 72 = .ok (.iconst 1, 1) := by decide +kernel
theorem dX10_kind_73 : decode cX10_kind 73 = .ok (.iadd, 1) := by decide +kernel
theorem dX10_kind_74 : decode cX10_kind 74 = .ok (.putfield 120, 3) := by decide +kernel
theorem dX10_kind_77 : decode cX10_kind 77 = .ok (.aload_n 0, 1) := by decide +kernel
theorem dX10_kind_78 : decode cX10_kind 78 = .ok (.getfield 120, 3) := by decide +kernel
theorem dX10_kind_81 : decode cX10_kind 81 = .ok (.iconst 1, 1) := by decide +kernel
theorem dX10_kind_82 : decode cX10_kind 82 = .ok (.isub, 1) := by decide +kernel
theorem dX10_kind_83 : decode cX10_kind 83 = .ok (.ireturn, 1) := by decide +kernel
theorem dX10_isSound_0 : decode cX10_isSound 0 = .ok (.iload_n 1, 1) := by decide +kernel
theorem dX10_isSound_1 : decode cX10_isSound 1 = .ok (.iconst 0, 1) := by decide +kernel
theorem dX10_isSound_2 : decode cX10_isSound 2 = .ok (.aload_n 0, 1) := by decide +kernel
theorem dX10_isSound_3 : decode cX10_isSound 3 = .ok (.getfield 113, 3) := by decide +kernel
theorem dX10_isSound_6 : decode cX10_isSound 6 = .ok (.iconst 1, 1) := by decide +kernel
theorem dX10_isSound_7 : decode cX10_isSound 7 = .ok (.isub, 1) := by decide +kernel
theorem dX10_isSound_8 : decode cX10_isSound 8 = .ok (.invokestatic 109, 3) := by decide +kernel
theorem dX10_isSound_11 : decode cX10_isSound 11 = .ok (.ireturn, 1) := by decide +kernel
theorem dX10_isClass_0 : decode cX10_isClass 0 = .ok (.iload_n 1, 1) := by decide +kernel
theorem dX10_isClass_1 : decode cX10_isClass 1 = .ok (.iconst 0, 1) := by decide +kernel
theorem dX10_isClass_2 : decode cX10_isClass 2 = .ok (.aload_n 0, 1) := by decide +kernel
theorem dX10_isClass_3 : decode cX10_isClass 3 = .ok (.getfield 120, 3) := by decide +kernel
theorem dX10_isClass_6 : decode cX10_isClass 6 = .ok (.iconst 1, 1) := by decide +kernel
theorem dX10_isClass_7 : decode cX10_isClass 7 = .ok (.isub, 1) := by decide +kernel
theorem dX10_isClass_8 : decode cX10_isClass 8 = .ok (.invokestatic 109, 3) := by decide +kernel
theorem dX10_isClass_11 : decode cX10_isClass 11 = .ok (.ireturn, 1) := by decide +kernel
theorem dX10_isOf_0 : decode cX10_isOf 0 = .ok (.aload_n 0, 1) := by decide +kernel
theorem dX10_isOf_1 : decode cX10_isOf 1 = .ok (.getfield 7, 3) := by decide +kernel
theorem dX10_isOf_4 : decode cX10_isOf 4 = .ok (.iload_n 1, 1) := by decide +kernel
theorem dX10_isOf_5 : decode cX10_isOf 5 = .ok (.iaload, 1) := by decide +kernel
theorem dX10_isOf_6 : decode cX10_isOf 6 = .ok (.aload_n 0, 1) := by decide +kernel
theorem dX10_isOf_7 : decode cX10_isOf 7 = .ok (.getfield 16, 3) := by decide +kernel
theorem dX10_isOf_10 : decode cX10_isOf 10 = .ok (.iload_n 2, 1) := by decide +kernel
theorem dX10_isOf_11 : decode cX10_isOf 11 = .ok (.iaload, 1) := by decide +kernel
theorem dX10_isOf_12 : decode cX10_isOf 12 = .ok (.iand, 1) := by decide +kernel
theorem dX10_isOf_13 : decode cX10_isOf 13 = .ok (.aload_n 0, 1) := by decide +kernel
theorem dX10_isOf_14 : decode cX10_isOf 14 = .ok (.getfield 16, 3) := by decide +kernel
theorem dX10_isOf_17 : decode cX10_isOf 17 = .ok (.iload_n 2, 1) := by decide +kernel
theorem dX10_isOf_18 : decode cX10_isOf 18 = .ok (.iaload, 1) := by decide +kernel
theorem dX10_isOf_19 : decode cX10_isOf 19 = .ok (.if_icmp .ne 23, 3) := by decide +kernel
theorem dX10_isOf_22 : decode cX10_isOf 22 = .ok (.aload_n 0, 1) := by decide +kernel
theorem dX10_isOf_23 : decode cX10_isOf 23 = .ok (.getfield 7, 3) := by decide +kernel
theorem dX10_isOf_26 : decode cX10_isOf 26 = .ok (.iload_n 1, 1) := by decide +kernel
theorem dX10_isOf_27 : decode cX10_isOf 27 = .ok (.iaload, 1) := by decide +kernel
theorem dX10_isOf_28 : decode cX10_isOf 28 = .ok (.aload_n 0, 1) := by decide +kernel
theorem dX10_isOf_29 : decode cX10_isOf 29 = .ok (.getfield 19, 3) := by decide +kernel
theorem dX10_isOf_32 : decode cX10_isOf 32 = .ok (.iload_n 2, 1) := by decide +kernel
theorem dX10_isOf_33 : decode cX10_isOf 33 = .ok (.iaload, 1) := by decide +kernel
theorem dX10_isOf_34 : decode cX10_isOf 34 = .ok (.iand, 1) := by decide +kernel
theorem dX10_isOf_35 : decode cX10_isOf 35 = .ok (.ifCond .ne 7, 3) := by decide +kernel
theorem dX10_isOf_38 : decode cX10_isOf 38 = .ok (.iconst 1, 1) := by decide +kernel
theorem dX10_isOf_39 : decode cX10_isOf 39 = .ok (.goto 4, 3) := by decide +kernel
theorem dX10_isOf_42 : decode cX10_isOf 42 = .ok (.iconst 0, 1) := by decide +kernel
theorem dX10_isOf_43 : decode cX10_isOf 43 = .ok (.ireturn, 1) := by decide +kernel
theorem dX10_put_0 : decode cX10_put 0 = .ok (.aload_n 0, 1) := by decide +kernel
theorem dX10_put_1 : decode cX10_put 1 = .ok (.aload_n 0, 1) := by decide +kernel
theorem dX10_put_2 : decode cX10_put 2 = .ok (.iload_n 1, 1) := by decide +kernel
theorem dX10_put_3 : decode cX10_put 3 = .ok (.invokevirtual 123, 3) := by decide +kernel
theorem dX10_put_6 : decode cX10_put 6 = .ok (.ifCond .ne 7, 3) := by decide +kernel
theorem dX10_put_9 : decode cX10_put 9 = .ok (.iconst 1, 1) := by decide +kernel
theorem dX10_put_10 : decode cX10_put 10 = .ok (.goto 20, 3) := by decide +kernel
theorem dX10_put_13 : decode cX10_put 13 = .ok (.aload_n 0, 1) := by decide +kernel
theorem dX10_put_14 : decode cX10_put 14 = .ok (.getfield 105, 3) := by decide +kernel
theorem dX10_put_17 : decode cX10_put 17 = .ok (.invokestatic 92, 3) := by decide +kernel
theorem dX10_put_20 : decode cX10_put 20 = .ok (.bipush 8, 2) := by decide +kernel
theorem dX10_put_22 : decode cX10_put 22 = .ok (.if_icmp .ne 7, 3) := by decide +kernel
theorem dX10_put_25 : decode cX10_put 25 = .ok (.iconst 2, 1) := by decide +kernel
theorem dX10_put_26 : decode cX10_put 26 = .ok (.goto 4, 3) := by decide +kernel
theorem dX10_put_29 : decode cX10_put 29 = .ok (.iconst 0, 1) := by decide +kernel
theorem dX10_put_30 : decode cX10_put 30 = .ok (.invokevirtual 116, 3) := by decide +kernel
theorem dX10_put_33 : decode cX10_put 33 = .ok (.ifCond .ne 5, 3) := by decide +kernel
theorem dX10_put_36 : decode cX10_put 36 = .ok (.iconst 0, 1) := by decide +kernel
theorem dX10_put_37 : decode cX10_put 37 = .ok (.ireturn, 1) := by decide +kernel
theorem dX10_put_38 : decode cX10_put 38 = .ok (.aload_n 0, 1) := by decide +kernel
theorem dX10_put_39 : decode cX10_put 39 = .ok (.aload_n 0, 1) := by decide +kernel
theorem dX10_put_40 : decode cX10_put 40 = .ok (.getfield 105, 3) := by decide +kernel
theorem dX10_put_43 : decode cX10_put 43 = .ok (.iload_n 1, 1) := by decide +kernel
theorem dX10_put_44 : decode cX10_put 44 = .ok (.invokestatic 102, 3) := by decide +kernel
theorem dX10_put_47 : decode cX10_put 47 = .ok (.putfield 105, 3) := by decide +kernel
theorem dX10_put_50 : decode cX10_put 50 = .ok (.aload_n 0, 1) := by decide +kernel
theorem dX10_put_51 : decode cX10_put 51 = .ok (.getfield 105, 3) := by decide +kernel
theorem dX10_put_54 : decode cX10_put 54 = .ok (.invokestatic 92, 3) := by decide +kernel
theorem dX10_put_57 : decode cX10_put 57 = .ok (.ireturn, 1) := by decide +kernel
theorem dX10_wipe_0 : decode cX10_wipe 0 = .ok (.aload_n 0, 1) := by decide +kernel
theorem dX10_wipe_1 : decode cX10_wipe 1 = .ok (.iconst 0, 1) := by decide +kernel
theorem dX10_wipe_2 : decode cX10_wipe 2 = .ok (.putfield 86, 3) := by decide +kernel
theorem dX10_wipe_5 : decode cX10_wipe 5 = .ok (.aload_n 0, 1) := by decide +kernel
theorem dX10_wipe_6 : decode cX10_wipe 6 = .ok (.invokevirtual 126, 3) := by decide +kernel
theorem dX10_wipe_9 : decode cX10_wipe 9 = .ok (.invokestatic 92, 3) := by decide +kernel
theorem dX10_wipe_12 : decode cX10_wipe 12 = .ok (.ireturn, 1) := by decide +kernel
theorem dX10_isLexeme_0 : decode cX10_isLexeme 0 = .ok (.iload_n 1, 1) := by decide +kernel
theorem dX10_isLexeme_1 : decode cX10_isLexeme 1 = .ok (.iconst 0, 1) := by decide +kernel
theorem dX10_isLexeme_2 : decode cX10_isLexeme 2 = .ok (.aload_n 0, 1) := by decide +kernel
theorem dX10_isLexeme_3 : decode cX10_isLexeme 3 = .ok (.getfield 130, 3) := by decide +kernel
theorem dX10_isLexeme_6 : decode cX10_isLexeme 6 = .ok (.iconst 1, 1) := by decide +kernel
theorem dX10_isLexeme_7 : decode cX10_isLexeme 7 = .ok (.isub, 1) := by decide +kernel
theorem dX10_isLexeme_8 : decode cX10_isLexeme 8 = .ok (.invokestatic 109, 3) := by decide +kernel
theorem dX10_isLexeme_11 : decode cX10_isLexeme 11 = .ok (.ifCond .eq 16, 3) := by decide +kernel
theorem dX10_isLexeme_14 : decode cX10_isLexeme 14 = .ok (.aload_n 0, 1) := by decide +kernel
theorem dX10_isLexeme_15 : decode cX10_isLexeme 15 = .ok (.getfield 26, 3) := by decide +kernel
theorem dX10_isLexeme_18 : decode cX10_isLexeme 18 = .ok (.iload_n 1, 1) := by decide +kernel
theorem dX10_isLexeme_19 : decode cX10_isLexeme 19 = .ok (.baload, 1) := by decide +kernel
theorem dX10_isLexeme_20 : decode cX10_isLexeme 20 = .ok (.ifCond .eq 7, 3) := by decide +kernel
theorem dX10_isLexeme_23 : decode cX10_isLexeme 23 = .ok (.iconst 1, 1) := by decide +kernel
theorem dX10_isLexeme_24 : decode cX10_isLexeme 24 = .ok (.goto 4, 3) := by decide +kernel
theorem dX10_isLexeme_27 : decode cX10_isLexeme 27 = .ok (.iconst 0, 1) := by decide +kernel
theorem dX10_isLexeme_28 : decode cX10_isLexeme 28 = .ok (.ireturn, 1) := by decide +kernel
theorem dX10_isCell_0 : decode cX10_isCell 0 = .ok (.iload_n 0, 1) := by decide +kernel
theorem dX10_isCell_1 : decode cX10_isCell 1 = .ok (.iconst 0, 1) := by decide +kernel
theorem dX10_isCell_2 : decode cX10_isCell 2 = .ok (.bipush 7, 2) := by decide +kernel
theorem dX10_isCell_4 : decode cX10_isCell 4 = .ok (.invokestatic 109, 3) := by decide +kernel
theorem dX10_isCell_7 : decode cX10_isCell 7 = .ok (.ireturn, 1) := by decide +kernel
theorem dX10_isRule_0 : decode cX10_isRule 0 = .ok (.iload_n 1, 1) := by decide +kernel
theorem dX10_isRule_1 : decode cX10_isRule 1 = .ok (.iconst 0, 1) := by decide +kernel
theorem dX10_isRule_2 : decode cX10_isRule 2 = .ok (.aload_n 0, 1) := by decide +kernel
theorem dX10_isRule_3 : decode cX10_isRule 3 = .ok (.getfield 133, 3) := by decide +kernel
theorem dX10_isRule_6 : decode cX10_isRule 6 = .ok (.iconst 1, 1) := by decide +kernel
theorem dX10_isRule_7 : decode cX10_isRule 7 = .ok (.isub, 1) := by decide +kernel
theorem dX10_isRule_8 : decode cX10_isRule 8 = .ok (.invokestatic 109, 3) := by decide +kernel
theorem dX10_isRule_11 : decode cX10_isRule 11 = .ok (.ireturn, 1) := by decide +kernel
theorem dX10_makes_0 : decode cX10_makes 0 = .ok (.aload_n 0, 1) := by decide +kernel
theorem dX10_makes_1 : decode cX10_makes 1 = .ok (.getfield 22, 3) := by decide +kernel
theorem dX10_makes_4 : decode cX10_makes 4 = .ok (.aload_n 0, 1) := by decide +kernel
theorem dX10_makes_5 : decode cX10_makes 5 = .ok (.getfield 130, 3) := by decide +kernel
theorem dX10_makes_8 : decode cX10_makes 8 = .ok (.lload_n 1, 1) := by decide +kernel
theorem dX10_makes_9 : decode cX10_makes 9 = .ok (.lastore, 1) := by decide +kernel
theorem dX10_makes_10 : decode cX10_makes 10 = .ok (.aload_n 0, 1) := by decide +kernel
theorem dX10_makes_11 : decode cX10_makes 11 = .ok (.getfield 26, 3) := by decide +kernel
theorem dX10_makes_14 : decode cX10_makes 14 = .ok (.aload_n 0, 1) := by decide +kernel
theorem dX10_makes_15 : decode cX10_makes 15 = .ok (.getfield 130, 3) := by decide +kernel
theorem dX10_makes_18 : decode cX10_makes 18 = .ok (.iconst 1, 1) := by decide +kernel
theorem dX10_makes_19 : decode cX10_makes 19 = .ok (.bastore, 1) := by decide +kernel
theorem dX10_makes_20 : decode cX10_makes 20 = .ok (.aload_n 0, 1) := by decide +kernel
theorem dX10_makes_21 : decode cX10_makes 21 = .ok (.dup, 1) := by decide +kernel
theorem dX10_makes_22 : decode cX10_makes 22 = .ok (.getfield 130, 3) := by decide +kernel
theorem dX10_makes_25 : decode cX10_makes 25 = .ok (.iconst 1, 1) := by decide +kernel
theorem dX10_makes_26 : decode cX10_makes 26 = .ok (.iadd, 1) := by decide +kernel
theorem dX10_makes_27 : decode cX10_makes 27 = .ok (.putfield 130, 3) := by decide +kernel
theorem dX10_makes_30 : decode cX10_makes 30 = .ok (.aload_n 0, 1) := by decide +kernel
theorem dX10_makes_31 : decode cX10_makes 31 = .ok (.getfield 130, 3) := by decide +kernel
theorem dX10_makes_34 : decode cX10_makes 34 = .ok (.iconst 1, 1) := by decide +kernel
theorem dX10_makes_35 : decode cX10_makes 35 = .ok (.isub, 1) := by decide +kernel
theorem dX10_makes_36 : decode cX10_makes 36 = .ok (.ireturn, 1) := by decide +kernel
theorem dX10_lexeme_0 : decode cX10_lexeme 0 = .ok (.aload_n 0, 1) := by decide +kernel
theorem dX10_lexeme_1 : decode cX10_lexeme 1 = .ok (.aload_n 0, 1) := by decide +kernel
theorem dX10_lexeme_2 : decode cX10_lexeme 2 = .ok (.getfield 130, 3) := by decide +kernel
theorem dX10_lexeme_5 : decode cX10_lexeme 5 = .ok (.bipush 16, 2) := by decide +kernel
theorem dX10_lexeme_7 : decode cX10_lexeme 7 = .ok (.if_icmp .eq 10, 3) := by decide +kernel
theorem dX10_lexeme_10 : decode cX10_lexeme 10 = .ok (.aload_n 0, 1) := by decide +kernel
theorem dX10_lexeme_11 : decode cX10_lexeme 11 = .ok (.invokevirtual 136, 3) := by decide +kernel
theorem dX10_lexeme_14 : decode cX10_lexeme 14 = .ok (.ifCond .ne 7, 3) := by decide +kernel
theorem dX10_lexeme_17 : decode cX10_lexeme 17 = .ok (.iconst 1, 1) := by decide +kernel
theorem dX10_lexeme_18 : decode cX10_lexeme 18 = .ok (.goto 4, 3) := by decide +kernel
theorem dX10_lexeme_21 : decode cX10_lexeme 21 = .ok (.iconst 0, 1) := by decide +kernel
theorem dX10_lexeme_22 : decode cX10_lexeme 22 = .ok (.invokevirtual 116, 3) := by decide +kernel
theorem dX10_lexeme_25 : decode cX10_lexeme 25 = .ok (.ifCond .eq 14, 3) := by decide +kernel
theorem dX10_lexeme_28 : decode cX10_lexeme 28 = .ok (.aload_n 0, 1) := by decide +kernel
theorem dX10_lexeme_29 : decode cX10_lexeme 29 = .ok (.aload_n 0, 1) := by decide +kernel
theorem dX10_lexeme_30 : decode cX10_lexeme 30 = .ok (.invokevirtual 126, 3) := by decide +kernel
theorem dX10_lexeme_33 : decode cX10_lexeme 33 = .ok (.invokevirtual 140, 3) := by decide +kernel
theorem dX10_lexeme_36 : decode cX10_lexeme 36 = .ok (.goto 4, 3) := by decide +kernel
theorem dX10_lexeme_39 : decode cX10_lexeme 39 = .ok (.iconst 0, 1) := by decide +kernel
theorem dX10_lexeme_40 : decode cX10_lexeme 40 = .ok (.ireturn, 1) := by decide +kernel
theorem dX10_reform_0 : decode cX10_reform 0 = .ok (.aload_n 0, 1) := by decide +kernel
theorem dX10_reform_1 : decode cX10_reform 1 = .ok (.aload_n 0, 1) := by decide +kernel
theorem dX10_reform_2 : decode cX10_reform 2 = .ok (.iload_n 1, 1) := by decide +kernel
theorem dX10_reform_3 : decode cX10_reform 3 = .ok (.invokevirtual 143, 3) := by decide +kernel
theorem dX10_reform_6 : decode cX10_reform 6 = .ok (.ifCond .ne 7, 3) := by decide +kernel
theorem dX10_reform_9 : decode cX10_reform 9 = .ok (.iconst 1, 1) := by decide +kernel
theorem dX10_reform_10 : decode cX10_reform 10 = .ok (.goto 15, 3) := by decide +kernel
theorem dX10_reform_13 : decode cX10_reform 13 = .ok (.aload_n 0, 1) := by decide +kernel
theorem dX10_reform_14 : decode cX10_reform 14 = .ok (.invokevirtual 136, 3) := by decide +kernel
theorem dX10_reform_17 : decode cX10_reform 17 = .ok (.ifCond .ne 7, 3) := by decide +kernel
theorem dX10_reform_20 : decode cX10_reform 20 = .ok (.iconst 2, 1) := by decide +kernel
theorem dX10_reform_21 : decode cX10_reform 21 = .ok (.goto 4, 3) := by decide +kernel
theorem dX10_reform_24 : decode cX10_reform 24 = .ok (.iconst 0, 1) := by decide +kernel
theorem dX10_reform_25 : decode cX10_reform 25 = .ok (.invokevirtual 116, 3) := by decide +kernel
theorem dX10_reform_28 : decode cX10_reform 28 = .ok (.ifCond .eq 13, 3) := by decide +kernel
theorem dX10_reform_31 : decode cX10_reform 31 = .ok (.aload_n 0, 1) := by decide +kernel
theorem dX10_reform_32 : decode cX10_reform 32 = .ok (.getfield 22, 3) := by decide +kernel
theorem dX10_reform_35 : decode cX10_reform 35 = .ok (.iload_n 1, 1) := by decide +kernel
theorem dX10_reform_36 : decode cX10_reform 36 = .ok (.aload_n 0, 1) := by decide +kernel
theorem dX10_reform_37 : decode cX10_reform 37 = .ok (.invokevirtual 126, 3) := by decide +kernel
theorem dX10_reform_40 : decode cX10_reform 40 = .ok (.lastore, 1) := by decide +kernel
theorem dX10_reform_41 : decode cX10_reform 41 = .ok (.return_, 1) := by decide +kernel
theorem dX10_ending_0 : decode cX10_ending 0 = .ok (.aload_n 0, 1) := by decide +kernel
theorem dX10_ending_1 : decode cX10_ending 1 = .ok (.iload_n 1, 1) := by decide +kernel
theorem dX10_ending_2 : decode cX10_ending 2 = .ok (.invokestatic 146, 3) := by decide +kernel
theorem dX10_ending_5 : decode cX10_ending 5 = .ok (.ifCond .ne 7, 3) := by decide +kernel
theorem dX10_ending_8 : decode cX10_ending 8 = .ok (.iconst 1, 1) := by decide +kernel
theorem dX10_ending_9 : decode cX10_ending 9 = .ok (.goto 19, 3) := by decide +kernel
theorem dX10_ending_12 : decode cX10_ending 12 = .ok (.aload_n 0, 1) := by decide +kernel
theorem dX10_ending_13 : decode cX10_ending 13 = .ok (.getfield 105, 3) := by decide +kernel
theorem dX10_ending_16 : decode cX10_ending 16 = .ok (.invokestatic 92, 3) := by decide +kernel
theorem dX10_ending_19 : decode cX10_ending 19 = .ok (.iconst 2, 1) := by decide +kernel
theorem dX10_ending_20 : decode cX10_ending 20 = .ok (.if_icmp .le 7, 3) := by decide +kernel
theorem dX10_ending_23 : decode cX10_ending 23 = .ok (.iconst 2, 1) := by decide +kernel
theorem dX10_ending_24 : decode cX10_ending 24 = .ok (.goto 4, 3) := by decide +kernel
theorem dX10_ending_27 : decode cX10_ending 27 = .ok (.iconst 0, 1) := by decide +kernel
theorem dX10_ending_28 : decode cX10_ending 28 = .ok (.invokevirtual 116, 3) := by decide +kernel
theorem dX10_ending_31 : decode cX10_ending 31 = .ok (.ifCond .eq 13, 3) := by decide +kernel
theorem dX10_ending_34 : decode cX10_ending 34 = .ok (.aload_n 0, 1) := by decide +kernel
theorem dX10_ending_35 : decode cX10_ending 35 = .ok (.getfield 30, 3) := by decide +kernel
theorem dX10_ending_38 : decode cX10_ending 38 = .ok (.iload_n 1, 1) := by decide +kernel
theorem dX10_ending_39 : decode cX10_ending 39 = .ok (.aload_n 0, 1) := by decide +kernel
theorem dX10_ending_40 : decode cX10_ending 40 = .ok (.invokevirtual 126, 3) := by decide +kernel
theorem dX10_ending_43 : decode cX10_ending 43 = .ok (.lastore, 1) := by decide +kernel
theorem dX10_ending_44 : decode cX10_ending 44 = .ok (.return_, 1) := by decide +kernel
theorem dX10_isSide_0 : decode cX10_isSide 0 = .ok (.iload_n 1, 1) := by decide +kernel
theorem dX10_isSide_1 : decode cX10_isSide 1 = .ok (.iconst (-1), 1) := by decide +kernel
theorem dX10_isSide_2 : decode cX10_isSide 2 = .ok (.if_icmp .eq 17, 3) := by decide +kernel
theorem dX10_isSide_5 : decode cX10_isSide 5 = .ok (.iload_n 1, 1) := by decide +kernel
theorem dX10_isSide_6 : decode cX10_isSide 6 = .ok (.bipush (-2), 2) := by decide +kernel
theorem dX10_isSide_8 : decode cX10_isSide 8 = .ok (.if_icmp .eq 11, 3) := by decide +kernel
theorem dX10_isSide_11 : decode cX10_isSide 11 = .ok (.aload_n 0, 1) := by decide +kernel
theorem dX10_isSide_12 : decode cX10_isSide 12 = .ok (.iload_n 1, 1) := by decide +kernel
theorem dX10_isSide_13 : decode cX10_isSide 13 = .ok (.invokevirtual 149, 3) := by decide +kernel
theorem dX10_isSide_16 : decode cX10_isSide 16 = .ok (.ifCond .eq 7, 3) := by decide +kernel
theorem dX10_isSide_19 : decode cX10_isSide 19 = .ok (.iconst 1, 1) := by decide +kernel
theorem dX10_isSide_20 : decode cX10_isSide 20 = .ok (.goto 4, 3) := by decide +kernel
theorem dX10_isSide_23 : decode cX10_isSide 23 = .ok (.iconst 0, 1) := by decide +kernel
theorem dX10_isSide_24 : decode cX10_isSide 24 = .ok (.ireturn, 1) := by decide +kernel
theorem dX10_rule_0 : decode cX10_rule 0 = .ok (.aload_n 0, 1) := by decide +kernel
theorem dX10_rule_1 : decode cX10_rule 1 = .ok (.iload_n 1, 1) := by decide +kernel
theorem dX10_rule_2 : decode cX10_rule 2 = .ok (.invokevirtual 149, 3) := by decide +kernel
theorem dX10_rule_5 : decode cX10_rule 5 = .ok (.ifCond .eq 24, 3) := by decide +kernel
theorem dX10_rule_8 : decode cX10_rule 8 = .ok (.aload_n 0, 1) := by decide +kernel
theorem dX10_rule_9 : decode cX10_rule 9 = .ok (.iload_n 3, 1) := by decide +kernel
theorem dX10_rule_10 : decode cX10_rule 10 = .ok (.invokevirtual 152, 3) := by decide +kernel
theorem dX10_rule_13 : decode cX10_rule 13 = .ok (.ifCond .eq 16, 3) := by decide +kernel
theorem dX10_rule_16 : decode cX10_rule 16 = .ok (.aload_n 0, 1) := by decide +kernel
theorem dX10_rule_17 : decode cX10_rule 17 = .ok (.iload 4, 2) := by decide +kernel
theorem dX10_rule_19 : decode cX10_rule 19 = .ok (.invokevirtual 152, 3) := by decide +kernel
theorem dX10_rule_22 : decode cX10_rule 22 = .ok (.ifCond .eq 7, 3) := by decide +kernel
theorem dX10_rule_25 : decode cX10_rule 25 = .ok (.iconst 1, 1) := by decide +kernel
theorem dX10_rule_26 : decode cX10_rule 26 = .ok (.goto 4, 3) := by decide +kernel
theorem dX10_rule_29 : decode cX10_rule 29 = .ok (.iconst 0, 1) := by decide +kernel
theorem dX10_rule_30 : decode cX10_rule 30 = .ok (.istore 5, 2) := by decide +kernel
theorem dX10_rule_32 : decode cX10_rule 32 = .ok (.aload_n 0, 1) := by decide +kernel
theorem dX10_rule_33 : decode cX10_rule 33 = .ok (.iload 5, 2) := by decide +kernel
theorem dX10_rule_35 : decode cX10_rule 35 = .ok (.ifCond .ne 7, 3) := by decide +kernel
theorem dX10_rule_38 : decode cX10_rule 38 = .ok (.iconst 1, 1) := by decide +kernel
theorem dX10_rule_39 : decode cX10_rule 39 = .ok (.goto 31, 3) := by decide +kernel
theorem dX10_rule_42 : decode cX10_rule 42 = .ok (.iload_n 2, 1) := by decide +kernel
theorem dX10_rule_43 : decode cX10_rule 43 = .ok (.iconst 0, 1) := by decide +kernel
theorem dX10_rule_44 : decode cX10_rule 44 = .ok (.bipush 63, 2) := by decide +kernel
theorem dX10_rule_46 : decode cX10_rule 46 = .ok (.invokestatic 109, 3) := by decide +kernel
theorem dX10_rule_49 : decode cX10_rule 49 = .ok (.ifCond .ne 7, 3) := by decide +kernel
theorem dX10_rule_52 : decode cX10_rule 52 = .ok (.iconst 2, 1) := by decide +kernel
theorem dX10_rule_53 : decode cX10_rule 53 = .ok (.goto 17, 3) := by decide +kernel
theorem dX10_rule_56 : decode cX10_rule 56 = .ok (.aload_n 0, 1) := by decide +kernel
theorem dX10_rule_57 : decode cX10_rule 57 = .ok (.getfield 133, 3) := by decide +kernel
theorem dX10_rule_60 : decode cX10_rule 60 = .ok (.bipush 6, 2) := by decide +kernel
theorem dX10_rule_62 : decode cX10_rule 62 = .ok (.if_icmp .ne 7, 3) := by decide +kernel
theorem dX10_rule_65 : decode cX10_rule 65 = .ok (.iconst 3, 1) := by decide +kernel
theorem dX10_rule_66 : decode cX10_rule 66 = .ok (.goto 4, 3) := by decide +kernel
theorem dX10_rule_69 : decode cX10_rule 69 = .ok (.iconst 0, 1) := by decide +kernel
theorem dX10_rule_70 : decode cX10_rule 70 = .ok (.invokevirtual 116, 3) := by decide +kernel
theorem dX10_rule_73 : decode cX10_rule 73 = .ok (.ifCond .ne 5, 3) := by decide +kernel
theorem dX10_rule_76 : decode cX10_rule 76 = .ok (.iconst 0, 1) := by decide +kernel
theorem dX10_rule_77 : decode cX10_rule 77 = .ok (.ireturn, 1) := by decide +kernel
theorem dX10_rule_78 : decode cX10_rule 78 = .ok (.aload_n 0, 1) := by decide +kernel
theorem dX10_rule_79 : decode cX10_rule 79 = .ok (.getfield 133, 3) := by decide +kernel
theorem dX10_rule_82 : decode cX10_rule 82 = .ok (.istore 6, 2) := by decide +kernel
theorem dX10_rule_84 : decode cX10_rule 84 = .ok (.aload_n 0, 1) := by decide +kernel
theorem dX10_rule_85 : decode cX10_rule 85 = .ok (.getfield 36, 3) := by decide +kernel
theorem dX10_rule_88 : decode cX10_rule 88 = .ok (.iload 6, 2) := by decide +kernel
theorem dX10_rule_90 : decode cX10_rule 90 = .ok (.iload_n 1, 1) := by decide +kernel
theorem dX10_rule_91 : decode cX10_rule 91 = .ok (.iastore, 1) := by decide +kernel
theorem dX10_rule_92 : decode cX10_rule 92 = .ok (.aload_n 0, 1) := by decide +kernel
theorem dX10_rule_93 : decode cX10_rule 93 = .ok (.getfield 39, 3) := by decide +kernel
theorem dX10_rule_96 : decode cX10_rule 96 = .ok (.iload 6, 2) := by decide +kernel
theorem dX10_rule_98 : decode cX10_rule 98 = .ok (.iload_n 2, 1) := by decide +kernel
theorem dX10_rule_99 : decode cX10_rule 99 = .ok (.iastore, 1) := by decide +kernel
theorem dX10_rule_100 : decode cX10_rule 100 = .ok (.aload_n 0, 1) := by decide +kernel
theorem dX10_rule_101 : decode cX10_rule 101 = .ok (.getfield 42, 3) := by decide +kernel
theorem dX10_rule_104 : decode cX10_rule 104 = .ok (.iload 6, 2) := by decide +kernel
theorem dX10_rule_106 : decode cX10_rule 106 = .ok (.iload_n 3, 1) := by decide +kernel
theorem dX10_rule_107 : decode cX10_rule 107 = .ok (.iastore, 1) := by decide +kernel
theorem dX10_rule_108 : decode cX10_rule 108 = .ok (.aload_n 0, 1) := by decide +kernel
theorem dX10_rule_109 : decode cX10_rule 109 = .ok (.getfield 45, 3) := by decide +kernel
theorem dX10_rule_112 : decode cX10_rule 112 = .ok (.iload 6, 2) := by decide +kernel
theorem dX10_rule_114 : decode cX10_rule 114 = .ok (.iload 4, 2) := by decide +kernel
theorem dX10_rule_116 : decode cX10_rule 116 = .ok (.iastore, 1) := by decide +kernel
theorem dX10_rule_117 : decode cX10_rule 117 = .ok (.aload_n 0, 1) := by decide +kernel
theorem dX10_rule_118 : decode cX10_rule 118 = .ok (.getfield 48, 3) := by decide +kernel
theorem dX10_rule_121 : decode cX10_rule 121 = .ok (.iload 6, 2) := by decide +kernel
theorem dX10_rule_123 : decode cX10_rule 123 = .ok (.iload 6, 2) := by decide +kernel
theorem dX10_rule_125 : decode cX10_rule 125 = .ok (.iastore, 1) := by decide +kernel
theorem dX10_rule_126 : decode cX10_rule 126 = .ok (.aload_n 0, 1) := by decide +kernel
theorem dX10_rule_127 : decode cX10_rule 127 = .ok (.dup, 1) := by decide +kernel
theorem dX10_rule_128 : decode cX10_rule 128 = .ok (.getfield 155, 3) := by decide +kernel
theorem dX10_rule_131 : decode cX10_rule 131 = .ok (.iconst 1, 1) := by decide +kernel
theorem dX10_rule_132 : decode cX10_rule 132 = .ok (.iload 6, 2) := by decide +kernel
theorem dX10_rule_134 : decode cX10_rule 134 = .ok (.ishl, 1) := by decide +kernel
theorem dX10_rule_135 : decode cX10_rule 135 = .ok (.ior, 1) := by decide +kernel
theorem dX10_rule_136 : decode cX10_rule 136 = .ok (.putfield 155, 3) := by decide +kernel
theorem dX10_rule_139 : decode cX10_rule 139 = .ok (.aload_n 0, 1) := by decide +kernel
theorem dX10_rule_140 : decode cX10_rule 140 = .ok (.dup, 1) := by decide +kernel
theorem dX10_rule_141 : decode cX10_rule 141 = .ok (.getfield 133, 3) := by decide +kernel
theorem dX10_rule_144 : decode cX10_rule 144 = .ok (.iconst 1, 1) := by decide +kernel
theorem dX10_rule_145 : decode cX10_rule 145 = .ok (.iadd, 1) := by decide +kernel
theorem dX10_rule_146 : decode cX10_rule 146 = .ok (.putfield 133, 3) := by decide +kernel
theorem dX10_rule_149 : decode cX10_rule 149 = .ok (.iload 6, 2) := by decide +kernel
theorem dX10_rule_151 : decode cX10_rule 151 = .ok (.ireturn, 1) := by decide +kernel
theorem dX10_turn_0 : decode cX10_turn 0 = .ok (.aload_n 0, 1) := by decide +kernel
theorem dX10_turn_1 : decode cX10_turn 1 = .ok (.aload_n 0, 1) := by decide +kernel
theorem dX10_turn_2 : decode cX10_turn 2 = .ok (.iload_n 1, 1) := by decide +kernel
theorem dX10_turn_3 : decode cX10_turn 3 = .ok (.invokevirtual 158, 3) := by decide +kernel
theorem dX10_turn_6 : decode cX10_turn 6 = .ok (.ifCond .eq 7, 3) := by decide +kernel
theorem dX10_turn_9 : decode cX10_turn 9 = .ok (.iconst 0, 1) := by decide +kernel
theorem dX10_turn_10 : decode cX10_turn 10 = .ok (.goto 4, 3) := by decide +kernel
theorem dX10_turn_13 : decode cX10_turn 13 = .ok (.iconst 1, 1) := by decide +kernel
theorem dX10_turn_14 : decode cX10_turn 14 = .ok (.invokevirtual 116, 3) := by decide +kernel
theorem dX10_turn_17 : decode cX10_turn 17 = .ok (.ifCond .ne 5, 3) := by decide +kernel
theorem dX10_turn_20 : decode cX10_turn 20 = .ok (.iconst 0, 1) := by decide +kernel
theorem dX10_turn_21 : decode cX10_turn 21 = .ok (.ireturn, 1) := by decide +kernel
theorem dX10_turn_22 : decode cX10_turn 22 = .ok (.aload_n 0, 1) := by decide +kernel
theorem dX10_turn_23 : decode cX10_turn 23 = .ok (.getfield 155, 3) := by decide +kernel
theorem dX10_turn_26 : decode cX10_turn 26 = .ok (.istore_n 3, 1) := by decide +kernel
theorem dX10_turn_27 : decode cX10_turn 27 = .ok (.aload_n 0, 1) := by decide +kernel
theorem dX10_turn_28 : decode cX10_turn 28 = .ok (.iload_n 2, 1) := by decide +kernel
theorem dX10_turn_29 : decode cX10_turn 29 = .ok (.ifCond .eq 14, 3) := by decide +kernel
theorem dX10_turn_32 : decode cX10_turn 32 = .ok (.aload_n 0, 1) := by decide +kernel
theorem dX10_turn_33 : decode cX10_turn 33 = .ok (.getfield 155, 3) := by decide +kernel
theorem dX10_turn_36 : decode cX10_turn 36 = .ok (.iconst 1, 1) := by decide +kernel
theorem dX10_turn_37 : decode cX10_turn 37 = .ok (.iload_n 1, 1) := by decide +kernel
theorem dX10_turn_38 : decode cX10_turn 38 = .ok (.ishl, 1) := by decide +kernel
theorem dX10_turn_39 : decode cX10_turn 39 = .ok (.ior, 1) := by decide +kernel
theorem dX10_turn_40 : decode cX10_turn 40 = .ok (.goto 13, 3) := by decide +kernel
theorem dX10_turn_43 : decode cX10_turn 43 = .ok (.aload_n 0, 1) := by decide +kernel
theorem dX10_turn_44 : decode cX10_turn 44 = .ok (.getfield 155, 3) := by decide +kernel
theorem dX10_turn_47 : decode cX10_turn 47 = .ok (.iconst 1, 1) := by decide +kernel
theorem dX10_turn_48 : decode cX10_turn 48 = .ok (.iload_n 1, 1) := by decide +kernel
theorem dX10_turn_49 : decode cX10_turn 49 = .ok (.ishl, 1) := by decide +kernel
theorem dX10_turn_50 : decode cX10_turn 50 = .ok (.iconst (-1), 1) := by decide +kernel
theorem dX10_turn_51 : decode cX10_turn 51 = .ok (.ixor, 1) := by decide +kernel
theorem dX10_turn_52 : decode cX10_turn 52 = .ok (.iand, 1) := by decide +kernel
theorem dX10_turn_53 : decode cX10_turn 53 = .ok (.putfield 155, 3) := by decide +kernel
theorem dX10_turn_56 : decode cX10_turn 56 = .ok (.aload_n 0, 1) := by decide +kernel
theorem dX10_turn_57 : decode cX10_turn 57 = .ok (.getfield 155, 3) := by decide +kernel
theorem dX10_turn_60 : decode cX10_turn 60 = .ok (.iload_n 3, 1) := by decide +kernel
theorem dX10_turn_61 : decode cX10_turn 61 = .ok (.if_icmp .eq 7, 3) := by decide +kernel
theorem dX10_turn_64 : decode cX10_turn 64 = .ok (.iconst 1, 1) := by decide +kernel
theorem dX10_turn_65 : decode cX10_turn 65 = .ok (.goto 4, 3) := by decide +kernel
theorem dX10_turn_68 : decode cX10_turn 68 = .ok (.iconst 0, 1) := by decide +kernel
theorem dX10_turn_69 : decode cX10_turn 69 = .ok (.ireturn, 1) := by decide +kernel
theorem dX10_raise_0 : decode cX10_raise 0 = .ok (.aload_n 0, 1) := by decide +kernel
theorem dX10_raise_1 : decode cX10_raise 1 = .ok (.aload_n 0, 1) := by decide +kernel
theorem dX10_raise_2 : decode cX10_raise 2 = .ok (.iload_n 1, 1) := by decide +kernel
theorem dX10_raise_3 : decode cX10_raise 3 = .ok (.invokevirtual 158, 3) := by decide +kernel
theorem dX10_raise_6 : decode cX10_raise 6 = .ok (.ifCond .eq 7, 3) := by decide +kernel
theorem dX10_raise_9 : decode cX10_raise 9 = .ok (.iconst 0, 1) := by decide +kernel
theorem dX10_raise_10 : decode cX10_raise 10 = .ok (.goto 4, 3) := by decide +kernel
theorem dX10_raise_13 : decode cX10_raise 13 = .ok (.iconst 1, 1) := by decide +kernel
theorem dX10_raise_14 : decode cX10_raise 14 = .ok (.invokevirtual 116, 3) := by decide +kernel
theorem dX10_raise_17 : decode cX10_raise 17 = .ok (.ifCond .ne 5, 3) := by decide +kernel
theorem dX10_raise_20 : decode cX10_raise 20 = .ok (.iconst 0, 1) := by decide +kernel
theorem dX10_raise_21 : decode cX10_raise 21 = .ok (.ireturn, 1) := by decide +kernel
theorem dX10_raise_22 : decode cX10_raise 22 = .ok (.iconst 0, 1) := by decide +kernel
theorem dX10_raise_23 : decode cX10_raise 23 = .ok (.istore_n 2, 1) := by decide +kernel
theorem dX10_raise_24 : decode cX10_raise 24 = .ok (.aload_n 0, 1) := by decide +kernel
theorem dX10_raise_25 : decode cX10_raise 25 = .ok (.getfield 48, 3) := by decide +kernel
theorem dX10_raise_28 : decode cX10_raise 28 = .ok (.iload_n 2, 1) := by decide +kernel
theorem dX10_raise_29 : decode cX10_raise 29 = .ok (.iaload, 1) := by decide +kernel
theorem dX10_raise_30 : decode cX10_raise 30 = .ok (.iload_n 1, 1) := by decide +kernel
theorem dX10_raise_31 : decode cX10_raise 31 = .ok (.if_icmp .eq 9, 3) := by decide +kernel
theorem dX10_raise_34 : decode cX10_raise 34 = .ok (.iinc 2 1, 3) := by decide +kernel
theorem dX10_raise_37 : decode cX10_raise 37 = .ok (.goto (-13), 3) := by decide +kernel
theorem dX10_raise_40 : decode cX10_raise 40 = .ok (.iload_n 2, 1) := by decide +kernel
theorem dX10_raise_41 : decode cX10_raise 41 = .ok (.ifCond .le 27, 3) := by decide +kernel
theorem dX10_raise_44 : decode cX10_raise 44 = .ok (.aload_n 0, 1) := by decide +kernel
theorem dX10_raise_45 : decode cX10_raise 45 = .ok (.getfield 48, 3) := by decide +kernel
theorem dX10_raise_48 : decode cX10_raise 48 = .ok (.iload_n 2, 1) := by decide +kernel
theorem dX10_raise_49 : decode cX10_raise 49 = .ok (.aload_n 0, 1) := by decide +kernel
theorem dX10_raise_50 : decode cX10_raise 50 = .ok (.getfield 48, 3) := by decide +kernel
theorem dX10_raise_53 : decode cX10_raise 53 = .ok (.iload_n 2, 1) := by decide +kernel
theorem dX10_raise_54 : decode cX10_raise 54 = .ok (.iconst 1, 1) := by decide +kernel
theorem dX10_raise_55 : decode cX10_raise 55 = .ok (.isub, 1) := by decide +kernel
theorem dX10_raise_56 : decode cX10_raise 56 = .ok (.iaload, 1) := by decide +kernel
theorem dX10_raise_57 : decode cX10_raise 57 = .ok (.iastore, 1) := by decide +kernel
theorem dX10_raise_58 : decode cX10_raise 58 = .ok (.iinc 2 (-1), 3) := by decide +kernel
theorem dX10_raise_61 : decode cX10_raise 61 = .ok (.aload_n 0, 1) := by decide +kernel
theorem dX10_raise_62 : decode cX10_raise 62 = .ok (.getfield 48, 3) := by decide +kernel
theorem dX10_raise_65 : decode cX10_raise 65 = .ok (.iload_n 2, 1) := by decide +kernel
theorem dX10_raise_66 : decode cX10_raise 66 = .ok (.iload_n 1, 1) := by decide +kernel
theorem dX10_raise_67 : decode cX10_raise 67 = .ok (.iastore, 1) := by decide +kernel
theorem dX10_raise_68 : decode cX10_raise 68 = .ok (.iload_n 2, 1) := by decide +kernel
theorem dX10_raise_69 : decode cX10_raise 69 = .ok (.ireturn, 1) := by decide +kernel
theorem dX10_isMet_0 : decode cX10_isMet 0 = .ok (.lload 5, 2) := by decide +kernel
theorem dX10_isMet_2 : decode cX10_isMet 2 = .ok (.invokestatic 92, 3) := by decide +kernel
theorem dX10_isMet_5 : decode cX10_isMet 5 = .ok (.istore 7, 2) := by decide +kernel
theorem dX10_isMet_7 : decode cX10_isMet 7 = .ok (.aload_n 0, 1) := by decide +kernel
theorem dX10_isMet_8 : decode cX10_isMet 8 = .ok (.getfield 42, 3) := by decide +kernel
theorem dX10_isMet_11 : decode cX10_isMet 11 = .ok (.iload_n 1, 1) := by decide +kernel
theorem dX10_isMet_12 : decode cX10_isMet 12 = .ok (.iaload, 1) := by decide +kernel
theorem dX10_isMet_13 : decode cX10_isMet 13 = .ok (.istore 8, 2) := by decide +kernel
theorem dX10_isMet_15 : decode cX10_isMet 15 = .ok (.aload_n 0, 1) := by decide +kernel
theorem dX10_isMet_16 : decode cX10_isMet 16 = .ok (.getfield 45, 3) := by decide +kernel
theorem dX10_isMet_19 : decode cX10_isMet 19 = .ok (.iload_n 1, 1) := by decide +kernel
theorem dX10_isMet_20 : decode cX10_isMet 20 = .ok (.iaload, 1) := by decide +kernel
theorem dX10_isMet_21 : decode cX10_isMet 21 = .ok (.istore 9, 2) := by decide +kernel
theorem dX10_isMet_23 : decode cX10_isMet 23 = .ok (.iload 4, 2) := by decide +kernel
theorem dX10_isMet_25 : decode cX10_isMet 25 = .ok (.lload_n 2, 1) := by decide +kernel
theorem dX10_isMet_26 : decode cX10_isMet 26 = .ok (.invokestatic 92, 3) := by decide +kernel
theorem dX10_isMet_29 : decode cX10_isMet 29 = .ok (.iconst 1, 1) := by decide +kernel
theorem dX10_isMet_30 : decode cX10_isMet 30 = .ok (.isub, 1) := by decide +kernel
theorem dX10_isMet_31 : decode cX10_isMet 31 = .ok (.if_icmp .ne 7, 3) := by decide +kernel
theorem dX10_isMet_34 : decode cX10_isMet 34 = .ok (.iconst 1, 1) := by decide +kernel
theorem dX10_isMet_35 : decode cX10_isMet 35 = .ok (.goto 4, 3) := by decide +kernel
theorem dX10_isMet_38 : decode cX10_isMet 38 = .ok (.iconst 0, 1) := by decide +kernel
theorem dX10_isMet_39 : decode cX10_isMet 39 = .ok (.istore 10, 2) := by decide +kernel
theorem dX10_isMet_41 : decode cX10_isMet 41 = .ok (.iload 8, 2) := by decide +kernel
theorem dX10_isMet_43 : decode cX10_isMet 43 = .ok (.iconst (-1), 1) := by decide +kernel
theorem dX10_isMet_44 : decode cX10_isMet 44 = .ok (.if_icmp .eq 41, 3) := by decide +kernel
theorem dX10_isMet_47 : decode cX10_isMet 47 = .ok (.iload 8, 2) := by decide +kernel
theorem dX10_isMet_49 : decode cX10_isMet 49 = .ok (.bipush (-2), 2) := by decide +kernel
theorem dX10_isMet_51 : decode cX10_isMet 51 = .ok (.if_icmp .ne 11, 3) := by decide +kernel
theorem dX10_isMet_54 : decode cX10_isMet 54 = .ok (.iload 7, 2) := by decide +kernel
theorem dX10_isMet_56 : decode cX10_isMet 56 = .ok (.ifCond .ne 33, 3) := by decide +kernel
theorem dX10_isMet_59 : decode cX10_isMet 59 = .ok (.goto 26, 3) := by decide +kernel
theorem dX10_isMet_62 : decode cX10_isMet 62 = .ok (.iload 7, 2) := by decide +kernel
theorem dX10_isMet_64 : decode cX10_isMet 64 = .ok (.ifCond .le 25, 3) := by decide +kernel
theorem dX10_isMet_67 : decode cX10_isMet 67 = .ok (.aload_n 0, 1) := by decide +kernel
theorem dX10_isMet_68 : decode cX10_isMet 68 = .ok (.lload 5, 2) := by decide +kernel
theorem dX10_isMet_70 : decode cX10_isMet 70 = .ok (.iload 7, 2) := by decide +kernel
theorem dX10_isMet_72 : decode cX10_isMet 72 = .ok (.iconst 1, 1) := by decide +kernel
theorem dX10_isMet_73 : decode cX10_isMet 73 = .ok (.isub, 1) := by decide +kernel
theorem dX10_isMet_74 : decode cX10_isMet 74 = .ok (.invokestatic 98, 3) := by decide +kernel
theorem dX10_isMet_77 : decode cX10_isMet 77 = .ok (.iload 8, 2) := by decide +kernel
theorem dX10_isMet_79 : decode cX10_isMet 79 = .ok (.invokevirtual 161, 3) := by decide +kernel
theorem dX10_isMet_82 : decode cX10_isMet 82 = .ok (.ifCond .eq 7, 3) := by decide +kernel
theorem dX10_isMet_85 : decode cX10_isMet 85 = .ok (.iconst 1, 1) := by decide +kernel
theorem dX10_isMet_86 : decode cX10_isMet 86 = .ok (.goto 4, 3) := by decide +kernel
theorem dX10_isMet_89 : decode cX10_isMet 89 = .ok (.iconst 0, 1) := by decide +kernel
theorem dX10_isMet_90 : decode cX10_isMet 90 = .ok (.istore 11, 2) := by decide +kernel
theorem dX10_isMet_92 : decode cX10_isMet 92 = .ok (.iload 9, 2) := by decide +kernel
theorem dX10_isMet_94 : decode cX10_isMet 94 = .ok (.iconst (-1), 1) := by decide +kernel
theorem dX10_isMet_95 : decode cX10_isMet 95 = .ok (.if_icmp .eq 40, 3) := by decide +kernel
theorem dX10_isMet_98 : decode cX10_isMet 98 = .ok (.iload 9, 2) := by decide +kernel
theorem dX10_isMet_100 : decode cX10_isMet 100 = .ok (.bipush (-2), 2) := by decide +kernel
theorem dX10_isMet_102 : decode cX10_isMet 102 = .ok (.if_icmp .ne 11, 3) := by decide +kernel
theorem dX10_isMet_105 : decode cX10_isMet 105 = .ok (.iload 10, 2) := by decide +kernel
theorem dX10_isMet_107 : decode cX10_isMet 107 = .ok (.ifCond .eq 32, 3) := by decide +kernel
theorem dX10_isMet_110 : decode cX10_isMet 110 = .ok (.goto 25, 3) := by decide +kernel
theorem dX10_isMet_113 : decode cX10_isMet 113 = .ok (.iload 10, 2) := by decide +kernel
theorem dX10_isMet_115 : decode cX10_isMet 115 = .ok (.ifCond .ne 24, 3) := by decide +kernel
theorem dX10_isMet_118 : decode cX10_isMet 118 = .ok (.aload_n 0, 1) := by decide +kernel
theorem dX10_isMet_119 : decode cX10_isMet 119 = .ok (.lload_n 2, 1) := by decide +kernel
theorem dX10_isMet_120 : decode cX10_isMet 120 = .ok (.iload 4, 2) := by decide +kernel
theorem dX10_isMet_122 : decode cX10_isMet 122 = .ok (.iconst 1, 1) := by decide +kernel
theorem dX10_isMet_123 : decode cX10_isMet 123 = .ok (.iadd, 1) := by decide +kernel
theorem dX10_isMet_124 : decode cX10_isMet 124 = .ok (.invokestatic 98, 3) := by decide +kernel
theorem dX10_isMet_127 : decode cX10_isMet 127 = .ok (.iload 9, 2) := by decide +kernel
theorem dX10_isMet_129 : decode cX10_isMet 129 = .ok (.invokevirtual 161, 3) := by decide +kernel
theorem dX10_isMet_132 : decode cX10_isMet 132 = .ok (.ifCond .eq 7, 3) := by decide +kernel
theorem dX10_isMet_135 : decode cX10_isMet 135 = .ok (.iconst 1, 1) := by decide +kernel
theorem dX10_isMet_136 : decode cX10_isMet 136 = .ok (.goto 4, 3) := by decide +kernel
theorem dX10_isMet_139 : decode cX10_isMet 139 = .ok (.iconst 0, 1) := by decide +kernel
theorem dX10_isMet_140 : decode cX10_isMet 140 = .ok (.istore 12, 2) := by decide +kernel
theorem dX10_isMet_142 : decode cX10_isMet 142 = .ok (.iload 11, 2) := by decide +kernel
theorem dX10_isMet_144 : decode cX10_isMet 144 = .ok (.ifCond .eq 31, 3) := by decide +kernel
theorem dX10_isMet_147 : decode cX10_isMet 147 = .ok (.iload 12, 2) := by decide +kernel
theorem dX10_isMet_149 : decode cX10_isMet 149 = .ok (.ifCond .eq 26, 3) := by decide +kernel
theorem dX10_isMet_152 : decode cX10_isMet 152 = .ok (.aload_n 0, 1) := by decide +kernel
theorem dX10_isMet_153 : decode cX10_isMet 153 = .ok (.lload_n 2, 1) := by decide +kernel
theorem dX10_isMet_154 : decode cX10_isMet 154 = .ok (.iload 4, 2) := by decide +kernel
theorem dX10_isMet_156 : decode cX10_isMet 156 = .ok (.invokestatic 98, 3) := by decide +kernel
theorem dX10_isMet_159 : decode cX10_isMet 159 = .ok (.aload_n 0, 1) := by decide +kernel
theorem dX10_isMet_160 : decode cX10_isMet 160 = .ok (.getfield 36, 3) := by decide +kernel
theorem dX10_isMet_163 : decode cX10_isMet 163 = .ok (.iload_n 1, 1) := by decide +kernel
theorem dX10_isMet_164 : decode cX10_isMet 164 = .ok (.iaload, 1) := by decide +kernel
theorem dX10_isMet_165 : decode cX10_isMet 165 = .ok (.invokevirtual 161, 3) := by decide +kernel
theorem dX10_isMet_168 : decode cX10_isMet 168 = .ok (.ifCond .eq 7, 3) := by decide +kernel
theorem dX10_isMet_171 : decode cX10_isMet 171 = .ok (.iconst 1, 1) := by decide +kernel
theorem dX10_isMet_172 : decode cX10_isMet 172 = .ok (.goto 4, 3) := by decide +kernel
theorem dX10_isMet_175 : decode cX10_isMet 175 = .ok (.iconst 0, 1) := by decide +kernel
theorem dX10_isMet_176 : decode cX10_isMet 176 = .ok (.ireturn, 1) := by decide +kernel
theorem dX10_gone_0 : decode cX10_gone 0 = .ok (.lconst 0, 1) := by decide +kernel
theorem dX10_gone_1 : decode cX10_gone 1 = .ok (.lstore 4, 2) := by decide +kernel
theorem dX10_gone_3 : decode cX10_gone 3 = .ok (.aload_n 0, 1) := by decide +kernel
theorem dX10_gone_4 : decode cX10_gone 4 = .ok (.iconst 0, 1) := by decide +kernel
theorem dX10_gone_5 : decode cX10_gone 5 = .ok (.putfield 165, 3) := by decide +kernel
theorem dX10_gone_8 : decode cX10_gone 8 = .ok (.iconst 0, 1) := by decide +kernel
theorem dX10_gone_9 : decode cX10_gone 9 = .ok (.istore 6, 2) := by decide +kernel
theorem dX10_gone_11 : decode cX10_gone 11 = .ok (.iload 6, 2) := by decide +kernel
theorem dX10_gone_13 : decode cX10_gone 13 = .ok (.lload_n 2, 1) := by decide +kernel
theorem dX10_gone_14 : decode cX10_gone 14 = .ok (.invokestatic 92, 3) := by decide +kernel
theorem dX10_gone_17 : decode cX10_gone 17 = .ok (.if_icmp .ge 140, 3) := by decide +kernel
theorem dX10_gone_20 : decode cX10_gone 20 = .ok (.lload_n 2, 1) := by decide +kernel
theorem dX10_gone_21 : decode cX10_gone 21 = .ok (.iload 6, 2) := by decide +kernel
theorem dX10_gone_23 : decode cX10_gone 23 = .ok (.invokestatic 98, 3) := by decide +kernel
theorem dX10_gone_26 : decode cX10_gone 26 = .ok (.istore 7, 2) := by decide +kernel
theorem dX10_gone_28 : decode cX10_gone 28 = .ok (.aload_n 0, 1) := by decide +kernel
theorem dX10_gone_29 : decode cX10_gone 29 = .ok (.iload_n 1, 1) := by decide +kernel
theorem dX10_gone_30 : decode cX10_gone 30 = .ok (.lload_n 2, 1) := by decide +kernel
theorem dX10_gone_31 : decode cX10_gone 31 = .ok (.iload 6, 2) := by decide +kernel
theorem dX10_gone_33 : decode cX10_gone 33 = .ok (.lload 4, 2) := by decide +kernel
theorem dX10_gone_35 : decode cX10_gone 35 = .ok (.invokevirtual 168, 3) := by decide +kernel
theorem dX10_gone_38 : decode cX10_gone 38 = .ok (.istore 8, 2) := by decide +kernel
theorem dX10_gone_40 : decode cX10_gone 40 = .ok (.iload 8, 2) := by decide +kernel
theorem dX10_gone_42 : decode cX10_gone 42 = .ok (.ifCond .eq 16, 3) := by decide +kernel
theorem dX10_gone_45 : decode cX10_gone 45 = .ok (.aload_n 0, 1) := by decide +kernel
theorem dX10_gone_46 : decode cX10_gone 46 = .ok (.getfield 39, 3) := by decide +kernel
theorem dX10_gone_49 : decode cX10_gone 49 = .ok (.iload_n 1, 1) := by decide +kernel
theorem dX10_gone_50 : decode cX10_gone 50 = .ok (.iaload, 1) := by decide +kernel
theorem dX10_gone_51 : decode cX10_gone 51 = .ok (.ifCond .ne 7, 3) := by decide +kernel
theorem dX10_gone_54 : decode cX10_gone 54 = .ok (.iconst 1, 1) := by decide +kernel
theorem dX10_gone_55 : decode cX10_gone 55 = .ok (.goto 4, 3) := by decide +kernel
theorem dX10_gone_58 : decode cX10_gone 58 = .ok (.iconst 0, 1) := by decide +kernel
theorem dX10_gone_59 : decode cX10_gone 59 = .ok (.istore 9, 2) := by decide +kernel
theorem dX10_gone_61 : decode cX10_gone 61 = .ok (.iload 8, 2) := by decide +kernel
theorem dX10_gone_63 : decode cX10_gone 63 = .ok (.ifCond .eq 30, 3) := by decide +kernel
theorem dX10_gone_66 : decode cX10_gone 66 = .ok (.iload 9, 2) := by decide +kernel
theorem dX10_gone_68 : decode cX10_gone 68 = .ok (.ifCond .ne 25, 3) := by decide +kernel
theorem dX10_gone_71 : decode cX10_gone 71 = .ok (.aload_n 0, 1) := by decide +kernel
theorem dX10_gone_72 : decode cX10_gone 72 = .ok (.getfield 13, 3) := by decide +kernel
theorem dX10_gone_75 : decode cX10_gone 75 = .ok (.aload_n 0, 1) := by decide +kernel
theorem dX10_gone_76 : decode cX10_gone 76 = .ok (.getfield 7, 3) := by decide +kernel
theorem dX10_gone_79 : decode cX10_gone 79 = .ok (.iload 7, 2) := by decide +kernel
theorem dX10_gone_81 : decode cX10_gone 81 = .ok (.iaload, 1) := by decide +kernel
theorem dX10_gone_82 : decode cX10_gone 82 = .ok (.aload_n 0, 1) := by decide +kernel
theorem dX10_gone_83 : decode cX10_gone 83 = .ok (.getfield 39, 3) := by decide +kernel
theorem dX10_gone_86 : decode cX10_gone 86 = .ok (.iload_n 1, 1) := by decide +kernel
theorem dX10_gone_87 : decode cX10_gone 87 = .ok (.iaload, 1) := by decide +kernel
theorem dX10_gone_88 : decode cX10_gone 88 = .ok (.ixor, 1) := by decide +kernel
theorem dX10_gone_89 : decode cX10_gone 89 = .ok (.iaload, 1) := by decide +kernel
theorem dX10_gone_90 : decode cX10_gone 90 = .ok (.goto 4, 3) := by decide +kernel
theorem dX10_gone_93 : decode cX10_gone 93 = .ok (.iconst (-1), 1) := by decide +kernel
theorem dX10_gone_94 : decode cX10_gone 94 = .ok (.istore 10, 2) := by decide +kernel
theorem dX10_gone_96 : decode cX10_gone 96 = .ok (.aload_n 0, 1) := by decide +kernel
theorem dX10_gone_97 : decode cX10_gone 97 = .ok (.dup, 1) := by decide +kernel
theorem dX10_gone_98 : decode cX10_gone 98 = .ok (.getfield 165, 3) := by decide +kernel
theorem dX10_gone_101 : decode cX10_gone 101 = .ok (.iload 9, 2) := by decide +kernel
theorem dX10_gone_103 : decode cX10_gone 103 = .ok (.ifCond .ne 9, 3) := by decide +kernel
theorem dX10_gone_106 : decode cX10_gone 106 = .ok (.iload 10, 2) := by decide +kernel
theorem dX10_gone_108 : decode cX10_gone 108 = .ok (.iconst (-1), 1) := by decide +kernel
theorem dX10_gone_109 : decode cX10_gone 109 = .ok (.if_icmp .eq 7, 3) := by decide +kernel
theorem dX10_gone_112 : decode cX10_gone 112 = .ok (.iconst 1, 1) := by decide +kernel
theorem dX10_gone_113 : decode cX10_gone 113 = .ok (.goto 4, 3) := by decide +kernel
theorem dX10_gone_116 : decode cX10_gone 116 = .ok (.iconst 0, 1) := by decide +kernel
theorem dX10_gone_117 : decode cX10_gone 117 = .ok (.iadd, 1) := by decide +kernel
theorem dX10_gone_118 : decode cX10_gone 118 = .ok (.putfield 165, 3) := by decide +kernel
theorem dX10_gone_121 : decode cX10_gone 121 = .ok (.iload 9, 2) := by decide +kernel
theorem dX10_gone_123 : decode cX10_gone 123 = .ok (.ifCond .eq 8, 3) := by decide +kernel
theorem dX10_gone_126 : decode cX10_gone 126 = .ok (.lload 4, 2) := by decide +kernel
theorem dX10_gone_128 : decode cX10_gone 128 = .ok (.goto 21, 3) := by decide +kernel
theorem dX10_gone_131 : decode cX10_gone 131 = .ok (.lload 4, 2) := by decide +kernel
theorem dX10_gone_133 : decode cX10_gone 133 = .ok (.iload 10, 2) := by decide +kernel
theorem dX10_gone_135 : decode cX10_gone 135 = .ok (.iconst (-1), 1) := by decide +kernel
theorem dX10_gone_136 : decode cX10_gone 136 = .ok (.if_icmp .eq 8, 3) := by decide +kernel
theorem dX10_gone_139 : decode cX10_gone 139 = .ok (.iload 10, 2) := by decide +kernel
theorem dX10_gone_141 : decode cX10_gone 141 = .ok (.goto 5, 3) := by decide +kernel
theorem dX10_gone_144 : decode cX10_gone 144 = .ok (.iload 7, 2) := by decide +kernel
theorem dX10_gone_146 : decode cX10_gone 146 = .ok (.invokestatic 102, 3) := by decide +kernel
theorem dX10_gone_149 : decode cX10_gone 149 = .ok (.lstore 4, 2) := by decide +kernel
theorem dX10_gone_151 : decode cX10_gone 151 = .ok (.iinc 6 1, 3) := by decide +kernel
theorem dX10_gone_154 : decode cX10_gone 154 = .ok (.goto (-143), 3) := by decide +kernel
theorem dX10_gone_157 : decode cX10_gone 157 = .ok (.lload 4, 2) := by decide +kernel
theorem dX10_gone_159 : decode cX10_gone 159 = .ok (.lreturn, 1) := by decide +kernel
theorem dX10_derived_0 : decode cX10_derived 0 = .ok (.aload_n 0, 1) := by decide +kernel
theorem dX10_derived_1 : decode cX10_derived 1 = .ok (.getfield 22, 3) := by decide +kernel
theorem dX10_derived_4 : decode cX10_derived 4 = .ok (.iload_n 1, 1) := by decide +kernel
theorem dX10_derived_5 : decode cX10_derived 5 = .ok (.laload, 1) := by decide +kernel
theorem dX10_derived_6 : decode cX10_derived 6 = .ok (.aload_n 0, 1) := by decide +kernel
theorem dX10_derived_7 : decode cX10_derived 7 = .ok (.getfield 30, 3) := by decide +kernel
theorem dX10_derived_10 : decode cX10_derived 10 = .ok (.iload_n 2, 1) := by decide +kernel
theorem dX10_derived_11 : decode cX10_derived 11 = .ok (.laload, 1) := by decide +kernel
theorem dX10_derived_12 : decode cX10_derived 12 = .ok (.invokestatic 172, 3) := by decide +kernel
theorem dX10_derived_15 : decode cX10_derived 15 = .ok (.lstore 5, 2) := by decide +kernel
theorem dX10_derived_17 : decode cX10_derived 17 = .ok (.aload_n 0, 1) := by decide +kernel
theorem dX10_derived_18 : decode cX10_derived 18 = .ok (.iconst 0, 1) := by decide +kernel
theorem dX10_derived_19 : decode cX10_derived 19 = .ok (.putfield 165, 3) := by decide +kernel
theorem dX10_derived_22 : decode cX10_derived 22 = .ok (.iconst 0, 1) := by decide +kernel
theorem dX10_derived_23 : decode cX10_derived 23 = .ok (.istore 7, 2) := by decide +kernel
theorem dX10_derived_25 : decode cX10_derived 25 = .ok (.iload 7, 2) := by decide +kernel
theorem dX10_derived_27 : decode cX10_derived 27 = .ok (.aload_n 0, 1) := by decide +kernel
theorem dX10_derived_28 : decode cX10_derived 28 = .ok (.getfield 133, 3) := by decide +kernel
theorem dX10_derived_31 : decode cX10_derived 31 = .ok (.if_icmp .ge 48, 3) := by decide +kernel
theorem dX10_derived_34 : decode cX10_derived 34 = .ok (.aload_n 0, 1) := by decide +kernel
theorem dX10_derived_35 : decode cX10_derived 35 = .ok (.getfield 48, 3) := by decide +kernel
theorem dX10_derived_38 : decode cX10_derived 38 = .ok (.iload 7, 2) := by decide +kernel
theorem dX10_derived_40 : decode cX10_derived 40 = .ok (.iaload, 1) := by decide +kernel
theorem dX10_derived_41 : decode cX10_derived 41 = .ok (.istore 8, 2) := by decide +kernel
theorem dX10_derived_43 : decode cX10_derived 43 = .ok (.iload_n 3, 1) := by decide +kernel
theorem dX10_derived_44 : decode cX10_derived 44 = .ok (.iload 8, 2) := by decide +kernel
theorem dX10_derived_46 : decode cX10_derived 46 = .ok (.ishr, 1) := by decide +kernel
theorem dX10_derived_47 : decode cX10_derived 47 = .ok (.iconst 1, 1) := by decide +kernel
theorem dX10_derived_48 : decode cX10_derived 48 = .ok (.iand, 1) := by decide +kernel
theorem dX10_derived_49 : decode cX10_derived 49 = .ok (.iconst 1, 1) := by decide +kernel
theorem dX10_derived_50 : decode cX10_derived 50 = .ok (.if_icmp .ne 13, 3) := by decide +kernel
theorem dX10_derived_53 : decode cX10_derived 53 = .ok (.aload_n 0, 1) := by decide +kernel
theorem dX10_derived_54 : decode cX10_derived 54 = .ok (.iload 8, 2) := by decide +kernel
theorem dX10_derived_56 : decode cX10_derived 56 = .ok (.lload 5, 2) := by decide +kernel
theorem dX10_derived_58 : decode cX10_derived 58 = .ok (.invokevirtual 176, 3) := by decide +kernel
theorem dX10_derived_61 : decode cX10_derived 61 = .ok (.lstore 5, 2) := by decide +kernel
theorem dX10_derived_63 : decode cX10_derived 63 = .ok (.iload 8, 2) := by decide +kernel
theorem dX10_derived_65 : decode cX10_derived 65 = .ok (.iload 4, 2) := by decide +kernel
theorem dX10_derived_67 : decode cX10_derived 67 = .ok (.if_icmp .ne 6, 3) := by decide +kernel
theorem dX10_derived_70 : decode cX10_derived 70 = .ok (.lload 5, 2) := by decide +kernel
theorem dX10_derived_72 : decode cX10_derived 72 = .ok (.lreturn, 1) := by decide +kernel
theorem dX10_derived_73 : decode cX10_derived 73 = .ok (.iinc 7 1, 3) := by decide +kernel
theorem dX10_derived_76 : decode cX10_derived 76 = .ok (.goto (-51), 3) := by decide +kernel
theorem dX10_derived_79 : decode cX10_derived 79 = .ok (.lload 5, 2) := by decide +kernel
theorem dX10_derived_81 : decode cX10_derived 81 = .ok (.lreturn, 1) := by decide +kernel
theorem dX10_isException_0 : decode cX10_isException 0 = .ok (.aload_n 0, 1) := by decide +kernel
theorem dX10_isException_1 : decode cX10_isException 1 = .ok (.getfield 33, 3) := by decide +kernel
theorem dX10_isException_4 : decode cX10_isException 4 = .ok (.bipush 8, 2) := by decide +kernel
theorem dX10_isException_6 : decode cX10_isException 6 = .ok (.iload_n 1, 1) := by decide +kernel
theorem dX10_isException_7 : decode cX10_isException 7 = .ok (.imul, 1) := by decide +kernel
theorem dX10_isException_8 : decode cX10_isException 8 = .ok (.iload_n 2, 1) := by decide +kernel
theorem dX10_isException_9 : decode cX10_isException 9 = .ok (.iadd, 1) := by decide +kernel
theorem dX10_isException_10 : decode cX10_isException 10 = .ok (.laload, 1) := by decide +kernel
theorem dX10_isException_11 : decode cX10_isException 11 = .ok (.ldc2_w 84, 3) := by decide +kernel
theorem dX10_isException_14 : decode cX10_isException 14 = .ok (.lcmp, 1) := by decide +kernel
theorem dX10_isException_15 : decode cX10_isException 15 = .ok (.ifCond .eq 7, 3) := by decide +kernel
theorem dX10_isException_18 : decode cX10_isException 18 = .ok (.iconst 1, 1) := by decide +kernel
theorem dX10_isException_19 : decode cX10_isException 19 = .ok (.goto 4, 3) := by decide +kernel
theorem dX10_isException_22 : decode cX10_isException 22 = .ok (.iconst 0, 1) := by decide +kernel
theorem dX10_isException_23 : decode cX10_isException 23 = .ok (.ireturn, 1) := by decide +kernel
theorem dX10_word_0 : decode cX10_word 0 = .ok (.aload_n 0, 1) := by decide +kernel
theorem dX10_word_1 : decode cX10_word 1 = .ok (.iload_n 1, 1) := by decide +kernel
theorem dX10_word_2 : decode cX10_word 2 = .ok (.iload_n 2, 1) := by decide +kernel
theorem dX10_word_3 : decode cX10_word 3 = .ok (.invokevirtual 180, 3) := by decide +kernel
theorem dX10_word_6 : decode cX10_word 6 = .ok (.ifCond .eq 17, 3) := by decide +kernel
theorem dX10_word_9 : decode cX10_word 9 = .ok (.aload_n 0, 1) := by decide +kernel
theorem dX10_word_10 : decode cX10_word 10 = .ok (.getfield 33, 3) := by decide +kernel
theorem dX10_word_13 : decode cX10_word 13 = .ok (.bipush 8, 2) := by decide +kernel
theorem dX10_word_15 : decode cX10_word 15 = .ok (.iload_n 1, 1) := by decide +kernel
theorem dX10_word_16 : decode cX10_word 16 = .ok (.imul, 1) := by decide +kernel
theorem dX10_word_17 : decode cX10_word 17 = .ok (.iload_n 2, 1) := by decide +kernel
theorem dX10_word_18 : decode cX10_word 18 = .ok (.iadd, 1) := by decide +kernel
theorem dX10_word_19 : decode cX10_word 19 = .ok (.laload, 1) := by decide +kernel
theorem dX10_word_20 : decode cX10_word 20 = .ok (.goto 14, 3) := by decide +kernel
theorem dX10_word_23 : decode cX10_word 23 = .ok (.aload_n 0, 1) := by decide +kernel
theorem dX10_word_24 : decode cX10_word 24 = .ok (.iload_n 1, 1) := by decide +kernel
theorem dX10_word_25 : decode cX10_word 25 = .ok (.iload_n 2, 1) := by decide +kernel
theorem dX10_word_26 : decode cX10_word 26 = .ok (.aload_n 0, 1) := by decide +kernel
theorem dX10_word_27 : decode cX10_word 27 = .ok (.getfield 155, 3) := by decide +kernel
theorem dX10_word_30 : decode cX10_word 30 = .ok (.iconst (-1), 1) := by decide +kernel
theorem dX10_word_31 : decode cX10_word 31 = .ok (.invokevirtual 183, 3) := by decide +kernel
theorem dX10_word_34 : decode cX10_word 34 = .ok (.lreturn, 1) := by decide +kernel
theorem dX10_steps_0 : decode cX10_steps 0 = .ok (.aload_n 0, 1) := by decide +kernel
theorem dX10_steps_1 : decode cX10_steps 1 = .ok (.getfield 155, 3) := by decide +kernel
theorem dX10_steps_4 : decode cX10_steps 4 = .ok (.iload_n 3, 1) := by decide +kernel
theorem dX10_steps_5 : decode cX10_steps 5 = .ok (.ishr, 1) := by decide +kernel
theorem dX10_steps_6 : decode cX10_steps 6 = .ok (.iconst 1, 1) := by decide +kernel
theorem dX10_steps_7 : decode cX10_steps 7 = .ok (.iand, 1) := by decide +kernel
theorem dX10_steps_8 : decode cX10_steps 8 = .ok (.ifCond .ne 5, 3) := by decide +kernel
theorem dX10_steps_11 : decode cX10_steps 11 = .ok (.iconst 0, 1) := by decide +kernel
theorem dX10_steps_12 : decode cX10_steps 12 = .ok (.ireturn, 1) := by decide +kernel
theorem dX10_steps_13 : decode cX10_steps 13 = .ok (.aload_n 0, 1) := by decide +kernel
theorem dX10_steps_14 : decode cX10_steps 14 = .ok (.iload_n 1, 1) := by decide +kernel
theorem dX10_steps_15 : decode cX10_steps 15 = .ok (.iload_n 2, 1) := by decide +kernel
theorem dX10_steps_16 : decode cX10_steps 16 = .ok (.aload_n 0, 1) := by decide +kernel
theorem dX10_steps_17 : decode cX10_steps 17 = .ok (.getfield 155, 3) := by decide +kernel
theorem dX10_steps_20 : decode cX10_steps 20 = .ok (.iload_n 3, 1) := by decide +kernel
theorem dX10_steps_21 : decode cX10_steps 21 = .ok (.invokevirtual 183, 3) := by decide +kernel
theorem dX10_steps_24 : decode cX10_steps 24 = .ok (.pop2, 1) := by decide +kernel
theorem dX10_steps_25 : decode cX10_steps 25 = .ok (.aload_n 0, 1) := by decide +kernel
theorem dX10_steps_26 : decode cX10_steps 26 = .ok (.getfield 165, 3) := by decide +kernel
theorem dX10_steps_29 : decode cX10_steps 29 = .ok (.ireturn, 1) := by decide +kernel
theorem dX10_isWord_0 : decode cX10_isWord 0 = .ok (.iload_n 1, 1) := by decide +kernel
theorem dX10_isWord_1 : decode cX10_isWord 1 = .ok (.iconst 0, 1) := by decide +kernel
theorem dX10_isWord_2 : decode cX10_isWord 2 = .ok (.aload_n 0, 1) := by decide +kernel
theorem dX10_isWord_3 : decode cX10_isWord 3 = .ok (.getfield 187, 3) := by decide +kernel
theorem dX10_isWord_6 : decode cX10_isWord 6 = .ok (.iconst 1, 1) := by decide +kernel
theorem dX10_isWord_7 : decode cX10_isWord 7 = .ok (.isub, 1) := by decide +kernel
theorem dX10_isWord_8 : decode cX10_isWord 8 = .ok (.invokestatic 109, 3) := by decide +kernel
theorem dX10_isWord_11 : decode cX10_isWord 11 = .ok (.ifCond .eq 16, 3) := by decide +kernel
theorem dX10_isWord_14 : decode cX10_isWord 14 = .ok (.aload_n 0, 1) := by decide +kernel
theorem dX10_isWord_15 : decode cX10_isWord 15 = .ok (.getfield 63, 3) := by decide +kernel
theorem dX10_isWord_18 : decode cX10_isWord 18 = .ok (.iload_n 1, 1) := by decide +kernel
theorem dX10_isWord_19 : decode cX10_isWord 19 = .ok (.baload, 1) := by decide +kernel
theorem dX10_isWord_20 : decode cX10_isWord 20 = .ok (.ifCond .eq 7, 3) := by decide +kernel
theorem dX10_isWord_23 : decode cX10_isWord 23 = .ok (.iconst 1, 1) := by decide +kernel
theorem dX10_isWord_24 : decode cX10_isWord 24 = .ok (.goto 4, 3) := by decide +kernel
theorem dX10_isWord_27 : decode cX10_isWord 27 = .ok (.iconst 0, 1) := by decide +kernel
theorem dX10_isWord_28 : decode cX10_isWord 28 = .ok (.ireturn, 1) := by decide +kernel
theorem dX10_hear_0 : decode cX10_hear 0 = .ok (.aload_n 0, 1) := by decide +kernel
theorem dX10_hear_1 : decode cX10_hear 1 = .ok (.iload_n 1, 1) := by decide +kernel
theorem dX10_hear_2 : decode cX10_hear 2 = .ok (.invokevirtual 143, 3) := by decide +kernel
theorem dX10_hear_5 : decode cX10_hear 5 = .ok (.ifCond .eq 23, 3) := by decide +kernel
theorem dX10_hear_8 : decode cX10_hear 8 = .ok (.iload_n 2, 1) := by decide +kernel
theorem dX10_hear_9 : decode cX10_hear 9 = .ok (.invokestatic 146, 3) := by decide +kernel
theorem dX10_hear_12 : decode cX10_hear 12 = .ok (.ifCond .eq 16, 3) := by decide +kernel
theorem dX10_hear_15 : decode cX10_hear 15 = .ok (.iload_n 3, 1) := by decide +kernel
theorem dX10_hear_16 : decode cX10_hear 16 = .ok (.iconst 0, 1) := by decide +kernel
theorem dX10_hear_17 : decode cX10_hear 17 = .ok (.iconst 3, 1) := by decide +kernel
theorem dX10_hear_18 : decode cX10_hear 18 = .ok (.invokestatic 109, 3) := by decide +kernel
theorem dX10_hear_21 : decode cX10_hear 21 = .ok (.ifCond .eq 7, 3) := by decide +kernel
theorem dX10_hear_24 : decode cX10_hear 24 = .ok (.iconst 1, 1) := by decide +kernel
theorem dX10_hear_25 : decode cX10_hear 25 = .ok (.goto 4, 3) := by decide +kernel
theorem dX10_hear_28 : decode cX10_hear 28 = .ok (.iconst 0, 1) := by decide +kernel
theorem dX10_hear_29 : decode cX10_hear 29 = .ok (.istore 4, 2) := by decide +kernel
theorem dX10_hear_31 : decode cX10_hear 31 = .ok (.aload_n 0, 1) := by decide +kernel
theorem dX10_hear_32 : decode cX10_hear 32 = .ok (.iload 4, 2) := by decide +kernel
theorem dX10_hear_34 : decode cX10_hear 34 = .ok (.ifCond .ne 7, 3) := by decide +kernel
theorem dX10_hear_37 : decode cX10_hear 37 = .ok (.iconst 1, 1) := by decide +kernel
theorem dX10_hear_38 : decode cX10_hear 38 = .ok (.goto 17, 3) := by decide +kernel
theorem dX10_hear_41 : decode cX10_hear 41 = .ok (.aload_n 0, 1) := by decide +kernel
theorem dX10_hear_42 : decode cX10_hear 42 = .ok (.getfield 187, 3) := by decide +kernel
theorem dX10_hear_45 : decode cX10_hear 45 = .ok (.bipush 40, 2) := by decide +kernel
theorem dX10_hear_47 : decode cX10_hear 47 = .ok (.if_icmp .ne 7, 3) := by decide +kernel
theorem dX10_hear_50 : decode cX10_hear 50 = .ok (.iconst 2, 1) := by decide +kernel
theorem dX10_hear_51 : decode cX10_hear 51 = .ok (.goto 4, 3) := by decide +kernel
theorem dX10_hear_54 : decode cX10_hear 54 = .ok (.iconst 0, 1) := by decide +kernel
theorem dX10_hear_55 : decode cX10_hear 55 = .ok (.invokevirtual 116, 3) := by decide +kernel
theorem dX10_hear_58 : decode cX10_hear 58 = .ok (.ifCond .ne 5, 3) := by decide +kernel
theorem dX10_hear_61 : decode cX10_hear 61 = .ok (.iconst 0, 1) := by decide +kernel
theorem dX10_hear_62 : decode cX10_hear 62 = .ok (.ireturn, 1) := by decide +kernel
theorem dX10_hear_63 : decode cX10_hear 63 = .ok (.aload_n 0, 1) := by decide +kernel
theorem dX10_hear_64 : decode cX10_hear 64 = .ok (.getfield 51, 3) := by decide +kernel
theorem dX10_hear_67 : decode cX10_hear 67 = .ok (.aload_n 0, 1) := by decide +kernel
theorem dX10_hear_68 : decode cX10_hear 68 = .ok (.getfield 187, 3) := by decide +kernel
theorem dX10_hear_71 : decode cX10_hear 71 = .ok (.iload_n 1, 1) := by decide +kernel
theorem dX10_hear_72 : decode cX10_hear 72 = .ok (.iastore, 1) := by decide +kernel
theorem dX10_hear_73 : decode cX10_hear 73 = .ok (.aload_n 0, 1) := by decide +kernel
theorem dX10_hear_74 : decode cX10_hear 74 = .ok (.getfield 54, 3) := by decide +kernel
theorem dX10_hear_77 : decode cX10_hear 77 = .ok (.aload_n 0, 1) := by decide +kernel
theorem dX10_hear_78 : decode cX10_hear 78 = .ok (.getfield 187, 3) := by decide +kernel
theorem dX10_hear_81 : decode cX10_hear 81 = .ok (.iload_n 2, 1) := by decide +kernel
theorem dX10_hear_82 : decode cX10_hear 82 = .ok (.iastore, 1) := by decide +kernel
theorem dX10_hear_83 : decode cX10_hear 83 = .ok (.aload_n 0, 1) := by decide +kernel
theorem dX10_hear_84 : decode cX10_hear 84 = .ok (.getfield 57, 3) := by decide +kernel
theorem dX10_hear_87 : decode cX10_hear 87 = .ok (.aload_n 0, 1) := by decide +kernel
theorem dX10_hear_88 : decode cX10_hear 88 = .ok (.getfield 187, 3) := by decide +kernel
theorem dX10_hear_91 : decode cX10_hear 91 = .ok (.iload_n 3, 1) := by decide +kernel
theorem dX10_hear_92 : decode cX10_hear 92 = .ok (.iastore, 1) := by decide +kernel
theorem dX10_hear_93 : decode cX10_hear 93 = .ok (.aload_n 0, 1) := by decide +kernel
theorem dX10_hear_94 : decode cX10_hear 94 = .ok (.getfield 60, 3) := by decide +kernel
theorem dX10_hear_97 : decode cX10_hear 97 = .ok (.aload_n 0, 1) := by decide +kernel
theorem dX10_hear_98 : decode cX10_hear 98 = .ok (.getfield 187, 3) := by decide +kernel
theorem dX10_hear_101 : decode cX10_hear 101 = .ok (.aload_n 0, 1) := by decide +kernel
theorem dX10_hear_102 : decode cX10_hear 102 = .ok (.invokevirtual 126, 3) := by decide +kernel
theorem dX10_hear_105 : decode cX10_hear 105 = .ok (.lastore, 1) := by decide +kernel
theorem dX10_hear_106 : decode cX10_hear 106 = .ok (.aload_n 0, 1) := by decide +kernel
theorem dX10_hear_107 : decode cX10_hear 107 = .ok (.getfield 63, 3) := by decide +kernel
theorem dX10_hear_110 : decode cX10_hear 110 = .ok (.aload_n 0, 1) := by decide +kernel
theorem dX10_hear_111 : decode cX10_hear 111 = .ok (.getfield 187, 3) := by decide +kernel
theorem dX10_hear_114 : decode cX10_hear 114 = .ok (.iconst 1, 1) := by decide +kernel
theorem dX10_hear_115 : decode cX10_hear 115 = .ok (.bastore, 1) := by decide +kernel
theorem dX10_hear_116 : decode cX10_hear 116 = .ok (.aload_n 0, 1) := by decide +kernel
theorem dX10_hear_117 : decode cX10_hear 117 = .ok (.dup, 1) := by decide +kernel
theorem dX10_hear_118 : decode cX10_hear 118 = .ok (.getfield 187, 3) := by decide +kernel
theorem dX10_hear_121 : decode cX10_hear 121 = .ok (.iconst 1, 1) := by decide +kernel
theorem dX10_hear_122 : decode cX10_hear 122 = .ok (.iadd, 1) := by decide +kernel
theorem dX10_hear_123 : decode cX10_hear 123 = .ok (.putfield 187, 3) := by decide +kernel
theorem dX10_hear_126 : decode cX10_hear 126 = .ok (.aload_n 0, 1) := by decide +kernel
theorem dX10_hear_127 : decode cX10_hear 127 = .ok (.getfield 187, 3) := by decide +kernel
theorem dX10_hear_130 : decode cX10_hear 130 = .ok (.iconst 1, 1) := by decide +kernel
theorem dX10_hear_131 : decode cX10_hear 131 = .ok (.isub, 1) := by decide +kernel
theorem dX10_hear_132 : decode cX10_hear 132 = .ok (.ireturn, 1) := by decide +kernel
theorem dX10_correct_0 : decode cX10_correct 0 = .ok (.aload_n 0, 1) := by decide +kernel
theorem dX10_correct_1 : decode cX10_correct 1 = .ok (.aload_n 0, 1) := by decide +kernel
theorem dX10_correct_2 : decode cX10_correct 2 = .ok (.iload_n 1, 1) := by decide +kernel
theorem dX10_correct_3 : decode cX10_correct 3 = .ok (.invokevirtual 190, 3) := by decide +kernel
theorem dX10_correct_6 : decode cX10_correct 6 = .ok (.ifCond .eq 7, 3) := by decide +kernel
theorem dX10_correct_9 : decode cX10_correct 9 = .ok (.iconst 0, 1) := by decide +kernel
theorem dX10_correct_10 : decode cX10_correct 10 = .ok (.goto 4, 3) := by decide +kernel
theorem dX10_correct_13 : decode cX10_correct 13 = .ok (.iconst 1, 1) := by decide +kernel
theorem dX10_correct_14 : decode cX10_correct 14 = .ok (.invokevirtual 116, 3) := by decide +kernel
theorem dX10_correct_17 : decode cX10_correct 17 = .ok (.ifCond .ne 5, 3) := by decide +kernel
theorem dX10_correct_20 : decode cX10_correct 20 = .ok (.iconst 0, 1) := by decide +kernel
theorem dX10_correct_21 : decode cX10_correct 21 = .ok (.ireturn, 1) := by decide +kernel
theorem dX10_correct_22 : decode cX10_correct 22 = .ok (.aload_n 0, 1) := by decide +kernel
theorem dX10_correct_23 : decode cX10_correct 23 = .ok (.getfield 60, 3) := by decide +kernel
theorem dX10_correct_26 : decode cX10_correct 26 = .ok (.iload_n 1, 1) := by decide +kernel
theorem dX10_correct_27 : decode cX10_correct 27 = .ok (.laload, 1) := by decide +kernel
theorem dX10_correct_28 : decode cX10_correct 28 = .ok (.lstore_n 2, 1) := by decide +kernel
theorem dX10_correct_29 : decode cX10_correct 29 = .ok (.aload_n 0, 1) := by decide +kernel
theorem dX10_correct_30 : decode cX10_correct 30 = .ok (.getfield 60, 3) := by decide +kernel
theorem dX10_correct_33 : decode cX10_correct 33 = .ok (.iload_n 1, 1) := by decide +kernel
theorem dX10_correct_34 : decode cX10_correct 34 = .ok (.aload_n 0, 1) := by decide +kernel
theorem dX10_correct_35 : decode cX10_correct 35 = .ok (.invokevirtual 126, 3) := by decide +kernel
theorem dX10_correct_38 : decode cX10_correct 38 = .ok (.lastore, 1) := by decide +kernel
theorem dX10_correct_39 : decode cX10_correct 39 = .ok (.aload_n 0, 1) := by decide +kernel
theorem dX10_correct_40 : decode cX10_correct 40 = .ok (.getfield 60, 3) := by decide +kernel
theorem dX10_correct_43 : decode cX10_correct 43 = .ok (.iload_n 1, 1) := by decide +kernel
theorem dX10_correct_44 : decode cX10_correct 44 = .ok (.laload, 1) := by decide +kernel
theorem dX10_correct_45 : decode cX10_correct 45 = .ok (.lload_n 2, 1) := by decide +kernel
theorem dX10_correct_46 : decode cX10_correct 46 = .ok (.lcmp, 1) := by decide +kernel
theorem dX10_correct_47 : decode cX10_correct 47 = .ok (.ifCond .eq 7, 3) := by decide +kernel
theorem dX10_correct_50 : decode cX10_correct 50 = .ok (.iconst 1, 1) := by decide +kernel
theorem dX10_correct_51 : decode cX10_correct 51 = .ok (.goto 4, 3) := by decide +kernel
theorem dX10_correct_54 : decode cX10_correct 54 = .ok (.iconst 0, 1) := by decide +kernel
theorem dX10_correct_55 : decode cX10_correct 55 = .ok (.ireturn, 1) := by decide +kernel
theorem dX10_forget_0 : decode cX10_forget 0 = .ok (.aload_n 0, 1) := by decide +kernel
theorem dX10_forget_1 : decode cX10_forget 1 = .ok (.aload_n 0, 1) := by decide +kernel
theorem dX10_forget_2 : decode cX10_forget 2 = .ok (.iload_n 1, 1) := by decide +kernel
theorem dX10_forget_3 : decode cX10_forget 3 = .ok (.invokevirtual 190, 3) := by decide +kernel
theorem dX10_forget_6 : decode cX10_forget 6 = .ok (.ifCond .eq 7, 3) := by decide +kernel
theorem dX10_forget_9 : decode cX10_forget 9 = .ok (.iconst 0, 1) := by decide +kernel
theorem dX10_forget_10 : decode cX10_forget 10 = .ok (.goto 4, 3) := by decide +kernel
theorem dX10_forget_13 : decode cX10_forget 13 = .ok (.iconst 1, 1) := by decide +kernel
theorem dX10_forget_14 : decode cX10_forget 14 = .ok (.invokevirtual 116, 3) := by decide +kernel
theorem dX10_forget_17 : decode cX10_forget 17 = .ok (.ifCond .ne 5, 3) := by decide +kernel
theorem dX10_forget_20 : decode cX10_forget 20 = .ok (.iconst 0, 1) := by decide +kernel
theorem dX10_forget_21 : decode cX10_forget 21 = .ok (.ireturn, 1) := by decide +kernel
theorem dX10_forget_22 : decode cX10_forget 22 = .ok (.aload_n 0, 1) := by decide +kernel
theorem dX10_forget_23 : decode cX10_forget 23 = .ok (.getfield 63, 3) := by decide +kernel
theorem dX10_forget_26 : decode cX10_forget 26 = .ok (.iload_n 1, 1) := by decide +kernel
theorem dX10_forget_27 : decode cX10_forget 27 = .ok (.iconst 0, 1) := by decide +kernel
theorem dX10_forget_28 : decode cX10_forget 28 = .ok (.bastore, 1) := by decide +kernel
theorem dX10_forget_29 : decode cX10_forget 29 = .ok (.iconst 0, 1) := by decide +kernel
theorem dX10_forget_30 : decode cX10_forget 30 = .ok (.istore_n 2, 1) := by decide +kernel
theorem dX10_forget_31 : decode cX10_forget 31 = .ok (.iconst 0, 1) := by decide +kernel
theorem dX10_forget_32 : decode cX10_forget 32 = .ok (.istore_n 3, 1) := by decide +kernel
theorem dX10_forget_33 : decode cX10_forget 33 = .ok (.iload_n 3, 1) := by decide +kernel
theorem dX10_forget_34 : decode cX10_forget 34 = .ok (.aload_n 0, 1) := by decide +kernel
theorem dX10_forget_35 : decode cX10_forget 35 = .ok (.getfield 187, 3) := by decide +kernel
theorem dX10_forget_38 : decode cX10_forget 38 = .ok (.if_icmp .ge 26, 3) := by decide +kernel
theorem dX10_forget_41 : decode cX10_forget 41 = .ok (.iload_n 2, 1) := by decide +kernel
theorem dX10_forget_42 : decode cX10_forget 42 = .ok (.aload_n 0, 1) := by decide +kernel
theorem dX10_forget_43 : decode cX10_forget 43 = .ok (.getfield 63, 3) := by decide +kernel
theorem dX10_forget_46 : decode cX10_forget 46 = .ok (.iload_n 3, 1) := by decide +kernel
theorem dX10_forget_47 : decode cX10_forget 47 = .ok (.baload, 1) := by decide +kernel
theorem dX10_forget_48 : decode cX10_forget 48 = .ok (.ifCond .eq 7, 3) := by decide +kernel
theorem dX10_forget_51 : decode cX10_forget 51 = .ok (.iconst 1, 1) := by decide +kernel
theorem dX10_forget_52 : decode cX10_forget 52 = .ok (.goto 4, 3) := by decide +kernel
theorem dX10_forget_55 : decode cX10_forget 55 = .ok (.iconst 0, 1) := by decide +kernel
theorem dX10_forget_56 : decode cX10_forget 56 = .ok (.iadd, 1) := by decide +kernel
theorem dX10_forget_57 : decode cX10_forget 57 = .ok (.istore_n 2, 1) := by decide +kernel
theorem dX10_forget_58 : decode cX10_forget 58 = .ok (.iinc 3 1, 3) := by decide +kernel
theorem dX10_forget_61 : decode cX10_forget 61 = .ok (.goto (-28), 3) := by decide +kernel
theorem dX10_forget_64 : decode cX10_forget 64 = .ok (.iload_n 2, 1) := by decide +kernel
theorem dX10_forget_65 : decode cX10_forget 65 = .ok (.ireturn, 1) := by decide +kernel
theorem dX10_except_0 : decode cX10_except 0 = .ok (.aload_n 0, 1) := by decide +kernel
theorem dX10_except_1 : decode cX10_except 1 = .ok (.aload_n 0, 1) := by decide +kernel
theorem dX10_except_2 : decode cX10_except 2 = .ok (.iload_n 1, 1) := by decide +kernel
theorem dX10_except_3 : decode cX10_except 3 = .ok (.invokevirtual 143, 3) := by decide +kernel
theorem dX10_except_6 : decode cX10_except 6 = .ok (.ifCond .eq 14, 3) := by decide +kernel
theorem dX10_except_9 : decode cX10_except 9 = .ok (.iload_n 2, 1) := by decide +kernel
theorem dX10_except_10 : decode cX10_except 10 = .ok (.invokestatic 146, 3) := by decide +kernel
theorem dX10_except_13 : decode cX10_except 13 = .ok (.ifCond .eq 7, 3) := by decide +kernel
theorem dX10_except_16 : decode cX10_except 16 = .ok (.iconst 0, 1) := by decide +kernel
theorem dX10_except_17 : decode cX10_except 17 = .ok (.goto 4, 3) := by decide +kernel
theorem dX10_except_20 : decode cX10_except 20 = .ok (.iconst 1, 1) := by decide +kernel
theorem dX10_except_21 : decode cX10_except 21 = .ok (.invokevirtual 116, 3) := by decide +kernel
theorem dX10_except_24 : decode cX10_except 24 = .ok (.ifCond .ne 5, 3) := by decide +kernel
theorem dX10_except_27 : decode cX10_except 27 = .ok (.iconst 0, 1) := by decide +kernel
theorem dX10_except_28 : decode cX10_except 28 = .ok (.ireturn, 1) := by decide +kernel
theorem dX10_except_29 : decode cX10_except 29 = .ok (.aload_n 0, 1) := by decide +kernel
theorem dX10_except_30 : decode cX10_except 30 = .ok (.iload_n 1, 1) := by decide +kernel
theorem dX10_except_31 : decode cX10_except 31 = .ok (.iload_n 2, 1) := by decide +kernel
theorem dX10_except_32 : decode cX10_except 32 = .ok (.invokevirtual 180, 3) := by decide +kernel
theorem dX10_except_35 : decode cX10_except 35 = .ok (.istore 4, 2) := by decide +kernel
theorem dX10_except_37 : decode cX10_except 37 = .ok (.aload_n 0, 1) := by decide +kernel
theorem dX10_except_38 : decode cX10_except 38 = .ok (.getfield 33, 3) := by decide +kernel
theorem dX10_except_41 : decode cX10_except 41 = .ok (.bipush 8, 2) := by decide +kernel
theorem dX10_except_43 : decode cX10_except 43 = .ok (.iload_n 1, 1) := by decide +kernel
theorem dX10_except_44 : decode cX10_except 44 = .ok (.imul, 1) := by decide +kernel
theorem dX10_except_45 : decode cX10_except 45 = .ok (.iload_n 2, 1) := by decide +kernel
theorem dX10_except_46 : decode cX10_except 46 = .ok (.iadd, 1) := by decide +kernel
theorem dX10_except_47 : decode cX10_except 47 = .ok (.iload_n 3, 1) := by decide +kernel
theorem dX10_except_48 : decode cX10_except 48 = .ok (.ifCond .eq 10, 3) := by decide +kernel
theorem dX10_except_51 : decode cX10_except 51 = .ok (.aload_n 0, 1) := by decide +kernel
theorem dX10_except_52 : decode cX10_except 52 = .ok (.invokevirtual 126, 3) := by decide +kernel
theorem dX10_except_55 : decode cX10_except 55 = .ok (.goto 6, 3) := by decide +kernel
theorem dX10_except_58 : decode cX10_except 58 = .ok (.ldc2_w 84, 3) := by decide +kernel
theorem dX10_except_61 : decode cX10_except 61 = .ok (.lastore, 1) := by decide +kernel
theorem dX10_except_62 : decode cX10_except 62 = .ok (.iload 4, 2) := by decide +kernel
theorem dX10_except_64 : decode cX10_except 64 = .ok (.ireturn, 1) := by decide +kernel
theorem dX10_keeps_0 : decode cX10_keeps 0 = .ok (.aload_n 0, 1) := by decide +kernel
theorem dX10_keeps_1 : decode cX10_keeps 1 = .ok (.getfield 66, 3) := by decide +kernel
theorem dX10_keeps_4 : decode cX10_keeps 4 = .ok (.aload_n 0, 1) := by decide +kernel
theorem dX10_keeps_5 : decode cX10_keeps 5 = .ok (.getfield 193, 3) := by decide +kernel
theorem dX10_keeps_8 : decode cX10_keeps 8 = .ok (.iload_n 1, 1) := by decide +kernel
theorem dX10_keeps_9 : decode cX10_keeps 9 = .ok (.bastore, 1) := by decide +kernel
theorem dX10_keeps_10 : decode cX10_keeps 10 = .ok (.aload_n 0, 1) := by decide +kernel
theorem dX10_keeps_11 : decode cX10_keeps 11 = .ok (.getfield 69, 3) := by decide +kernel
theorem dX10_keeps_14 : decode cX10_keeps 14 = .ok (.aload_n 0, 1) := by decide +kernel
theorem dX10_keeps_15 : decode cX10_keeps 15 = .ok (.getfield 193, 3) := by decide +kernel
theorem dX10_keeps_18 : decode cX10_keeps 18 = .ok (.iload_n 2, 1) := by decide +kernel
theorem dX10_keeps_19 : decode cX10_keeps 19 = .ok (.iastore, 1) := by decide +kernel
theorem dX10_keeps_20 : decode cX10_keeps 20 = .ok (.aload_n 0, 1) := by decide +kernel
theorem dX10_keeps_21 : decode cX10_keeps 21 = .ok (.getfield 72, 3) := by decide +kernel
theorem dX10_keeps_24 : decode cX10_keeps 24 = .ok (.aload_n 0, 1) := by decide +kernel
theorem dX10_keeps_25 : decode cX10_keeps 25 = .ok (.getfield 193, 3) := by decide +kernel
theorem dX10_keeps_28 : decode cX10_keeps 28 = .ok (.iload_n 3, 1) := by decide +kernel
theorem dX10_keeps_29 : decode cX10_keeps 29 = .ok (.iastore, 1) := by decide +kernel
theorem dX10_keeps_30 : decode cX10_keeps 30 = .ok (.aload_n 0, 1) := by decide +kernel
theorem dX10_keeps_31 : decode cX10_keeps 31 = .ok (.getfield 75, 3) := by decide +kernel
theorem dX10_keeps_34 : decode cX10_keeps 34 = .ok (.aload_n 0, 1) := by decide +kernel
theorem dX10_keeps_35 : decode cX10_keeps 35 = .ok (.getfield 193, 3) := by decide +kernel
theorem dX10_keeps_38 : decode cX10_keeps 38 = .ok (.lconst 0, 1) := by decide +kernel
theorem dX10_keeps_39 : decode cX10_keeps 39 = .ok (.lastore, 1) := by decide +kernel
theorem dX10_keeps_40 : decode cX10_keeps 40 = .ok (.iconst 0, 1) := by decide +kernel
theorem dX10_keeps_41 : decode cX10_keeps 41 = .ok (.istore 4, 2) := by decide +kernel
theorem dX10_keeps_43 : decode cX10_keeps 43 = .ok (.iload 4, 2) := by decide +kernel
theorem dX10_keeps_45 : decode cX10_keeps 45 = .ok (.bipush 8, 2) := by decide +kernel
theorem dX10_keeps_47 : decode cX10_keeps 47 = .ok (.if_icmp .ge 66, 3) := by decide +kernel
theorem dX10_keeps_50 : decode cX10_keeps 50 = .ok (.aload_n 0, 1) := by decide +kernel
theorem dX10_keeps_51 : decode cX10_keeps 51 = .ok (.getfield 78, 3) := by decide +kernel
theorem dX10_keeps_54 : decode cX10_keeps 54 = .ok (.bipush 16, 2) := by decide +kernel
theorem dX10_keeps_56 : decode cX10_keeps 56 = .ok (.aload_n 0, 1) := by decide +kernel
theorem dX10_keeps_57 : decode cX10_keeps 57 = .ok (.getfield 193, 3) := by decide +kernel
theorem dX10_keeps_60 : decode cX10_keeps 60 = .ok (.imul, 1) := by decide +kernel
theorem dX10_keeps_61 : decode cX10_keeps 61 = .ok (.iload 4, 2) := by decide +kernel
theorem dX10_keeps_63 : decode cX10_keeps 63 = .ok (.iadd, 1) := by decide +kernel
theorem dX10_keeps_64 : decode cX10_keeps 64 = .ok (.aload_n 0, 1) := by decide +kernel
theorem dX10_keeps_65 : decode cX10_keeps 65 = .ok (.getfield 33, 3) := by decide +kernel
theorem dX10_keeps_68 : decode cX10_keeps 68 = .ok (.bipush 8, 2) := by decide +kernel
theorem dX10_keeps_70 : decode cX10_keeps 70 = .ok (.iload_n 2, 1) := by decide +kernel
theorem dX10_keeps_71 : decode cX10_keeps 71 = .ok (.imul, 1) := by decide +kernel
theorem dX10_keeps_72 : decode cX10_keeps 72 = .ok (.iload 4, 2) := by decide +kernel
theorem dX10_keeps_74 : decode cX10_keeps 74 = .ok (.iadd, 1) := by decide +kernel
theorem dX10_keeps_75 : decode cX10_keeps 75 = .ok (.laload, 1) := by decide +kernel
theorem dX10_keeps_76 : decode cX10_keeps 76 = .ok (.lastore, 1) := by decide +kernel
theorem dX10_keeps_77 : decode cX10_keeps 77 = .ok (.aload_n 0, 1) := by decide +kernel
theorem dX10_keeps_78 : decode cX10_keeps 78 = .ok (.getfield 78, 3) := by decide +kernel
theorem dX10_keeps_81 : decode cX10_keeps 81 = .ok (.bipush 16, 2) := by decide +kernel
theorem dX10_keeps_83 : decode cX10_keeps 83 = .ok (.aload_n 0, 1) := by decide +kernel
theorem dX10_keeps_84 : decode cX10_keeps 84 = .ok (.getfield 193, 3) := by decide +kernel
theorem dX10_keeps_87 : decode cX10_keeps 87 = .ok (.imul, 1) := by decide +kernel
theorem dX10_keeps_88 : decode cX10_keeps 88 = .ok (.bipush 8, 2) := by decide +kernel
theorem dX10_keeps_90 : decode cX10_keeps 90 = .ok (.iadd, 1) := by decide +kernel
theorem dX10_keeps_91 : decode cX10_keeps 91 = .ok (.iload 4, 2) := by decide +kernel
theorem dX10_keeps_93 : decode cX10_keeps 93 = .ok (.iadd, 1) := by decide +kernel
theorem dX10_keeps_94 : decode cX10_keeps 94 = .ok (.aload_n 0, 1) := by decide +kernel
theorem dX10_keeps_95 : decode cX10_keeps 95 = .ok (.getfield 33, 3) := by decide +kernel
theorem dX10_keeps_98 : decode cX10_keeps 98 = .ok (.bipush 8, 2) := by decide +kernel
theorem dX10_keeps_100 : decode cX10_keeps 100 = .ok (.iload_n 3, 1) := by decide +kernel
theorem dX10_keeps_101 : decode cX10_keeps 101 = .ok (.imul, 1) := by decide +kernel
theorem dX10_keeps_102 : decode cX10_keeps 102 = .ok (.iload 4, 2) := by decide +kernel
theorem dX10_keeps_104 : decode cX10_keeps 104 = .ok (.iadd, 1) := by decide +kernel
theorem dX10_keeps_105 : decode cX10_keeps 105 = .ok (.laload, 1) := by decide +kernel
theorem dX10_keeps_106 : decode cX10_keeps 106 = .ok (.lastore, 1) := by decide +kernel
theorem dX10_keeps_107 : decode cX10_keeps 107 = .ok (.iinc 4 1, 3) := by decide +kernel
theorem dX10_keeps_110 : decode cX10_keeps 110 = .ok (.goto (-67), 3) := by decide +kernel
theorem dX10_keeps_113 : decode cX10_keeps 113 = .ok (.return_, 1) := by decide +kernel
theorem dX10_moves_0 : decode cX10_moves 0 = .ok (.iconst 0, 1) := by decide +kernel
theorem dX10_moves_1 : decode cX10_moves 1 = .ok (.istore 4, 2) := by decide +kernel
theorem dX10_moves_3 : decode cX10_moves 3 = .ok (.iconst 0, 1) := by decide +kernel
theorem dX10_moves_4 : decode cX10_moves 4 = .ok (.istore 5, 2) := by decide +kernel
theorem dX10_moves_6 : decode cX10_moves 6 = .ok (.iload 5, 2) := by decide +kernel
theorem dX10_moves_8 : decode cX10_moves 8 = .ok (.aload_n 0, 1) := by decide +kernel
theorem dX10_moves_9 : decode cX10_moves 9 = .ok (.getfield 187, 3) := by decide +kernel
theorem dX10_moves_12 : decode cX10_moves 12 = .ok (.if_icmp .ge 72, 3) := by decide +kernel
theorem dX10_moves_15 : decode cX10_moves 15 = .ok (.aload_n 0, 1) := by decide +kernel
theorem dX10_moves_16 : decode cX10_moves 16 = .ok (.getfield 63, 3) := by decide +kernel
theorem dX10_moves_19 : decode cX10_moves 19 = .ok (.iload 5, 2) := by decide +kernel
theorem dX10_moves_21 : decode cX10_moves 21 = .ok (.baload, 1) := by decide +kernel
theorem dX10_moves_22 : decode cX10_moves 22 = .ok (.ifCond .eq 56, 3) := by decide +kernel
theorem dX10_moves_25 : decode cX10_moves 25 = .ok (.aload_n 0, 1) := by decide +kernel
theorem dX10_moves_26 : decode cX10_moves 26 = .ok (.getfield 51, 3) := by decide +kernel
theorem dX10_moves_29 : decode cX10_moves 29 = .ok (.iload 5, 2) := by decide +kernel
theorem dX10_moves_31 : decode cX10_moves 31 = .ok (.iaload, 1) := by decide +kernel
theorem dX10_moves_32 : decode cX10_moves 32 = .ok (.iload_n 1, 1) := by decide +kernel
theorem dX10_moves_33 : decode cX10_moves 33 = .ok (.if_icmp .ne 45, 3) := by decide +kernel
theorem dX10_moves_36 : decode cX10_moves 36 = .ok (.iload_n 3, 1) := by decide +kernel
theorem dX10_moves_37 : decode cX10_moves 37 = .ok (.aload_n 0, 1) := by decide +kernel
theorem dX10_moves_38 : decode cX10_moves 38 = .ok (.getfield 54, 3) := by decide +kernel
theorem dX10_moves_41 : decode cX10_moves 41 = .ok (.iload 5, 2) := by decide +kernel
theorem dX10_moves_43 : decode cX10_moves 43 = .ok (.iaload, 1) := by decide +kernel
theorem dX10_moves_44 : decode cX10_moves 44 = .ok (.ishr, 1) := by decide +kernel
theorem dX10_moves_45 : decode cX10_moves 45 = .ok (.iconst 1, 1) := by decide +kernel
theorem dX10_moves_46 : decode cX10_moves 46 = .ok (.iand, 1) := by decide +kernel
theorem dX10_moves_47 : decode cX10_moves 47 = .ok (.iconst 1, 1) := by decide +kernel
theorem dX10_moves_48 : decode cX10_moves 48 = .ok (.if_icmp .ne 30, 3) := by decide +kernel
theorem dX10_moves_51 : decode cX10_moves 51 = .ok (.aload_n 0, 1) := by decide +kernel
theorem dX10_moves_52 : decode cX10_moves 52 = .ok (.getfield 51, 3) := by decide +kernel
theorem dX10_moves_55 : decode cX10_moves 55 = .ok (.iload 5, 2) := by decide +kernel
theorem dX10_moves_57 : decode cX10_moves 57 = .ok (.iload_n 2, 1) := by decide +kernel
theorem dX10_moves_58 : decode cX10_moves 58 = .ok (.iastore, 1) := by decide +kernel
theorem dX10_moves_59 : decode cX10_moves 59 = .ok (.aload_n 0, 1) := by decide +kernel
theorem dX10_moves_60 : decode cX10_moves 60 = .ok (.getfield 75, 3) := by decide +kernel
theorem dX10_moves_63 : decode cX10_moves 63 = .ok (.aload_n 0, 1) := by decide +kernel
theorem dX10_moves_64 : decode cX10_moves 64 = .ok (.getfield 193, 3) := by decide +kernel
theorem dX10_moves_67 : decode cX10_moves 67 = .ok (.dup2, 1) := by decide +kernel
theorem dX10_moves_68 : decode cX10_moves 68 = .ok (.laload, 1) := by decide +kernel
theorem dX10_moves_69 : decode cX10_moves 69 = .ok (.lconst 1, 1) := by decide +kernel
theorem dX10_moves_70 : decode cX10_moves 70 = .ok (.iload 5, 2) := by decide +kernel
theorem dX10_moves_72 : decode cX10_moves 72 = .ok (.lshl, 1) := by decide +kernel
theorem dX10_moves_73 : decode cX10_moves 73 = .ok (.lor, 1) := by decide +kernel
theorem dX10_moves_74 : decode cX10_moves 74 = .ok (.lastore, 1) := by decide +kernel
theorem dX10_moves_75 : decode cX10_moves 75 = .ok (.iinc 4 1, 3) := by decide +kernel
theorem dX10_moves_78 : decode cX10_moves 78 = .ok (.iinc 5 1, 3) := by decide +kernel
theorem dX10_moves_81 : decode cX10_moves 81 = .ok (.goto (-75), 3) := by decide +kernel
theorem dX10_moves_84 : decode cX10_moves 84 = .ok (.iload 4, 2) := by decide +kernel
theorem dX10_moves_86 : decode cX10_moves 86 = .ok (.ireturn, 1) := by decide +kernel
theorem dX10_merge_0 : decode cX10_merge 0 = .ok (.aload_n 0, 1) := by decide +kernel
theorem dX10_merge_1 : decode cX10_merge 1 = .ok (.iload_n 1, 1) := by decide +kernel
theorem dX10_merge_2 : decode cX10_merge 2 = .ok (.invokevirtual 143, 3) := by decide +kernel
theorem dX10_merge_5 : decode cX10_merge 5 = .ok (.ifCond .eq 15, 3) := by decide +kernel
theorem dX10_merge_8 : decode cX10_merge 8 = .ok (.aload_n 0, 1) := by decide +kernel
theorem dX10_merge_9 : decode cX10_merge 9 = .ok (.iload_n 2, 1) := by decide +kernel
theorem dX10_merge_10 : decode cX10_merge 10 = .ok (.invokevirtual 143, 3) := by decide +kernel
theorem dX10_merge_13 : decode cX10_merge 13 = .ok (.ifCond .eq 7, 3) := by decide +kernel
theorem dX10_merge_16 : decode cX10_merge 16 = .ok (.iconst 1, 1) := by decide +kernel
theorem dX10_merge_17 : decode cX10_merge 17 = .ok (.goto 4, 3) := by decide +kernel
theorem dX10_merge_20 : decode cX10_merge 20 = .ok (.iconst 0, 1) := by decide +kernel
theorem dX10_merge_21 : decode cX10_merge 21 = .ok (.istore_n 3, 1) := by decide +kernel
theorem dX10_merge_22 : decode cX10_merge 22 = .ok (.aload_n 0, 1) := by decide +kernel
theorem dX10_merge_23 : decode cX10_merge 23 = .ok (.iload_n 3, 1) := by decide +kernel
theorem dX10_merge_24 : decode cX10_merge 24 = .ok (.ifCond .ne 7, 3) := by decide +kernel
theorem dX10_merge_27 : decode cX10_merge 27 = .ok (.iconst 1, 1) := by decide +kernel
theorem dX10_merge_28 : decode cX10_merge 28 = .ok (.goto 13, 3) := by decide +kernel
theorem dX10_merge_31 : decode cX10_merge 31 = .ok (.iload_n 1, 1) := by decide +kernel
theorem dX10_merge_32 : decode cX10_merge 32 = .ok (.iload_n 2, 1) := by decide +kernel
theorem dX10_merge_33 : decode cX10_merge 33 = .ok (.if_icmp .ne 7, 3) := by decide +kernel
theorem dX10_merge_36 : decode cX10_merge 36 = .ok (.iconst 2, 1) := by decide +kernel
theorem dX10_merge_37 : decode cX10_merge 37 = .ok (.goto 4, 3) := by decide +kernel
theorem dX10_merge_40 : decode cX10_merge 40 = .ok (.iconst 0, 1) := by decide +kernel
theorem dX10_merge_41 : decode cX10_merge 41 = .ok (.invokevirtual 116, 3) := by decide +kernel
theorem dX10_merge_44 : decode cX10_merge 44 = .ok (.ifCond .ne 5, 3) := by decide +kernel
theorem dX10_merge_47 : decode cX10_merge 47 = .ok (.iconst 0, 1) := by decide +kernel
theorem dX10_merge_48 : decode cX10_merge 48 = .ok (.ireturn, 1) := by decide +kernel
theorem dX10_merge_49 : decode cX10_merge 49 = .ok (.aload_n 0, 1) := by decide +kernel
theorem dX10_merge_50 : decode cX10_merge 50 = .ok (.iconst 1, 1) := by decide +kernel
theorem dX10_merge_51 : decode cX10_merge 51 = .ok (.iload_n 1, 1) := by decide +kernel
theorem dX10_merge_52 : decode cX10_merge 52 = .ok (.iload_n 2, 1) := by decide +kernel
theorem dX10_merge_53 : decode cX10_merge 53 = .ok (.invokevirtual 196, 3) := by decide +kernel
theorem dX10_merge_56 : decode cX10_merge 56 = .ok (.aload_n 0, 1) := by decide +kernel
theorem dX10_merge_57 : decode cX10_merge 57 = .ok (.iload_n 1, 1) := by decide +kernel
theorem dX10_merge_58 : decode cX10_merge 58 = .ok (.iload_n 2, 1) := by decide +kernel
theorem dX10_merge_59 : decode cX10_merge 59 = .ok (.sipush 255, 3) := by decide +kernel
theorem dX10_merge_62 : decode cX10_merge 62 = .ok (.invokevirtual 200, 3) := by decide +kernel
theorem dX10_merge_65 : decode cX10_merge 65 = .ok (.istore 4, 2) := by decide +kernel
theorem dX10_merge_67 : decode cX10_merge 67 = .ok (.iconst 0, 1) := by decide +kernel
theorem dX10_merge_68 : decode cX10_merge 68 = .ok (.istore 5, 2) := by decide +kernel
theorem dX10_merge_70 : decode cX10_merge 70 = .ok (.iload 5, 2) := by decide +kernel
theorem dX10_merge_72 : decode cX10_merge 72 = .ok (.bipush 8, 2) := by decide +kernel
theorem dX10_merge_74 : decode cX10_merge 74 = .ok (.if_icmp .ge 76, 3) := by decide +kernel
theorem dX10_merge_77 : decode cX10_merge 77 = .ok (.bipush 8, 2) := by decide +kernel
theorem dX10_merge_79 : decode cX10_merge 79 = .ok (.iload_n 2, 1) := by decide +kernel
theorem dX10_merge_80 : decode cX10_merge 80 = .ok (.imul, 1) := by decide +kernel
theorem dX10_merge_81 : decode cX10_merge 81 = .ok (.iload 5, 2) := by decide +kernel
theorem dX10_merge_83 : decode cX10_merge 83 = .ok (.iadd, 1) := by decide +kernel
theorem dX10_merge_84 : decode cX10_merge 84 = .ok (.istore 6, 2) := by decide +kernel
theorem dX10_merge_86 : decode cX10_merge 86 = .ok (.aload_n 0, 1) := by decide +kernel
theorem dX10_merge_87 : decode cX10_merge 87 = .ok (.getfield 33, 3) := by decide +kernel
theorem dX10_merge_90 : decode cX10_merge 90 = .ok (.iload 6, 2) := by decide +kernel
theorem dX10_merge_92 : decode cX10_merge 92 = .ok (.aload_n 0, 1) := by decide +kernel
theorem dX10_merge_93 : decode cX10_merge 93 = .ok (.getfield 33, 3) := by decide +kernel
theorem dX10_merge_96 : decode cX10_merge 96 = .ok (.iload 6, 2) := by decide +kernel
theorem dX10_merge_98 : decode cX10_merge 98 = .ok (.laload, 1) := by decide +kernel
theorem dX10_merge_99 : decode cX10_merge 99 = .ok (.ldc2_w 84, 3) := by decide +kernel
theorem dX10_merge_102 : decode cX10_merge 102 = .ok (.lcmp, 1) := by decide +kernel
theorem dX10_merge_103 : decode cX10_merge 103 = .ok (.ifCond .ne 18, 3) := by decide +kernel
theorem dX10_merge_106 : decode cX10_merge 106 = .ok (.aload_n 0, 1) := by decide +kernel
theorem dX10_merge_107 : decode cX10_merge 107 = .ok (.getfield 33, 3) := by decide +kernel
theorem dX10_merge_110 : decode cX10_merge 110 = .ok (.bipush 8, 2) := by decide +kernel
theorem dX10_merge_112 : decode cX10_merge 112 = .ok (.iload_n 1, 1) := by decide +kernel
theorem dX10_merge_113 : decode cX10_merge 113 = .ok (.imul, 1) := by decide +kernel
theorem dX10_merge_114 : decode cX10_merge 114 = .ok (.iload 5, 2) := by decide +kernel
theorem dX10_merge_116 : decode cX10_merge 116 = .ok (.iadd, 1) := by decide +kernel
theorem dX10_merge_117 : decode cX10_merge 117 = .ok (.laload, 1) := by decide +kernel
theorem dX10_merge_118 : decode cX10_merge 118 = .ok (.goto 10, 3) := by decide +kernel
theorem dX10_merge_121 : decode cX10_merge 121 = .ok (.aload_n 0, 1) := by decide +kernel
theorem dX10_merge_122 : decode cX10_merge 122 = .ok (.getfield 33, 3) := by decide +kernel
theorem dX10_merge_125 : decode cX10_merge 125 = .ok (.iload 6, 2) := by decide +kernel
theorem dX10_merge_127 : decode cX10_merge 127 = .ok (.laload, 1) := by decide +kernel
theorem dX10_merge_128 : decode cX10_merge 128 = .ok (.lastore, 1) := by decide +kernel
theorem dX10_merge_129 : decode cX10_merge 129 = .ok (.aload_n 0, 1) := by decide +kernel
theorem dX10_merge_130 : decode cX10_merge 130 = .ok (.getfield 33, 3) := by decide +kernel
theorem dX10_merge_133 : decode cX10_merge 133 = .ok (.bipush 8, 2) := by decide +kernel
theorem dX10_merge_135 : decode cX10_merge 135 = .ok (.iload_n 1, 1) := by decide +kernel
theorem dX10_merge_136 : decode cX10_merge 136 = .ok (.imul, 1) := by decide +kernel
theorem dX10_merge_137 : decode cX10_merge 137 = .ok (.iload 5, 2) := by decide +kernel
theorem dX10_merge_139 : decode cX10_merge 139 = .ok (.iadd, 1) := by decide +kernel
theorem dX10_merge_140 : decode cX10_merge 140 = .ok (.ldc2_w 84, 3) := by decide +kernel
theorem dX10_merge_143 : decode cX10_merge 143 = .ok (.lastore, 1) := by decide +kernel
theorem dX10_merge_144 : decode cX10_merge 144 = .ok (.iinc 5 1, 3) := by decide +kernel
theorem dX10_merge_147 : decode cX10_merge 147 = .ok (.goto (-77), 3) := by decide +kernel
theorem dX10_merge_150 : decode cX10_merge 150 = .ok (.aload_n 0, 1) := by decide +kernel
theorem dX10_merge_151 : decode cX10_merge 151 = .ok (.getfield 26, 3) := by decide +kernel
theorem dX10_merge_154 : decode cX10_merge 154 = .ok (.iload_n 1, 1) := by decide +kernel
theorem dX10_merge_155 : decode cX10_merge 155 = .ok (.iconst 0, 1) := by decide +kernel
theorem dX10_merge_156 : decode cX10_merge 156 = .ok (.bastore, 1) := by decide +kernel
theorem dX10_merge_157 : decode cX10_merge 157 = .ok (.aload_n 0, 1) := by decide +kernel
theorem dX10_merge_158 : decode cX10_merge 158 = .ok (.dup, 1) := by decide +kernel
theorem dX10_merge_159 : decode cX10_merge 159 = .ok (.getfield 193, 3) := by decide +kernel
theorem dX10_merge_162 : decode cX10_merge 162 = .ok (.iconst 1, 1) := by decide +kernel
theorem dX10_merge_163 : decode cX10_merge 163 = .ok (.iadd, 1) := by decide +kernel
theorem dX10_merge_164 : decode cX10_merge 164 = .ok (.putfield 193, 3) := by decide +kernel
theorem dX10_merge_167 : decode cX10_merge 167 = .ok (.iload 4, 2) := by decide +kernel
theorem dX10_merge_169 : decode cX10_merge 169 = .ok (.ireturn, 1) := by decide +kernel
theorem dX10_split_0 : decode cX10_split 0 = .ok (.aload_n 0, 1) := by decide +kernel
theorem dX10_split_1 : decode cX10_split 1 = .ok (.iload_n 1, 1) := by decide +kernel
theorem dX10_split_2 : decode cX10_split 2 = .ok (.invokevirtual 143, 3) := by decide +kernel
theorem dX10_split_5 : decode cX10_split 5 = .ok (.istore_n 3, 1) := by decide +kernel
theorem dX10_split_6 : decode cX10_split 6 = .ok (.aload_n 0, 1) := by decide +kernel
theorem dX10_split_7 : decode cX10_split 7 = .ok (.iload_n 3, 1) := by decide +kernel
theorem dX10_split_8 : decode cX10_split 8 = .ok (.ifCond .ne 7, 3) := by decide +kernel
theorem dX10_split_11 : decode cX10_split 11 = .ok (.iconst 1, 1) := by decide +kernel
theorem dX10_split_12 : decode cX10_split 12 = .ok (.goto 32, 3) := by decide +kernel
theorem dX10_split_15 : decode cX10_split 15 = .ok (.iload_n 2, 1) := by decide +kernel
theorem dX10_split_16 : decode cX10_split 16 = .ok (.iconst 1, 1) := by decide +kernel
theorem dX10_split_17 : decode cX10_split 17 = .ok (.sipush 255, 3) := by decide +kernel
theorem dX10_split_20 : decode cX10_split 20 = .ok (.invokestatic 109, 3) := by decide +kernel
theorem dX10_split_23 : decode cX10_split 23 = .ok (.ifCond .ne 7, 3) := by decide +kernel
theorem dX10_split_26 : decode cX10_split 26 = .ok (.iconst 2, 1) := by decide +kernel
theorem dX10_split_27 : decode cX10_split 27 = .ok (.goto 17, 3) := by decide +kernel
theorem dX10_split_30 : decode cX10_split 30 = .ok (.aload_n 0, 1) := by decide +kernel
theorem dX10_split_31 : decode cX10_split 31 = .ok (.getfield 130, 3) := by decide +kernel
theorem dX10_split_34 : decode cX10_split 34 = .ok (.bipush 16, 2) := by decide +kernel
theorem dX10_split_36 : decode cX10_split 36 = .ok (.if_icmp .ne 7, 3) := by decide +kernel
theorem dX10_split_39 : decode cX10_split 39 = .ok (.iconst 3, 1) := by decide +kernel
theorem dX10_split_40 : decode cX10_split 40 = .ok (.goto 4, 3) := by decide +kernel
theorem dX10_split_43 : decode cX10_split 43 = .ok (.iconst 0, 1) := by decide +kernel
theorem dX10_split_44 : decode cX10_split 44 = .ok (.invokevirtual 116, 3) := by decide +kernel
theorem dX10_split_47 : decode cX10_split 47 = .ok (.ifCond .ne 5, 3) := by decide +kernel
theorem dX10_split_50 : decode cX10_split 50 = .ok (.iconst 0, 1) := by decide +kernel
theorem dX10_split_51 : decode cX10_split 51 = .ok (.ireturn, 1) := by decide +kernel
theorem dX10_split_52 : decode cX10_split 52 = .ok (.aload_n 0, 1) := by decide +kernel
theorem dX10_split_53 : decode cX10_split 53 = .ok (.aload_n 0, 1) := by decide +kernel
theorem dX10_split_54 : decode cX10_split 54 = .ok (.getfield 22, 3) := by decide +kernel
theorem dX10_split_57 : decode cX10_split 57 = .ok (.iload_n 1, 1) := by decide +kernel
theorem dX10_split_58 : decode cX10_split 58 = .ok (.laload, 1) := by decide +kernel
theorem dX10_split_59 : decode cX10_split 59 = .ok (.invokevirtual 140, 3) := by decide +kernel
theorem dX10_split_62 : decode cX10_split 62 = .ok (.istore 4, 2) := by decide +kernel
theorem dX10_split_64 : decode cX10_split 64 = .ok (.aload_n 0, 1) := by decide +kernel
theorem dX10_split_65 : decode cX10_split 65 = .ok (.iconst 0, 1) := by decide +kernel
theorem dX10_split_66 : decode cX10_split 66 = .ok (.iload 4, 2) := by decide +kernel
theorem dX10_split_68 : decode cX10_split 68 = .ok (.iload_n 1, 1) := by decide +kernel
theorem dX10_split_69 : decode cX10_split 69 = .ok (.invokevirtual 196, 3) := by decide +kernel
theorem dX10_split_72 : decode cX10_split 72 = .ok (.aload_n 0, 1) := by decide +kernel
theorem dX10_split_73 : decode cX10_split 73 = .ok (.iload_n 1, 1) := by decide +kernel
theorem dX10_split_74 : decode cX10_split 74 = .ok (.iload 4, 2) := by decide +kernel
theorem dX10_split_76 : decode cX10_split 76 = .ok (.iload_n 2, 1) := by decide +kernel
theorem dX10_split_77 : decode cX10_split 77 = .ok (.invokevirtual 200, 3) := by decide +kernel
theorem dX10_split_80 : decode cX10_split 80 = .ok (.pop, 1) := by decide +kernel
theorem dX10_split_81 : decode cX10_split 81 = .ok (.iconst 0, 1) := by decide +kernel
theorem dX10_split_82 : decode cX10_split 82 = .ok (.istore 5, 2) := by decide +kernel
theorem dX10_split_84 : decode cX10_split 84 = .ok (.iload 5, 2) := by decide +kernel
theorem dX10_split_86 : decode cX10_split 86 = .ok (.bipush 8, 2) := by decide +kernel
theorem dX10_split_88 : decode cX10_split 88 = .ok (.if_icmp .ge 59, 3) := by decide +kernel
theorem dX10_split_91 : decode cX10_split 91 = .ok (.iload_n 2, 1) := by decide +kernel
theorem dX10_split_92 : decode cX10_split 92 = .ok (.iload 5, 2) := by decide +kernel
theorem dX10_split_94 : decode cX10_split 94 = .ok (.ishr, 1) := by decide +kernel
theorem dX10_split_95 : decode cX10_split 95 = .ok (.iconst 1, 1) := by decide +kernel
theorem dX10_split_96 : decode cX10_split 96 = .ok (.iand, 1) := by decide +kernel
theorem dX10_split_97 : decode cX10_split 97 = .ok (.iconst 1, 1) := by decide +kernel
theorem dX10_split_98 : decode cX10_split 98 = .ok (.if_icmp .ne 43, 3) := by decide +kernel
theorem dX10_split_101 : decode cX10_split 101 = .ok (.aload_n 0, 1) := by decide +kernel
theorem dX10_split_102 : decode cX10_split 102 = .ok (.getfield 33, 3) := by decide +kernel
theorem dX10_split_105 : decode cX10_split 105 = .ok (.bipush 8, 2) := by decide +kernel
theorem dX10_split_107 : decode cX10_split 107 = .ok (.iload 4, 2) := by decide +kernel
theorem dX10_split_109 : decode cX10_split 109 = .ok (.imul, 1) := by decide +kernel
theorem dX10_split_110 : decode cX10_split 110 = .ok (.iload 5, 2) := by decide +kernel
theorem dX10_split_112 : decode cX10_split 112 = .ok (.iadd, 1) := by decide +kernel
theorem dX10_split_113 : decode cX10_split 113 = .ok (.aload_n 0, 1) := by decide +kernel
theorem dX10_split_114 : decode cX10_split 114 = .ok (.getfield 33, 3) := by decide +kernel
theorem dX10_split_117 : decode cX10_split 117 = .ok (.bipush 8, 2) := by decide +kernel
theorem dX10_split_119 : decode cX10_split 119 = .ok (.iload_n 1, 1) := by decide +kernel
theorem dX10_split_120 : decode cX10_split 120 = .ok (.imul, 1) := by decide +kernel
theorem dX10_split_121 : decode cX10_split 121 = .ok (.iload 5, 2) := by decide +kernel
theorem dX10_split_123 : decode cX10_split 123 = .ok (.iadd, 1) := by decide +kernel
theorem dX10_split_124 : decode cX10_split 124 = .ok (.laload, 1) := by decide +kernel
theorem dX10_split_125 : decode cX10_split 125 = .ok (.lastore, 1) := by decide +kernel
theorem dX10_split_126 : decode cX10_split 126 = .ok (.aload_n 0, 1) := by decide +kernel
theorem dX10_split_127 : decode cX10_split 127 = .ok (.getfield 33, 3) := by decide +kernel
theorem dX10_split_130 : decode cX10_split 130 = .ok (.bipush 8, 2) := by decide +kernel
theorem dX10_split_132 : decode cX10_split 132 = .ok (.iload_n 1, 1) := by decide +kernel
theorem dX10_split_133 : decode cX10_split 133 = .ok (.imul, 1) := by decide +kernel
theorem dX10_split_134 : decode cX10_split 134 = .ok (.iload 5, 2) := by decide +kernel
theorem dX10_split_136 : decode cX10_split 136 = .ok (.iadd, 1) := by decide +kernel
theorem dX10_split_137 : decode cX10_split 137 = .ok (.ldc2_w 84, 3) := by decide +kernel
theorem dX10_split_140 : decode cX10_split 140 = .ok (.lastore, 1) := by decide +kernel
theorem dX10_split_141 : decode cX10_split 141 = .ok (.iinc 5 1, 3) := by decide +kernel
theorem dX10_split_144 : decode cX10_split 144 = .ok (.goto (-60), 3) := by decide +kernel
theorem dX10_split_147 : decode cX10_split 147 = .ok (.aload_n 0, 1) := by decide +kernel
theorem dX10_split_148 : decode cX10_split 148 = .ok (.dup, 1) := by decide +kernel
theorem dX10_split_149 : decode cX10_split 149 = .ok (.getfield 193, 3) := by decide +kernel
theorem dX10_split_152 : decode cX10_split 152 = .ok (.iconst 1, 1) := by decide +kernel
theorem dX10_split_153 : decode cX10_split 153 = .ok (.iadd, 1) := by decide +kernel
theorem dX10_split_154 : decode cX10_split 154 = .ok (.putfield 193, 3) := by decide +kernel
theorem dX10_split_157 : decode cX10_split 157 = .ok (.iload 4, 2) := by decide +kernel
theorem dX10_split_159 : decode cX10_split 159 = .ok (.ireturn, 1) := by decide +kernel
theorem dX10_undo_0 : decode cX10_undo 0 = .ok (.aload_n 0, 1) := by decide +kernel
theorem dX10_undo_1 : decode cX10_undo 1 = .ok (.aload_n 0, 1) := by decide +kernel
theorem dX10_undo_2 : decode cX10_undo 2 = .ok (.getfield 193, 3) := by decide +kernel
theorem dX10_undo_5 : decode cX10_undo 5 = .ok (.ifCond .ne 7, 3) := by decide +kernel
theorem dX10_undo_8 : decode cX10_undo 8 = .ok (.iconst 1, 1) := by decide +kernel
theorem dX10_undo_9 : decode cX10_undo 9 = .ok (.goto 4, 3) := by decide +kernel
theorem dX10_undo_12 : decode cX10_undo 12 = .ok (.iconst 0, 1) := by decide +kernel
theorem dX10_undo_13 : decode cX10_undo 13 = .ok (.invokevirtual 116, 3) := by decide +kernel
theorem dX10_undo_16 : decode cX10_undo 16 = .ok (.ifCond .ne 5, 3) := by decide +kernel
theorem dX10_undo_19 : decode cX10_undo 19 = .ok (.iconst 0, 1) := by decide +kernel
theorem dX10_undo_20 : decode cX10_undo 20 = .ok (.ireturn, 1) := by decide +kernel
theorem dX10_undo_21 : decode cX10_undo 21 = .ok (.aload_n 0, 1) := by decide +kernel
theorem dX10_undo_22 : decode cX10_undo 22 = .ok (.dup, 1) := by decide +kernel
theorem dX10_undo_23 : decode cX10_undo 23 = .ok (.getfield 193, 3) := by decide +kernel
theorem dX10_undo_26 : decode cX10_undo 26 = .ok (.iconst 1, 1) := by decide +kernel
theorem dX10_undo_27 : decode cX10_undo 27 = .ok (.isub, 1) := by decide +kernel
theorem dX10_undo_28 : decode cX10_undo 28 = .ok (.putfield 193, 3) := by decide +kernel
theorem dX10_undo_31 : decode cX10_undo 31 = .ok (.aload_n 0, 1) := by decide +kernel
theorem dX10_undo_32 : decode cX10_undo 32 = .ok (.getfield 69, 3) := by decide +kernel
theorem dX10_undo_35 : decode cX10_undo 35 = .ok (.aload_n 0, 1) := by decide +kernel
theorem dX10_undo_36 : decode cX10_undo 36 = .ok (.getfield 193, 3) := by decide +kernel
theorem dX10_undo_39 : decode cX10_undo 39 = .ok (.iaload, 1) := by decide +kernel
theorem dX10_undo_40 : decode cX10_undo 40 = .ok (.istore_n 1, 1) := by decide +kernel
theorem dX10_undo_41 : decode cX10_undo 41 = .ok (.aload_n 0, 1) := by decide +kernel
theorem dX10_undo_42 : decode cX10_undo 42 = .ok (.getfield 72, 3) := by decide +kernel
theorem dX10_undo_45 : decode cX10_undo 45 = .ok (.aload_n 0, 1) := by decide +kernel
theorem dX10_undo_46 : decode cX10_undo 46 = .ok (.getfield 193, 3) := by decide +kernel
theorem dX10_undo_49 : decode cX10_undo 49 = .ok (.iaload, 1) := by decide +kernel
theorem dX10_undo_50 : decode cX10_undo 50 = .ok (.istore_n 2, 1) := by decide +kernel
theorem dX10_undo_51 : decode cX10_undo 51 = .ok (.iconst 0, 1) := by decide +kernel
theorem dX10_undo_52 : decode cX10_undo 52 = .ok (.istore_n 3, 1) := by decide +kernel
theorem dX10_undo_53 : decode cX10_undo 53 = .ok (.iload_n 3, 1) := by decide +kernel
theorem dX10_undo_54 : decode cX10_undo 54 = .ok (.aload_n 0, 1) := by decide +kernel
theorem dX10_undo_55 : decode cX10_undo 55 = .ok (.getfield 187, 3) := by decide +kernel
theorem dX10_undo_58 : decode cX10_undo 58 = .ok (.if_icmp .ge 87, 3) := by decide +kernel
theorem dX10_undo_61 : decode cX10_undo 61 = .ok (.aload_n 0, 1) := by decide +kernel
theorem dX10_undo_62 : decode cX10_undo 62 = .ok (.getfield 75, 3) := by decide +kernel
theorem dX10_undo_65 : decode cX10_undo 65 = .ok (.aload_n 0, 1) := by decide +kernel
theorem dX10_undo_66 : decode cX10_undo 66 = .ok (.getfield 193, 3) := by decide +kernel
theorem dX10_undo_69 : decode cX10_undo 69 = .ok (.laload, 1) := by decide +kernel
theorem dX10_undo_70 : decode cX10_undo 70 = .ok (.iload_n 3, 1) := by decide +kernel
theorem dX10_undo_71 : decode cX10_undo 71 = .ok (.lshr, 1) := by decide +kernel
theorem dX10_undo_72 : decode cX10_undo 72 = .ok (.lconst 1, 1) := by decide +kernel
theorem dX10_undo_73 : decode cX10_undo 73 = .ok (.land, 1) := by decide +kernel
theorem dX10_undo_74 : decode cX10_undo 74 = .ok (.lconst 1, 1) := by decide +kernel
theorem dX10_undo_75 : decode cX10_undo 75 = .ok (.lcmp, 1) := by decide +kernel
theorem dX10_undo_76 : decode cX10_undo 76 = .ok (.ifCond .ne 7, 3) := by decide +kernel
theorem dX10_undo_79 : decode cX10_undo 79 = .ok (.iconst 1, 1) := by decide +kernel
theorem dX10_undo_80 : decode cX10_undo 80 = .ok (.goto 4, 3) := by decide +kernel
theorem dX10_undo_83 : decode cX10_undo 83 = .ok (.iconst 0, 1) := by decide +kernel
theorem dX10_undo_84 : decode cX10_undo 84 = .ok (.istore 4, 2) := by decide +kernel
theorem dX10_undo_86 : decode cX10_undo 86 = .ok (.aload_n 0, 1) := by decide +kernel
theorem dX10_undo_87 : decode cX10_undo 87 = .ok (.getfield 66, 3) := by decide +kernel
theorem dX10_undo_90 : decode cX10_undo 90 = .ok (.aload_n 0, 1) := by decide +kernel
theorem dX10_undo_91 : decode cX10_undo 91 = .ok (.getfield 193, 3) := by decide +kernel
theorem dX10_undo_94 : decode cX10_undo 94 = .ok (.baload, 1) := by decide +kernel
theorem dX10_undo_95 : decode cX10_undo 95 = .ok (.ifCond .eq 11, 3) := by decide +kernel
theorem dX10_undo_98 : decode cX10_undo 98 = .ok (.iload 4, 2) := by decide +kernel
theorem dX10_undo_100 : decode cX10_undo 100 = .ok (.ifCond .eq 39, 3) := by decide +kernel
theorem dX10_undo_103 : decode cX10_undo 103 = .ok (.goto 13, 3) := by decide +kernel
theorem dX10_undo_106 : decode cX10_undo 106 = .ok (.aload_n 0, 1) := by decide +kernel
theorem dX10_undo_107 : decode cX10_undo 107 = .ok (.getfield 51, 3) := by decide +kernel
theorem dX10_undo_110 : decode cX10_undo 110 = .ok (.iload_n 3, 1) := by decide +kernel
theorem dX10_undo_111 : decode cX10_undo 111 = .ok (.iaload, 1) := by decide +kernel
theorem dX10_undo_112 : decode cX10_undo 112 = .ok (.iload_n 1, 1) := by decide +kernel
theorem dX10_undo_113 : decode cX10_undo 113 = .ok (.if_icmp .ne 26, 3) := by decide +kernel
theorem dX10_undo_116 : decode cX10_undo 116 = .ok (.aload_n 0, 1) := by decide +kernel
theorem dX10_undo_117 : decode cX10_undo 117 = .ok (.getfield 51, 3) := by decide +kernel
theorem dX10_undo_120 : decode cX10_undo 120 = .ok (.iload_n 3, 1) := by decide +kernel
theorem dX10_undo_121 : decode cX10_undo 121 = .ok (.aload_n 0, 1) := by decide +kernel
theorem dX10_undo_122 : decode cX10_undo 122 = .ok (.getfield 66, 3) := by decide +kernel
theorem dX10_undo_125 : decode cX10_undo 125 = .ok (.aload_n 0, 1) := by decide +kernel
theorem dX10_undo_126 : decode cX10_undo 126 = .ok (.getfield 193, 3) := by decide +kernel
theorem dX10_undo_129 : decode cX10_undo 129 = .ok (.baload, 1) := by decide +kernel
theorem dX10_undo_130 : decode cX10_undo 130 = .ok (.ifCond .eq 7, 3) := by decide +kernel
theorem dX10_undo_133 : decode cX10_undo 133 = .ok (.iload_n 1, 1) := by decide +kernel
theorem dX10_undo_134 : decode cX10_undo 134 = .ok (.goto 4, 3) := by decide +kernel
theorem dX10_undo_137 : decode cX10_undo 137 = .ok (.iload_n 2, 1) := by decide +kernel
theorem dX10_undo_138 : decode cX10_undo 138 = .ok (.iastore, 1) := by decide +kernel
theorem dX10_undo_139 : decode cX10_undo 139 = .ok (.iinc 3 1, 3) := by decide +kernel
theorem dX10_undo_142 : decode cX10_undo 142 = .ok (.goto (-89), 3) := by decide +kernel
theorem dX10_undo_145 : decode cX10_undo 145 = .ok (.iconst 0, 1) := by decide +kernel
theorem dX10_undo_146 : decode cX10_undo 146 = .ok (.istore_n 3, 1) := by decide +kernel
theorem dX10_undo_147 : decode cX10_undo 147 = .ok (.iload_n 3, 1) := by decide +kernel
theorem dX10_undo_148 : decode cX10_undo 148 = .ok (.bipush 8, 2) := by decide +kernel
theorem dX10_undo_150 : decode cX10_undo 150 = .ok (.if_icmp .ge 62, 3) := by decide +kernel
theorem dX10_undo_153 : decode cX10_undo 153 = .ok (.aload_n 0, 1) := by decide +kernel
theorem dX10_undo_154 : decode cX10_undo 154 = .ok (.getfield 33, 3) := by decide +kernel
theorem dX10_undo_157 : decode cX10_undo 157 = .ok (.bipush 8, 2) := by decide +kernel
theorem dX10_undo_159 : decode cX10_undo 159 = .ok (.iload_n 1, 1) := by decide +kernel
theorem dX10_undo_160 : decode cX10_undo 160 = .ok (.imul, 1) := by decide +kernel
theorem dX10_undo_161 : decode cX10_undo 161 = .ok (.iload_n 3, 1) := by decide +kernel
theorem dX10_undo_162 : decode cX10_undo 162 = .ok (.iadd, 1) := by decide +kernel
theorem dX10_undo_163 : decode cX10_undo 163 = .ok (.aload_n 0, 1) := by decide +kernel
theorem dX10_undo_164 : decode cX10_undo 164 = .ok (.getfield 78, 3) := by decide +kernel
theorem dX10_undo_167 : decode cX10_undo 167 = .ok (.bipush 16, 2) := by decide +kernel
theorem dX10_undo_169 : decode cX10_undo 169 = .ok (.aload_n 0, 1) := by decide +kernel
theorem dX10_undo_170 : decode cX10_undo 170 = .ok (.getfield 193, 3) := by decide +kernel
theorem dX10_undo_173 : decode cX10_undo 173 = .ok (.imul, 1) := by decide +kernel
theorem dX10_undo_174 : decode cX10_undo 174 = .ok (.iload_n 3, 1) := by decide +kernel
theorem dX10_undo_175 : decode cX10_undo 175 = .ok (.iadd, 1) := by decide +kernel
theorem dX10_undo_176 : decode cX10_undo 176 = .ok (.laload, 1) := by decide +kernel
theorem dX10_undo_177 : decode cX10_undo 177 = .ok (.lastore, 1) := by decide +kernel
theorem dX10_undo_178 : decode cX10_undo 178 = .ok (.aload_n 0, 1) := by decide +kernel
theorem dX10_undo_179 : decode cX10_undo 179 = .ok (.getfield 33, 3) := by decide +kernel
theorem dX10_undo_182 : decode cX10_undo 182 = .ok (.bipush 8, 2) := by decide +kernel
theorem dX10_undo_184 : decode cX10_undo 184 = .ok (.iload_n 2, 1) := by decide +kernel
theorem dX10_undo_185 : decode cX10_undo 185 = .ok (.imul, 1) := by decide +kernel
theorem dX10_undo_186 : decode cX10_undo 186 = .ok (.iload_n 3, 1) := by decide +kernel
theorem dX10_undo_187 : decode cX10_undo 187 = .ok (.iadd, 1) := by decide +kernel
theorem dX10_undo_188 : decode cX10_undo 188 = .ok (.aload_n 0, 1) := by decide +kernel
theorem dX10_undo_189 : decode cX10_undo 189 = .ok (.getfield 78, 3) := by decide +kernel
theorem dX10_undo_192 : decode cX10_undo 192 = .ok (.bipush 16, 2) := by decide +kernel
theorem dX10_undo_194 : decode cX10_undo 194 = .ok (.aload_n 0, 1) := by decide +kernel
theorem dX10_undo_195 : decode cX10_undo 195 = .ok (.getfield 193, 3) := by decide +kernel
theorem dX10_undo_198 : decode cX10_undo 198 = .ok (.imul, 1) := by decide +kernel
theorem dX10_undo_199 : decode cX10_undo 199 = .ok (.bipush 8, 2) := by decide +kernel
theorem dX10_undo_201 : decode cX10_undo 201 = .ok (.iadd, 1) := by decide +kernel
theorem dX10_undo_202 : decode cX10_undo 202 = .ok (.iload_n 3, 1) := by decide +kernel
theorem dX10_undo_203 : decode cX10_undo 203 = .ok (.iadd, 1) := by decide +kernel
theorem dX10_undo_204 : decode cX10_undo 204 = .ok (.laload, 1) := by decide +kernel
theorem dX10_undo_205 : decode cX10_undo 205 = .ok (.lastore, 1) := by decide +kernel
theorem dX10_undo_206 : decode cX10_undo 206 = .ok (.iinc 3 1, 3) := by decide +kernel
theorem dX10_undo_209 : decode cX10_undo 209 = .ok (.goto (-62), 3) := by decide +kernel
theorem dX10_undo_212 : decode cX10_undo 212 = .ok (.aload_n 0, 1) := by decide +kernel
theorem dX10_undo_213 : decode cX10_undo 213 = .ok (.getfield 26, 3) := by decide +kernel
theorem dX10_undo_216 : decode cX10_undo 216 = .ok (.iload_n 1, 1) := by decide +kernel
theorem dX10_undo_217 : decode cX10_undo 217 = .ok (.aload_n 0, 1) := by decide +kernel
theorem dX10_undo_218 : decode cX10_undo 218 = .ok (.getfield 66, 3) := by decide +kernel
theorem dX10_undo_221 : decode cX10_undo 221 = .ok (.aload_n 0, 1) := by decide +kernel
theorem dX10_undo_222 : decode cX10_undo 222 = .ok (.getfield 193, 3) := by decide +kernel
theorem dX10_undo_225 : decode cX10_undo 225 = .ok (.baload, 1) := by decide +kernel
theorem dX10_undo_226 : decode cX10_undo 226 = .ok (.bastore, 1) := by decide +kernel
theorem dX10_undo_227 : decode cX10_undo 227 = .ok (.aload_n 0, 1) := by decide +kernel
theorem dX10_undo_228 : decode cX10_undo 228 = .ok (.getfield 193, 3) := by decide +kernel
theorem dX10_undo_231 : decode cX10_undo 231 = .ok (.ireturn, 1) := by decide +kernel
theorem dX10_length_0 : decode cX10_length 0 = .ok (.aload_n 0, 1) := by decide +kernel
theorem dX10_length_1 : decode cX10_length 1 = .ok (.aload_n 0, 1) := by decide +kernel
theorem dX10_length_2 : decode cX10_length 2 = .ok (.iload_n 1, 1) := by decide +kernel
theorem dX10_length_3 : decode cX10_length 3 = .ok (.invokevirtual 143, 3) := by decide +kernel
theorem dX10_length_6 : decode cX10_length 6 = .ok (.ifCond .eq 14, 3) := by decide +kernel
theorem dX10_length_9 : decode cX10_length 9 = .ok (.iload_n 2, 1) := by decide +kernel
theorem dX10_length_10 : decode cX10_length 10 = .ok (.invokestatic 146, 3) := by decide +kernel
theorem dX10_length_13 : decode cX10_length 13 = .ok (.ifCond .eq 7, 3) := by decide +kernel
theorem dX10_length_16 : decode cX10_length 16 = .ok (.iconst 0, 1) := by decide +kernel
theorem dX10_length_17 : decode cX10_length 17 = .ok (.goto 4, 3) := by decide +kernel
theorem dX10_length_20 : decode cX10_length 20 = .ok (.iconst 1, 1) := by decide +kernel
theorem dX10_length_21 : decode cX10_length 21 = .ok (.invokevirtual 116, 3) := by decide +kernel
theorem dX10_length_24 : decode cX10_length 24 = .ok (.ifCond .eq 15, 3) := by decide +kernel
theorem dX10_length_27 : decode cX10_length 27 = .ok (.aload_n 0, 1) := by decide +kernel
theorem dX10_length_28 : decode cX10_length 28 = .ok (.iload_n 1, 1) := by decide +kernel
theorem dX10_length_29 : decode cX10_length 29 = .ok (.iload_n 2, 1) := by decide +kernel
theorem dX10_length_30 : decode cX10_length 30 = .ok (.invokevirtual 204, 3) := by decide +kernel
theorem dX10_length_33 : decode cX10_length 33 = .ok (.invokestatic 92, 3) := by decide +kernel
theorem dX10_length_36 : decode cX10_length 36 = .ok (.goto 4, 3) := by decide +kernel
theorem dX10_length_39 : decode cX10_length 39 = .ok (.iconst 0, 1) := by decide +kernel
theorem dX10_length_40 : decode cX10_length 40 = .ok (.ireturn, 1) := by decide +kernel
theorem dX10_at_0 : decode cX10_at 0 = .ok (.aload_n 0, 1) := by decide +kernel
theorem dX10_at_1 : decode cX10_at 1 = .ok (.aload_n 0, 1) := by decide +kernel
theorem dX10_at_2 : decode cX10_at 2 = .ok (.iload_n 1, 1) := by decide +kernel
theorem dX10_at_3 : decode cX10_at 3 = .ok (.invokevirtual 143, 3) := by decide +kernel
theorem dX10_at_6 : decode cX10_at 6 = .ok (.ifCond .eq 18, 3) := by decide +kernel
theorem dX10_at_9 : decode cX10_at 9 = .ok (.iload_n 2, 1) := by decide +kernel
theorem dX10_at_10 : decode cX10_at 10 = .ok (.invokestatic 146, 3) := by decide +kernel
theorem dX10_at_13 : decode cX10_at 13 = .ok (.ifCond .eq 11, 3) := by decide +kernel
theorem dX10_at_16 : decode cX10_at 16 = .ok (.iload_n 3, 1) := by decide +kernel
theorem dX10_at_17 : decode cX10_at 17 = .ok (.ifCond .lt 7, 3) := by decide +kernel
theorem dX10_at_20 : decode cX10_at 20 = .ok (.iconst 0, 1) := by decide +kernel
theorem dX10_at_21 : decode cX10_at 21 = .ok (.goto 4, 3) := by decide +kernel
theorem dX10_at_24 : decode cX10_at 24 = .ok (.iconst 1, 1) := by decide +kernel
theorem dX10_at_25 : decode cX10_at 25 = .ok (.invokevirtual 116, 3) := by decide +kernel
theorem dX10_at_28 : decode cX10_at 28 = .ok (.ifCond .ne 5, 3) := by decide +kernel
theorem dX10_at_31 : decode cX10_at 31 = .ok (.iconst 0, 1) := by decide +kernel
theorem dX10_at_32 : decode cX10_at 32 = .ok (.ireturn, 1) := by decide +kernel
theorem dX10_at_33 : decode cX10_at 33 = .ok (.aload_n 0, 1) := by decide +kernel
theorem dX10_at_34 : decode cX10_at 34 = .ok (.iload_n 1, 1) := by decide +kernel
theorem dX10_at_35 : decode cX10_at 35 = .ok (.iload_n 2, 1) := by decide +kernel
theorem dX10_at_36 : decode cX10_at 36 = .ok (.invokevirtual 204, 3) := by decide +kernel
theorem dX10_at_39 : decode cX10_at 39 = .ok (.lstore 4, 2) := by decide +kernel
theorem dX10_at_41 : decode cX10_at 41 = .ok (.iload_n 3, 1) := by decide +kernel
theorem dX10_at_42 : decode cX10_at 42 = .ok (.lload 4, 2) := by decide +kernel
theorem dX10_at_44 : decode cX10_at 44 = .ok (.invokestatic 92, 3) := by decide +kernel
theorem dX10_at_47 : decode cX10_at 47 = .ok (.if_icmp .ge 12, 3) := by decide +kernel
theorem dX10_at_50 : decode cX10_at 50 = .ok (.lload 4, 2) := by decide +kernel
theorem dX10_at_52 : decode cX10_at 52 = .ok (.iload_n 3, 1) := by decide +kernel
theorem dX10_at_53 : decode cX10_at 53 = .ok (.invokestatic 98, 3) := by decide +kernel
theorem dX10_at_56 : decode cX10_at 56 = .ok (.goto 4, 3) := by decide +kernel
theorem dX10_at_59 : decode cX10_at 59 = .ok (.iconst (-1), 1) := by decide +kernel
theorem dX10_at_60 : decode cX10_at 60 = .ok (.ireturn, 1) := by decide +kernel
theorem dX10_step_0 : decode cX10_step 0 = .ok (.aload_n 0, 1) := by decide +kernel
theorem dX10_step_1 : decode cX10_step 1 = .ok (.aload_n 0, 1) := by decide +kernel
theorem dX10_step_2 : decode cX10_step 2 = .ok (.iload_n 1, 1) := by decide +kernel
theorem dX10_step_3 : decode cX10_step 3 = .ok (.invokevirtual 143, 3) := by decide +kernel
theorem dX10_step_6 : decode cX10_step 6 = .ok (.ifCond .eq 22, 3) := by decide +kernel
theorem dX10_step_9 : decode cX10_step 9 = .ok (.iload_n 2, 1) := by decide +kernel
theorem dX10_step_10 : decode cX10_step 10 = .ok (.invokestatic 146, 3) := by decide +kernel
theorem dX10_step_13 : decode cX10_step 13 = .ok (.ifCond .eq 15, 3) := by decide +kernel
theorem dX10_step_16 : decode cX10_step 16 = .ok (.aload_n 0, 1) := by decide +kernel
theorem dX10_step_17 : decode cX10_step 17 = .ok (.iload_n 3, 1) := by decide +kernel
theorem dX10_step_18 : decode cX10_step 18 = .ok (.invokevirtual 158, 3) := by decide +kernel
theorem dX10_step_21 : decode cX10_step 21 = .ok (.ifCond .eq 7, 3) := by decide +kernel
theorem dX10_step_24 : decode cX10_step 24 = .ok (.iconst 0, 1) := by decide +kernel
theorem dX10_step_25 : decode cX10_step 25 = .ok (.goto 4, 3) := by decide +kernel
theorem dX10_step_28 : decode cX10_step 28 = .ok (.iconst 1, 1) := by decide +kernel
theorem dX10_step_29 : decode cX10_step 29 = .ok (.invokevirtual 116, 3) := by decide +kernel
theorem dX10_step_32 : decode cX10_step 32 = .ok (.ifCond .eq 13, 3) := by decide +kernel
theorem dX10_step_35 : decode cX10_step 35 = .ok (.aload_n 0, 1) := by decide +kernel
theorem dX10_step_36 : decode cX10_step 36 = .ok (.iload_n 1, 1) := by decide +kernel
theorem dX10_step_37 : decode cX10_step 37 = .ok (.iload_n 2, 1) := by decide +kernel
theorem dX10_step_38 : decode cX10_step 38 = .ok (.iload_n 3, 1) := by decide +kernel
theorem dX10_step_39 : decode cX10_step 39 = .ok (.invokevirtual 208, 3) := by decide +kernel
theorem dX10_step_42 : decode cX10_step 42 = .ok (.goto 4, 3) := by decide +kernel
theorem dX10_step_45 : decode cX10_step 45 = .ok (.iconst 0, 1) := by decide +kernel
theorem dX10_step_46 : decode cX10_step 46 = .ok (.ireturn, 1) := by decide +kernel
theorem dX10_fits_0 : decode cX10_fits 0 = .ok (.aload_n 0, 1) := by decide +kernel
theorem dX10_fits_1 : decode cX10_fits 1 = .ok (.getfield 60, 3) := by decide +kernel
theorem dX10_fits_4 : decode cX10_fits 4 = .ok (.iload_n 1, 1) := by decide +kernel
theorem dX10_fits_5 : decode cX10_fits 5 = .ok (.laload, 1) := by decide +kernel
theorem dX10_fits_6 : decode cX10_fits 6 = .ok (.aload_n 0, 1) := by decide +kernel
theorem dX10_fits_7 : decode cX10_fits 7 = .ok (.aload_n 0, 1) := by decide +kernel
theorem dX10_fits_8 : decode cX10_fits 8 = .ok (.getfield 51, 3) := by decide +kernel
theorem dX10_fits_11 : decode cX10_fits 11 = .ok (.iload_n 1, 1) := by decide +kernel
theorem dX10_fits_12 : decode cX10_fits 12 = .ok (.iaload, 1) := by decide +kernel
theorem dX10_fits_13 : decode cX10_fits 13 = .ok (.aload_n 0, 1) := by decide +kernel
theorem dX10_fits_14 : decode cX10_fits 14 = .ok (.getfield 54, 3) := by decide +kernel
theorem dX10_fits_17 : decode cX10_fits 17 = .ok (.iload_n 1, 1) := by decide +kernel
theorem dX10_fits_18 : decode cX10_fits 18 = .ok (.iaload, 1) := by decide +kernel
theorem dX10_fits_19 : decode cX10_fits 19 = .ok (.invokevirtual 204, 3) := by decide +kernel
theorem dX10_fits_22 : decode cX10_fits 22 = .ok (.lcmp, 1) := by decide +kernel
theorem dX10_fits_23 : decode cX10_fits 23 = .ok (.ifCond .ne 7, 3) := by decide +kernel
theorem dX10_fits_26 : decode cX10_fits 26 = .ok (.iconst 1, 1) := by decide +kernel
theorem dX10_fits_27 : decode cX10_fits 27 = .ok (.goto 4, 3) := by decide +kernel
theorem dX10_fits_30 : decode cX10_fits 30 = .ok (.iconst 0, 1) := by decide +kernel
theorem dX10_fits_31 : decode cX10_fits 31 = .ok (.ireturn, 1) := by decide +kernel
theorem dX10_ofWord_0 : decode cX10_ofWord 0 = .ok (.aload_n 0, 1) := by decide +kernel
theorem dX10_ofWord_1 : decode cX10_ofWord 1 = .ok (.iload_n 1, 1) := by decide +kernel
theorem dX10_ofWord_2 : decode cX10_ofWord 2 = .ok (.invokevirtual 190, 3) := by decide +kernel
theorem dX10_ofWord_5 : decode cX10_ofWord 5 = .ok (.istore_n 3, 1) := by decide +kernel
theorem dX10_ofWord_6 : decode cX10_ofWord 6 = .ok (.aload_n 0, 1) := by decide +kernel
theorem dX10_ofWord_7 : decode cX10_ofWord 7 = .ok (.iload_n 3, 1) := by decide +kernel
theorem dX10_ofWord_8 : decode cX10_ofWord 8 = .ok (.ifCond .ne 7, 3) := by decide +kernel
theorem dX10_ofWord_11 : decode cX10_ofWord 11 = .ok (.iconst 1, 1) := by decide +kernel
theorem dX10_ofWord_12 : decode cX10_ofWord 12 = .ok (.goto 17, 3) := by decide +kernel
theorem dX10_ofWord_15 : decode cX10_ofWord 15 = .ok (.iload_n 2, 1) := by decide +kernel
theorem dX10_ofWord_16 : decode cX10_ofWord 16 = .ok (.iconst 0, 1) := by decide +kernel
theorem dX10_ofWord_17 : decode cX10_ofWord 17 = .ok (.iconst 4, 1) := by decide +kernel
theorem dX10_ofWord_18 : decode cX10_ofWord 18 = .ok (.invokestatic 109, 3) := by decide +kernel
theorem dX10_ofWord_21 : decode cX10_ofWord 21 = .ok (.ifCond .ne 7, 3) := by decide +kernel
theorem dX10_ofWord_24 : decode cX10_ofWord 24 = .ok (.iconst 2, 1) := by decide +kernel
theorem dX10_ofWord_25 : decode cX10_ofWord 25 = .ok (.goto 4, 3) := by decide +kernel
theorem dX10_ofWord_28 : decode cX10_ofWord 28 = .ok (.iconst 0, 1) := by decide +kernel
theorem dX10_ofWord_29 : decode cX10_ofWord 29 = .ok (.invokevirtual 116, 3) := by decide +kernel
theorem dX10_ofWord_32 : decode cX10_ofWord 32 = .ok (.ifCond .ne 5, 3) := by decide +kernel
theorem dX10_ofWord_35 : decode cX10_ofWord 35 = .ok (.iconst 0, 1) := by decide +kernel
theorem dX10_ofWord_36 : decode cX10_ofWord 36 = .ok (.ireturn, 1) := by decide +kernel
theorem dX10_ofWord_37 : decode cX10_ofWord 37 = .ok (.iload_n 2, 1) := by decide +kernel
theorem dX10_ofWord_38 : decode cX10_ofWord 38 = .ok (.tableswitch 61 0 3 #[30, 37, 44, 51], 30) := by decide +kernel
theorem dX10_ofWord_68 : decode cX10_ofWord 68 = .ok (.aload_n 0, 1) := by decide +kernel
theorem dX10_ofWord_69 : decode cX10_ofWord 69 = .ok (.getfield 51, 3) := by decide +kernel
theorem dX10_ofWord_72 : decode cX10_ofWord 72 = .ok (.iload_n 1, 1) := by decide +kernel
theorem dX10_ofWord_73 : decode cX10_ofWord 73 = .ok (.iaload, 1) := by decide +kernel
theorem dX10_ofWord_74 : decode cX10_ofWord 74 = .ok (.ireturn, 1) := by decide +kernel
theorem dX10_ofWord_75 : decode cX10_ofWord 75 = .ok (.aload_n 0, 1) := by decide +kernel
theorem dX10_ofWord_76 : decode cX10_ofWord 76 = .ok (.getfield 54, 3) := by decide +kernel
theorem dX10_ofWord_79 : decode cX10_ofWord 79 = .ok (.iload_n 1, 1) := by decide +kernel
theorem dX10_ofWord_80 : decode cX10_ofWord 80 = .ok (.iaload, 1) := by decide +kernel
theorem dX10_ofWord_81 : decode cX10_ofWord 81 = .ok (.ireturn, 1) := by decide +kernel
theorem dX10_ofWord_82 : decode cX10_ofWord 82 = .ok (.aload_n 0, 1) := by decide +kernel
theorem dX10_ofWord_83 : decode cX10_ofWord 83 = .ok (.getfield 57, 3) := by decide +kernel
theorem dX10_ofWord_86 : decode cX10_ofWord 86 = .ok (.iload_n 1, 1) := by decide +kernel
theorem dX10_ofWord_87 : decode cX10_ofWord 87 = .ok (.iaload, 1) := by decide +kernel
theorem dX10_ofWord_88 : decode cX10_ofWord 88 = .ok (.ireturn, 1) := by decide +kernel
theorem dX10_ofWord_89 : decode cX10_ofWord 89 = .ok (.aload_n 0, 1) := by decide +kernel
theorem dX10_ofWord_90 : decode cX10_ofWord 90 = .ok (.getfield 60, 3) := by decide +kernel
theorem dX10_ofWord_93 : decode cX10_ofWord 93 = .ok (.iload_n 1, 1) := by decide +kernel
theorem dX10_ofWord_94 : decode cX10_ofWord 94 = .ok (.laload, 1) := by decide +kernel
theorem dX10_ofWord_95 : decode cX10_ofWord 95 = .ok (.invokestatic 92, 3) := by decide +kernel
theorem dX10_ofWord_98 : decode cX10_ofWord 98 = .ok (.ireturn, 1) := by decide +kernel
theorem dX10_ofWord_99 : decode cX10_ofWord 99 = .ok (.aload_n 0, 1) := by decide +kernel
theorem dX10_ofWord_100 : decode cX10_ofWord 100 = .ok (.iload_n 1, 1) := by decide +kernel
theorem dX10_ofWord_101 : decode cX10_ofWord 101 = .ok (.invokevirtual 211, 3) := by decide +kernel
theorem dX10_ofWord_104 : decode cX10_ofWord 104 = .ok (.ifCond .eq 7, 3) := by decide +kernel
theorem dX10_ofWord_107 : decode cX10_ofWord 107 = .ok (.iconst 1, 1) := by decide +kernel
theorem dX10_ofWord_108 : decode cX10_ofWord 108 = .ok (.goto 4, 3) := by decide +kernel
theorem dX10_ofWord_111 : decode cX10_ofWord 111 = .ok (.iconst 0, 1) := by decide +kernel
theorem dX10_ofWord_112 : decode cX10_ofWord 112 = .ok (.ireturn, 1) := by decide +kernel
theorem dX10_misfit_0 : decode cX10_misfit 0 = .ok (.aload_n 0, 1) := by decide +kernel
theorem dX10_misfit_1 : decode cX10_misfit 1 = .ok (.iload_n 1, 1) := by decide +kernel
theorem dX10_misfit_2 : decode cX10_misfit 2 = .ok (.ifCond .lt 7, 3) := by decide +kernel
theorem dX10_misfit_5 : decode cX10_misfit 5 = .ok (.iconst 0, 1) := by decide +kernel
theorem dX10_misfit_6 : decode cX10_misfit 6 = .ok (.goto 4, 3) := by decide +kernel
theorem dX10_misfit_9 : decode cX10_misfit 9 = .ok (.iconst 1, 1) := by decide +kernel
theorem dX10_misfit_10 : decode cX10_misfit 10 = .ok (.invokevirtual 116, 3) := by decide +kernel
theorem dX10_misfit_13 : decode cX10_misfit 13 = .ok (.ifCond .ne 5, 3) := by decide +kernel
theorem dX10_misfit_16 : decode cX10_misfit 16 = .ok (.iconst 0, 1) := by decide +kernel
theorem dX10_misfit_17 : decode cX10_misfit 17 = .ok (.ireturn, 1) := by decide +kernel
theorem dX10_misfit_18 : decode cX10_misfit 18 = .ok (.iload_n 1, 1) := by decide +kernel
theorem dX10_misfit_19 : decode cX10_misfit 19 = .ok (.istore_n 2, 1) := by decide +kernel
theorem dX10_misfit_20 : decode cX10_misfit 20 = .ok (.iconst 0, 1) := by decide +kernel
theorem dX10_misfit_21 : decode cX10_misfit 21 = .ok (.istore_n 3, 1) := by decide +kernel
theorem dX10_misfit_22 : decode cX10_misfit 22 = .ok (.iload_n 3, 1) := by decide +kernel
theorem dX10_misfit_23 : decode cX10_misfit 23 = .ok (.aload_n 0, 1) := by decide +kernel
theorem dX10_misfit_24 : decode cX10_misfit 24 = .ok (.getfield 187, 3) := by decide +kernel
theorem dX10_misfit_27 : decode cX10_misfit 27 = .ok (.if_icmp .ge 35, 3) := by decide +kernel
theorem dX10_misfit_30 : decode cX10_misfit 30 = .ok (.aload_n 0, 1) := by decide +kernel
theorem dX10_misfit_31 : decode cX10_misfit 31 = .ok (.getfield 63, 3) := by decide +kernel
theorem dX10_misfit_34 : decode cX10_misfit 34 = .ok (.iload_n 3, 1) := by decide +kernel
theorem dX10_misfit_35 : decode cX10_misfit 35 = .ok (.baload, 1) := by decide +kernel
theorem dX10_misfit_36 : decode cX10_misfit 36 = .ok (.ifCond .eq 20, 3) := by decide +kernel
theorem dX10_misfit_39 : decode cX10_misfit 39 = .ok (.aload_n 0, 1) := by decide +kernel
theorem dX10_misfit_40 : decode cX10_misfit 40 = .ok (.iload_n 3, 1) := by decide +kernel
theorem dX10_misfit_41 : decode cX10_misfit 41 = .ok (.invokevirtual 211, 3) := by decide +kernel
theorem dX10_misfit_44 : decode cX10_misfit 44 = .ok (.ifCond .ne 12, 3) := by decide +kernel
theorem dX10_misfit_47 : decode cX10_misfit 47 = .ok (.iload_n 2, 1) := by decide +kernel
theorem dX10_misfit_48 : decode cX10_misfit 48 = .ok (.ifCond .ne 5, 3) := by decide +kernel
theorem dX10_misfit_51 : decode cX10_misfit 51 = .ok (.iload_n 3, 1) := by decide +kernel
theorem dX10_misfit_52 : decode cX10_misfit 52 = .ok (.ireturn, 1) := by decide +kernel
theorem dX10_misfit_53 : decode cX10_misfit 53 = .ok (.iinc 2 (-1), 3) := by decide +kernel
theorem dX10_misfit_56 : decode cX10_misfit 56 = .ok (.iinc 3 1, 3) := by decide +kernel
theorem dX10_misfit_59 : decode cX10_misfit 59 = .ok (.goto (-37), 3) := by decide +kernel
theorem dX10_misfit_62 : decode cX10_misfit 62 = .ok (.iconst (-1), 1) := by decide +kernel
theorem dX10_misfit_63 : decode cX10_misfit 63 = .ok (.ireturn, 1) := by decide +kernel
theorem dX10_isBare_0 : decode cX10_isBare 0 = .ok (.aload_n 0, 1) := by decide +kernel
theorem dX10_isBare_1 : decode cX10_isBare 1 = .ok (.getfield 63, 3) := by decide +kernel
theorem dX10_isBare_4 : decode cX10_isBare 4 = .ok (.iload_n 1, 1) := by decide +kernel
theorem dX10_isBare_5 : decode cX10_isBare 5 = .ok (.baload, 1) := by decide +kernel
theorem dX10_isBare_6 : decode cX10_isBare 6 = .ok (.ifCond .eq 26, 3) := by decide +kernel
theorem dX10_isBare_9 : decode cX10_isBare 9 = .ok (.aload_n 0, 1) := by decide +kernel
theorem dX10_isBare_10 : decode cX10_isBare 10 = .ok (.aload_n 0, 1) := by decide +kernel
theorem dX10_isBare_11 : decode cX10_isBare 11 = .ok (.getfield 51, 3) := by decide +kernel
theorem dX10_isBare_14 : decode cX10_isBare 14 = .ok (.iload_n 1, 1) := by decide +kernel
theorem dX10_isBare_15 : decode cX10_isBare 15 = .ok (.iaload, 1) := by decide +kernel
theorem dX10_isBare_16 : decode cX10_isBare 16 = .ok (.aload_n 0, 1) := by decide +kernel
theorem dX10_isBare_17 : decode cX10_isBare 17 = .ok (.getfield 54, 3) := by decide +kernel
theorem dX10_isBare_20 : decode cX10_isBare 20 = .ok (.iload_n 1, 1) := by decide +kernel
theorem dX10_isBare_21 : decode cX10_isBare 21 = .ok (.iaload, 1) := by decide +kernel
theorem dX10_isBare_22 : decode cX10_isBare 22 = .ok (.invokevirtual 180, 3) := by decide +kernel
theorem dX10_isBare_25 : decode cX10_isBare 25 = .ok (.ifCond .ne 7, 3) := by decide +kernel
theorem dX10_isBare_28 : decode cX10_isBare 28 = .ok (.iconst 1, 1) := by decide +kernel
theorem dX10_isBare_29 : decode cX10_isBare 29 = .ok (.goto 4, 3) := by decide +kernel
theorem dX10_isBare_32 : decode cX10_isBare 32 = .ok (.iconst 0, 1) := by decide +kernel
theorem dX10_isBare_33 : decode cX10_isBare 33 = .ok (.ireturn, 1) := by decide +kernel
theorem dX10_fitsBy_0 : decode cX10_fitsBy 0 = .ok (.aload_n 0, 1) := by decide +kernel
theorem dX10_fitsBy_1 : decode cX10_fitsBy 1 = .ok (.getfield 60, 3) := by decide +kernel
theorem dX10_fitsBy_4 : decode cX10_fitsBy 4 = .ok (.iload_n 1, 1) := by decide +kernel
theorem dX10_fitsBy_5 : decode cX10_fitsBy 5 = .ok (.laload, 1) := by decide +kernel
theorem dX10_fitsBy_6 : decode cX10_fitsBy 6 = .ok (.aload_n 0, 1) := by decide +kernel
theorem dX10_fitsBy_7 : decode cX10_fitsBy 7 = .ok (.aload_n 0, 1) := by decide +kernel
theorem dX10_fitsBy_8 : decode cX10_fitsBy 8 = .ok (.getfield 51, 3) := by decide +kernel
theorem dX10_fitsBy_11 : decode cX10_fitsBy 11 = .ok (.iload_n 1, 1) := by decide +kernel
theorem dX10_fitsBy_12 : decode cX10_fitsBy 12 = .ok (.iaload, 1) := by decide +kernel
theorem dX10_fitsBy_13 : decode cX10_fitsBy 13 = .ok (.aload_n 0, 1) := by decide +kernel
theorem dX10_fitsBy_14 : decode cX10_fitsBy 14 = .ok (.getfield 54, 3) := by decide +kernel
theorem dX10_fitsBy_17 : decode cX10_fitsBy 17 = .ok (.iload_n 1, 1) := by decide +kernel
theorem dX10_fitsBy_18 : decode cX10_fitsBy 18 = .ok (.iaload, 1) := by decide +kernel
theorem dX10_fitsBy_19 : decode cX10_fitsBy 19 = .ok (.iload_n 2, 1) := by decide +kernel
theorem dX10_fitsBy_20 : decode cX10_fitsBy 20 = .ok (.iconst (-1), 1) := by decide +kernel
theorem dX10_fitsBy_21 : decode cX10_fitsBy 21 = .ok (.invokevirtual 183, 3) := by decide +kernel
theorem dX10_fitsBy_24 : decode cX10_fitsBy 24 = .ok (.lcmp, 1) := by decide +kernel
theorem dX10_fitsBy_25 : decode cX10_fitsBy 25 = .ok (.ifCond .ne 7, 3) := by decide +kernel
theorem dX10_fitsBy_28 : decode cX10_fitsBy 28 = .ok (.iconst 1, 1) := by decide +kernel
theorem dX10_fitsBy_29 : decode cX10_fitsBy 29 = .ok (.goto 4, 3) := by decide +kernel
theorem dX10_fitsBy_32 : decode cX10_fitsBy 32 = .ok (.iconst 0, 1) := by decide +kernel
theorem dX10_fitsBy_33 : decode cX10_fitsBy 33 = .ok (.ireturn, 1) := by decide +kernel
theorem dX10_claims_0 : decode cX10_claims 0 = .ok (.aload_n 0, 1) := by decide +kernel
theorem dX10_claims_1 : decode cX10_claims 1 = .ok (.aload_n 0, 1) := by decide +kernel
theorem dX10_claims_2 : decode cX10_claims 2 = .ok (.iload_n 1, 1) := by decide +kernel
theorem dX10_claims_3 : decode cX10_claims 3 = .ok (.invokevirtual 158, 3) := by decide +kernel
theorem dX10_claims_6 : decode cX10_claims 6 = .ok (.ifCond .eq 7, 3) := by decide +kernel
theorem dX10_claims_9 : decode cX10_claims 9 = .ok (.iconst 0, 1) := by decide +kernel
theorem dX10_claims_10 : decode cX10_claims 10 = .ok (.goto 4, 3) := by decide +kernel
theorem dX10_claims_13 : decode cX10_claims 13 = .ok (.iconst 1, 1) := by decide +kernel
theorem dX10_claims_14 : decode cX10_claims 14 = .ok (.invokevirtual 116, 3) := by decide +kernel
theorem dX10_claims_17 : decode cX10_claims 17 = .ok (.ifCond .eq 14, 3) := by decide +kernel
theorem dX10_claims_20 : decode cX10_claims 20 = .ok (.aload_n 0, 1) := by decide +kernel
theorem dX10_claims_21 : decode cX10_claims 21 = .ok (.getfield 155, 3) := by decide +kernel
theorem dX10_claims_24 : decode cX10_claims 24 = .ok (.iload_n 1, 1) := by decide +kernel
theorem dX10_claims_25 : decode cX10_claims 25 = .ok (.ishr, 1) := by decide +kernel
theorem dX10_claims_26 : decode cX10_claims 26 = .ok (.iconst 1, 1) := by decide +kernel
theorem dX10_claims_27 : decode cX10_claims 27 = .ok (.iand, 1) := by decide +kernel
theorem dX10_claims_28 : decode cX10_claims 28 = .ok (.ifCond .ne 5, 3) := by decide +kernel
theorem dX10_claims_31 : decode cX10_claims 31 = .ok (.iconst 0, 1) := by decide +kernel
theorem dX10_claims_32 : decode cX10_claims 32 = .ok (.ireturn, 1) := by decide +kernel
theorem dX10_claims_33 : decode cX10_claims 33 = .ok (.iconst 0, 1) := by decide +kernel
theorem dX10_claims_34 : decode cX10_claims 34 = .ok (.istore_n 3, 1) := by decide +kernel
theorem dX10_claims_35 : decode cX10_claims 35 = .ok (.iconst 0, 1) := by decide +kernel
theorem dX10_claims_36 : decode cX10_claims 36 = .ok (.istore 4, 2) := by decide +kernel
theorem dX10_claims_38 : decode cX10_claims 38 = .ok (.iload 4, 2) := by decide +kernel
theorem dX10_claims_40 : decode cX10_claims 40 = .ok (.aload_n 0, 1) := by decide +kernel
theorem dX10_claims_41 : decode cX10_claims 41 = .ok (.getfield 187, 3) := by decide +kernel
theorem dX10_claims_44 : decode cX10_claims 44 = .ok (.if_icmp .ge 130, 3) := by decide +kernel
theorem dX10_claims_47 : decode cX10_claims 47 = .ok (.aload_n 0, 1) := by decide +kernel
theorem dX10_claims_48 : decode cX10_claims 48 = .ok (.iload 4, 2) := by decide +kernel
theorem dX10_claims_50 : decode cX10_claims 50 = .ok (.invokevirtual 214, 3) := by decide +kernel
theorem dX10_claims_53 : decode cX10_claims 53 = .ok (.ifCond .eq 20, 3) := by decide +kernel
theorem dX10_claims_56 : decode cX10_claims 56 = .ok (.aload_n 0, 1) := by decide +kernel
theorem dX10_claims_57 : decode cX10_claims 57 = .ok (.iload 4, 2) := by decide +kernel
theorem dX10_claims_59 : decode cX10_claims 59 = .ok (.aload_n 0, 1) := by decide +kernel
theorem dX10_claims_60 : decode cX10_claims 60 = .ok (.getfield 155, 3) := by decide +kernel
theorem dX10_claims_63 : decode cX10_claims 63 = .ok (.invokevirtual 217, 3) := by decide +kernel
theorem dX10_claims_66 : decode cX10_claims 66 = .ok (.ifCond .eq 7, 3) := by decide +kernel
theorem dX10_claims_69 : decode cX10_claims 69 = .ok (.iconst 1, 1) := by decide +kernel
theorem dX10_claims_70 : decode cX10_claims 70 = .ok (.goto 4, 3) := by decide +kernel
theorem dX10_claims_73 : decode cX10_claims 73 = .ok (.iconst 0, 1) := by decide +kernel
theorem dX10_claims_74 : decode cX10_claims 74 = .ok (.istore 5, 2) := by decide +kernel
theorem dX10_claims_76 : decode cX10_claims 76 = .ok (.iload_n 2, 1) := by decide +kernel
theorem dX10_claims_77 : decode cX10_claims 77 = .ok (.ifCond .eq 38, 3) := by decide +kernel
theorem dX10_claims_80 : decode cX10_claims 80 = .ok (.iload 5, 2) := by decide +kernel
theorem dX10_claims_82 : decode cX10_claims 82 = .ok (.ifCond .eq 29, 3) := by decide +kernel
theorem dX10_claims_85 : decode cX10_claims 85 = .ok (.aload_n 0, 1) := by decide +kernel
theorem dX10_claims_86 : decode cX10_claims 86 = .ok (.aload_n 0, 1) := by decide +kernel
theorem dX10_claims_87 : decode cX10_claims 87 = .ok (.getfield 51, 3) := by decide +kernel
theorem dX10_claims_90 : decode cX10_claims 90 = .ok (.iload 4, 2) := by decide +kernel
theorem dX10_claims_92 : decode cX10_claims 92 = .ok (.iaload, 1) := by decide +kernel
theorem dX10_claims_93 : decode cX10_claims 93 = .ok (.aload_n 0, 1) := by decide +kernel
theorem dX10_claims_94 : decode cX10_claims 94 = .ok (.getfield 54, 3) := by decide +kernel
theorem dX10_claims_97 : decode cX10_claims 97 = .ok (.iload 4, 2) := by decide +kernel
theorem dX10_claims_99 : decode cX10_claims 99 = .ok (.iaload, 1) := by decide +kernel
theorem dX10_claims_100 : decode cX10_claims 100 = .ok (.iload_n 1, 1) := by decide +kernel
theorem dX10_claims_101 : decode cX10_claims 101 = .ok (.invokevirtual 208, 3) := by decide +kernel
theorem dX10_claims_104 : decode cX10_claims 104 = .ok (.ifCond .le 7, 3) := by decide +kernel
theorem dX10_claims_107 : decode cX10_claims 107 = .ok (.iconst 1, 1) := by decide +kernel
theorem dX10_claims_108 : decode cX10_claims 108 = .ok (.goto 45, 3) := by decide +kernel
theorem dX10_claims_111 : decode cX10_claims 111 = .ok (.iconst 0, 1) := by decide +kernel
theorem dX10_claims_112 : decode cX10_claims 112 = .ok (.goto 41, 3) := by decide +kernel
theorem dX10_claims_115 : decode cX10_claims 115 = .ok (.aload_n 0, 1) := by decide +kernel
theorem dX10_claims_116 : decode cX10_claims 116 = .ok (.iload 4, 2) := by decide +kernel
theorem dX10_claims_118 : decode cX10_claims 118 = .ok (.invokevirtual 214, 3) := by decide +kernel
theorem dX10_claims_121 : decode cX10_claims 121 = .ok (.ifCond .eq 31, 3) := by decide +kernel
theorem dX10_claims_124 : decode cX10_claims 124 = .ok (.iload 5, 2) := by decide +kernel
theorem dX10_claims_126 : decode cX10_claims 126 = .ok (.ifCond .ne 26, 3) := by decide +kernel
theorem dX10_claims_129 : decode cX10_claims 129 = .ok (.aload_n 0, 1) := by decide +kernel
theorem dX10_claims_130 : decode cX10_claims 130 = .ok (.iload 4, 2) := by decide +kernel
theorem dX10_claims_132 : decode cX10_claims 132 = .ok (.aload_n 0, 1) := by decide +kernel
theorem dX10_claims_133 : decode cX10_claims 133 = .ok (.getfield 155, 3) := by decide +kernel
theorem dX10_claims_136 : decode cX10_claims 136 = .ok (.iconst 1, 1) := by decide +kernel
theorem dX10_claims_137 : decode cX10_claims 137 = .ok (.iload_n 1, 1) := by decide +kernel
theorem dX10_claims_138 : decode cX10_claims 138 = .ok (.ishl, 1) := by decide +kernel
theorem dX10_claims_139 : decode cX10_claims 139 = .ok (.iconst (-1), 1) := by decide +kernel
theorem dX10_claims_140 : decode cX10_claims 140 = .ok (.ixor, 1) := by decide +kernel
theorem dX10_claims_141 : decode cX10_claims 141 = .ok (.iand, 1) := by decide +kernel
theorem dX10_claims_142 : decode cX10_claims 142 = .ok (.invokevirtual 217, 3) := by decide +kernel
theorem dX10_claims_145 : decode cX10_claims 145 = .ok (.ifCond .eq 7, 3) := by decide +kernel
theorem dX10_claims_148 : decode cX10_claims 148 = .ok (.iconst 1, 1) := by decide +kernel
theorem dX10_claims_149 : decode cX10_claims 149 = .ok (.goto 4, 3) := by decide +kernel
theorem dX10_claims_152 : decode cX10_claims 152 = .ok (.iconst 0, 1) := by decide +kernel
theorem dX10_claims_153 : decode cX10_claims 153 = .ok (.istore 6, 2) := by decide +kernel
theorem dX10_claims_155 : decode cX10_claims 155 = .ok (.iload_n 3, 1) := by decide +kernel
theorem dX10_claims_156 : decode cX10_claims 156 = .ok (.iload 6, 2) := by decide +kernel
theorem dX10_claims_158 : decode cX10_claims 158 = .ok (.ifCond .eq 7, 3) := by decide +kernel
theorem dX10_claims_161 : decode cX10_claims 161 = .ok (.iconst 1, 1) := by decide +kernel
theorem dX10_claims_162 : decode cX10_claims 162 = .ok (.goto 4, 3) := by decide +kernel
theorem dX10_claims_165 : decode cX10_claims 165 = .ok (.iconst 0, 1) := by decide +kernel
theorem dX10_claims_166 : decode cX10_claims 166 = .ok (.iadd, 1) := by decide +kernel
theorem dX10_claims_167 : decode cX10_claims 167 = .ok (.istore_n 3, 1) := by decide +kernel
theorem dX10_claims_168 : decode cX10_claims 168 = .ok (.iinc 4 1, 3) := by decide +kernel
theorem dX10_claims_171 : decode cX10_claims 171 = .ok (.goto (-133), 3) := by decide +kernel
theorem dX10_claims_174 : decode cX10_claims 174 = .ok (.iload_n 3, 1) := by decide +kernel
theorem dX10_claims_175 : decode cX10_claims 175 = .ok (.ireturn, 1) := by decide +kernel
theorem dX10_isFitting_0 : decode cX10_isFitting 0 = .ok (.iconst 1, 1) := by decide +kernel
theorem dX10_isFitting_1 : decode cX10_isFitting 1 = .ok (.istore_n 2, 1) := by decide +kernel
theorem dX10_isFitting_2 : decode cX10_isFitting 2 = .ok (.iconst 0, 1) := by decide +kernel
theorem dX10_isFitting_3 : decode cX10_isFitting 3 = .ok (.istore_n 3, 1) := by decide +kernel
theorem dX10_isFitting_4 : decode cX10_isFitting 4 = .ok (.iload_n 3, 1) := by decide +kernel
theorem dX10_isFitting_5 : decode cX10_isFitting 5 = .ok (.aload_n 0, 1) := by decide +kernel
theorem dX10_isFitting_6 : decode cX10_isFitting 6 = .ok (.getfield 187, 3) := by decide +kernel
theorem dX10_isFitting_9 : decode cX10_isFitting 9 = .ok (.if_icmp .ge 36, 3) := by decide +kernel
theorem dX10_isFitting_12 : decode cX10_isFitting 12 = .ok (.iload_n 2, 1) := by decide +kernel
theorem dX10_isFitting_13 : decode cX10_isFitting 13 = .ok (.ifCond .eq 32, 3) := by decide +kernel
theorem dX10_isFitting_16 : decode cX10_isFitting 16 = .ok (.aload_n 0, 1) := by decide +kernel
theorem dX10_isFitting_17 : decode cX10_isFitting 17 = .ok (.iload_n 3, 1) := by decide +kernel
theorem dX10_isFitting_18 : decode cX10_isFitting 18 = .ok (.invokevirtual 214, 3) := by decide +kernel
theorem dX10_isFitting_21 : decode cX10_isFitting 21 = .ok (.ifCond .eq 12, 3) := by decide +kernel
theorem dX10_isFitting_24 : decode cX10_isFitting 24 = .ok (.aload_n 0, 1) := by decide +kernel
theorem dX10_isFitting_25 : decode cX10_isFitting 25 = .ok (.iload_n 3, 1) := by decide +kernel
theorem dX10_isFitting_26 : decode cX10_isFitting 26 = .ok (.iload_n 1, 1) := by decide +kernel
theorem dX10_isFitting_27 : decode cX10_isFitting 27 = .ok (.invokevirtual 217, 3) := by decide +kernel
theorem dX10_isFitting_30 : decode cX10_isFitting 30 = .ok (.ifCond .eq 7, 3) := by decide +kernel
theorem dX10_isFitting_33 : decode cX10_isFitting 33 = .ok (.iconst 1, 1) := by decide +kernel
theorem dX10_isFitting_34 : decode cX10_isFitting 34 = .ok (.goto 4, 3) := by decide +kernel
theorem dX10_isFitting_37 : decode cX10_isFitting 37 = .ok (.iconst 0, 1) := by decide +kernel
theorem dX10_isFitting_38 : decode cX10_isFitting 38 = .ok (.istore_n 2, 1) := by decide +kernel
theorem dX10_isFitting_39 : decode cX10_isFitting 39 = .ok (.iinc 3 1, 3) := by decide +kernel
theorem dX10_isFitting_42 : decode cX10_isFitting 42 = .ok (.goto (-38), 3) := by decide +kernel
theorem dX10_isFitting_45 : decode cX10_isFitting 45 = .ok (.iload_n 2, 1) := by decide +kernel
theorem dX10_isFitting_46 : decode cX10_isFitting 46 = .ok (.ireturn, 1) := by decide +kernel
theorem dX10_fitting_0 : decode cX10_fitting 0 = .ok (.aload_n 0, 1) := by decide +kernel
theorem dX10_fitting_1 : decode cX10_fitting 1 = .ok (.iconst 0, 1) := by decide +kernel
theorem dX10_fitting_2 : decode cX10_fitting 2 = .ok (.putfield 86, 3) := by decide +kernel
theorem dX10_fitting_5 : decode cX10_fitting 5 = .ok (.iconst 0, 1) := by decide +kernel
theorem dX10_fitting_6 : decode cX10_fitting 6 = .ok (.istore_n 1, 1) := by decide +kernel
theorem dX10_fitting_7 : decode cX10_fitting 7 = .ok (.iconst 0, 1) := by decide +kernel
theorem dX10_fitting_8 : decode cX10_fitting 8 = .ok (.istore_n 2, 1) := by decide +kernel
theorem dX10_fitting_9 : decode cX10_fitting 9 = .ok (.iload_n 2, 1) := by decide +kernel
theorem dX10_fitting_10 : decode cX10_fitting 10 = .ok (.iconst 1, 1) := by decide +kernel
theorem dX10_fitting_11 : decode cX10_fitting 11 = .ok (.aload_n 0, 1) := by decide +kernel
theorem dX10_fitting_12 : decode cX10_fitting 12 = .ok (.getfield 133, 3) := by decide +kernel
theorem dX10_fitting_15 : decode cX10_fitting 15 = .ok (.ishl, 1) := by decide +kernel
theorem dX10_fitting_16 : decode cX10_fitting 16 = .ok (.if_icmp .ge 25, 3) := by decide +kernel
theorem dX10_fitting_19 : decode cX10_fitting 19 = .ok (.iload_n 1, 1) := by decide +kernel
theorem dX10_fitting_20 : decode cX10_fitting 20 = .ok (.aload_n 0, 1) := by decide +kernel
theorem dX10_fitting_21 : decode cX10_fitting 21 = .ok (.iload_n 2, 1) := by decide +kernel
theorem dX10_fitting_22 : decode cX10_fitting 22 = .ok (.invokevirtual 220, 3) := by decide +kernel
theorem dX10_fitting_25 : decode cX10_fitting 25 = .ok (.ifCond .eq 7, 3) := by decide +kernel
theorem dX10_fitting_28 : decode cX10_fitting 28 = .ok (.iconst 1, 1) := by decide +kernel
theorem dX10_fitting_29 : decode cX10_fitting 29 = .ok (.goto 4, 3) := by decide +kernel
theorem dX10_fitting_32 : decode cX10_fitting 32 = .ok (.iconst 0, 1) := by decide +kernel
theorem dX10_fitting_33 : decode cX10_fitting 33 = .ok (.iadd, 1) := by decide +kernel
theorem dX10_fitting_34 : decode cX10_fitting 34 = .ok (.istore_n 1, 1) := by decide +kernel
theorem dX10_fitting_35 : decode cX10_fitting 35 = .ok (.iinc 2 1, 3) := by decide +kernel
theorem dX10_fitting_38 : decode cX10_fitting 38 = .ok (.goto (-29), 3) := by decide +kernel
theorem dX10_fitting_41 : decode cX10_fitting 41 = .ok (.iload_n 1, 1) := by decide +kernel
theorem dX10_fitting_42 : decode cX10_fitting 42 = .ok (.ireturn, 1) := by decide +kernel
theorem dX10_ones_0 : decode cX10_ones 0 = .ok (.iconst 0, 1) := by decide +kernel
theorem dX10_ones_1 : decode cX10_ones 1 = .ok (.istore_n 1, 1) := by decide +kernel
theorem dX10_ones_2 : decode cX10_ones 2 = .ok (.iconst 0, 1) := by decide +kernel
theorem dX10_ones_3 : decode cX10_ones 3 = .ok (.istore_n 2, 1) := by decide +kernel
theorem dX10_ones_4 : decode cX10_ones 4 = .ok (.iload_n 2, 1) := by decide +kernel
theorem dX10_ones_5 : decode cX10_ones 5 = .ok (.bipush 6, 2) := by decide +kernel
theorem dX10_ones_7 : decode cX10_ones 7 = .ok (.if_icmp .ge 17, 3) := by decide +kernel
theorem dX10_ones_10 : decode cX10_ones 10 = .ok (.iload_n 1, 1) := by decide +kernel
theorem dX10_ones_11 : decode cX10_ones 11 = .ok (.iload_n 0, 1) := by decide +kernel
theorem dX10_ones_12 : decode cX10_ones 12 = .ok (.iload_n 2, 1) := by decide +kernel
theorem dX10_ones_13 : decode cX10_ones 13 = .ok (.ishr, 1) := by decide +kernel
theorem dX10_ones_14 : decode cX10_ones 14 = .ok (.iconst 1, 1) := by decide +kernel
theorem dX10_ones_15 : decode cX10_ones 15 = .ok (.iand, 1) := by decide +kernel
theorem dX10_ones_16 : decode cX10_ones 16 = .ok (.iadd, 1) := by decide +kernel
theorem dX10_ones_17 : decode cX10_ones 17 = .ok (.istore_n 1, 1) := by decide +kernel
theorem dX10_ones_18 : decode cX10_ones 18 = .ok (.iinc 2 1, 3) := by decide +kernel
theorem dX10_ones_21 : decode cX10_ones 21 = .ok (.goto (-17), 3) := by decide +kernel
theorem dX10_ones_24 : decode cX10_ones 24 = .ok (.iload_n 1, 1) := by decide +kernel
theorem dX10_ones_25 : decode cX10_ones 25 = .ok (.ireturn, 1) := by decide +kernel
theorem dX10_smallest_0 : decode cX10_smallest 0 = .ok (.aload_n 0, 1) := by decide +kernel
theorem dX10_smallest_1 : decode cX10_smallest 1 = .ok (.iconst 0, 1) := by decide +kernel
theorem dX10_smallest_2 : decode cX10_smallest 2 = .ok (.putfield 86, 3) := by decide +kernel
theorem dX10_smallest_5 : decode cX10_smallest 5 = .ok (.iconst (-1), 1) := by decide +kernel
theorem dX10_smallest_6 : decode cX10_smallest 6 = .ok (.istore_n 1, 1) := by decide +kernel
theorem dX10_smallest_7 : decode cX10_smallest 7 = .ok (.iconst 0, 1) := by decide +kernel
theorem dX10_smallest_8 : decode cX10_smallest 8 = .ok (.istore_n 2, 1) := by decide +kernel
theorem dX10_smallest_9 : decode cX10_smallest 9 = .ok (.iload_n 2, 1) := by decide +kernel
theorem dX10_smallest_10 : decode cX10_smallest 10 = .ok (.iconst 1, 1) := by decide +kernel
theorem dX10_smallest_11 : decode cX10_smallest 11 = .ok (.aload_n 0, 1) := by decide +kernel
theorem dX10_smallest_12 : decode cX10_smallest 12 = .ok (.getfield 133, 3) := by decide +kernel
theorem dX10_smallest_15 : decode cX10_smallest 15 = .ok (.ishl, 1) := by decide +kernel
theorem dX10_smallest_16 : decode cX10_smallest 16 = .ok (.if_icmp .ge 39, 3) := by decide +kernel
theorem dX10_smallest_19 : decode cX10_smallest 19 = .ok (.aload_n 0, 1) := by decide +kernel
theorem dX10_smallest_20 : decode cX10_smallest 20 = .ok (.iload_n 2, 1) := by decide +kernel
theorem dX10_smallest_21 : decode cX10_smallest 21 = .ok (.invokevirtual 220, 3) := by decide +kernel
theorem dX10_smallest_24 : decode cX10_smallest 24 = .ok (.ifCond .eq 23, 3) := by decide +kernel
theorem dX10_smallest_27 : decode cX10_smallest 27 = .ok (.iload_n 1, 1) := by decide +kernel
theorem dX10_smallest_28 : decode cX10_smallest 28 = .ok (.iconst (-1), 1) := by decide +kernel
theorem dX10_smallest_29 : decode cX10_smallest 29 = .ok (.if_icmp .eq 14, 3) := by decide +kernel
theorem dX10_smallest_32 : decode cX10_smallest 32 = .ok (.iload_n 2, 1) := by decide +kernel
theorem dX10_smallest_33 : decode cX10_smallest 33 = .ok (.invokestatic 223, 3) := by decide +kernel
theorem dX10_smallest_36 : decode cX10_smallest 36 = .ok (.iload_n 1, 1) := by decide +kernel
theorem dX10_smallest_37 : decode cX10_smallest 37 = .ok (.invokestatic 223, 3) := by decide +kernel
theorem dX10_smallest_40 : decode cX10_smallest 40 = .ok (.if_icmp .ge 7, 3) := by decide +kernel
theorem dX10_smallest_43 : decode cX10_smallest 43 = .ok (.iload_n 2, 1) := by decide +kernel
theorem dX10_smallest_44 : decode cX10_smallest 44 = .ok (.goto 4, 3) := by decide +kernel
theorem dX10_smallest_47 : decode cX10_smallest 47 = .ok (.iload_n 1, 1) := by decide +kernel
theorem dX10_smallest_48 : decode cX10_smallest 48 = .ok (.istore_n 1, 1) := by decide +kernel
theorem dX10_smallest_49 : decode cX10_smallest 49 = .ok (.iinc 2 1, 3) := by decide +kernel
theorem dX10_smallest_52 : decode cX10_smallest 52 = .ok (.goto (-43), 3) := by decide +kernel
theorem dX10_smallest_55 : decode cX10_smallest 55 = .ok (.iload_n 1, 1) := by decide +kernel
theorem dX10_smallest_56 : decode cX10_smallest 56 = .ok (.ireturn, 1) := by decide +kernel
theorem dX10_heardIn_0 : decode cX10_heardIn 0 = .ok (.iconst 0, 1) := by decide +kernel
theorem dX10_heardIn_1 : decode cX10_heardIn 1 = .ok (.istore_n 2, 1) := by decide +kernel
theorem dX10_heardIn_2 : decode cX10_heardIn 2 = .ok (.iconst 0, 1) := by decide +kernel
theorem dX10_heardIn_3 : decode cX10_heardIn 3 = .ok (.istore_n 3, 1) := by decide +kernel
theorem dX10_heardIn_4 : decode cX10_heardIn 4 = .ok (.iload_n 3, 1) := by decide +kernel
theorem dX10_heardIn_5 : decode cX10_heardIn 5 = .ok (.aload_n 0, 1) := by decide +kernel
theorem dX10_heardIn_6 : decode cX10_heardIn 6 = .ok (.getfield 187, 3) := by decide +kernel
theorem dX10_heardIn_9 : decode cX10_heardIn 9 = .ok (.if_icmp .ge 43, 3) := by decide +kernel
theorem dX10_heardIn_12 : decode cX10_heardIn 12 = .ok (.iload_n 2, 1) := by decide +kernel
theorem dX10_heardIn_13 : decode cX10_heardIn 13 = .ok (.aload_n 0, 1) := by decide +kernel
theorem dX10_heardIn_14 : decode cX10_heardIn 14 = .ok (.getfield 63, 3) := by decide +kernel
theorem dX10_heardIn_17 : decode cX10_heardIn 17 = .ok (.iload_n 3, 1) := by decide +kernel
theorem dX10_heardIn_18 : decode cX10_heardIn 18 = .ok (.baload, 1) := by decide +kernel
theorem dX10_heardIn_19 : decode cX10_heardIn 19 = .ok (.ifCond .eq 24, 3) := by decide +kernel
theorem dX10_heardIn_22 : decode cX10_heardIn 22 = .ok (.aload_n 0, 1) := by decide +kernel
theorem dX10_heardIn_23 : decode cX10_heardIn 23 = .ok (.getfield 51, 3) := by decide +kernel
theorem dX10_heardIn_26 : decode cX10_heardIn 26 = .ok (.iload_n 3, 1) := by decide +kernel
theorem dX10_heardIn_27 : decode cX10_heardIn 27 = .ok (.iaload, 1) := by decide +kernel
theorem dX10_heardIn_28 : decode cX10_heardIn 28 = .ok (.iload_n 1, 1) := by decide +kernel
theorem dX10_heardIn_29 : decode cX10_heardIn 29 = .ok (.if_icmp .ne 14, 3) := by decide +kernel
theorem dX10_heardIn_32 : decode cX10_heardIn 32 = .ok (.iconst 1, 1) := by decide +kernel
theorem dX10_heardIn_33 : decode cX10_heardIn 33 = .ok (.aload_n 0, 1) := by decide +kernel
theorem dX10_heardIn_34 : decode cX10_heardIn 34 = .ok (.getfield 54, 3) := by decide +kernel
theorem dX10_heardIn_37 : decode cX10_heardIn 37 = .ok (.iload_n 3, 1) := by decide +kernel
theorem dX10_heardIn_38 : decode cX10_heardIn 38 = .ok (.iaload, 1) := by decide +kernel
theorem dX10_heardIn_39 : decode cX10_heardIn 39 = .ok (.ishl, 1) := by decide +kernel
theorem dX10_heardIn_40 : decode cX10_heardIn 40 = .ok (.goto 4, 3) := by decide +kernel
theorem dX10_heardIn_43 : decode cX10_heardIn 43 = .ok (.iconst 0, 1) := by decide +kernel
theorem dX10_heardIn_44 : decode cX10_heardIn 44 = .ok (.ior, 1) := by decide +kernel
theorem dX10_heardIn_45 : decode cX10_heardIn 45 = .ok (.istore_n 2, 1) := by decide +kernel
theorem dX10_heardIn_46 : decode cX10_heardIn 46 = .ok (.iinc 3 1, 3) := by decide +kernel
theorem dX10_heardIn_49 : decode cX10_heardIn 49 = .ok (.goto (-45), 3) := by decide +kernel
theorem dX10_heardIn_52 : decode cX10_heardIn 52 = .ok (.iload_n 2, 1) := by decide +kernel
theorem dX10_heardIn_53 : decode cX10_heardIn 53 = .ok (.ireturn, 1) := by decide +kernel
theorem dX10_unlikeWords_0 : decode cX10_unlikeWords 0 = .ok (.iconst 0, 1) := by decide +kernel
theorem dX10_unlikeWords_1 : decode cX10_unlikeWords 1 = .ok (.istore 5, 2) := by decide +kernel
theorem dX10_unlikeWords_3 : decode cX10_unlikeWords 3 = .ok (.iconst 0, 1) := by decide +kernel
theorem dX10_unlikeWords_4 : decode cX10_unlikeWords 4 = .ok (.istore 6, 2) := by decide +kernel
theorem dX10_unlikeWords_6 : decode cX10_unlikeWords 6 = .ok (.iload 6, 2) := by decide +kernel
theorem dX10_unlikeWords_8 : decode cX10_unlikeWords 8 = .ok (.iconst 1, 1) := by decide +kernel
theorem dX10_unlikeWords_9 : decode cX10_unlikeWords 9 = .ok (.aload_n 0, 1) := by decide +kernel
theorem dX10_unlikeWords_10 : decode cX10_unlikeWords 10 = .ok (.getfield 133, 3) := by decide +kernel
theorem dX10_unlikeWords_13 : decode cX10_unlikeWords 13 = .ok (.ishl, 1) := by decide +kernel
theorem dX10_unlikeWords_14 : decode cX10_unlikeWords 14 = .ok (.if_icmp .ge 80, 3) := by decide +kernel
theorem dX10_unlikeWords_17 : decode cX10_unlikeWords 17 = .ok (.lload_n 3, 1) := by decide +kernel
theorem dX10_unlikeWords_18 : decode cX10_unlikeWords 18 = .ok (.iload 6, 2) := by decide +kernel
theorem dX10_unlikeWords_20 : decode cX10_unlikeWords 20 = .ok (.lshr, 1) := by decide +kernel
theorem dX10_unlikeWords_21 : decode cX10_unlikeWords 21 = .ok (.lconst 1, 1) := by decide +kernel
theorem dX10_unlikeWords_22 : decode cX10_unlikeWords 22 = .ok (.land, 1) := by decide +kernel
theorem dX10_unlikeWords_23 : decode cX10_unlikeWords 23 = .ok (.lconst 1, 1) := by decide +kernel
theorem dX10_unlikeWords_24 : decode cX10_unlikeWords 24 = .ok (.lcmp, 1) := by decide +kernel
theorem dX10_unlikeWords_25 : decode cX10_unlikeWords 25 = .ok (.ifCond .ne 63, 3) := by decide +kernel
theorem dX10_unlikeWords_28 : decode cX10_unlikeWords 28 = .ok (.aload_n 0, 1) := by decide +kernel
theorem dX10_unlikeWords_29 : decode cX10_unlikeWords 29 = .ok (.getfield 81, 3) := by decide +kernel
theorem dX10_unlikeWords_32 : decode cX10_unlikeWords 32 = .ok (.iload 5, 2) := by decide +kernel
theorem dX10_unlikeWords_34 : decode cX10_unlikeWords 34 = .ok (.aload_n 0, 1) := by decide +kernel
theorem dX10_unlikeWords_35 : decode cX10_unlikeWords 35 = .ok (.iload_n 1, 1) := by decide +kernel
theorem dX10_unlikeWords_36 : decode cX10_unlikeWords 36 = .ok (.iload_n 2, 1) := by decide +kernel
theorem dX10_unlikeWords_37 : decode cX10_unlikeWords 37 = .ok (.iload 6, 2) := by decide +kernel
theorem dX10_unlikeWords_39 : decode cX10_unlikeWords 39 = .ok (.iconst (-1), 1) := by decide +kernel
theorem dX10_unlikeWords_40 : decode cX10_unlikeWords 40 = .ok (.invokevirtual 183, 3) := by decide +kernel
theorem dX10_unlikeWords_43 : decode cX10_unlikeWords 43 = .ok (.lastore, 1) := by decide +kernel
theorem dX10_unlikeWords_44 : decode cX10_unlikeWords 44 = .ok (.iconst 0, 1) := by decide +kernel
theorem dX10_unlikeWords_45 : decode cX10_unlikeWords 45 = .ok (.istore 7, 2) := by decide +kernel
theorem dX10_unlikeWords_47 : decode cX10_unlikeWords 47 = .ok (.aload_n 0, 1) := by decide +kernel
theorem dX10_unlikeWords_48 : decode cX10_unlikeWords 48 = .ok (.getfield 81, 3) := by decide +kernel
theorem dX10_unlikeWords_51 : decode cX10_unlikeWords 51 = .ok (.iload 7, 2) := by decide +kernel
theorem dX10_unlikeWords_53 : decode cX10_unlikeWords 53 = .ok (.laload, 1) := by decide +kernel
theorem dX10_unlikeWords_54 : decode cX10_unlikeWords 54 = .ok (.aload_n 0, 1) := by decide +kernel
theorem dX10_unlikeWords_55 : decode cX10_unlikeWords 55 = .ok (.getfield 81, 3) := by decide +kernel
theorem dX10_unlikeWords_58 : decode cX10_unlikeWords 58 = .ok (.iload 5, 2) := by decide +kernel
theorem dX10_unlikeWords_60 : decode cX10_unlikeWords 60 = .ok (.laload, 1) := by decide +kernel
theorem dX10_unlikeWords_61 : decode cX10_unlikeWords 61 = .ok (.lcmp, 1) := by decide +kernel
theorem dX10_unlikeWords_62 : decode cX10_unlikeWords 62 = .ok (.ifCond .eq 9, 3) := by decide +kernel
theorem dX10_unlikeWords_65 : decode cX10_unlikeWords 65 = .ok (.iinc 7 1, 3) := by decide +kernel
theorem dX10_unlikeWords_68 : decode cX10_unlikeWords 68 = .ok (.goto (-21), 3) := by decide +kernel
theorem dX10_unlikeWords_71 : decode cX10_unlikeWords 71 = .ok (.iload 5, 2) := by decide +kernel
theorem dX10_unlikeWords_73 : decode cX10_unlikeWords 73 = .ok (.iload 7, 2) := by decide +kernel
theorem dX10_unlikeWords_75 : decode cX10_unlikeWords 75 = .ok (.iload 5, 2) := by decide +kernel
theorem dX10_unlikeWords_77 : decode cX10_unlikeWords 77 = .ok (.if_icmp .ne 7, 3) := by decide +kernel
theorem dX10_unlikeWords_80 : decode cX10_unlikeWords 80 = .ok (.iconst 1, 1) := by decide +kernel
theorem dX10_unlikeWords_81 : decode cX10_unlikeWords 81 = .ok (.goto 4, 3) := by decide +kernel
theorem dX10_unlikeWords_84 : decode cX10_unlikeWords 84 = .ok (.iconst 0, 1) := by decide +kernel
theorem dX10_unlikeWords_85 : decode cX10_unlikeWords 85 = .ok (.iadd, 1) := by decide +kernel
theorem dX10_unlikeWords_86 : decode cX10_unlikeWords 86 = .ok (.istore 5, 2) := by decide +kernel
theorem dX10_unlikeWords_88 : decode cX10_unlikeWords 88 = .ok (.iinc 6 1, 3) := by decide +kernel
theorem dX10_unlikeWords_91 : decode cX10_unlikeWords 91 = .ok (.goto (-85), 3) := by decide +kernel
theorem dX10_unlikeWords_94 : decode cX10_unlikeWords 94 = .ok (.iload 5, 2) := by decide +kernel
theorem dX10_unlikeWords_96 : decode cX10_unlikeWords 96 = .ok (.ireturn, 1) := by decide +kernel
theorem dX10_question_0 : decode cX10_question 0 = .ok (.aload_n 0, 1) := by decide +kernel
theorem dX10_question_1 : decode cX10_question 1 = .ok (.iconst 0, 1) := by decide +kernel
theorem dX10_question_2 : decode cX10_question 2 = .ok (.putfield 86, 3) := by decide +kernel
theorem dX10_question_5 : decode cX10_question 5 = .ok (.lconst 0, 1) := by decide +kernel
theorem dX10_question_6 : decode cX10_question 6 = .ok (.lstore_n 1, 1) := by decide +kernel
theorem dX10_question_7 : decode cX10_question 7 = .ok (.iconst 0, 1) := by decide +kernel
theorem dX10_question_8 : decode cX10_question 8 = .ok (.istore_n 3, 1) := by decide +kernel
theorem dX10_question_9 : decode cX10_question 9 = .ok (.iload_n 3, 1) := by decide +kernel
theorem dX10_question_10 : decode cX10_question 10 = .ok (.iconst 1, 1) := by decide +kernel
theorem dX10_question_11 : decode cX10_question 11 = .ok (.aload_n 0, 1) := by decide +kernel
theorem dX10_question_12 : decode cX10_question 12 = .ok (.getfield 133, 3) := by decide +kernel
theorem dX10_question_15 : decode cX10_question 15 = .ok (.ishl, 1) := by decide +kernel
theorem dX10_question_16 : decode cX10_question 16 = .ok (.if_icmp .ge 27, 3) := by decide +kernel
theorem dX10_question_19 : decode cX10_question 19 = .ok (.lload_n 1, 1) := by decide +kernel
theorem dX10_question_20 : decode cX10_question 20 = .ok (.aload_n 0, 1) := by decide +kernel
theorem dX10_question_21 : decode cX10_question 21 = .ok (.iload_n 3, 1) := by decide +kernel
theorem dX10_question_22 : decode cX10_question 22 = .ok (.invokevirtual 220, 3) := by decide +kernel
theorem dX10_question_25 : decode cX10_question 25 = .ok (.ifCond .eq 9, 3) := by decide +kernel
theorem dX10_question_28 : decode cX10_question 28 = .ok (.lconst 1, 1) := by decide +kernel
theorem dX10_question_29 : decode cX10_question 29 = .ok (.iload_n 3, 1) := by decide +kernel
theorem dX10_question_30 : decode cX10_question 30 = .ok (.lshl, 1) := by decide +kernel
theorem dX10_question_31 : decode cX10_question 31 = .ok (.goto 4, 3) := by decide +kernel
theorem dX10_question_34 : decode cX10_question 34 = .ok (.lconst 0, 1) := by decide +kernel
theorem dX10_question_35 : decode cX10_question 35 = .ok (.lor, 1) := by decide +kernel
theorem dX10_question_36 : decode cX10_question 36 = .ok (.lstore_n 1, 1) := by decide +kernel
theorem dX10_question_37 : decode cX10_question 37 = .ok (.iinc 3 1, 3) := by decide +kernel
theorem dX10_question_40 : decode cX10_question 40 = .ok (.goto (-31), 3) := by decide +kernel
theorem dX10_question_43 : decode cX10_question 43 = .ok (.iconst (-1), 1) := by decide +kernel
theorem dX10_question_44 : decode cX10_question 44 = .ok (.istore_n 3, 1) := by decide +kernel
theorem dX10_question_45 : decode cX10_question 45 = .ok (.iconst 1, 1) := by decide +kernel
theorem dX10_question_46 : decode cX10_question 46 = .ok (.istore 4, 2) := by decide +kernel
theorem dX10_question_48 : decode cX10_question 48 = .ok (.iconst 0, 1) := by decide +kernel
theorem dX10_question_49 : decode cX10_question 49 = .ok (.istore 5, 2) := by decide +kernel
theorem dX10_question_51 : decode cX10_question 51 = .ok (.iload 5, 2) := by decide +kernel
theorem dX10_question_53 : decode cX10_question 53 = .ok (.aload_n 0, 1) := by decide +kernel
theorem dX10_question_54 : decode cX10_question 54 = .ok (.getfield 130, 3) := by decide +kernel
theorem dX10_question_57 : decode cX10_question 57 = .ok (.if_icmp .ge 123, 3) := by decide +kernel
theorem dX10_question_60 : decode cX10_question 60 = .ok (.iconst 0, 1) := by decide +kernel
theorem dX10_question_61 : decode cX10_question 61 = .ok (.istore 6, 2) := by decide +kernel
theorem dX10_question_63 : decode cX10_question 63 = .ok (.iload 6, 2) := by decide +kernel
theorem dX10_question_65 : decode cX10_question 65 = .ok (.bipush 8, 2) := by decide +kernel
theorem dX10_question_67 : decode cX10_question 67 = .ok (.if_icmp .ge 107, 3) := by decide +kernel
theorem dX10_question_70 : decode cX10_question 70 = .ok (.aload_n 0, 1) := by decide +kernel
theorem dX10_question_71 : decode cX10_question 71 = .ok (.getfield 26, 3) := by decide +kernel
theorem dX10_question_74 : decode cX10_question 74 = .ok (.iload 5, 2) := by decide +kernel
theorem dX10_question_76 : decode cX10_question 76 = .ok (.baload, 1) := by decide +kernel
theorem dX10_question_77 : decode cX10_question 77 = .ok (.ifCond .eq 97, 3) := by decide +kernel
theorem dX10_question_80 : decode cX10_question 80 = .ok (.aload_n 0, 1) := by decide +kernel
theorem dX10_question_81 : decode cX10_question 81 = .ok (.iload 5, 2) := by decide +kernel
theorem dX10_question_83 : decode cX10_question 83 = .ok (.iload 6, 2) := by decide +kernel
theorem dX10_question_85 : decode cX10_question 85 = .ok (.invokevirtual 180, 3) := by decide +kernel
theorem dX10_question_88 : decode cX10_question 88 = .ok (.ifCond .ne 21, 3) := by decide +kernel
theorem dX10_question_91 : decode cX10_question 91 = .ok (.aload_n 0, 1) := by decide +kernel
theorem dX10_question_92 : decode cX10_question 92 = .ok (.iload 5, 2) := by decide +kernel
theorem dX10_question_94 : decode cX10_question 94 = .ok (.invokevirtual 227, 3) := by decide +kernel
theorem dX10_question_97 : decode cX10_question 97 = .ok (.iload 6, 2) := by decide +kernel
theorem dX10_question_99 : decode cX10_question 99 = .ok (.ishr, 1) := by decide +kernel
theorem dX10_question_100 : decode cX10_question 100 = .ok (.iconst 1, 1) := by decide +kernel
theorem dX10_question_101 : decode cX10_question 101 = .ok (.iand, 1) := by decide +kernel
theorem dX10_question_102 : decode cX10_question 102 = .ok (.ifCond .ne 7, 3) := by decide +kernel
theorem dX10_question_105 : decode cX10_question 105 = .ok (.iconst 1, 1) := by decide +kernel
theorem dX10_question_106 : decode cX10_question 106 = .ok (.goto 4, 3) := by decide +kernel
theorem dX10_question_109 : decode cX10_question 109 = .ok (.iconst 0, 1) := by decide +kernel
theorem dX10_question_110 : decode cX10_question 110 = .ok (.istore 7, 2) := by decide +kernel
theorem dX10_question_112 : decode cX10_question 112 = .ok (.iload 7, 2) := by decide +kernel
theorem dX10_question_114 : decode cX10_question 114 = .ok (.ifCond .eq 15, 3) := by decide +kernel
theorem dX10_question_117 : decode cX10_question 117 = .ok (.aload_n 0, 1) := by decide +kernel
theorem dX10_question_118 : decode cX10_question 118 = .ok (.iload 5, 2) := by decide +kernel
theorem dX10_question_120 : decode cX10_question 120 = .ok (.iload 6, 2) := by decide +kernel
theorem dX10_question_122 : decode cX10_question 122 = .ok (.lload_n 1, 1) := by decide +kernel
theorem dX10_question_123 : decode cX10_question 123 = .ok (.invokevirtual 230, 3) := by decide +kernel
theorem dX10_question_126 : decode cX10_question 126 = .ok (.goto 4, 3) := by decide +kernel
theorem dX10_question_129 : decode cX10_question 129 = .ok (.iconst 0, 1) := by decide +kernel
theorem dX10_question_130 : decode cX10_question 130 = .ok (.istore 8, 2) := by decide +kernel
theorem dX10_question_132 : decode cX10_question 132 = .ok (.iload 8, 2) := by decide +kernel
theorem dX10_question_134 : decode cX10_question 134 = .ok (.iload 4, 2) := by decide +kernel
theorem dX10_question_136 : decode cX10_question 136 = .ok (.if_icmp .le 14, 3) := by decide +kernel
theorem dX10_question_139 : decode cX10_question 139 = .ok (.bipush 8, 2) := by decide +kernel
theorem dX10_question_141 : decode cX10_question 141 = .ok (.iload 5, 2) := by decide +kernel
theorem dX10_question_143 : decode cX10_question 143 = .ok (.imul, 1) := by decide +kernel
theorem dX10_question_144 : decode cX10_question 144 = .ok (.iload 6, 2) := by decide +kernel
theorem dX10_question_146 : decode cX10_question 146 = .ok (.iadd, 1) := by decide +kernel
theorem dX10_question_147 : decode cX10_question 147 = .ok (.goto 4, 3) := by decide +kernel
theorem dX10_question_150 : decode cX10_question 150 = .ok (.iload_n 3, 1) := by decide +kernel
theorem dX10_question_151 : decode cX10_question 151 = .ok (.istore_n 3, 1) := by decide +kernel
theorem dX10_question_152 : decode cX10_question 152 = .ok (.iload 8, 2) := by decide +kernel
theorem dX10_question_154 : decode cX10_question 154 = .ok (.iload 4, 2) := by decide +kernel
theorem dX10_question_156 : decode cX10_question 156 = .ok (.if_icmp .le 8, 3) := by decide +kernel
theorem dX10_question_159 : decode cX10_question 159 = .ok (.iload 8, 2) := by decide +kernel
theorem dX10_question_161 : decode cX10_question 161 = .ok (.goto 5, 3) := by decide +kernel
theorem dX10_question_164 : decode cX10_question 164 = .ok (.iload 4, 2) := by decide +kernel
theorem dX10_question_166 : decode cX10_question 166 = .ok (.istore 4, 2) := by decide +kernel
theorem dX10_question_168 : decode cX10_question 168 = .ok (.iinc 6 1, 3) := by decide +kernel
theorem dX10_question_171 : decode cX10_question 171 = .ok (.goto (-108), 3) := by decide +kernel
theorem dX10_question_174 : decode cX10_question 174 = .ok (.iinc 5 1, 3) := by decide +kernel
theorem dX10_question_177 : decode cX10_question 177 = .ok (.goto (-126), 3) := by decide +kernel
theorem dX10_question_180 : decode cX10_question 180 = .ok (.iload_n 3, 1) := by decide +kernel
theorem dX10_question_181 : decode cX10_question 181 = .ok (.ireturn, 1) := by decide +kernel
theorem dX10_isPair_0 : decode cX10_isPair 0 = .ok (.aload_n 0, 1) := by decide +kernel
theorem dX10_isPair_1 : decode cX10_isPair 1 = .ok (.getfield 63, 3) := by decide +kernel
theorem dX10_isPair_4 : decode cX10_isPair 4 = .ok (.iload_n 1, 1) := by decide +kernel
theorem dX10_isPair_5 : decode cX10_isPair 5 = .ok (.baload, 1) := by decide +kernel
theorem dX10_isPair_6 : decode cX10_isPair 6 = .ok (.ifCond .eq 48, 3) := by decide +kernel
theorem dX10_isPair_9 : decode cX10_isPair 9 = .ok (.aload_n 0, 1) := by decide +kernel
theorem dX10_isPair_10 : decode cX10_isPair 10 = .ok (.getfield 63, 3) := by decide +kernel
theorem dX10_isPair_13 : decode cX10_isPair 13 = .ok (.iload_n 2, 1) := by decide +kernel
theorem dX10_isPair_14 : decode cX10_isPair 14 = .ok (.baload, 1) := by decide +kernel
theorem dX10_isPair_15 : decode cX10_isPair 15 = .ok (.ifCond .eq 39, 3) := by decide +kernel
theorem dX10_isPair_18 : decode cX10_isPair 18 = .ok (.aload_n 0, 1) := by decide +kernel
theorem dX10_isPair_19 : decode cX10_isPair 19 = .ok (.getfield 51, 3) := by decide +kernel
theorem dX10_isPair_22 : decode cX10_isPair 22 = .ok (.iload_n 1, 1) := by decide +kernel
theorem dX10_isPair_23 : decode cX10_isPair 23 = .ok (.iaload, 1) := by decide +kernel
theorem dX10_isPair_24 : decode cX10_isPair 24 = .ok (.aload_n 0, 1) := by decide +kernel
theorem dX10_isPair_25 : decode cX10_isPair 25 = .ok (.getfield 51, 3) := by decide +kernel
theorem dX10_isPair_28 : decode cX10_isPair 28 = .ok (.iload_n 2, 1) := by decide +kernel
theorem dX10_isPair_29 : decode cX10_isPair 29 = .ok (.iaload, 1) := by decide +kernel
theorem dX10_isPair_30 : decode cX10_isPair 30 = .ok (.if_icmp .eq 24, 3) := by decide +kernel
theorem dX10_isPair_33 : decode cX10_isPair 33 = .ok (.aload_n 0, 1) := by decide +kernel
theorem dX10_isPair_34 : decode cX10_isPair 34 = .ok (.getfield 60, 3) := by decide +kernel
theorem dX10_isPair_37 : decode cX10_isPair 37 = .ok (.iload_n 1, 1) := by decide +kernel
theorem dX10_isPair_38 : decode cX10_isPair 38 = .ok (.laload, 1) := by decide +kernel
theorem dX10_isPair_39 : decode cX10_isPair 39 = .ok (.invokestatic 92, 3) := by decide +kernel
theorem dX10_isPair_42 : decode cX10_isPair 42 = .ok (.aload_n 0, 1) := by decide +kernel
theorem dX10_isPair_43 : decode cX10_isPair 43 = .ok (.getfield 60, 3) := by decide +kernel
theorem dX10_isPair_46 : decode cX10_isPair 46 = .ok (.iload_n 2, 1) := by decide +kernel
theorem dX10_isPair_47 : decode cX10_isPair 47 = .ok (.laload, 1) := by decide +kernel
theorem dX10_isPair_48 : decode cX10_isPair 48 = .ok (.invokestatic 92, 3) := by decide +kernel
theorem dX10_isPair_51 : decode cX10_isPair 51 = .ok (.if_icmp .eq 5, 3) := by decide +kernel
theorem dX10_isPair_54 : decode cX10_isPair 54 = .ok (.iconst 0, 1) := by decide +kernel
theorem dX10_isPair_55 : decode cX10_isPair 55 = .ok (.ireturn, 1) := by decide +kernel
theorem dX10_isPair_56 : decode cX10_isPair 56 = .ok (.iconst 0, 1) := by decide +kernel
theorem dX10_isPair_57 : decode cX10_isPair 57 = .ok (.istore 5, 2) := by decide +kernel
theorem dX10_isPair_59 : decode cX10_isPair 59 = .ok (.iconst 0, 1) := by decide +kernel
theorem dX10_isPair_60 : decode cX10_isPair 60 = .ok (.istore 6, 2) := by decide +kernel
theorem dX10_isPair_62 : decode cX10_isPair 62 = .ok (.iconst 0, 1) := by decide +kernel
theorem dX10_isPair_63 : decode cX10_isPair 63 = .ok (.istore 7, 2) := by decide +kernel
theorem dX10_isPair_65 : decode cX10_isPair 65 = .ok (.iload 7, 2) := by decide +kernel
theorem dX10_isPair_67 : decode cX10_isPair 67 = .ok (.aload_n 0, 1) := by decide +kernel
theorem dX10_isPair_68 : decode cX10_isPair 68 = .ok (.getfield 60, 3) := by decide +kernel
theorem dX10_isPair_71 : decode cX10_isPair 71 = .ok (.iload_n 1, 1) := by decide +kernel
theorem dX10_isPair_72 : decode cX10_isPair 72 = .ok (.laload, 1) := by decide +kernel
theorem dX10_isPair_73 : decode cX10_isPair 73 = .ok (.invokestatic 92, 3) := by decide +kernel
theorem dX10_isPair_76 : decode cX10_isPair 76 = .ok (.if_icmp .ge 90, 3) := by decide +kernel
theorem dX10_isPair_79 : decode cX10_isPair 79 = .ok (.aload_n 0, 1) := by decide +kernel
theorem dX10_isPair_80 : decode cX10_isPair 80 = .ok (.getfield 60, 3) := by decide +kernel
theorem dX10_isPair_83 : decode cX10_isPair 83 = .ok (.iload_n 1, 1) := by decide +kernel
theorem dX10_isPair_84 : decode cX10_isPair 84 = .ok (.laload, 1) := by decide +kernel
theorem dX10_isPair_85 : decode cX10_isPair 85 = .ok (.iload 7, 2) := by decide +kernel
theorem dX10_isPair_87 : decode cX10_isPair 87 = .ok (.invokestatic 98, 3) := by decide +kernel
theorem dX10_isPair_90 : decode cX10_isPair 90 = .ok (.istore 8, 2) := by decide +kernel
theorem dX10_isPair_92 : decode cX10_isPair 92 = .ok (.aload_n 0, 1) := by decide +kernel
theorem dX10_isPair_93 : decode cX10_isPair 93 = .ok (.getfield 60, 3) := by decide +kernel
theorem dX10_isPair_96 : decode cX10_isPair 96 = .ok (.iload_n 2, 1) := by decide +kernel
theorem dX10_isPair_97 : decode cX10_isPair 97 = .ok (.laload, 1) := by decide +kernel
theorem dX10_isPair_98 : decode cX10_isPair 98 = .ok (.iload 7, 2) := by decide +kernel
theorem dX10_isPair_100 : decode cX10_isPair 100 = .ok (.invokestatic 98, 3) := by decide +kernel
theorem dX10_isPair_103 : decode cX10_isPair 103 = .ok (.istore 9, 2) := by decide +kernel
theorem dX10_isPair_105 : decode cX10_isPair 105 = .ok (.iload 5, 2) := by decide +kernel
theorem dX10_isPair_107 : decode cX10_isPair 107 = .ok (.iload 8, 2) := by decide +kernel
theorem dX10_isPair_109 : decode cX10_isPair 109 = .ok (.iload 9, 2) := by decide +kernel
theorem dX10_isPair_111 : decode cX10_isPair 111 = .ok (.if_icmp .ne 7, 3) := by decide +kernel
theorem dX10_isPair_114 : decode cX10_isPair 114 = .ok (.iconst 0, 1) := by decide +kernel
theorem dX10_isPair_115 : decode cX10_isPair 115 = .ok (.goto 4, 3) := by decide +kernel
theorem dX10_isPair_118 : decode cX10_isPair 118 = .ok (.iconst 1, 1) := by decide +kernel
theorem dX10_isPair_119 : decode cX10_isPair 119 = .ok (.iadd, 1) := by decide +kernel
theorem dX10_isPair_120 : decode cX10_isPair 120 = .ok (.istore 5, 2) := by decide +kernel
theorem dX10_isPair_122 : decode cX10_isPair 122 = .ok (.iload 6, 2) := by decide +kernel
theorem dX10_isPair_124 : decode cX10_isPair 124 = .ok (.ifCond .ne 29, 3) := by decide +kernel
theorem dX10_isPair_127 : decode cX10_isPair 127 = .ok (.iload 8, 2) := by decide +kernel
theorem dX10_isPair_129 : decode cX10_isPair 129 = .ok (.iload_n 3, 1) := by decide +kernel
theorem dX10_isPair_130 : decode cX10_isPair 130 = .ok (.if_icmp .ne 10, 3) := by decide +kernel
theorem dX10_isPair_133 : decode cX10_isPair 133 = .ok (.iload 9, 2) := by decide +kernel
theorem dX10_isPair_135 : decode cX10_isPair 135 = .ok (.iload 4, 2) := by decide +kernel
theorem dX10_isPair_137 : decode cX10_isPair 137 = .ok (.if_icmp .eq 16, 3) := by decide +kernel
theorem dX10_isPair_140 : decode cX10_isPair 140 = .ok (.iload 8, 2) := by decide +kernel
theorem dX10_isPair_142 : decode cX10_isPair 142 = .ok (.iload 4, 2) := by decide +kernel
theorem dX10_isPair_144 : decode cX10_isPair 144 = .ok (.if_icmp .ne 13, 3) := by decide +kernel
theorem dX10_isPair_147 : decode cX10_isPair 147 = .ok (.iload 9, 2) := by decide +kernel
theorem dX10_isPair_149 : decode cX10_isPair 149 = .ok (.iload_n 3, 1) := by decide +kernel
theorem dX10_isPair_150 : decode cX10_isPair 150 = .ok (.if_icmp .ne 7, 3) := by decide +kernel
theorem dX10_isPair_153 : decode cX10_isPair 153 = .ok (.iconst 1, 1) := by decide +kernel
theorem dX10_isPair_154 : decode cX10_isPair 154 = .ok (.goto 4, 3) := by decide +kernel
theorem dX10_isPair_157 : decode cX10_isPair 157 = .ok (.iconst 0, 1) := by decide +kernel
theorem dX10_isPair_158 : decode cX10_isPair 158 = .ok (.istore 6, 2) := by decide +kernel
theorem dX10_isPair_160 : decode cX10_isPair 160 = .ok (.iinc 7 1, 3) := by decide +kernel
theorem dX10_isPair_163 : decode cX10_isPair 163 = .ok (.goto (-98), 3) := by decide +kernel
theorem dX10_isPair_166 : decode cX10_isPair 166 = .ok (.iload 5, 2) := by decide +kernel
theorem dX10_isPair_168 : decode cX10_isPair 168 = .ok (.iconst 1, 1) := by decide +kernel
theorem dX10_isPair_169 : decode cX10_isPair 169 = .ok (.if_icmp .ne 12, 3) := by decide +kernel
theorem dX10_isPair_172 : decode cX10_isPair 172 = .ok (.iload 6, 2) := by decide +kernel
theorem dX10_isPair_174 : decode cX10_isPair 174 = .ok (.ifCond .eq 7, 3) := by decide +kernel
theorem dX10_isPair_177 : decode cX10_isPair 177 = .ok (.iconst 1, 1) := by decide +kernel
theorem dX10_isPair_178 : decode cX10_isPair 178 = .ok (.goto 4, 3) := by decide +kernel
theorem dX10_isPair_181 : decode cX10_isPair 181 = .ok (.iconst 0, 1) := by decide +kernel
theorem dX10_isPair_182 : decode cX10_isPair 182 = .ok (.ireturn, 1) := by decide +kernel
theorem dX10_pairs_0 : decode cX10_pairs 0 = .ok (.aload_n 0, 1) := by decide +kernel
theorem dX10_pairs_1 : decode cX10_pairs 1 = .ok (.iload_n 1, 1) := by decide +kernel
theorem dX10_pairs_2 : decode cX10_pairs 2 = .ok (.invokevirtual 123, 3) := by decide +kernel
theorem dX10_pairs_5 : decode cX10_pairs 5 = .ok (.ifCond .eq 15, 3) := by decide +kernel
theorem dX10_pairs_8 : decode cX10_pairs 8 = .ok (.aload_n 0, 1) := by decide +kernel
theorem dX10_pairs_9 : decode cX10_pairs 9 = .ok (.iload_n 2, 1) := by decide +kernel
theorem dX10_pairs_10 : decode cX10_pairs 10 = .ok (.invokevirtual 123, 3) := by decide +kernel
theorem dX10_pairs_13 : decode cX10_pairs 13 = .ok (.ifCond .eq 7, 3) := by decide +kernel
theorem dX10_pairs_16 : decode cX10_pairs 16 = .ok (.iconst 1, 1) := by decide +kernel
theorem dX10_pairs_17 : decode cX10_pairs 17 = .ok (.goto 4, 3) := by decide +kernel
theorem dX10_pairs_20 : decode cX10_pairs 20 = .ok (.iconst 0, 1) := by decide +kernel
theorem dX10_pairs_21 : decode cX10_pairs 21 = .ok (.istore_n 3, 1) := by decide +kernel
theorem dX10_pairs_22 : decode cX10_pairs 22 = .ok (.aload_n 0, 1) := by decide +kernel
theorem dX10_pairs_23 : decode cX10_pairs 23 = .ok (.iload_n 3, 1) := by decide +kernel
theorem dX10_pairs_24 : decode cX10_pairs 24 = .ok (.ifCond .ne 7, 3) := by decide +kernel
theorem dX10_pairs_27 : decode cX10_pairs 27 = .ok (.iconst 1, 1) := by decide +kernel
theorem dX10_pairs_28 : decode cX10_pairs 28 = .ok (.goto 13, 3) := by decide +kernel
theorem dX10_pairs_31 : decode cX10_pairs 31 = .ok (.iload_n 1, 1) := by decide +kernel
theorem dX10_pairs_32 : decode cX10_pairs 32 = .ok (.iload_n 2, 1) := by decide +kernel
theorem dX10_pairs_33 : decode cX10_pairs 33 = .ok (.if_icmp .ne 7, 3) := by decide +kernel
theorem dX10_pairs_36 : decode cX10_pairs 36 = .ok (.iconst 2, 1) := by decide +kernel
theorem dX10_pairs_37 : decode cX10_pairs 37 = .ok (.goto 4, 3) := by decide +kernel
theorem dX10_pairs_40 : decode cX10_pairs 40 = .ok (.iconst 0, 1) := by decide +kernel
theorem dX10_pairs_41 : decode cX10_pairs 41 = .ok (.invokevirtual 116, 3) := by decide +kernel
theorem dX10_pairs_44 : decode cX10_pairs 44 = .ok (.ifCond .ne 5, 3) := by decide +kernel
theorem dX10_pairs_47 : decode cX10_pairs 47 = .ok (.iconst 0, 1) := by decide +kernel
theorem dX10_pairs_48 : decode cX10_pairs 48 = .ok (.ireturn, 1) := by decide +kernel
theorem dX10_pairs_49 : decode cX10_pairs 49 = .ok (.iconst 0, 1) := by decide +kernel
theorem dX10_pairs_50 : decode cX10_pairs 50 = .ok (.istore 4, 2) := by decide +kernel
theorem dX10_pairs_52 : decode cX10_pairs 52 = .ok (.iconst 0, 1) := by decide +kernel
theorem dX10_pairs_53 : decode cX10_pairs 53 = .ok (.istore 5, 2) := by decide +kernel
theorem dX10_pairs_55 : decode cX10_pairs 55 = .ok (.iload 5, 2) := by decide +kernel
theorem dX10_pairs_57 : decode cX10_pairs 57 = .ok (.aload_n 0, 1) := by decide +kernel
theorem dX10_pairs_58 : decode cX10_pairs 58 = .ok (.getfield 187, 3) := by decide +kernel
theorem dX10_pairs_61 : decode cX10_pairs 61 = .ok (.if_icmp .ge 53, 3) := by decide +kernel
theorem dX10_pairs_64 : decode cX10_pairs 64 = .ok (.iload 5, 2) := by decide +kernel
theorem dX10_pairs_66 : decode cX10_pairs 66 = .ok (.iconst 1, 1) := by decide +kernel
theorem dX10_pairs_67 : decode cX10_pairs 67 = .ok (.iadd, 1) := by decide +kernel
theorem dX10_pairs_68 : decode cX10_pairs 68 = .ok (.istore 6, 2) := by decide +kernel
theorem dX10_pairs_70 : decode cX10_pairs 70 = .ok (.iload 6, 2) := by decide +kernel
theorem dX10_pairs_72 : decode cX10_pairs 72 = .ok (.aload_n 0, 1) := by decide +kernel
theorem dX10_pairs_73 : decode cX10_pairs 73 = .ok (.getfield 187, 3) := by decide +kernel
theorem dX10_pairs_76 : decode cX10_pairs 76 = .ok (.if_icmp .ge 32, 3) := by decide +kernel
theorem dX10_pairs_79 : decode cX10_pairs 79 = .ok (.iload 4, 2) := by decide +kernel
theorem dX10_pairs_81 : decode cX10_pairs 81 = .ok (.aload_n 0, 1) := by decide +kernel
theorem dX10_pairs_82 : decode cX10_pairs 82 = .ok (.iload 5, 2) := by decide +kernel
theorem dX10_pairs_84 : decode cX10_pairs 84 = .ok (.iload 6, 2) := by decide +kernel
theorem dX10_pairs_86 : decode cX10_pairs 86 = .ok (.iload_n 1, 1) := by decide +kernel
theorem dX10_pairs_87 : decode cX10_pairs 87 = .ok (.iload_n 2, 1) := by decide +kernel
theorem dX10_pairs_88 : decode cX10_pairs 88 = .ok (.invokevirtual 234, 3) := by decide +kernel
theorem dX10_pairs_91 : decode cX10_pairs 91 = .ok (.ifCond .eq 7, 3) := by decide +kernel
theorem dX10_pairs_94 : decode cX10_pairs 94 = .ok (.iconst 1, 1) := by decide +kernel
theorem dX10_pairs_95 : decode cX10_pairs 95 = .ok (.goto 4, 3) := by decide +kernel
theorem dX10_pairs_98 : decode cX10_pairs 98 = .ok (.iconst 0, 1) := by decide +kernel
theorem dX10_pairs_99 : decode cX10_pairs 99 = .ok (.iadd, 1) := by decide +kernel
theorem dX10_pairs_100 : decode cX10_pairs 100 = .ok (.istore 4, 2) := by decide +kernel
theorem dX10_pairs_102 : decode cX10_pairs 102 = .ok (.iinc 6 1, 3) := by decide +kernel
theorem dX10_pairs_105 : decode cX10_pairs 105 = .ok (.goto (-35), 3) := by decide +kernel
theorem dX10_pairs_108 : decode cX10_pairs 108 = .ok (.iinc 5 1, 3) := by decide +kernel
theorem dX10_pairs_111 : decode cX10_pairs 111 = .ok (.goto (-56), 3) := by decide +kernel
theorem dX10_pairs_114 : decode cX10_pairs 114 = .ok (.iload 4, 2) := by decide +kernel
theorem dX10_pairs_116 : decode cX10_pairs 116 = .ok (.ireturn, 1) := by decide +kernel
theorem dX10_holes_0 : decode cX10_holes 0 = .ok (.aload_n 0, 1) := by decide +kernel
theorem dX10_holes_1 : decode cX10_holes 1 = .ok (.aload_n 0, 1) := by decide +kernel
theorem dX10_holes_2 : decode cX10_holes 2 = .ok (.iload_n 1, 1) := by decide +kernel
theorem dX10_holes_3 : decode cX10_holes 3 = .ok (.invokevirtual 143, 3) := by decide +kernel
theorem dX10_holes_6 : decode cX10_holes 6 = .ok (.ifCond .eq 7, 3) := by decide +kernel
theorem dX10_holes_9 : decode cX10_holes 9 = .ok (.iconst 0, 1) := by decide +kernel
theorem dX10_holes_10 : decode cX10_holes 10 = .ok (.goto 4, 3) := by decide +kernel
theorem dX10_holes_13 : decode cX10_holes 13 = .ok (.iconst 1, 1) := by decide +kernel
theorem dX10_holes_14 : decode cX10_holes 14 = .ok (.invokevirtual 116, 3) := by decide +kernel
theorem dX10_holes_17 : decode cX10_holes 17 = .ok (.ifCond .eq 17, 3) := by decide +kernel
theorem dX10_holes_20 : decode cX10_holes 20 = .ok (.sipush 255, 3) := by decide +kernel
theorem dX10_holes_23 : decode cX10_holes 23 = .ok (.aload_n 0, 1) := by decide +kernel
theorem dX10_holes_24 : decode cX10_holes 24 = .ok (.iload_n 1, 1) := by decide +kernel
theorem dX10_holes_25 : decode cX10_holes 25 = .ok (.invokevirtual 227, 3) := by decide +kernel
theorem dX10_holes_28 : decode cX10_holes 28 = .ok (.iconst (-1), 1) := by decide +kernel
theorem dX10_holes_29 : decode cX10_holes 29 = .ok (.ixor, 1) := by decide +kernel
theorem dX10_holes_30 : decode cX10_holes 30 = .ok (.iand, 1) := by decide +kernel
theorem dX10_holes_31 : decode cX10_holes 31 = .ok (.goto 4, 3) := by decide +kernel
theorem dX10_holes_34 : decode cX10_holes 34 = .ok (.iconst 0, 1) := by decide +kernel
theorem dX10_holes_35 : decode cX10_holes 35 = .ok (.ireturn, 1) := by decide +kernel
theorem dX10_isShared_0 : decode cX10_isShared 0 = .ok (.iconst 0, 1) := by decide +kernel
theorem dX10_isShared_1 : decode cX10_isShared 1 = .ok (.istore 5, 2) := by decide +kernel
theorem dX10_isShared_3 : decode cX10_isShared 3 = .ok (.iconst 0, 1) := by decide +kernel
theorem dX10_isShared_4 : decode cX10_isShared 4 = .ok (.istore 6, 2) := by decide +kernel
theorem dX10_isShared_6 : decode cX10_isShared 6 = .ok (.iload 6, 2) := by decide +kernel
theorem dX10_isShared_8 : decode cX10_isShared 8 = .ok (.aload_n 0, 1) := by decide +kernel
theorem dX10_isShared_9 : decode cX10_isShared 9 = .ok (.getfield 187, 3) := by decide +kernel
theorem dX10_isShared_12 : decode cX10_isShared 12 = .ok (.if_icmp .ge 156, 3) := by decide +kernel
theorem dX10_isShared_15 : decode cX10_isShared 15 = .ok (.iconst 0, 1) := by decide +kernel
theorem dX10_isShared_16 : decode cX10_isShared 16 = .ok (.istore 7, 2) := by decide +kernel
theorem dX10_isShared_18 : decode cX10_isShared 18 = .ok (.iload 7, 2) := by decide +kernel
theorem dX10_isShared_20 : decode cX10_isShared 20 = .ok (.aload_n 0, 1) := by decide +kernel
theorem dX10_isShared_21 : decode cX10_isShared 21 = .ok (.getfield 187, 3) := by decide +kernel
theorem dX10_isShared_24 : decode cX10_isShared 24 = .ok (.if_icmp .ge 138, 3) := by decide +kernel
theorem dX10_isShared_27 : decode cX10_isShared 27 = .ok (.aload_n 0, 1) := by decide +kernel
theorem dX10_isShared_28 : decode cX10_isShared 28 = .ok (.getfield 63, 3) := by decide +kernel
theorem dX10_isShared_31 : decode cX10_isShared 31 = .ok (.iload 6, 2) := by decide +kernel
theorem dX10_isShared_33 : decode cX10_isShared 33 = .ok (.baload, 1) := by decide +kernel
theorem dX10_isShared_34 : decode cX10_isShared 34 = .ok (.ifCond .eq 61, 3) := by decide +kernel
theorem dX10_isShared_37 : decode cX10_isShared 37 = .ok (.aload_n 0, 1) := by decide +kernel
theorem dX10_isShared_38 : decode cX10_isShared 38 = .ok (.getfield 63, 3) := by decide +kernel
theorem dX10_isShared_41 : decode cX10_isShared 41 = .ok (.iload 7, 2) := by decide +kernel
theorem dX10_isShared_43 : decode cX10_isShared 43 = .ok (.baload, 1) := by decide +kernel
theorem dX10_isShared_44 : decode cX10_isShared 44 = .ok (.ifCond .eq 51, 3) := by decide +kernel
theorem dX10_isShared_47 : decode cX10_isShared 47 = .ok (.aload_n 0, 1) := by decide +kernel
theorem dX10_isShared_48 : decode cX10_isShared 48 = .ok (.getfield 51, 3) := by decide +kernel
theorem dX10_isShared_51 : decode cX10_isShared 51 = .ok (.iload 6, 2) := by decide +kernel
theorem dX10_isShared_53 : decode cX10_isShared 53 = .ok (.iaload, 1) := by decide +kernel
theorem dX10_isShared_54 : decode cX10_isShared 54 = .ok (.iload_n 1, 1) := by decide +kernel
theorem dX10_isShared_55 : decode cX10_isShared 55 = .ok (.if_icmp .ne 40, 3) := by decide +kernel
theorem dX10_isShared_58 : decode cX10_isShared 58 = .ok (.aload_n 0, 1) := by decide +kernel
theorem dX10_isShared_59 : decode cX10_isShared 59 = .ok (.getfield 51, 3) := by decide +kernel
theorem dX10_isShared_62 : decode cX10_isShared 62 = .ok (.iload 7, 2) := by decide +kernel
theorem dX10_isShared_64 : decode cX10_isShared 64 = .ok (.iaload, 1) := by decide +kernel
theorem dX10_isShared_65 : decode cX10_isShared 65 = .ok (.iload_n 1, 1) := by decide +kernel
theorem dX10_isShared_66 : decode cX10_isShared 66 = .ok (.if_icmp .ne 29, 3) := by decide +kernel
theorem dX10_isShared_69 : decode cX10_isShared 69 = .ok (.aload_n 0, 1) := by decide +kernel
theorem dX10_isShared_70 : decode cX10_isShared 70 = .ok (.getfield 54, 3) := by decide +kernel
theorem dX10_isShared_73 : decode cX10_isShared 73 = .ok (.iload 6, 2) := by decide +kernel
theorem dX10_isShared_75 : decode cX10_isShared 75 = .ok (.iaload, 1) := by decide +kernel
theorem dX10_isShared_76 : decode cX10_isShared 76 = .ok (.iload_n 2, 1) := by decide +kernel
theorem dX10_isShared_77 : decode cX10_isShared 77 = .ok (.if_icmp .ne 18, 3) := by decide +kernel
theorem dX10_isShared_80 : decode cX10_isShared 80 = .ok (.aload_n 0, 1) := by decide +kernel
theorem dX10_isShared_81 : decode cX10_isShared 81 = .ok (.getfield 54, 3) := by decide +kernel
theorem dX10_isShared_84 : decode cX10_isShared 84 = .ok (.iload 7, 2) := by decide +kernel
theorem dX10_isShared_86 : decode cX10_isShared 86 = .ok (.iaload, 1) := by decide +kernel
theorem dX10_isShared_87 : decode cX10_isShared 87 = .ok (.iload_n 2, 1) := by decide +kernel
theorem dX10_isShared_88 : decode cX10_isShared 88 = .ok (.if_icmp .ne 7, 3) := by decide +kernel
theorem dX10_isShared_91 : decode cX10_isShared 91 = .ok (.iconst 1, 1) := by decide +kernel
theorem dX10_isShared_92 : decode cX10_isShared 92 = .ok (.goto 4, 3) := by decide +kernel
theorem dX10_isShared_95 : decode cX10_isShared 95 = .ok (.iconst 0, 1) := by decide +kernel
theorem dX10_isShared_96 : decode cX10_isShared 96 = .ok (.istore 8, 2) := by decide +kernel
theorem dX10_isShared_98 : decode cX10_isShared 98 = .ok (.iload 5, 2) := by decide +kernel
theorem dX10_isShared_100 : decode cX10_isShared 100 = .ok (.ifCond .ne 49, 3) := by decide +kernel
theorem dX10_isShared_103 : decode cX10_isShared 103 = .ok (.iload 8, 2) := by decide +kernel
theorem dX10_isShared_105 : decode cX10_isShared 105 = .ok (.ifCond .eq 48, 3) := by decide +kernel
theorem dX10_isShared_108 : decode cX10_isShared 108 = .ok (.aload_n 0, 1) := by decide +kernel
theorem dX10_isShared_109 : decode cX10_isShared 109 = .ok (.getfield 57, 3) := by decide +kernel
theorem dX10_isShared_112 : decode cX10_isShared 112 = .ok (.iload 6, 2) := by decide +kernel
theorem dX10_isShared_114 : decode cX10_isShared 114 = .ok (.iaload, 1) := by decide +kernel
theorem dX10_isShared_115 : decode cX10_isShared 115 = .ok (.iload_n 3, 1) := by decide +kernel
theorem dX10_isShared_116 : decode cX10_isShared 116 = .ok (.if_icmp .ne 37, 3) := by decide +kernel
theorem dX10_isShared_119 : decode cX10_isShared 119 = .ok (.aload_n 0, 1) := by decide +kernel
theorem dX10_isShared_120 : decode cX10_isShared 120 = .ok (.getfield 57, 3) := by decide +kernel
theorem dX10_isShared_123 : decode cX10_isShared 123 = .ok (.iload 7, 2) := by decide +kernel
theorem dX10_isShared_125 : decode cX10_isShared 125 = .ok (.iaload, 1) := by decide +kernel
theorem dX10_isShared_126 : decode cX10_isShared 126 = .ok (.iload 4, 2) := by decide +kernel
theorem dX10_isShared_128 : decode cX10_isShared 128 = .ok (.if_icmp .ne 25, 3) := by decide +kernel
theorem dX10_isShared_131 : decode cX10_isShared 131 = .ok (.aload_n 0, 1) := by decide +kernel
theorem dX10_isShared_132 : decode cX10_isShared 132 = .ok (.getfield 60, 3) := by decide +kernel
theorem dX10_isShared_135 : decode cX10_isShared 135 = .ok (.iload 6, 2) := by decide +kernel
theorem dX10_isShared_137 : decode cX10_isShared 137 = .ok (.laload, 1) := by decide +kernel
theorem dX10_isShared_138 : decode cX10_isShared 138 = .ok (.aload_n 0, 1) := by decide +kernel
theorem dX10_isShared_139 : decode cX10_isShared 139 = .ok (.getfield 60, 3) := by decide +kernel
theorem dX10_isShared_142 : decode cX10_isShared 142 = .ok (.iload 7, 2) := by decide +kernel
theorem dX10_isShared_144 : decode cX10_isShared 144 = .ok (.laload, 1) := by decide +kernel
theorem dX10_isShared_145 : decode cX10_isShared 145 = .ok (.lcmp, 1) := by decide +kernel
theorem dX10_isShared_146 : decode cX10_isShared 146 = .ok (.ifCond .ne 7, 3) := by decide +kernel
theorem dX10_isShared_149 : decode cX10_isShared 149 = .ok (.iconst 1, 1) := by decide +kernel
theorem dX10_isShared_150 : decode cX10_isShared 150 = .ok (.goto 4, 3) := by decide +kernel
theorem dX10_isShared_153 : decode cX10_isShared 153 = .ok (.iconst 0, 1) := by decide +kernel
theorem dX10_isShared_154 : decode cX10_isShared 154 = .ok (.istore 5, 2) := by decide +kernel
theorem dX10_isShared_156 : decode cX10_isShared 156 = .ok (.iinc 7 1, 3) := by decide +kernel
theorem dX10_isShared_159 : decode cX10_isShared 159 = .ok (.goto (-141), 3) := by decide +kernel
theorem dX10_isShared_162 : decode cX10_isShared 162 = .ok (.iinc 6 1, 3) := by decide +kernel
theorem dX10_isShared_165 : decode cX10_isShared 165 = .ok (.goto (-159), 3) := by decide +kernel
theorem dX10_isShared_168 : decode cX10_isShared 168 = .ok (.iload 5, 2) := by decide +kernel
theorem dX10_isShared_170 : decode cX10_isShared 170 = .ok (.ireturn, 1) := by decide +kernel
theorem dX10_shared_0 : decode cX10_shared 0 = .ok (.aload_n 0, 1) := by decide +kernel
theorem dX10_shared_1 : decode cX10_shared 1 = .ok (.iload_n 1, 1) := by decide +kernel
theorem dX10_shared_2 : decode cX10_shared 2 = .ok (.iconst 0, 1) := by decide +kernel
theorem dX10_shared_3 : decode cX10_shared 3 = .ok (.iconst 3, 1) := by decide +kernel
theorem dX10_shared_4 : decode cX10_shared 4 = .ok (.invokestatic 109, 3) := by decide +kernel
theorem dX10_shared_7 : decode cX10_shared 7 = .ok (.ifCond .eq 16, 3) := by decide +kernel
theorem dX10_shared_10 : decode cX10_shared 10 = .ok (.iload_n 2, 1) := by decide +kernel
theorem dX10_shared_11 : decode cX10_shared 11 = .ok (.iconst 0, 1) := by decide +kernel
theorem dX10_shared_12 : decode cX10_shared 12 = .ok (.iconst 3, 1) := by decide +kernel
theorem dX10_shared_13 : decode cX10_shared 13 = .ok (.invokestatic 109, 3) := by decide +kernel
theorem dX10_shared_16 : decode cX10_shared 16 = .ok (.ifCond .eq 7, 3) := by decide +kernel
theorem dX10_shared_19 : decode cX10_shared 19 = .ok (.iconst 0, 1) := by decide +kernel
theorem dX10_shared_20 : decode cX10_shared 20 = .ok (.goto 4, 3) := by decide +kernel
theorem dX10_shared_23 : decode cX10_shared 23 = .ok (.iconst 1, 1) := by decide +kernel
theorem dX10_shared_24 : decode cX10_shared 24 = .ok (.invokevirtual 116, 3) := by decide +kernel
theorem dX10_shared_27 : decode cX10_shared 27 = .ok (.ifCond .ne 5, 3) := by decide +kernel
theorem dX10_shared_30 : decode cX10_shared 30 = .ok (.iconst 0, 1) := by decide +kernel
theorem dX10_shared_31 : decode cX10_shared 31 = .ok (.ireturn, 1) := by decide +kernel
theorem dX10_shared_32 : decode cX10_shared 32 = .ok (.iconst 0, 1) := by decide +kernel
theorem dX10_shared_33 : decode cX10_shared 33 = .ok (.istore_n 3, 1) := by decide +kernel
theorem dX10_shared_34 : decode cX10_shared 34 = .ok (.iconst 0, 1) := by decide +kernel
theorem dX10_shared_35 : decode cX10_shared 35 = .ok (.istore 4, 2) := by decide +kernel
theorem dX10_shared_37 : decode cX10_shared 37 = .ok (.iload 4, 2) := by decide +kernel
theorem dX10_shared_39 : decode cX10_shared 39 = .ok (.aload_n 0, 1) := by decide +kernel
theorem dX10_shared_40 : decode cX10_shared 40 = .ok (.getfield 130, 3) := by decide +kernel
theorem dX10_shared_43 : decode cX10_shared 43 = .ok (.if_icmp .ge 46, 3) := by decide +kernel
theorem dX10_shared_46 : decode cX10_shared 46 = .ok (.iconst 0, 1) := by decide +kernel
theorem dX10_shared_47 : decode cX10_shared 47 = .ok (.istore 5, 2) := by decide +kernel
theorem dX10_shared_49 : decode cX10_shared 49 = .ok (.iload 5, 2) := by decide +kernel
theorem dX10_shared_51 : decode cX10_shared 51 = .ok (.bipush 8, 2) := by decide +kernel
theorem dX10_shared_53 : decode cX10_shared 53 = .ok (.if_icmp .ge 30, 3) := by decide +kernel
theorem dX10_shared_56 : decode cX10_shared 56 = .ok (.iload_n 3, 1) := by decide +kernel
theorem dX10_shared_57 : decode cX10_shared 57 = .ok (.aload_n 0, 1) := by decide +kernel
theorem dX10_shared_58 : decode cX10_shared 58 = .ok (.iload 4, 2) := by decide +kernel
theorem dX10_shared_60 : decode cX10_shared 60 = .ok (.iload 5, 2) := by decide +kernel
theorem dX10_shared_62 : decode cX10_shared 62 = .ok (.iload_n 1, 1) := by decide +kernel
theorem dX10_shared_63 : decode cX10_shared 63 = .ok (.iload_n 2, 1) := by decide +kernel
theorem dX10_shared_64 : decode cX10_shared 64 = .ok (.invokevirtual 238, 3) := by decide +kernel
theorem dX10_shared_67 : decode cX10_shared 67 = .ok (.ifCond .eq 7, 3) := by decide +kernel
theorem dX10_shared_70 : decode cX10_shared 70 = .ok (.iconst 1, 1) := by decide +kernel
theorem dX10_shared_71 : decode cX10_shared 71 = .ok (.goto 4, 3) := by decide +kernel
theorem dX10_shared_74 : decode cX10_shared 74 = .ok (.iconst 0, 1) := by decide +kernel
theorem dX10_shared_75 : decode cX10_shared 75 = .ok (.iadd, 1) := by decide +kernel
theorem dX10_shared_76 : decode cX10_shared 76 = .ok (.istore_n 3, 1) := by decide +kernel
theorem dX10_shared_77 : decode cX10_shared 77 = .ok (.iinc 5 1, 3) := by decide +kernel
theorem dX10_shared_80 : decode cX10_shared 80 = .ok (.goto (-31), 3) := by decide +kernel
theorem dX10_shared_83 : decode cX10_shared 83 = .ok (.iinc 4 1, 3) := by decide +kernel
theorem dX10_shared_86 : decode cX10_shared 86 = .ok (.goto (-49), 3) := by decide +kernel
theorem dX10_shared_89 : decode cX10_shared 89 = .ok (.iload_n 3, 1) := by decide +kernel
theorem dX10_shared_90 : decode cX10_shared 90 = .ok (.ireturn, 1) := by decide +kernel
theorem dJ6_bitCount_0f7a4_0 : decode cJ6_bitCount_0f7a4 0 = .ok (.iload_n 0, 1) := by decide +kernel
theorem dJ6_bitCount_0f7a4_1 : decode cJ6_bitCount_0f7a4 1 = .ok (.iload_n 0, 1) := by decide +kernel
theorem dJ6_bitCount_0f7a4_2 : decode cJ6_bitCount_0f7a4 2 = .ok (.iconst 1, 1) := by decide +kernel
theorem dJ6_bitCount_0f7a4_3 : decode cJ6_bitCount_0f7a4 3 = .ok (.iushr, 1) := by decide +kernel
theorem dJ6_bitCount_0f7a4_4 : decode cJ6_bitCount_0f7a4 4 = .ok (.ldc_w 265, 3) := by decide +kernel
theorem dJ6_bitCount_0f7a4_7 : decode cJ6_bitCount_0f7a4 7 = .ok (.iand, 1) := by decide +kernel
theorem dJ6_bitCount_0f7a4_8 : decode cJ6_bitCount_0f7a4 8 = .ok (.isub, 1) := by decide +kernel
theorem dJ6_bitCount_0f7a4_9 : decode cJ6_bitCount_0f7a4 9 = .ok (.istore_n 0, 1) := by decide +kernel
theorem dJ6_bitCount_0f7a4_10 : decode cJ6_bitCount_0f7a4 10 = .ok (.iload_n 0, 1) := by decide +kernel
theorem dJ6_bitCount_0f7a4_11 : decode cJ6_bitCount_0f7a4 11 = .ok (.ldc_w 266, 3) := by decide +kernel
theorem dJ6_bitCount_0f7a4_14 : decode cJ6_bitCount_0f7a4 14 = .ok (.iand, 1) := by decide +kernel
theorem dJ6_bitCount_0f7a4_15 : decode cJ6_bitCount_0f7a4 15 = .ok (.iload_n 0, 1) := by decide +kernel
theorem dJ6_bitCount_0f7a4_16 : decode cJ6_bitCount_0f7a4 16 = .ok (.iconst 2, 1) := by decide +kernel
theorem dJ6_bitCount_0f7a4_17 : decode cJ6_bitCount_0f7a4 17 = .ok (.iushr, 1) := by decide +kernel
theorem dJ6_bitCount_0f7a4_18 : decode cJ6_bitCount_0f7a4 18 = .ok (.ldc_w 266, 3) := by decide +kernel
theorem dJ6_bitCount_0f7a4_21 : decode cJ6_bitCount_0f7a4 21 = .ok (.iand, 1) := by decide +kernel
theorem dJ6_bitCount_0f7a4_22 : decode cJ6_bitCount_0f7a4 22 = .ok (.iadd, 1) := by decide +kernel
theorem dJ6_bitCount_0f7a4_23 : decode cJ6_bitCount_0f7a4 23 = .ok (.istore_n 0, 1) := by decide +kernel
theorem dJ6_bitCount_0f7a4_24 : decode cJ6_bitCount_0f7a4 24 = .ok (.iload_n 0, 1) := by decide +kernel
theorem dJ6_bitCount_0f7a4_25 : decode cJ6_bitCount_0f7a4 25 = .ok (.iload_n 0, 1) := by decide +kernel
theorem dJ6_bitCount_0f7a4_26 : decode cJ6_bitCount_0f7a4 26 = .ok (.iconst 4, 1) := by decide +kernel
theorem dJ6_bitCount_0f7a4_27 : decode cJ6_bitCount_0f7a4 27 = .ok (.iushr, 1) := by decide +kernel
theorem dJ6_bitCount_0f7a4_28 : decode cJ6_bitCount_0f7a4 28 = .ok (.iadd, 1) := by decide +kernel
theorem dJ6_bitCount_0f7a4_29 : decode cJ6_bitCount_0f7a4 29 = .ok (.ldc_w 267, 3) := by decide +kernel
theorem dJ6_bitCount_0f7a4_32 : decode cJ6_bitCount_0f7a4 32 = .ok (.iand, 1) := by decide +kernel
theorem dJ6_bitCount_0f7a4_33 : decode cJ6_bitCount_0f7a4 33 = .ok (.istore_n 0, 1) := by decide +kernel
theorem dJ6_bitCount_0f7a4_34 : decode cJ6_bitCount_0f7a4 34 = .ok (.iload_n 0, 1) := by decide +kernel
theorem dJ6_bitCount_0f7a4_35 : decode cJ6_bitCount_0f7a4 35 = .ok (.iload_n 0, 1) := by decide +kernel
theorem dJ6_bitCount_0f7a4_36 : decode cJ6_bitCount_0f7a4 36 = .ok (.bipush 8, 2) := by decide +kernel
theorem dJ6_bitCount_0f7a4_38 : decode cJ6_bitCount_0f7a4 38 = .ok (.iushr, 1) := by decide +kernel
theorem dJ6_bitCount_0f7a4_39 : decode cJ6_bitCount_0f7a4 39 = .ok (.iadd, 1) := by decide +kernel
theorem dJ6_bitCount_0f7a4_40 : decode cJ6_bitCount_0f7a4 40 = .ok (.istore_n 0, 1) := by decide +kernel
theorem dJ6_bitCount_0f7a4_41 : decode cJ6_bitCount_0f7a4 41 = .ok (.iload_n 0, 1) := by decide +kernel
theorem dJ6_bitCount_0f7a4_42 : decode cJ6_bitCount_0f7a4 42 = .ok (.iload_n 0, 1) := by decide +kernel
theorem dJ6_bitCount_0f7a4_43 : decode cJ6_bitCount_0f7a4 43 = .ok (.bipush 16, 2) := by decide +kernel
theorem dJ6_bitCount_0f7a4_45 : decode cJ6_bitCount_0f7a4 45 = .ok (.iushr, 1) := by decide +kernel
theorem dJ6_bitCount_0f7a4_46 : decode cJ6_bitCount_0f7a4 46 = .ok (.iadd, 1) := by decide +kernel
theorem dJ6_bitCount_0f7a4_47 : decode cJ6_bitCount_0f7a4 47 = .ok (.istore_n 0, 1) := by decide +kernel
theorem dJ6_bitCount_0f7a4_48 : decode cJ6_bitCount_0f7a4 48 = .ok (.iload_n 0, 1) := by decide +kernel
theorem dJ6_bitCount_0f7a4_49 : decode cJ6_bitCount_0f7a4 49 = .ok (.bipush 63, 2) := by decide +kernel
theorem dJ6_bitCount_0f7a4_51 : decode cJ6_bitCount_0f7a4 51 = .ok (.iand, 1) := by decide +kernel
theorem dJ6_bitCount_0f7a4_52 : decode cJ6_bitCount_0f7a4 52 = .ok (.ireturn, 1) := by decide +kernel
theorem dJ13_bitCount_95d88_0 : decode cJ13_bitCount_95d88 0 = .ok (.lload_n 0, 1) := by decide +kernel
theorem dJ13_bitCount_95d88_1 : decode cJ13_bitCount_95d88 1 = .ok (.lload_n 0, 1) := by decide +kernel
theorem dJ13_bitCount_95d88_2 : decode cJ13_bitCount_95d88 2 = .ok (.iconst 1, 1) := by decide +kernel
theorem dJ13_bitCount_95d88_3 : decode cJ13_bitCount_95d88 3 = .ok (.lushr, 1) := by decide +kernel
theorem dJ13_bitCount_95d88_4 : decode cJ13_bitCount_95d88 4 = .ok (.ldc2_w 314, 3) := by decide +kernel
theorem dJ13_bitCount_95d88_7 : decode cJ13_bitCount_95d88 7 = .ok (.land, 1) := by decide +kernel
theorem dJ13_bitCount_95d88_8 : decode cJ13_bitCount_95d88 8 = .ok (.lsub, 1) := by decide +kernel
theorem dJ13_bitCount_95d88_9 : decode cJ13_bitCount_95d88 9 = .ok (.lstore_n 0, 1) := by decide +kernel
theorem dJ13_bitCount_95d88_10 : decode cJ13_bitCount_95d88 10 = .ok (.lload_n 0, 1) := by decide +kernel
theorem dJ13_bitCount_95d88_11 : decode cJ13_bitCount_95d88 11 = .ok (.ldc2_w 316, 3) := by decide +kernel
theorem dJ13_bitCount_95d88_14 : decode cJ13_bitCount_95d88 14 = .ok (.land, 1) := by decide +kernel
theorem dJ13_bitCount_95d88_15 : decode cJ13_bitCount_95d88 15 = .ok (.lload_n 0, 1) := by decide +kernel
theorem dJ13_bitCount_95d88_16 : decode cJ13_bitCount_95d88 16 = .ok (.iconst 2, 1) := by decide +kernel
theorem dJ13_bitCount_95d88_17 : decode cJ13_bitCount_95d88 17 = .ok (.lushr, 1) := by decide +kernel
theorem dJ13_bitCount_95d88_18 : decode cJ13_bitCount_95d88 18 = .ok (.ldc2_w 316, 3) := by decide +kernel
theorem dJ13_bitCount_95d88_21 : decode cJ13_bitCount_95d88 21 = .ok (.land, 1) := by decide +kernel
theorem dJ13_bitCount_95d88_22 : decode cJ13_bitCount_95d88 22 = .ok (.ladd, 1) := by decide +kernel
theorem dJ13_bitCount_95d88_23 : decode cJ13_bitCount_95d88 23 = .ok (.lstore_n 0, 1) := by decide +kernel
theorem dJ13_bitCount_95d88_24 : decode cJ13_bitCount_95d88 24 = .ok (.lload_n 0, 1) := by decide +kernel
theorem dJ13_bitCount_95d88_25 : decode cJ13_bitCount_95d88 25 = .ok (.lload_n 0, 1) := by decide +kernel
theorem dJ13_bitCount_95d88_26 : decode cJ13_bitCount_95d88 26 = .ok (.iconst 4, 1) := by decide +kernel
theorem dJ13_bitCount_95d88_27 : decode cJ13_bitCount_95d88 27 = .ok (.lushr, 1) := by decide +kernel
theorem dJ13_bitCount_95d88_28 : decode cJ13_bitCount_95d88 28 = .ok (.ladd, 1) := by decide +kernel
theorem dJ13_bitCount_95d88_29 : decode cJ13_bitCount_95d88 29 = .ok (.ldc2_w 318, 3) := by decide +kernel
theorem dJ13_bitCount_95d88_32 : decode cJ13_bitCount_95d88 32 = .ok (.land, 1) := by decide +kernel
theorem dJ13_bitCount_95d88_33 : decode cJ13_bitCount_95d88 33 = .ok (.lstore_n 0, 1) := by decide +kernel
theorem dJ13_bitCount_95d88_34 : decode cJ13_bitCount_95d88 34 = .ok (.lload_n 0, 1) := by decide +kernel
theorem dJ13_bitCount_95d88_35 : decode cJ13_bitCount_95d88 35 = .ok (.lload_n 0, 1) := by decide +kernel
theorem dJ13_bitCount_95d88_36 : decode cJ13_bitCount_95d88 36 = .ok (.bipush 8, 2) := by decide +kernel
theorem dJ13_bitCount_95d88_38 : decode cJ13_bitCount_95d88 38 = .ok (.lushr, 1) := by decide +kernel
theorem dJ13_bitCount_95d88_39 : decode cJ13_bitCount_95d88 39 = .ok (.ladd, 1) := by decide +kernel
theorem dJ13_bitCount_95d88_40 : decode cJ13_bitCount_95d88 40 = .ok (.lstore_n 0, 1) := by decide +kernel
theorem dJ13_bitCount_95d88_41 : decode cJ13_bitCount_95d88 41 = .ok (.lload_n 0, 1) := by decide +kernel
theorem dJ13_bitCount_95d88_42 : decode cJ13_bitCount_95d88 42 = .ok (.lload_n 0, 1) := by decide +kernel
theorem dJ13_bitCount_95d88_43 : decode cJ13_bitCount_95d88 43 = .ok (.bipush 16, 2) := by decide +kernel
theorem dJ13_bitCount_95d88_45 : decode cJ13_bitCount_95d88 45 = .ok (.lushr, 1) := by decide +kernel
theorem dJ13_bitCount_95d88_46 : decode cJ13_bitCount_95d88 46 = .ok (.ladd, 1) := by decide +kernel
theorem dJ13_bitCount_95d88_47 : decode cJ13_bitCount_95d88 47 = .ok (.lstore_n 0, 1) := by decide +kernel
theorem dJ13_bitCount_95d88_48 : decode cJ13_bitCount_95d88 48 = .ok (.lload_n 0, 1) := by decide +kernel
theorem dJ13_bitCount_95d88_49 : decode cJ13_bitCount_95d88 49 = .ok (.lload_n 0, 1) := by decide +kernel
theorem dJ13_bitCount_95d88_50 : decode cJ13_bitCount_95d88 50 = .ok (.bipush 32, 2) := by decide +kernel
theorem dJ13_bitCount_95d88_52 : decode cJ13_bitCount_95d88 52 = .ok (.lushr, 1) := by decide +kernel
theorem dJ13_bitCount_95d88_53 : decode cJ13_bitCount_95d88 53 = .ok (.ladd, 1) := by decide +kernel
theorem dJ13_bitCount_95d88_54 : decode cJ13_bitCount_95d88 54 = .ok (.lstore_n 0, 1) := by decide +kernel
theorem dJ13_bitCount_95d88_55 : decode cJ13_bitCount_95d88 55 = .ok (.lload_n 0, 1) := by decide +kernel
theorem dJ13_bitCount_95d88_56 : decode cJ13_bitCount_95d88 56 = .ok (.l2i, 1) := by decide +kernel
theorem dJ13_bitCount_95d88_57 : decode cJ13_bitCount_95d88 57 = .ok (.bipush 127, 2) := by decide +kernel
theorem dJ13_bitCount_95d88_59 : decode cJ13_bitCount_95d88 59 = .ok (.iand, 1) := by decide +kernel
theorem dJ13_bitCount_95d88_60 : decode cJ13_bitCount_95d88 60 = .ok (.ireturn, 1) := by decide +kernel
theorem dJ9_max_7cf53_0 : decode cJ9_max_7cf53 0 = .ok (.iload_n 0, 1) := by decide +kernel
theorem dJ9_max_7cf53_1 : decode cJ9_max_7cf53 1 = .ok (.iload_n 1, 1) := by decide +kernel
theorem dJ9_max_7cf53_2 : decode cJ9_max_7cf53 2 = .ok (.if_icmp .lt 7, 3) := by decide +kernel
theorem dJ9_max_7cf53_5 : decode cJ9_max_7cf53 5 = .ok (.iload_n 0, 1) := by decide +kernel
theorem dJ9_max_7cf53_6 : decode cJ9_max_7cf53 6 = .ok (.goto 4, 3) := by decide +kernel
theorem dJ9_max_7cf53_9 : decode cJ9_max_7cf53 9 = .ok (.iload_n 1, 1) := by decide +kernel
theorem dJ9_max_7cf53_10 : decode cJ9_max_7cf53 10 = .ok (.ireturn, 1) := by decide +kernel
theorem dJ9_min_7cf53_0 : decode cJ9_min_7cf53 0 = .ok (.iload_n 0, 1) := by decide +kernel
theorem dJ9_min_7cf53_1 : decode cJ9_min_7cf53 1 = .ok (.iload_n 1, 1) := by decide +kernel
theorem dJ9_min_7cf53_2 : decode cJ9_min_7cf53 2 = .ok (.if_icmp .gt 7, 3) := by decide +kernel
theorem dJ9_min_7cf53_5 : decode cJ9_min_7cf53 5 = .ok (.iload_n 0, 1) := by decide +kernel
theorem dJ9_min_7cf53_6 : decode cJ9_min_7cf53 6 = .ok (.goto 4, 3) := by decide +kernel
theorem dJ9_min_7cf53_9 : decode cJ9_min_7cf53 9 = .ok (.iload_n 1, 1) := by decide +kernel
theorem dJ9_min_7cf53_10 : decode cJ9_min_7cf53 10 = .ok (.ireturn, 1) := by decide +kernel
theorem dJxa1e45_init_da8c8_0 : decode cJxa1e45_init_da8c8 0 = .ok (.aload_n 0, 1) := by decide +kernel
theorem dJxa1e45_init_da8c8_1 : decode cJxa1e45_init_da8c8 1 = .ok (.invokespecial 1, 3) := by decide +kernel
theorem dJxa1e45_init_da8c8_4 : decode cJxa1e45_init_da8c8 4 = .ok (.return_, 1) := by decide +kernel
theorem dJxc12de_init_da8c8_0 : decode cJxc12de_init_da8c8 0 = .ok (.aload_n 0, 1) := by decide +kernel
theorem dJxc12de_init_da8c8_1 : decode cJxc12de_init_da8c8 1 = .ok (.invokespecial 1, 3) := by decide +kernel
theorem dJxc12de_init_da8c8_4 : decode cJxc12de_init_da8c8 4 = .ok (.aload_n 0, 1) := by decide +kernel
theorem dJxc12de_init_da8c8_5 : decode cJxc12de_init_da8c8 5 = .ok (.iconst 0, 1) := by decide +kernel
theorem dJxc12de_init_da8c8_6 : decode cJxc12de_init_da8c8 6 = .ok (.putfield 7, 3) := by decide +kernel
theorem dJxc12de_init_da8c8_9 : decode cJxc12de_init_da8c8 9 = .ok (.return_, 1) := by decide +kernel
theorem dJx4a65c_init_da8c8_0 : decode cJx4a65c_init_da8c8 0 = .ok (.aload_n 0, 1) := by decide +kernel
theorem dJx4a65c_init_da8c8_1 : decode cJx4a65c_init_da8c8 1 = .ok (.invokespecial 1, 3) := by decide +kernel
theorem dJx4a65c_init_da8c8_4 : decode cJx4a65c_init_da8c8 4 = .ok (.aload_n 0, 1) := by decide +kernel
theorem dJx4a65c_init_da8c8_5 : decode cJx4a65c_init_da8c8 5 = .ok (.getstatic 39, 3) := by decide +kernel
theorem dJx4a65c_init_da8c8_8 : decode cJx4a65c_init_da8c8 8 = .ok (.putfield 9, 3) := by decide +kernel
theorem dJx4a65c_init_da8c8_11 : decode cJx4a65c_init_da8c8 11 = .ok (.return_, 1) := by decide +kernel
theorem dJx4a65c_grow_92f84_0 : decode cJx4a65c_grow_92f84 0 = .ok (.aload_n 0, 1) := by decide +kernel
theorem dJx4a65c_grow_92f84_1 : decode cJx4a65c_grow_92f84 1 = .ok (.getfield 9, 3) := by decide +kernel
theorem dJx4a65c_grow_92f84_4 : decode cJx4a65c_grow_92f84 4 = .ok (.arraylength, 1) := by decide +kernel
theorem dJx4a65c_grow_92f84_5 : decode cJx4a65c_grow_92f84 5 = .ok (.istore_n 2, 1) := by decide +kernel
theorem dJx4a65c_grow_92f84_6 : decode cJx4a65c_grow_92f84 6 = .ok (.iload_n 2, 1) := by decide +kernel
theorem dJx4a65c_grow_92f84_7 : decode cJx4a65c_grow_92f84 7 = .ok (.ifCond .gt 13, 3) := by decide +kernel
theorem dJx4a65c_grow_92f84_10 : decode cJx4a65c_grow_92f84 10 = .ok (.aload_n 0, 1) := by decide +kernel
theorem dJx4a65c_grow_92f84_11 : decode cJx4a65c_grow_92f84 11 = .ok (.getfield 9, 3) := by decide +kernel
theorem dJx4a65c_grow_92f84_14 : decode cJx4a65c_grow_92f84 14 = .ok (.getstatic 39, 3) := by decide +kernel
theorem dJx4a65c_grow_92f84_17 : decode cJx4a65c_grow_92f84 17 = .ok (.if_acmp .eq 28, 3) := by decide +kernel
theorem dJx4a65c_grow_92f84_20 : decode cJx4a65c_grow_92f84 20 = .ok (.iload_n 2, 1) := by decide +kernel
theorem dJx4a65c_grow_92f84_21 : decode cJx4a65c_grow_92f84 21 = .ok (.iload_n 1, 1) := by decide +kernel
theorem dJx4a65c_grow_92f84_22 : decode cJx4a65c_grow_92f84 22 = .ok (.iload_n 2, 1) := by decide +kernel
theorem dJx4a65c_grow_92f84_23 : decode cJx4a65c_grow_92f84 23 = .ok (.isub, 1) := by decide +kernel
theorem dJx4a65c_grow_92f84_24 : decode cJx4a65c_grow_92f84 24 = .ok (.iload_n 2, 1) := by decide +kernel
theorem dJx4a65c_grow_92f84_25 : decode cJx4a65c_grow_92f84 25 = .ok (.iconst 1, 1) := by decide +kernel
theorem dJx4a65c_grow_92f84_26 : decode cJx4a65c_grow_92f84 26 = .ok (.ishr, 1) := by decide +kernel
theorem dJx4a65c_grow_92f84_27 : decode cJx4a65c_grow_92f84 27 = .ok (.invokestatic 73, 3) := by decide +kernel
theorem dJx4a65c_grow_92f84_30 : decode cJx4a65c_grow_92f84 30 = .ok (.istore_n 3, 1) := by decide +kernel
theorem dJx4a65c_grow_92f84_31 : decode cJx4a65c_grow_92f84 31 = .ok (.aload_n 0, 1) := by decide +kernel
theorem dJx4a65c_grow_92f84_32 : decode cJx4a65c_grow_92f84 32 = .ok (.aload_n 0, 1) := by decide +kernel
theorem dJx4a65c_grow_92f84_33 : decode cJx4a65c_grow_92f84 33 = .ok (.getfield 9, 3) := by decide +kernel
theorem dJx4a65c_grow_92f84_36 : decode cJx4a65c_grow_92f84 36 = .ok (.iload_n 3, 1) := by decide +kernel
theorem dJx4a65c_grow_92f84_37 : decode cJx4a65c_grow_92f84 37 = .ok (.invokestatic 66, 3) := by decide +kernel
theorem dJx4a65c_grow_92f84_40 : decode cJx4a65c_grow_92f84 40 = .ok (.dup_x1, 1) := by decide +kernel
theorem dJx4a65c_grow_92f84_41 : decode cJx4a65c_grow_92f84 41 = .ok (.putfield 9, 3) := by decide +kernel
theorem dJx4a65c_grow_92f84_44 : decode cJx4a65c_grow_92f84 44 = .ok (.areturn, 1) := by decide +kernel
theorem dJx4a65c_grow_92f84_45 : decode cJx4a65c_grow_92f84 45 = .ok (.aload_n 0, 1) := by decide +kernel
theorem dJx4a65c_grow_92f84_46 : decode cJx4a65c_grow_92f84 46 = .ok (.bipush 10, 2) := by decide +kernel
theorem dJx4a65c_grow_92f84_48 : decode cJx4a65c_grow_92f84 48 = .ok (.iload_n 1, 1) := by decide +kernel
theorem dJx4a65c_grow_92f84_49 : decode cJx4a65c_grow_92f84 49 = .ok (.invokestatic 79, 3) := by decide +kernel
theorem dJx4a65c_grow_92f84_52 : decode cJx4a65c_grow_92f84 52 = .ok (.anewarray 7, 3) := by decide +kernel
theorem dJx4a65c_grow_92f84_55 : decode cJx4a65c_grow_92f84 55 = .ok (.dup_x1, 1) := by decide +kernel
theorem dJx4a65c_grow_92f84_56 : decode cJx4a65c_grow_92f84 56 = .ok (.putfield 9, 3) := by decide +kernel
theorem dJx4a65c_grow_92f84_59 : decode cJx4a65c_grow_92f84 59 = .ok (.areturn, 1) := by decide +kernel
theorem dJx4a65c_grow_d5877_0 : decode cJx4a65c_grow_d5877 0 = .ok (.aload_n 0, 1) := by decide +kernel
theorem dJx4a65c_grow_d5877_1 : decode cJx4a65c_grow_d5877 1 = .ok (.aload_n 0, 1) := by decide +kernel
theorem dJx4a65c_grow_d5877_2 : decode cJx4a65c_grow_d5877 2 = .ok (.getfield 48, 3) := by decide +kernel
theorem dJx4a65c_grow_d5877_5 : decode cJx4a65c_grow_d5877 5 = .ok (.iconst 1, 1) := by decide +kernel
theorem dJx4a65c_grow_d5877_6 : decode cJx4a65c_grow_d5877 6 = .ok (.iadd, 1) := by decide +kernel
theorem dJx4a65c_grow_d5877_7 : decode cJx4a65c_grow_d5877 7 = .ok (.invokevirtual 69, 3) := by decide +kernel
theorem dJx4a65c_grow_d5877_10 : decode cJx4a65c_grow_d5877 10 = .ok (.areturn, 1) := by decide +kernel
theorem dJx4a65c_size_8abf5_0 : decode cJx4a65c_size_8abf5 0 = .ok (.aload_n 0, 1) := by decide +kernel
theorem dJx4a65c_size_8abf5_1 : decode cJx4a65c_size_8abf5 1 = .ok (.getfield 48, 3) := by decide +kernel
theorem dJx4a65c_size_8abf5_4 : decode cJx4a65c_size_8abf5 4 = .ok (.ireturn, 1) := by decide +kernel
theorem dJx4a65c_elementData_915e3_0 : decode cJx4a65c_elementData_915e3 0 = .ok (.aload_n 0, 1) := by decide +kernel
theorem dJx4a65c_elementData_915e3_1 : decode cJx4a65c_elementData_915e3 1 = .ok (.getfield 9, 3) := by decide +kernel
theorem dJx4a65c_elementData_915e3_4 : decode cJx4a65c_elementData_915e3 4 = .ok (.iload_n 1, 1) := by decide +kernel
theorem dJx4a65c_elementData_915e3_5 : decode cJx4a65c_elementData_915e3 5 = .ok (.aaload, 1) := by decide +kernel
theorem dJx4a65c_elementData_915e3_6 : decode cJx4a65c_elementData_915e3 6 = .ok (.areturn, 1) := by decide +kernel
theorem dJx4a65c_get_915e3_0 : decode cJx4a65c_get_915e3 0 = .ok (.iload_n 1, 1) := by decide +kernel
theorem dJx4a65c_get_915e3_1 : decode cJx4a65c_get_915e3 1 = .ok (.aload_n 0, 1) := by decide +kernel
theorem dJx4a65c_get_915e3_2 : decode cJx4a65c_get_915e3 2 = .ok (.getfield 48, 3) := by decide +kernel
theorem dJx4a65c_get_915e3_5 : decode cJx4a65c_get_915e3 5 = .ok (.invokestatic 118, 3) := by decide +kernel
theorem dJx4a65c_get_915e3_8 : decode cJx4a65c_get_915e3 8 = .ok (.pop, 1) := by decide +kernel
theorem dJx4a65c_get_915e3_9 : decode cJx4a65c_get_915e3 9 = .ok (.aload_n 0, 1) := by decide +kernel
theorem dJx4a65c_get_915e3_10 : decode cJx4a65c_get_915e3 10 = .ok (.iload_n 1, 1) := by decide +kernel
theorem dJx4a65c_get_915e3_11 : decode cJx4a65c_get_915e3 11 = .ok (.invokevirtual 123, 3) := by decide +kernel
theorem dJx4a65c_get_915e3_14 : decode cJx4a65c_get_915e3 14 = .ok (.areturn, 1) := by decide +kernel
theorem dJx4a65c_set_bcc79_0 : decode cJx4a65c_set_bcc79 0 = .ok (.iload_n 1, 1) := by decide +kernel
theorem dJx4a65c_set_bcc79_1 : decode cJx4a65c_set_bcc79 1 = .ok (.aload_n 0, 1) := by decide +kernel
theorem dJx4a65c_set_bcc79_2 : decode cJx4a65c_set_bcc79 2 = .ok (.getfield 48, 3) := by decide +kernel
theorem dJx4a65c_set_bcc79_5 : decode cJx4a65c_set_bcc79 5 = .ok (.invokestatic 118, 3) := by decide +kernel
theorem dJx4a65c_set_bcc79_8 : decode cJx4a65c_set_bcc79 8 = .ok (.pop, 1) := by decide +kernel
theorem dJx4a65c_set_bcc79_9 : decode cJx4a65c_set_bcc79 9 = .ok (.aload_n 0, 1) := by decide +kernel
theorem dJx4a65c_set_bcc79_10 : decode cJx4a65c_set_bcc79 10 = .ok (.iload_n 1, 1) := by decide +kernel
theorem dJx4a65c_set_bcc79_11 : decode cJx4a65c_set_bcc79 11 = .ok (.invokevirtual 123, 3) := by decide +kernel
theorem dJx4a65c_set_bcc79_14 : decode cJx4a65c_set_bcc79 14 = .ok (.astore_n 3, 1) := by decide +kernel
theorem dJx4a65c_set_bcc79_15 : decode cJx4a65c_set_bcc79 15 = .ok (.aload_n 0, 1) := by decide +kernel
theorem dJx4a65c_set_bcc79_16 : decode cJx4a65c_set_bcc79 16 = .ok (.getfield 9, 3) := by decide +kernel
theorem dJx4a65c_set_bcc79_19 : decode cJx4a65c_set_bcc79 19 = .ok (.iload_n 1, 1) := by decide +kernel
theorem dJx4a65c_set_bcc79_20 : decode cJx4a65c_set_bcc79 20 = .ok (.aload_n 2, 1) := by decide +kernel
theorem dJx4a65c_set_bcc79_21 : decode cJx4a65c_set_bcc79 21 = .ok (.aastore, 1) := by decide +kernel
theorem dJx4a65c_set_bcc79_22 : decode cJx4a65c_set_bcc79 22 = .ok (.aload_n 3, 1) := by decide +kernel
theorem dJx4a65c_set_bcc79_23 : decode cJx4a65c_set_bcc79 23 = .ok (.areturn, 1) := by decide +kernel
theorem dJx4a65c_add_72be8_0 : decode cJx4a65c_add_72be8 0 = .ok (.iload_n 3, 1) := by decide +kernel
theorem dJx4a65c_add_72be8_1 : decode cJx4a65c_add_72be8 1 = .ok (.aload_n 2, 1) := by decide +kernel
theorem dJx4a65c_add_72be8_2 : decode cJx4a65c_add_72be8 2 = .ok (.arraylength, 1) := by decide +kernel
theorem dJx4a65c_add_72be8_3 : decode cJx4a65c_add_72be8 3 = .ok (.if_icmp .ne 8, 3) := by decide +kernel
theorem dJx4a65c_add_72be8_6 : decode cJx4a65c_add_72be8 6 = .ok (.aload_n 0, 1) := by decide +kernel
theorem dJx4a65c_add_72be8_7 : decode cJx4a65c_add_72be8 7 = .ok (.invokevirtual 129, 3) := by decide +kernel
theorem dJx4a65c_add_72be8_10 : decode cJx4a65c_add_72be8 10 = .ok (.astore_n 2, 1) := by decide +kernel
theorem dJx4a65c_add_72be8_11 : decode cJx4a65c_add_72be8 11 = .ok (.aload_n 2, 1) := by decide +kernel
theorem dJx4a65c_add_72be8_12 : decode cJx4a65c_add_72be8 12 = .ok (.iload_n 3, 1) := by decide +kernel
theorem dJx4a65c_add_72be8_13 : decode cJx4a65c_add_72be8 13 = .ok (.aload_n 1, 1) := by decide +kernel
theorem dJx4a65c_add_72be8_14 : decode cJx4a65c_add_72be8 14 = .ok (.aastore, 1) := by decide +kernel
theorem dJx4a65c_add_72be8_15 : decode cJx4a65c_add_72be8 15 = .ok (.aload_n 0, 1) := by decide +kernel
theorem dJx4a65c_add_72be8_16 : decode cJx4a65c_add_72be8 16 = .ok (.iload_n 3, 1) := by decide +kernel
theorem dJx4a65c_add_72be8_17 : decode cJx4a65c_add_72be8 17 = .ok (.iconst 1, 1) := by decide +kernel
theorem dJx4a65c_add_72be8_18 : decode cJx4a65c_add_72be8 18 = .ok (.iadd, 1) := by decide +kernel
theorem dJx4a65c_add_72be8_19 : decode cJx4a65c_add_72be8 19 = .ok (.putfield 48, 3) := by decide +kernel
theorem dJx4a65c_add_72be8_22 : decode cJx4a65c_add_72be8 22 = .ok (.return_, 1) := by decide +kernel
theorem dJx4a65c_add_9ea2d_0 : decode cJx4a65c_add_9ea2d 0 = .ok (.aload_n 0, 1) := by decide +kernel
theorem dJx4a65c_add_9ea2d_1 : decode cJx4a65c_add_9ea2d 1 = .ok (.dup, 1) := by decide +kernel
theorem dJx4a65c_add_9ea2d_2 : decode cJx4a65c_add_9ea2d 2 = .ok (.getfield 63, 3) := by decide +kernel
theorem dJx4a65c_add_9ea2d_5 : decode cJx4a65c_add_9ea2d 5 = .ok (.iconst 1, 1) := by decide +kernel
theorem dJx4a65c_add_9ea2d_6 : decode cJx4a65c_add_9ea2d 6 = .ok (.iadd, 1) := by decide +kernel
theorem dJx4a65c_add_9ea2d_7 : decode cJx4a65c_add_9ea2d 7 = .ok (.putfield 63, 3) := by decide +kernel
theorem dJx4a65c_add_9ea2d_10 : decode cJx4a65c_add_9ea2d 10 = .ok (.aload_n 0, 1) := by decide +kernel
theorem dJx4a65c_add_9ea2d_11 : decode cJx4a65c_add_9ea2d 11 = .ok (.aload_n 1, 1) := by decide +kernel
theorem dJx4a65c_add_9ea2d_12 : decode cJx4a65c_add_9ea2d 12 = .ok (.aload_n 0, 1) := by decide +kernel
theorem dJx4a65c_add_9ea2d_13 : decode cJx4a65c_add_9ea2d 13 = .ok (.getfield 9, 3) := by decide +kernel
theorem dJx4a65c_add_9ea2d_16 : decode cJx4a65c_add_9ea2d 16 = .ok (.aload_n 0, 1) := by decide +kernel
theorem dJx4a65c_add_9ea2d_17 : decode cJx4a65c_add_9ea2d 17 = .ok (.getfield 48, 3) := by decide +kernel
theorem dJx4a65c_add_9ea2d_20 : decode cJx4a65c_add_9ea2d 20 = .ok (.invokevirtual 131, 3) := by decide +kernel
theorem dJx4a65c_add_9ea2d_23 : decode cJx4a65c_add_9ea2d 23 = .ok (.iconst 1, 1) := by decide +kernel
theorem dJx4a65c_add_9ea2d_24 : decode cJx4a65c_add_9ea2d 24 = .ok (.ireturn, 1) := by decide +kernel
theorem dJx4a65c_remove_915e3_0 : decode cJx4a65c_remove_915e3 0 = .ok (.iload_n 1, 1) := by decide +kernel
theorem dJx4a65c_remove_915e3_1 : decode cJx4a65c_remove_915e3 1 = .ok (.aload_n 0, 1) := by decide +kernel
theorem dJx4a65c_remove_915e3_2 : decode cJx4a65c_remove_915e3 2 = .ok (.getfield 48, 3) := by decide +kernel
theorem dJx4a65c_remove_915e3_5 : decode cJx4a65c_remove_915e3 5 = .ok (.invokestatic 118, 3) := by decide +kernel
theorem dJx4a65c_remove_915e3_8 : decode cJx4a65c_remove_915e3 8 = .ok (.pop, 1) := by decide +kernel
theorem dJx4a65c_remove_915e3_9 : decode cJx4a65c_remove_915e3 9 = .ok (.aload_n 0, 1) := by decide +kernel
theorem dJx4a65c_remove_915e3_10 : decode cJx4a65c_remove_915e3 10 = .ok (.getfield 9, 3) := by decide +kernel
theorem dJx4a65c_remove_915e3_13 : decode cJx4a65c_remove_915e3 13 = .ok (.astore_n 2, 1) := by decide +kernel
theorem dJx4a65c_remove_915e3_14 : decode cJx4a65c_remove_915e3 14 = .ok (.aload_n 2, 1) := by decide +kernel
theorem dJx4a65c_remove_915e3_15 : decode cJx4a65c_remove_915e3 15 = .ok (.iload_n 1, 1) := by decide +kernel
theorem dJx4a65c_remove_915e3_16 : decode cJx4a65c_remove_915e3 16 = .ok (.aaload, 1) := by decide +kernel
theorem dJx4a65c_remove_915e3_17 : decode cJx4a65c_remove_915e3 17 = .ok (.astore_n 3, 1) := by decide +kernel
theorem dJx4a65c_remove_915e3_18 : decode cJx4a65c_remove_915e3 18 = .ok (.aload_n 0, 1) := by decide +kernel
theorem dJx4a65c_remove_915e3_19 : decode cJx4a65c_remove_915e3 19 = .ok (.aload_n 2, 1) := by decide +kernel
theorem dJx4a65c_remove_915e3_20 : decode cJx4a65c_remove_915e3 20 = .ok (.iload_n 1, 1) := by decide +kernel
theorem dJx4a65c_remove_915e3_21 : decode cJx4a65c_remove_915e3 21 = .ok (.invokevirtual 144, 3) := by decide +kernel
theorem dJx4a65c_remove_915e3_24 : decode cJx4a65c_remove_915e3 24 = .ok (.aload_n 3, 1) := by decide +kernel
theorem dJx4a65c_remove_915e3_25 : decode cJx4a65c_remove_915e3 25 = .ok (.areturn, 1) := by decide +kernel
theorem dJx4a65c_fastRemove_b59b0_0 : decode cJx4a65c_fastRemove_b59b0 0 = .ok (.aload_n 0, 1) := by decide +kernel
theorem dJx4a65c_fastRemove_b59b0_1 : decode cJx4a65c_fastRemove_b59b0 1 = .ok (.dup, 1) := by decide +kernel
theorem dJx4a65c_fastRemove_b59b0_2 : decode cJx4a65c_fastRemove_b59b0 2 = .ok (.getfield 63, 3) := by decide +kernel
theorem dJx4a65c_fastRemove_b59b0_5 : decode cJx4a65c_fastRemove_b59b0 5 = .ok (.iconst 1, 1) := by decide +kernel
theorem dJx4a65c_fastRemove_b59b0_6 : decode cJx4a65c_fastRemove_b59b0 6 = .ok (.iadd, 1) := by decide +kernel
theorem dJx4a65c_fastRemove_b59b0_7 : decode cJx4a65c_fastRemove_b59b0 7 = .ok (.putfield 63, 3) := by decide +kernel
theorem dJx4a65c_fastRemove_b59b0_10 : decode cJx4a65c_fastRemove_b59b0 10 = .ok (.aload_n 0, 1) := by decide +kernel
theorem dJx4a65c_fastRemove_b59b0_11 : decode cJx4a65c_fastRemove_b59b0 11 = .ok (.getfield 48, 3) := by decide +kernel
theorem dJx4a65c_fastRemove_b59b0_14 : decode cJx4a65c_fastRemove_b59b0 14 = .ok (.iconst 1, 1) := by decide +kernel
theorem dJx4a65c_fastRemove_b59b0_15 : decode cJx4a65c_fastRemove_b59b0 15 = .ok (.isub, 1) := by decide +kernel
theorem dJx4a65c_fastRemove_b59b0_16 : decode cJx4a65c_fastRemove_b59b0 16 = .ok (.dup, 1) := by decide +kernel
theorem dJx4a65c_fastRemove_b59b0_17 : decode cJx4a65c_fastRemove_b59b0 17 = .ok (.istore_n 3, 1) := by decide +kernel
theorem dJx4a65c_fastRemove_b59b0_18 : decode cJx4a65c_fastRemove_b59b0 18 = .ok (.iload_n 2, 1) := by decide +kernel
theorem dJx4a65c_fastRemove_b59b0_19 : decode cJx4a65c_fastRemove_b59b0 19 = .ok (.if_icmp .le 15, 3) := by decide +kernel
theorem dJx4a65c_fastRemove_b59b0_22 : decode cJx4a65c_fastRemove_b59b0 22 = .ok (.aload_n 1, 1) := by decide +kernel
theorem dJx4a65c_fastRemove_b59b0_23 : decode cJx4a65c_fastRemove_b59b0 23 = .ok (.iload_n 2, 1) := by decide +kernel
theorem dJx4a65c_fastRemove_b59b0_24 : decode cJx4a65c_fastRemove_b59b0 24 = .ok (.iconst 1, 1) := by decide +kernel
theorem dJx4a65c_fastRemove_b59b0_25 : decode cJx4a65c_fastRemove_b59b0 25 = .ok (.iadd, 1) := by decide +kernel
theorem dJx4a65c_fastRemove_b59b0_26 : decode cJx4a65c_fastRemove_b59b0 26 = .ok (.aload_n 1, 1) := by decide +kernel
theorem dJx4a65c_fastRemove_b59b0_27 : decode cJx4a65c_fastRemove_b59b0 27 = .ok (.iload_n 2, 1) := by decide +kernel
theorem dJx4a65c_fastRemove_b59b0_28 : decode cJx4a65c_fastRemove_b59b0 28 = .ok (.iload_n 3, 1) := by decide +kernel
theorem dJx4a65c_fastRemove_b59b0_29 : decode cJx4a65c_fastRemove_b59b0 29 = .ok (.iload_n 2, 1) := by decide +kernel
theorem dJx4a65c_fastRemove_b59b0_30 : decode cJx4a65c_fastRemove_b59b0 30 = .ok (.isub, 1) := by decide +kernel
theorem dJx4a65c_fastRemove_b59b0_31 : decode cJx4a65c_fastRemove_b59b0 31 = .ok (.invokestatic 112, 3) := by decide +kernel
theorem dJx4a65c_fastRemove_b59b0_34 : decode cJx4a65c_fastRemove_b59b0 34 = .ok (.aload_n 1, 1) := by decide +kernel
theorem dJx4a65c_fastRemove_b59b0_35 : decode cJx4a65c_fastRemove_b59b0 35 = .ok (.aload_n 0, 1) := by decide +kernel
theorem dJx4a65c_fastRemove_b59b0_36 : decode cJx4a65c_fastRemove_b59b0 36 = .ok (.iload_n 3, 1) := by decide +kernel
theorem dJx4a65c_fastRemove_b59b0_37 : decode cJx4a65c_fastRemove_b59b0 37 = .ok (.dup_x1, 1) := by decide +kernel
theorem dJx4a65c_fastRemove_b59b0_38 : decode cJx4a65c_fastRemove_b59b0 38 = .ok (.putfield 48, 3) := by decide +kernel
theorem dJx4a65c_fastRemove_b59b0_41 : decode cJx4a65c_fastRemove_b59b0 41 = .ok (.aconst_null, 1) := by decide +kernel
theorem dJx4a65c_fastRemove_b59b0_42 : decode cJx4a65c_fastRemove_b59b0 42 = .ok (.aastore, 1) := by decide +kernel
theorem dJx4a65c_fastRemove_b59b0_43 : decode cJx4a65c_fastRemove_b59b0 43 = .ok (.return_, 1) := by decide +kernel
theorem dJ7_copyOf_1904c_0 : decode cJ7_copyOf_1904c 0 = .ok (.aload_n 0, 1) := by decide +kernel
theorem dJ7_copyOf_1904c_1 : decode cJ7_copyOf_1904c 1 = .ok (.iload_n 1, 1) := by decide +kernel
theorem dJ7_copyOf_1904c_2 : decode cJ7_copyOf_1904c 2 = .ok (.aload_n 0, 1) := by decide +kernel
theorem dJ7_copyOf_1904c_3 : decode cJ7_copyOf_1904c 3 = .ok (.invokevirtual 86, 3) := by decide +kernel
theorem dJ7_copyOf_1904c_6 : decode cJ7_copyOf_1904c 6 = .ok (.invokestatic 300, 3) := by decide +kernel
theorem dJ7_copyOf_1904c_9 : decode cJ7_copyOf_1904c 9 = .ok (.areturn, 1) := by decide +kernel
theorem dJ7_copyOf_6403c_0 : decode cJ7_copyOf_6403c 0 = .ok (.aload_n 2, 1) := by decide +kernel
theorem dJ7_copyOf_6403c_1 : decode cJ7_copyOf_6403c 1 = .ok (.ldc 110, 2) := by decide +kernel
theorem dJ7_copyOf_6403c_3 : decode cJ7_copyOf_6403c 3 = .ok (.if_acmp .ne 10, 3) := by decide +kernel
theorem dJ7_copyOf_6403c_6 : decode cJ7_copyOf_6403c 6 = .ok (.iload_n 1, 1) := by decide +kernel
theorem dJ7_copyOf_6403c_7 : decode cJ7_copyOf_6403c 7 = .ok (.anewarray 2, 3) := by decide +kernel
theorem dJ7_copyOf_6403c_10 : decode cJ7_copyOf_6403c 10 = .ok (.goto 14, 3) := by decide +kernel
theorem dJ7_copyOf_6403c_13 : decode cJ7_copyOf_6403c 13 = .ok (.aload_n 2, 1) := by decide +kernel
theorem dJ7_copyOf_6403c_14 : decode cJ7_copyOf_6403c 14 = .ok (.invokevirtual 90, 3) := by decide +kernel
theorem dJ7_copyOf_6403c_17 : decode cJ7_copyOf_6403c 17 = .ok (.iload_n 1, 1) := by decide +kernel
theorem dJ7_copyOf_6403c_18 : decode cJ7_copyOf_6403c 18 = .ok (.invokestatic 95, 3) := by decide +kernel
theorem dJ7_copyOf_6403c_21 : decode cJ7_copyOf_6403c 21 = .ok (.checkcast 110, 3) := by decide +kernel
theorem dJ7_copyOf_6403c_24 : decode cJ7_copyOf_6403c 24 = .ok (.astore_n 3, 1) := by decide +kernel
theorem dJ7_copyOf_6403c_25 : decode cJ7_copyOf_6403c 25 = .ok (.aload_n 0, 1) := by decide +kernel
theorem dJ7_copyOf_6403c_26 : decode cJ7_copyOf_6403c 26 = .ok (.iconst 0, 1) := by decide +kernel
theorem dJ7_copyOf_6403c_27 : decode cJ7_copyOf_6403c 27 = .ok (.aload_n 3, 1) := by decide +kernel
theorem dJ7_copyOf_6403c_28 : decode cJ7_copyOf_6403c 28 = .ok (.iconst 0, 1) := by decide +kernel
theorem dJ7_copyOf_6403c_29 : decode cJ7_copyOf_6403c 29 = .ok (.aload_n 0, 1) := by decide +kernel
theorem dJ7_copyOf_6403c_30 : decode cJ7_copyOf_6403c 30 = .ok (.arraylength, 1) := by decide +kernel
theorem dJ7_copyOf_6403c_31 : decode cJ7_copyOf_6403c 31 = .ok (.iload_n 1, 1) := by decide +kernel
theorem dJ7_copyOf_6403c_32 : decode cJ7_copyOf_6403c 32 = .ok (.invokestatic 304, 3) := by decide +kernel
theorem dJ7_copyOf_6403c_35 : decode cJ7_copyOf_6403c 35 = .ok (.invokestatic 150, 3) := by decide +kernel
theorem dJ7_copyOf_6403c_38 : decode cJ7_copyOf_6403c 38 = .ok (.aload_n 3, 1) := by decide +kernel
theorem dJ7_copyOf_6403c_39 : decode cJ7_copyOf_6403c 39 = .ok (.areturn, 1) := by decide +kernel
theorem dJ15_checkIndex_7cf53_0 : decode cJ15_checkIndex_7cf53 0 = .ok (.iload_n 0, 1) := by decide +kernel
theorem dJ15_checkIndex_7cf53_1 : decode cJ15_checkIndex_7cf53 1 = .ok (.iload_n 1, 1) := by decide +kernel
theorem dJ15_checkIndex_7cf53_2 : decode cJ15_checkIndex_7cf53 2 = .ok (.aconst_null, 1) := by decide +kernel
theorem dJ15_checkIndex_7cf53_3 : decode cJ15_checkIndex_7cf53 3 = .ok (.invokestatic 105, 3) := by decide +kernel
theorem dJ15_checkIndex_7cf53_6 : decode cJ15_checkIndex_7cf53 6 = .ok (.ireturn, 1) := by decide +kernel
theorem dJ8_newLength_cabcc_0 : decode cJ8_newLength_cabcc 0 = .ok (.iload_n 0, 1) := by decide +kernel
theorem dJ8_newLength_cabcc_1 : decode cJ8_newLength_cabcc 1 = .ok (.iload_n 1, 1) := by decide +kernel
theorem dJ8_newLength_cabcc_2 : decode cJ8_newLength_cabcc 2 = .ok (.iload_n 2, 1) := by decide +kernel
theorem dJ8_newLength_cabcc_3 : decode cJ8_newLength_cabcc 3 = .ok (.invokestatic 194, 3) := by decide +kernel
theorem dJ8_newLength_cabcc_6 : decode cJ8_newLength_cabcc 6 = .ok (.iadd, 1) := by decide +kernel
theorem dJ8_newLength_cabcc_7 : decode cJ8_newLength_cabcc 7 = .ok (.istore_n 3, 1) := by decide +kernel
theorem dJ8_newLength_cabcc_8 : decode cJ8_newLength_cabcc 8 = .ok (.iconst 0, 1) := by decide +kernel
theorem dJ8_newLength_cabcc_9 : decode cJ8_newLength_cabcc 9 = .ok (.iload_n 3, 1) := by decide +kernel
theorem dJ8_newLength_cabcc_10 : decode cJ8_newLength_cabcc 10 = .ok (.if_icmp .ge 11, 3) := by decide +kernel
theorem dJ8_newLength_cabcc_13 : decode cJ8_newLength_cabcc 13 = .ok (.iload_n 3, 1) := by decide +kernel
theorem dJ8_newLength_cabcc_14 : decode cJ8_newLength_cabcc 14 = .ok (.ldc 200, 2) := by decide +kernel
theorem dJ8_newLength_cabcc_16 : decode cJ8_newLength_cabcc 16 = .ok (.if_icmp .gt 5, 3) := by decide +kernel
theorem dJ8_newLength_cabcc_19 : decode cJ8_newLength_cabcc 19 = .ok (.iload_n 3, 1) := by decide +kernel
theorem dJ8_newLength_cabcc_20 : decode cJ8_newLength_cabcc 20 = .ok (.ireturn, 1) := by decide +kernel
theorem dJ8_newLength_cabcc_21 : decode cJ8_newLength_cabcc 21 = .ok (.iload_n 0, 1) := by decide +kernel
theorem dJ8_newLength_cabcc_22 : decode cJ8_newLength_cabcc 22 = .ok (.iload_n 1, 1) := by decide +kernel
theorem dJ8_newLength_cabcc_23 : decode cJ8_newLength_cabcc 23 = .ok (.invokestatic 201, 3) := by decide +kernel
theorem dJ8_newLength_cabcc_26 : decode cJ8_newLength_cabcc 26 = .ok (.ireturn, 1) := by decide +kernel
theorem dJ8_hugeLength_7cf53_0 : decode cJ8_hugeLength_7cf53 0 = .ok (.iload_n 0, 1) := by decide +kernel
theorem dJ8_hugeLength_7cf53_1 : decode cJ8_hugeLength_7cf53 1 = .ok (.iload_n 1, 1) := by decide +kernel
theorem dJ8_hugeLength_7cf53_2 : decode cJ8_hugeLength_7cf53 2 = .ok (.iadd, 1) := by decide +kernel
theorem dJ8_hugeLength_7cf53_3 : decode cJ8_hugeLength_7cf53 3 = .ok (.istore_n 2, 1) := by decide +kernel
theorem dJ8_hugeLength_7cf53_4 : decode cJ8_hugeLength_7cf53 4 = .ok (.iload_n 2, 1) := by decide +kernel
theorem dJ8_hugeLength_7cf53_5 : decode cJ8_hugeLength_7cf53 5 = .ok (.ifCond .ge 44, 3) := by decide +kernel
theorem dJ8_hugeLength_7cf53_8 : decode cJ8_hugeLength_7cf53 8 = .ok (.new 204, 3) := by decide +kernel
theorem dJ8_hugeLength_7cf53_11 : decode cJ8_hugeLength_7cf53 11 = .ok (.dup, 1) := by decide +kernel
theorem dJ8_hugeLength_7cf53_12 : decode cJ8_hugeLength_7cf53 12 = .ok (.new 89, 3) := by decide +kernel
theorem dJ8_hugeLength_7cf53_15 : decode cJ8_hugeLength_7cf53 15 = .ok (.dup, 1) := by decide +kernel
theorem dJ8_hugeLength_7cf53_16 : decode cJ8_hugeLength_7cf53 16 = .ok (.invokespecial 91, 3) := by decide +kernel
theorem dJ8_hugeLength_7cf53_19 : decode cJ8_hugeLength_7cf53 19 = .ok (.ldc 206, 2) := by decide +kernel
theorem dJ8_hugeLength_7cf53_21 : decode cJ8_hugeLength_7cf53 21 = .ok (.invokevirtual 94, 3) := by decide +kernel
theorem dJ8_hugeLength_7cf53_24 : decode cJ8_hugeLength_7cf53 24 = .ok (.iload_n 0, 1) := by decide +kernel
theorem dJ8_hugeLength_7cf53_25 : decode cJ8_hugeLength_7cf53 25 = .ok (.invokevirtual 98, 3) := by decide +kernel
theorem dJ8_hugeLength_7cf53_28 : decode cJ8_hugeLength_7cf53 28 = .ok (.ldc 208, 2) := by decide +kernel
theorem dJ8_hugeLength_7cf53_30 : decode cJ8_hugeLength_7cf53 30 = .ok (.invokevirtual 94, 3) := by decide +kernel
theorem dJ8_hugeLength_7cf53_33 : decode cJ8_hugeLength_7cf53 33 = .ok (.iload_n 1, 1) := by decide +kernel
theorem dJ8_hugeLength_7cf53_34 : decode cJ8_hugeLength_7cf53 34 = .ok (.invokevirtual 98, 3) := by decide +kernel
theorem dJ8_hugeLength_7cf53_37 : decode cJ8_hugeLength_7cf53 37 = .ok (.ldc 210, 2) := by decide +kernel
theorem dJ8_hugeLength_7cf53_39 : decode cJ8_hugeLength_7cf53 39 = .ok (.invokevirtual 94, 3) := by decide +kernel
theorem dJ8_hugeLength_7cf53_42 : decode cJ8_hugeLength_7cf53 42 = .ok (.invokevirtual 101, 3) := by decide +kernel
theorem dJ8_hugeLength_7cf53_45 : decode cJ8_hugeLength_7cf53 45 = .ok (.invokespecial 212, 3) := by decide +kernel
theorem dJ8_hugeLength_7cf53_48 : decode cJ8_hugeLength_7cf53 48 = .ok (.athrow, 1) := by decide +kernel
theorem dJ8_hugeLength_7cf53_49 : decode cJ8_hugeLength_7cf53 49 = .ok (.iload_n 2, 1) := by decide +kernel
theorem dJ8_hugeLength_7cf53_50 : decode cJ8_hugeLength_7cf53 50 = .ok (.ldc 200, 2) := by decide +kernel
theorem dJ8_hugeLength_7cf53_52 : decode cJ8_hugeLength_7cf53 52 = .ok (.if_icmp .gt 6, 3) := by decide +kernel
theorem dJ8_hugeLength_7cf53_55 : decode cJ8_hugeLength_7cf53 55 = .ok (.ldc 200, 2) := by decide +kernel
theorem dJ8_hugeLength_7cf53_57 : decode cJ8_hugeLength_7cf53 57 = .ok (.ireturn, 1) := by decide +kernel
theorem dJ8_hugeLength_7cf53_58 : decode cJ8_hugeLength_7cf53 58 = .ok (.iload_n 2, 1) := by decide +kernel
theorem dJ8_hugeLength_7cf53_59 : decode cJ8_hugeLength_7cf53 59 = .ok (.ireturn, 1) := by decide +kernel
theorem dJ3_checkIndex_8e157_0 : decode cJ3_checkIndex_8e157 0 = .ok (.iload_n 0, 1) := by decide +kernel
theorem dJ3_checkIndex_8e157_1 : decode cJ3_checkIndex_8e157 1 = .ok (.ifCond .lt 8, 3) := by decide +kernel
theorem dJ3_checkIndex_8e157_4 : decode cJ3_checkIndex_8e157 4 = .ok (.iload_n 0, 1) := by decide +kernel
theorem dJ3_checkIndex_8e157_5 : decode cJ3_checkIndex_8e157 5 = .ok (.iload_n 1, 1) := by decide +kernel
theorem dJ3_checkIndex_8e157_6 : decode cJ3_checkIndex_8e157 6 = .ok (.if_icmp .lt 10, 3) := by decide +kernel
theorem dJ3_checkIndex_8e157_9 : decode cJ3_checkIndex_8e157 9 = .ok (.aload_n 2, 1) := by decide +kernel
theorem dJ3_checkIndex_8e157_10 : decode cJ3_checkIndex_8e157 10 = .ok (.iload_n 0, 1) := by decide +kernel
theorem dJ3_checkIndex_8e157_11 : decode cJ3_checkIndex_8e157 11 = .ok (.iload_n 1, 1) := by decide +kernel
theorem dJ3_checkIndex_8e157_12 : decode cJ3_checkIndex_8e157 12 = .ok (.invokestatic 95, 3) := by decide +kernel
theorem dJ3_checkIndex_8e157_15 : decode cJ3_checkIndex_8e157 15 = .ok (.athrow, 1) := by decide +kernel
theorem dJ3_checkIndex_8e157_16 : decode cJ3_checkIndex_8e157 16 = .ok (.iload_n 0, 1) := by decide +kernel
theorem dJ3_checkIndex_8e157_17 : decode cJ3_checkIndex_8e157 17 = .ok (.ireturn, 1) := by decide +kernel
theorem dL_sound_0 : decode cL_sound 0 = .ok (.aload_n 2, 1) := by decide +kernel
theorem dL_sound_1 : decode cL_sound 1 = .ok (.iconst 0, 1) := by decide +kernel
theorem dL_sound_2 : decode cL_sound 2 = .ok (.aload_n 0, 1) := by decide +kernel
theorem dL_sound_3 : decode cL_sound 3 = .ok (.iload_n 1, 1) := by decide +kernel
theorem dL_sound_4 : decode cL_sound 4 = .ok (.invokevirtual 7, 3) := by decide +kernel
theorem dL_sound_7 : decode cL_sound 7 = .ok (.i2l, 1) := by decide +kernel
theorem dL_sound_8 : decode cL_sound 8 = .ok (.lastore, 1) := by decide +kernel
theorem dL_sound_9 : decode cL_sound 9 = .ok (.goto 9, 3) := by decide +kernel
theorem dL_sound_12 : decode cL_sound 12 = .ok (.astore_n 3, 1) := by decide +kernel
theorem dL_sound_13 : decode cL_sound 13 = .ok (.iconst 1, 1) := by decide +kernel
theorem dL_sound_14 : decode cL_sound 14 = .ok (.ireturn, 1) := by decide +kernel
theorem dL_sound_15 : decode cL_sound 15 = .ok (.astore_n 3, 1) := by decide +kernel
theorem dL_sound_16 : decode cL_sound 16 = .ok (.iconst 2, 1) := by decide +kernel
theorem dL_sound_17 : decode cL_sound 17 = .ok (.ireturn, 1) := by decide +kernel
theorem dL_sound_18 : decode cL_sound 18 = .ok (.iconst 0, 1) := by decide +kernel
theorem dL_sound_19 : decode cL_sound 19 = .ok (.ireturn, 1) := by decide +kernel
theorem dL_kind_0 : decode cL_kind 0 = .ok (.aload_n 3, 1) := by decide +kernel
theorem dL_kind_1 : decode cL_kind 1 = .ok (.iconst 0, 1) := by decide +kernel
theorem dL_kind_2 : decode cL_kind 2 = .ok (.aload_n 0, 1) := by decide +kernel
theorem dL_kind_3 : decode cL_kind 3 = .ok (.iload_n 1, 1) := by decide +kernel
theorem dL_kind_4 : decode cL_kind 4 = .ok (.iload_n 2, 1) := by decide +kernel
theorem dL_kind_5 : decode cL_kind 5 = .ok (.invokevirtual 17, 3) := by decide +kernel
theorem dL_kind_8 : decode cL_kind 8 = .ok (.i2l, 1) := by decide +kernel
theorem dL_kind_9 : decode cL_kind 9 = .ok (.lastore, 1) := by decide +kernel
theorem dL_kind_10 : decode cL_kind 10 = .ok (.goto 11, 3) := by decide +kernel
theorem dL_kind_13 : decode cL_kind 13 = .ok (.astore 4, 2) := by decide +kernel
theorem dL_kind_15 : decode cL_kind 15 = .ok (.iconst 1, 1) := by decide +kernel
theorem dL_kind_16 : decode cL_kind 16 = .ok (.ireturn, 1) := by decide +kernel
theorem dL_kind_17 : decode cL_kind 17 = .ok (.astore 4, 2) := by decide +kernel
theorem dL_kind_19 : decode cL_kind 19 = .ok (.iconst 2, 1) := by decide +kernel
theorem dL_kind_20 : decode cL_kind 20 = .ok (.ireturn, 1) := by decide +kernel
theorem dL_kind_21 : decode cL_kind 21 = .ok (.iconst 0, 1) := by decide +kernel
theorem dL_kind_22 : decode cL_kind 22 = .ok (.ireturn, 1) := by decide +kernel
theorem dL_put_0 : decode cL_put 0 = .ok (.aload_n 2, 1) := by decide +kernel
theorem dL_put_1 : decode cL_put 1 = .ok (.iconst 0, 1) := by decide +kernel
theorem dL_put_2 : decode cL_put 2 = .ok (.aload_n 0, 1) := by decide +kernel
theorem dL_put_3 : decode cL_put 3 = .ok (.iload_n 1, 1) := by decide +kernel
theorem dL_put_4 : decode cL_put 4 = .ok (.invokevirtual 21, 3) := by decide +kernel
theorem dL_put_7 : decode cL_put 7 = .ok (.i2l, 1) := by decide +kernel
theorem dL_put_8 : decode cL_put 8 = .ok (.lastore, 1) := by decide +kernel
theorem dL_put_9 : decode cL_put 9 = .ok (.goto 9, 3) := by decide +kernel
theorem dL_put_12 : decode cL_put 12 = .ok (.astore_n 3, 1) := by decide +kernel
theorem dL_put_13 : decode cL_put 13 = .ok (.iconst 1, 1) := by decide +kernel
theorem dL_put_14 : decode cL_put 14 = .ok (.ireturn, 1) := by decide +kernel
theorem dL_put_15 : decode cL_put 15 = .ok (.astore_n 3, 1) := by decide +kernel
theorem dL_put_16 : decode cL_put 16 = .ok (.iconst 2, 1) := by decide +kernel
theorem dL_put_17 : decode cL_put 17 = .ok (.ireturn, 1) := by decide +kernel
theorem dL_put_18 : decode cL_put 18 = .ok (.iconst 0, 1) := by decide +kernel
theorem dL_put_19 : decode cL_put 19 = .ok (.ireturn, 1) := by decide +kernel
theorem dL_lexeme_0 : decode cL_lexeme 0 = .ok (.aload_n 1, 1) := by decide +kernel
theorem dL_lexeme_1 : decode cL_lexeme 1 = .ok (.iconst 0, 1) := by decide +kernel
theorem dL_lexeme_2 : decode cL_lexeme 2 = .ok (.aload_n 0, 1) := by decide +kernel
theorem dL_lexeme_3 : decode cL_lexeme 3 = .ok (.invokevirtual 26, 3) := by decide +kernel
theorem dL_lexeme_6 : decode cL_lexeme 6 = .ok (.i2l, 1) := by decide +kernel
theorem dL_lexeme_7 : decode cL_lexeme 7 = .ok (.lastore, 1) := by decide +kernel
theorem dL_lexeme_8 : decode cL_lexeme 8 = .ok (.goto 6, 3) := by decide +kernel
theorem dL_lexeme_11 : decode cL_lexeme 11 = .ok (.astore_n 2, 1) := by decide +kernel
theorem dL_lexeme_12 : decode cL_lexeme 12 = .ok (.iconst 1, 1) := by decide +kernel
theorem dL_lexeme_13 : decode cL_lexeme 13 = .ok (.ireturn, 1) := by decide +kernel
theorem dL_lexeme_14 : decode cL_lexeme 14 = .ok (.iconst 0, 1) := by decide +kernel
theorem dL_lexeme_15 : decode cL_lexeme 15 = .ok (.ireturn, 1) := by decide +kernel
theorem dL_reform_0 : decode cL_reform 0 = .ok (.aload_n 0, 1) := by decide +kernel
theorem dL_reform_1 : decode cL_reform 1 = .ok (.iload_n 1, 1) := by decide +kernel
theorem dL_reform_2 : decode cL_reform 2 = .ok (.invokevirtual 30, 3) := by decide +kernel
theorem dL_reform_5 : decode cL_reform 5 = .ok (.goto 9, 3) := by decide +kernel
theorem dL_reform_8 : decode cL_reform 8 = .ok (.astore_n 2, 1) := by decide +kernel
theorem dL_reform_9 : decode cL_reform 9 = .ok (.iconst 1, 1) := by decide +kernel
theorem dL_reform_10 : decode cL_reform 10 = .ok (.ireturn, 1) := by decide +kernel
theorem dL_reform_11 : decode cL_reform 11 = .ok (.astore_n 2, 1) := by decide +kernel
theorem dL_reform_12 : decode cL_reform 12 = .ok (.iconst 2, 1) := by decide +kernel
theorem dL_reform_13 : decode cL_reform 13 = .ok (.ireturn, 1) := by decide +kernel
theorem dL_reform_14 : decode cL_reform 14 = .ok (.iconst 0, 1) := by decide +kernel
theorem dL_reform_15 : decode cL_reform 15 = .ok (.ireturn, 1) := by decide +kernel
theorem dL_ending_0 : decode cL_ending 0 = .ok (.aload_n 0, 1) := by decide +kernel
theorem dL_ending_1 : decode cL_ending 1 = .ok (.iload_n 1, 1) := by decide +kernel
theorem dL_ending_2 : decode cL_ending 2 = .ok (.invokevirtual 34, 3) := by decide +kernel
theorem dL_ending_5 : decode cL_ending 5 = .ok (.goto 9, 3) := by decide +kernel
theorem dL_ending_8 : decode cL_ending 8 = .ok (.astore_n 2, 1) := by decide +kernel
theorem dL_ending_9 : decode cL_ending 9 = .ok (.iconst 1, 1) := by decide +kernel
theorem dL_ending_10 : decode cL_ending 10 = .ok (.ireturn, 1) := by decide +kernel
theorem dL_ending_11 : decode cL_ending 11 = .ok (.astore_n 2, 1) := by decide +kernel
theorem dL_ending_12 : decode cL_ending 12 = .ok (.iconst 2, 1) := by decide +kernel
theorem dL_ending_13 : decode cL_ending 13 = .ok (.ireturn, 1) := by decide +kernel
theorem dL_ending_14 : decode cL_ending 14 = .ok (.iconst 0, 1) := by decide +kernel
theorem dL_ending_15 : decode cL_ending 15 = .ok (.ireturn, 1) := by decide +kernel
theorem dL_rule_0 : decode cL_rule 0 = .ok (.aload 5, 2) := by decide +kernel
theorem dL_rule_2 : decode cL_rule 2 = .ok (.iconst 0, 1) := by decide +kernel
theorem dL_rule_3 : decode cL_rule 3 = .ok (.aload_n 0, 1) := by decide +kernel
theorem dL_rule_4 : decode cL_rule 4 = .ok (.iload_n 1, 1) := by decide +kernel
theorem dL_rule_5 : decode cL_rule 5 = .ok (.iload_n 2, 1) := by decide +kernel
theorem dL_rule_6 : decode cL_rule 6 = .ok (.iload_n 3, 1) := by decide +kernel
theorem dL_rule_7 : decode cL_rule 7 = .ok (.iload 4, 2) := by decide +kernel
theorem dL_rule_9 : decode cL_rule 9 = .ok (.invokevirtual 37, 3) := by decide +kernel
theorem dL_rule_12 : decode cL_rule 12 = .ok (.i2l, 1) := by decide +kernel
theorem dL_rule_13 : decode cL_rule 13 = .ok (.lastore, 1) := by decide +kernel
theorem dL_rule_14 : decode cL_rule 14 = .ok (.goto 15, 3) := by decide +kernel
theorem dL_rule_17 : decode cL_rule 17 = .ok (.astore 6, 2) := by decide +kernel
theorem dL_rule_19 : decode cL_rule 19 = .ok (.iconst 1, 1) := by decide +kernel
theorem dL_rule_20 : decode cL_rule 20 = .ok (.ireturn, 1) := by decide +kernel
theorem dL_rule_21 : decode cL_rule 21 = .ok (.astore 6, 2) := by decide +kernel
theorem dL_rule_23 : decode cL_rule 23 = .ok (.iconst 2, 1) := by decide +kernel
theorem dL_rule_24 : decode cL_rule 24 = .ok (.ireturn, 1) := by decide +kernel
theorem dL_rule_25 : decode cL_rule 25 = .ok (.astore 6, 2) := by decide +kernel
theorem dL_rule_27 : decode cL_rule 27 = .ok (.iconst 3, 1) := by decide +kernel
theorem dL_rule_28 : decode cL_rule 28 = .ok (.ireturn, 1) := by decide +kernel
theorem dL_rule_29 : decode cL_rule 29 = .ok (.iconst 0, 1) := by decide +kernel
theorem dL_rule_30 : decode cL_rule 30 = .ok (.ireturn, 1) := by decide +kernel
theorem dL_turn_0 : decode cL_turn 0 = .ok (.aload_n 3, 1) := by decide +kernel
theorem dL_turn_1 : decode cL_turn 1 = .ok (.iconst 0, 1) := by decide +kernel
theorem dL_turn_2 : decode cL_turn 2 = .ok (.aload_n 0, 1) := by decide +kernel
theorem dL_turn_3 : decode cL_turn 3 = .ok (.iload_n 1, 1) := by decide +kernel
theorem dL_turn_4 : decode cL_turn 4 = .ok (.iload_n 2, 1) := by decide +kernel
theorem dL_turn_5 : decode cL_turn 5 = .ok (.invokevirtual 41, 3) := by decide +kernel
theorem dL_turn_8 : decode cL_turn 8 = .ok (.ifCond .eq 7, 3) := by decide +kernel
theorem dL_turn_11 : decode cL_turn 11 = .ok (.lconst 1, 1) := by decide +kernel
theorem dL_turn_12 : decode cL_turn 12 = .ok (.goto 4, 3) := by decide +kernel
theorem dL_turn_15 : decode cL_turn 15 = .ok (.lconst 0, 1) := by decide +kernel
theorem dL_turn_16 : decode cL_turn 16 = .ok (.lastore, 1) := by decide +kernel
theorem dL_turn_17 : decode cL_turn 17 = .ok (.goto 7, 3) := by decide +kernel
theorem dL_turn_20 : decode cL_turn 20 = .ok (.astore 4, 2) := by decide +kernel
theorem dL_turn_22 : decode cL_turn 22 = .ok (.iconst 1, 1) := by decide +kernel
theorem dL_turn_23 : decode cL_turn 23 = .ok (.ireturn, 1) := by decide +kernel
theorem dL_turn_24 : decode cL_turn 24 = .ok (.iconst 0, 1) := by decide +kernel
theorem dL_turn_25 : decode cL_turn 25 = .ok (.ireturn, 1) := by decide +kernel
theorem dL_raise_0 : decode cL_raise 0 = .ok (.aload_n 2, 1) := by decide +kernel
theorem dL_raise_1 : decode cL_raise 1 = .ok (.iconst 0, 1) := by decide +kernel
theorem dL_raise_2 : decode cL_raise 2 = .ok (.aload_n 0, 1) := by decide +kernel
theorem dL_raise_3 : decode cL_raise 3 = .ok (.iload_n 1, 1) := by decide +kernel
theorem dL_raise_4 : decode cL_raise 4 = .ok (.invokevirtual 45, 3) := by decide +kernel
theorem dL_raise_7 : decode cL_raise 7 = .ok (.i2l, 1) := by decide +kernel
theorem dL_raise_8 : decode cL_raise 8 = .ok (.lastore, 1) := by decide +kernel
theorem dL_raise_9 : decode cL_raise 9 = .ok (.goto 6, 3) := by decide +kernel
theorem dL_raise_12 : decode cL_raise 12 = .ok (.astore_n 3, 1) := by decide +kernel
theorem dL_raise_13 : decode cL_raise 13 = .ok (.iconst 1, 1) := by decide +kernel
theorem dL_raise_14 : decode cL_raise 14 = .ok (.ireturn, 1) := by decide +kernel
theorem dL_raise_15 : decode cL_raise 15 = .ok (.iconst 0, 1) := by decide +kernel
theorem dL_raise_16 : decode cL_raise 16 = .ok (.ireturn, 1) := by decide +kernel
theorem dL_hear_0 : decode cL_hear 0 = .ok (.aload 4, 2) := by decide +kernel
theorem dL_hear_2 : decode cL_hear 2 = .ok (.iconst 0, 1) := by decide +kernel
theorem dL_hear_3 : decode cL_hear 3 = .ok (.aload_n 0, 1) := by decide +kernel
theorem dL_hear_4 : decode cL_hear 4 = .ok (.iload_n 1, 1) := by decide +kernel
theorem dL_hear_5 : decode cL_hear 5 = .ok (.iload_n 2, 1) := by decide +kernel
theorem dL_hear_6 : decode cL_hear 6 = .ok (.iload_n 3, 1) := by decide +kernel
theorem dL_hear_7 : decode cL_hear 7 = .ok (.invokevirtual 48, 3) := by decide +kernel
theorem dL_hear_10 : decode cL_hear 10 = .ok (.i2l, 1) := by decide +kernel
theorem dL_hear_11 : decode cL_hear 11 = .ok (.lastore, 1) := by decide +kernel
theorem dL_hear_12 : decode cL_hear 12 = .ok (.goto 11, 3) := by decide +kernel
theorem dL_hear_15 : decode cL_hear 15 = .ok (.astore 5, 2) := by decide +kernel
theorem dL_hear_17 : decode cL_hear 17 = .ok (.iconst 1, 1) := by decide +kernel
theorem dL_hear_18 : decode cL_hear 18 = .ok (.ireturn, 1) := by decide +kernel
theorem dL_hear_19 : decode cL_hear 19 = .ok (.astore 5, 2) := by decide +kernel
theorem dL_hear_21 : decode cL_hear 21 = .ok (.iconst 2, 1) := by decide +kernel
theorem dL_hear_22 : decode cL_hear 22 = .ok (.ireturn, 1) := by decide +kernel
theorem dL_hear_23 : decode cL_hear 23 = .ok (.iconst 0, 1) := by decide +kernel
theorem dL_hear_24 : decode cL_hear 24 = .ok (.ireturn, 1) := by decide +kernel
theorem dL_correct_0 : decode cL_correct 0 = .ok (.aload_n 2, 1) := by decide +kernel
theorem dL_correct_1 : decode cL_correct 1 = .ok (.iconst 0, 1) := by decide +kernel
theorem dL_correct_2 : decode cL_correct 2 = .ok (.aload_n 0, 1) := by decide +kernel
theorem dL_correct_3 : decode cL_correct 3 = .ok (.iload_n 1, 1) := by decide +kernel
theorem dL_correct_4 : decode cL_correct 4 = .ok (.invokevirtual 52, 3) := by decide +kernel
theorem dL_correct_7 : decode cL_correct 7 = .ok (.ifCond .eq 7, 3) := by decide +kernel
theorem dL_correct_10 : decode cL_correct 10 = .ok (.lconst 1, 1) := by decide +kernel
theorem dL_correct_11 : decode cL_correct 11 = .ok (.goto 4, 3) := by decide +kernel
theorem dL_correct_14 : decode cL_correct 14 = .ok (.lconst 0, 1) := by decide +kernel
theorem dL_correct_15 : decode cL_correct 15 = .ok (.lastore, 1) := by decide +kernel
theorem dL_correct_16 : decode cL_correct 16 = .ok (.goto 6, 3) := by decide +kernel
theorem dL_correct_19 : decode cL_correct 19 = .ok (.astore_n 3, 1) := by decide +kernel
theorem dL_correct_20 : decode cL_correct 20 = .ok (.iconst 1, 1) := by decide +kernel
theorem dL_correct_21 : decode cL_correct 21 = .ok (.ireturn, 1) := by decide +kernel
theorem dL_correct_22 : decode cL_correct 22 = .ok (.iconst 0, 1) := by decide +kernel
theorem dL_correct_23 : decode cL_correct 23 = .ok (.ireturn, 1) := by decide +kernel
theorem dL_forget_0 : decode cL_forget 0 = .ok (.aload_n 2, 1) := by decide +kernel
theorem dL_forget_1 : decode cL_forget 1 = .ok (.iconst 0, 1) := by decide +kernel
theorem dL_forget_2 : decode cL_forget 2 = .ok (.aload_n 0, 1) := by decide +kernel
theorem dL_forget_3 : decode cL_forget 3 = .ok (.iload_n 1, 1) := by decide +kernel
theorem dL_forget_4 : decode cL_forget 4 = .ok (.invokevirtual 56, 3) := by decide +kernel
theorem dL_forget_7 : decode cL_forget 7 = .ok (.i2l, 1) := by decide +kernel
theorem dL_forget_8 : decode cL_forget 8 = .ok (.lastore, 1) := by decide +kernel
theorem dL_forget_9 : decode cL_forget 9 = .ok (.goto 6, 3) := by decide +kernel
theorem dL_forget_12 : decode cL_forget 12 = .ok (.astore_n 3, 1) := by decide +kernel
theorem dL_forget_13 : decode cL_forget 13 = .ok (.iconst 1, 1) := by decide +kernel
theorem dL_forget_14 : decode cL_forget 14 = .ok (.ireturn, 1) := by decide +kernel
theorem dL_forget_15 : decode cL_forget 15 = .ok (.iconst 0, 1) := by decide +kernel
theorem dL_forget_16 : decode cL_forget 16 = .ok (.ireturn, 1) := by decide +kernel
theorem dL_except_0 : decode cL_except 0 = .ok (.aload 4, 2) := by decide +kernel
theorem dL_except_2 : decode cL_except 2 = .ok (.iconst 0, 1) := by decide +kernel
theorem dL_except_3 : decode cL_except 3 = .ok (.aload_n 0, 1) := by decide +kernel
theorem dL_except_4 : decode cL_except 4 = .ok (.iload_n 1, 1) := by decide +kernel
theorem dL_except_5 : decode cL_except 5 = .ok (.iload_n 2, 1) := by decide +kernel
theorem dL_except_6 : decode cL_except 6 = .ok (.iload_n 3, 1) := by decide +kernel
theorem dL_except_7 : decode cL_except 7 = .ok (.invokevirtual 59, 3) := by decide +kernel
theorem dL_except_10 : decode cL_except 10 = .ok (.ifCond .eq 7, 3) := by decide +kernel
theorem dL_except_13 : decode cL_except 13 = .ok (.lconst 1, 1) := by decide +kernel
theorem dL_except_14 : decode cL_except 14 = .ok (.goto 4, 3) := by decide +kernel
theorem dL_except_17 : decode cL_except 17 = .ok (.lconst 0, 1) := by decide +kernel
theorem dL_except_18 : decode cL_except 18 = .ok (.lastore, 1) := by decide +kernel
theorem dL_except_19 : decode cL_except 19 = .ok (.goto 7, 3) := by decide +kernel
theorem dL_except_22 : decode cL_except 22 = .ok (.astore 5, 2) := by decide +kernel
theorem dL_except_24 : decode cL_except 24 = .ok (.iconst 1, 1) := by decide +kernel
theorem dL_except_25 : decode cL_except 25 = .ok (.ireturn, 1) := by decide +kernel
theorem dL_except_26 : decode cL_except 26 = .ok (.iconst 0, 1) := by decide +kernel
theorem dL_except_27 : decode cL_except 27 = .ok (.ireturn, 1) := by decide +kernel
theorem dL_merge_0 : decode cL_merge 0 = .ok (.aload_n 3, 1) := by decide +kernel
theorem dL_merge_1 : decode cL_merge 1 = .ok (.iconst 0, 1) := by decide +kernel
theorem dL_merge_2 : decode cL_merge 2 = .ok (.aload_n 0, 1) := by decide +kernel
theorem dL_merge_3 : decode cL_merge 3 = .ok (.iload_n 1, 1) := by decide +kernel
theorem dL_merge_4 : decode cL_merge 4 = .ok (.iload_n 2, 1) := by decide +kernel
theorem dL_merge_5 : decode cL_merge 5 = .ok (.invokevirtual 63, 3) := by decide +kernel
theorem dL_merge_8 : decode cL_merge 8 = .ok (.i2l, 1) := by decide +kernel
theorem dL_merge_9 : decode cL_merge 9 = .ok (.lastore, 1) := by decide +kernel
theorem dL_merge_10 : decode cL_merge 10 = .ok (.goto 11, 3) := by decide +kernel
theorem dL_merge_13 : decode cL_merge 13 = .ok (.astore 4, 2) := by decide +kernel
theorem dL_merge_15 : decode cL_merge 15 = .ok (.iconst 1, 1) := by decide +kernel
theorem dL_merge_16 : decode cL_merge 16 = .ok (.ireturn, 1) := by decide +kernel
theorem dL_merge_17 : decode cL_merge 17 = .ok (.astore 4, 2) := by decide +kernel
theorem dL_merge_19 : decode cL_merge 19 = .ok (.iconst 2, 1) := by decide +kernel
theorem dL_merge_20 : decode cL_merge 20 = .ok (.ireturn, 1) := by decide +kernel
theorem dL_merge_21 : decode cL_merge 21 = .ok (.iconst 0, 1) := by decide +kernel
theorem dL_merge_22 : decode cL_merge 22 = .ok (.ireturn, 1) := by decide +kernel
theorem dL_split_0 : decode cL_split 0 = .ok (.aload_n 3, 1) := by decide +kernel
theorem dL_split_1 : decode cL_split 1 = .ok (.iconst 0, 1) := by decide +kernel
theorem dL_split_2 : decode cL_split 2 = .ok (.aload_n 0, 1) := by decide +kernel
theorem dL_split_3 : decode cL_split 3 = .ok (.iload_n 1, 1) := by decide +kernel
theorem dL_split_4 : decode cL_split 4 = .ok (.iload_n 2, 1) := by decide +kernel
theorem dL_split_5 : decode cL_split 5 = .ok (.invokevirtual 66, 3) := by decide +kernel
theorem dL_split_8 : decode cL_split 8 = .ok (.i2l, 1) := by decide +kernel
theorem dL_split_9 : decode cL_split 9 = .ok (.lastore, 1) := by decide +kernel
theorem dL_split_10 : decode cL_split 10 = .ok (.goto 15, 3) := by decide +kernel
theorem dL_split_13 : decode cL_split 13 = .ok (.astore 4, 2) := by decide +kernel
theorem dL_split_15 : decode cL_split 15 = .ok (.iconst 1, 1) := by decide +kernel
theorem dL_split_16 : decode cL_split 16 = .ok (.ireturn, 1) := by decide +kernel
theorem dL_split_17 : decode cL_split 17 = .ok (.astore 4, 2) := by decide +kernel
theorem dL_split_19 : decode cL_split 19 = .ok (.iconst 2, 1) := by decide +kernel
theorem dL_split_20 : decode cL_split 20 = .ok (.ireturn, 1) := by decide +kernel
theorem dL_split_21 : decode cL_split 21 = .ok (.astore 4, 2) := by decide +kernel
theorem dL_split_23 : decode cL_split 23 = .ok (.iconst 3, 1) := by decide +kernel
theorem dL_split_24 : decode cL_split 24 = .ok (.ireturn, 1) := by decide +kernel
theorem dL_split_25 : decode cL_split 25 = .ok (.iconst 0, 1) := by decide +kernel
theorem dL_split_26 : decode cL_split 26 = .ok (.ireturn, 1) := by decide +kernel
theorem dL_undo_0 : decode cL_undo 0 = .ok (.aload_n 1, 1) := by decide +kernel
theorem dL_undo_1 : decode cL_undo 1 = .ok (.iconst 0, 1) := by decide +kernel
theorem dL_undo_2 : decode cL_undo 2 = .ok (.aload_n 0, 1) := by decide +kernel
theorem dL_undo_3 : decode cL_undo 3 = .ok (.invokevirtual 69, 3) := by decide +kernel
theorem dL_undo_6 : decode cL_undo 6 = .ok (.i2l, 1) := by decide +kernel
theorem dL_undo_7 : decode cL_undo 7 = .ok (.lastore, 1) := by decide +kernel
theorem dL_undo_8 : decode cL_undo 8 = .ok (.goto 6, 3) := by decide +kernel
theorem dL_undo_11 : decode cL_undo 11 = .ok (.astore_n 2, 1) := by decide +kernel
theorem dL_undo_12 : decode cL_undo 12 = .ok (.iconst 1, 1) := by decide +kernel
theorem dL_undo_13 : decode cL_undo 13 = .ok (.ireturn, 1) := by decide +kernel
theorem dL_undo_14 : decode cL_undo 14 = .ok (.iconst 0, 1) := by decide +kernel
theorem dL_undo_15 : decode cL_undo 15 = .ok (.ireturn, 1) := by decide +kernel
theorem dL_length_0 : decode cL_length 0 = .ok (.aload_n 3, 1) := by decide +kernel
theorem dL_length_1 : decode cL_length 1 = .ok (.iconst 0, 1) := by decide +kernel
theorem dL_length_2 : decode cL_length 2 = .ok (.aload_n 0, 1) := by decide +kernel
theorem dL_length_3 : decode cL_length 3 = .ok (.iload_n 1, 1) := by decide +kernel
theorem dL_length_4 : decode cL_length 4 = .ok (.iload_n 2, 1) := by decide +kernel
theorem dL_length_5 : decode cL_length 5 = .ok (.invokevirtual 72, 3) := by decide +kernel
theorem dL_length_8 : decode cL_length 8 = .ok (.i2l, 1) := by decide +kernel
theorem dL_length_9 : decode cL_length 9 = .ok (.lastore, 1) := by decide +kernel
theorem dL_length_10 : decode cL_length 10 = .ok (.goto 7, 3) := by decide +kernel
theorem dL_length_13 : decode cL_length 13 = .ok (.astore 4, 2) := by decide +kernel
theorem dL_length_15 : decode cL_length 15 = .ok (.iconst 1, 1) := by decide +kernel
theorem dL_length_16 : decode cL_length 16 = .ok (.ireturn, 1) := by decide +kernel
theorem dL_length_17 : decode cL_length 17 = .ok (.iconst 0, 1) := by decide +kernel
theorem dL_length_18 : decode cL_length 18 = .ok (.ireturn, 1) := by decide +kernel
theorem dL_at_0 : decode cL_at 0 = .ok (.aload 4, 2) := by decide +kernel
theorem dL_at_2 : decode cL_at 2 = .ok (.iconst 0, 1) := by decide +kernel
theorem dL_at_3 : decode cL_at 3 = .ok (.aload_n 0, 1) := by decide +kernel
theorem dL_at_4 : decode cL_at 4 = .ok (.iload_n 1, 1) := by decide +kernel
theorem dL_at_5 : decode cL_at 5 = .ok (.iload_n 2, 1) := by decide +kernel
theorem dL_at_6 : decode cL_at 6 = .ok (.iload_n 3, 1) := by decide +kernel
theorem dL_at_7 : decode cL_at 7 = .ok (.invokevirtual 75, 3) := by decide +kernel
theorem dL_at_10 : decode cL_at 10 = .ok (.i2l, 1) := by decide +kernel
theorem dL_at_11 : decode cL_at 11 = .ok (.lastore, 1) := by decide +kernel
theorem dL_at_12 : decode cL_at 12 = .ok (.goto 7, 3) := by decide +kernel
theorem dL_at_15 : decode cL_at 15 = .ok (.astore 5, 2) := by decide +kernel
theorem dL_at_17 : decode cL_at 17 = .ok (.iconst 1, 1) := by decide +kernel
theorem dL_at_18 : decode cL_at 18 = .ok (.ireturn, 1) := by decide +kernel
theorem dL_at_19 : decode cL_at 19 = .ok (.iconst 0, 1) := by decide +kernel
theorem dL_at_20 : decode cL_at 20 = .ok (.ireturn, 1) := by decide +kernel
theorem dL_step_0 : decode cL_step 0 = .ok (.aload 4, 2) := by decide +kernel
theorem dL_step_2 : decode cL_step 2 = .ok (.iconst 0, 1) := by decide +kernel
theorem dL_step_3 : decode cL_step 3 = .ok (.aload_n 0, 1) := by decide +kernel
theorem dL_step_4 : decode cL_step 4 = .ok (.iload_n 1, 1) := by decide +kernel
theorem dL_step_5 : decode cL_step 5 = .ok (.iload_n 2, 1) := by decide +kernel
theorem dL_step_6 : decode cL_step 6 = .ok (.iload_n 3, 1) := by decide +kernel
theorem dL_step_7 : decode cL_step 7 = .ok (.invokevirtual 78, 3) := by decide +kernel
theorem dL_step_10 : decode cL_step 10 = .ok (.i2l, 1) := by decide +kernel
theorem dL_step_11 : decode cL_step 11 = .ok (.lastore, 1) := by decide +kernel
theorem dL_step_12 : decode cL_step 12 = .ok (.goto 7, 3) := by decide +kernel
theorem dL_step_15 : decode cL_step 15 = .ok (.astore 5, 2) := by decide +kernel
theorem dL_step_17 : decode cL_step 17 = .ok (.iconst 1, 1) := by decide +kernel
theorem dL_step_18 : decode cL_step 18 = .ok (.ireturn, 1) := by decide +kernel
theorem dL_step_19 : decode cL_step 19 = .ok (.iconst 0, 1) := by decide +kernel
theorem dL_step_20 : decode cL_step 20 = .ok (.ireturn, 1) := by decide +kernel
theorem dL_ofWord_0 : decode cL_ofWord 0 = .ok (.aload_n 3, 1) := by decide +kernel
theorem dL_ofWord_1 : decode cL_ofWord 1 = .ok (.iconst 0, 1) := by decide +kernel
theorem dL_ofWord_2 : decode cL_ofWord 2 = .ok (.aload_n 0, 1) := by decide +kernel
theorem dL_ofWord_3 : decode cL_ofWord 3 = .ok (.iload_n 1, 1) := by decide +kernel
theorem dL_ofWord_4 : decode cL_ofWord 4 = .ok (.iload_n 2, 1) := by decide +kernel
theorem dL_ofWord_5 : decode cL_ofWord 5 = .ok (.invokevirtual 81, 3) := by decide +kernel
theorem dL_ofWord_8 : decode cL_ofWord 8 = .ok (.i2l, 1) := by decide +kernel
theorem dL_ofWord_9 : decode cL_ofWord 9 = .ok (.lastore, 1) := by decide +kernel
theorem dL_ofWord_10 : decode cL_ofWord 10 = .ok (.goto 11, 3) := by decide +kernel
theorem dL_ofWord_13 : decode cL_ofWord 13 = .ok (.astore 4, 2) := by decide +kernel
theorem dL_ofWord_15 : decode cL_ofWord 15 = .ok (.iconst 1, 1) := by decide +kernel
theorem dL_ofWord_16 : decode cL_ofWord 16 = .ok (.ireturn, 1) := by decide +kernel
theorem dL_ofWord_17 : decode cL_ofWord 17 = .ok (.astore 4, 2) := by decide +kernel
theorem dL_ofWord_19 : decode cL_ofWord 19 = .ok (.iconst 2, 1) := by decide +kernel
theorem dL_ofWord_20 : decode cL_ofWord 20 = .ok (.ireturn, 1) := by decide +kernel
theorem dL_ofWord_21 : decode cL_ofWord 21 = .ok (.iconst 0, 1) := by decide +kernel
theorem dL_ofWord_22 : decode cL_ofWord 22 = .ok (.ireturn, 1) := by decide +kernel
theorem dL_misfit_0 : decode cL_misfit 0 = .ok (.aload_n 2, 1) := by decide +kernel
theorem dL_misfit_1 : decode cL_misfit 1 = .ok (.iconst 0, 1) := by decide +kernel
theorem dL_misfit_2 : decode cL_misfit 2 = .ok (.aload_n 0, 1) := by decide +kernel
theorem dL_misfit_3 : decode cL_misfit 3 = .ok (.iload_n 1, 1) := by decide +kernel
theorem dL_misfit_4 : decode cL_misfit 4 = .ok (.invokevirtual 84, 3) := by decide +kernel
theorem dL_misfit_7 : decode cL_misfit 7 = .ok (.i2l, 1) := by decide +kernel
theorem dL_misfit_8 : decode cL_misfit 8 = .ok (.lastore, 1) := by decide +kernel
theorem dL_misfit_9 : decode cL_misfit 9 = .ok (.goto 6, 3) := by decide +kernel
theorem dL_misfit_12 : decode cL_misfit 12 = .ok (.astore_n 3, 1) := by decide +kernel
theorem dL_misfit_13 : decode cL_misfit 13 = .ok (.iconst 1, 1) := by decide +kernel
theorem dL_misfit_14 : decode cL_misfit 14 = .ok (.ireturn, 1) := by decide +kernel
theorem dL_misfit_15 : decode cL_misfit 15 = .ok (.iconst 0, 1) := by decide +kernel
theorem dL_misfit_16 : decode cL_misfit 16 = .ok (.ireturn, 1) := by decide +kernel
theorem dL_claims_0 : decode cL_claims 0 = .ok (.aload_n 3, 1) := by decide +kernel
theorem dL_claims_1 : decode cL_claims 1 = .ok (.iconst 0, 1) := by decide +kernel
theorem dL_claims_2 : decode cL_claims 2 = .ok (.aload_n 0, 1) := by decide +kernel
theorem dL_claims_3 : decode cL_claims 3 = .ok (.iload_n 1, 1) := by decide +kernel
theorem dL_claims_4 : decode cL_claims 4 = .ok (.iload_n 2, 1) := by decide +kernel
theorem dL_claims_5 : decode cL_claims 5 = .ok (.invokevirtual 87, 3) := by decide +kernel
theorem dL_claims_8 : decode cL_claims 8 = .ok (.i2l, 1) := by decide +kernel
theorem dL_claims_9 : decode cL_claims 9 = .ok (.lastore, 1) := by decide +kernel
theorem dL_claims_10 : decode cL_claims 10 = .ok (.goto 7, 3) := by decide +kernel
theorem dL_claims_13 : decode cL_claims 13 = .ok (.astore 4, 2) := by decide +kernel
theorem dL_claims_15 : decode cL_claims 15 = .ok (.iconst 1, 1) := by decide +kernel
theorem dL_claims_16 : decode cL_claims 16 = .ok (.ireturn, 1) := by decide +kernel
theorem dL_claims_17 : decode cL_claims 17 = .ok (.iconst 0, 1) := by decide +kernel
theorem dL_claims_18 : decode cL_claims 18 = .ok (.ireturn, 1) := by decide +kernel
theorem dL_pairs_0 : decode cL_pairs 0 = .ok (.aload_n 3, 1) := by decide +kernel
theorem dL_pairs_1 : decode cL_pairs 1 = .ok (.iconst 0, 1) := by decide +kernel
theorem dL_pairs_2 : decode cL_pairs 2 = .ok (.aload_n 0, 1) := by decide +kernel
theorem dL_pairs_3 : decode cL_pairs 3 = .ok (.iload_n 1, 1) := by decide +kernel
theorem dL_pairs_4 : decode cL_pairs 4 = .ok (.iload_n 2, 1) := by decide +kernel
theorem dL_pairs_5 : decode cL_pairs 5 = .ok (.invokevirtual 91, 3) := by decide +kernel
theorem dL_pairs_8 : decode cL_pairs 8 = .ok (.i2l, 1) := by decide +kernel
theorem dL_pairs_9 : decode cL_pairs 9 = .ok (.lastore, 1) := by decide +kernel
theorem dL_pairs_10 : decode cL_pairs 10 = .ok (.goto 11, 3) := by decide +kernel
theorem dL_pairs_13 : decode cL_pairs 13 = .ok (.astore 4, 2) := by decide +kernel
theorem dL_pairs_15 : decode cL_pairs 15 = .ok (.iconst 1, 1) := by decide +kernel
theorem dL_pairs_16 : decode cL_pairs 16 = .ok (.ireturn, 1) := by decide +kernel
theorem dL_pairs_17 : decode cL_pairs 17 = .ok (.astore 4, 2) := by decide +kernel
theorem dL_pairs_19 : decode cL_pairs 19 = .ok (.iconst 2, 1) := by decide +kernel
theorem dL_pairs_20 : decode cL_pairs 20 = .ok (.ireturn, 1) := by decide +kernel
theorem dL_pairs_21 : decode cL_pairs 21 = .ok (.iconst 0, 1) := by decide +kernel
theorem dL_pairs_22 : decode cL_pairs 22 = .ok (.ireturn, 1) := by decide +kernel
theorem dL_holes_0 : decode cL_holes 0 = .ok (.aload_n 2, 1) := by decide +kernel
theorem dL_holes_1 : decode cL_holes 1 = .ok (.iconst 0, 1) := by decide +kernel
theorem dL_holes_2 : decode cL_holes 2 = .ok (.aload_n 0, 1) := by decide +kernel
theorem dL_holes_3 : decode cL_holes 3 = .ok (.iload_n 1, 1) := by decide +kernel
theorem dL_holes_4 : decode cL_holes 4 = .ok (.invokevirtual 94, 3) := by decide +kernel
theorem dL_holes_7 : decode cL_holes 7 = .ok (.i2l, 1) := by decide +kernel
theorem dL_holes_8 : decode cL_holes 8 = .ok (.lastore, 1) := by decide +kernel
theorem dL_holes_9 : decode cL_holes 9 = .ok (.goto 6, 3) := by decide +kernel
theorem dL_holes_12 : decode cL_holes 12 = .ok (.astore_n 3, 1) := by decide +kernel
theorem dL_holes_13 : decode cL_holes 13 = .ok (.iconst 1, 1) := by decide +kernel
theorem dL_holes_14 : decode cL_holes 14 = .ok (.ireturn, 1) := by decide +kernel
theorem dL_holes_15 : decode cL_holes 15 = .ok (.iconst 0, 1) := by decide +kernel
theorem dL_holes_16 : decode cL_holes 16 = .ok (.ireturn, 1) := by decide +kernel
theorem dL_shared_0 : decode cL_shared 0 = .ok (.aload_n 3, 1) := by decide +kernel
theorem dL_shared_1 : decode cL_shared 1 = .ok (.iconst 0, 1) := by decide +kernel
theorem dL_shared_2 : decode cL_shared 2 = .ok (.aload_n 0, 1) := by decide +kernel
theorem dL_shared_3 : decode cL_shared 3 = .ok (.iload_n 1, 1) := by decide +kernel
theorem dL_shared_4 : decode cL_shared 4 = .ok (.iload_n 2, 1) := by decide +kernel
theorem dL_shared_5 : decode cL_shared 5 = .ok (.invokevirtual 97, 3) := by decide +kernel
theorem dL_shared_8 : decode cL_shared 8 = .ok (.i2l, 1) := by decide +kernel
theorem dL_shared_9 : decode cL_shared 9 = .ok (.lastore, 1) := by decide +kernel
theorem dL_shared_10 : decode cL_shared 10 = .ok (.goto 7, 3) := by decide +kernel
theorem dL_shared_13 : decode cL_shared 13 = .ok (.astore 4, 2) := by decide +kernel
theorem dL_shared_15 : decode cL_shared 15 = .ok (.iconst 1, 1) := by decide +kernel
theorem dL_shared_16 : decode cL_shared 16 = .ok (.ireturn, 1) := by decide +kernel
theorem dL_shared_17 : decode cL_shared 17 = .ok (.iconst 0, 1) := by decide +kernel
theorem dL_shared_18 : decode cL_shared 18 = .ok (.ireturn, 1) := by decide +kernel
theorem dL_law_0 : decode cL_law 0 = .ok (.new 8, 3) := by decide +kernel
theorem dL_law_3 : decode cL_law 3 = .ok (.dup, 1) := by decide +kernel
theorem dL_law_4 : decode cL_law 4 = .ok (.invokespecial 100, 3) := by decide +kernel
theorem dL_law_7 : decode cL_law 7 = .ok (.astore_n 1, 1) := by decide +kernel
theorem dL_law_8 : decode cL_law 8 = .ok (.new 101, 3) := by decide +kernel
theorem dL_law_11 : decode cL_law 11 = .ok (.dup, 1) := by decide +kernel
theorem dL_law_12 : decode cL_law 12 = .ok (.invokespecial 103, 3) := by decide +kernel
theorem dL_law_15 : decode cL_law 15 = .ok (.astore_n 2, 1) := by decide +kernel
theorem dL_law_16 : decode cL_law 16 = .ok (.iconst 1, 1) := by decide +kernel
theorem dL_law_17 : decode cL_law 17 = .ok (.newarray .long, 2) := by decide +kernel
theorem dL_law_19 : decode cL_law 19 = .ok (.astore_n 3, 1) := by decide +kernel
theorem dL_law_20 : decode cL_law 20 = .ok (.iconst 0, 1) := by decide +kernel
theorem dL_law_21 : decode cL_law 21 = .ok (.istore 4, 2) := by decide +kernel
theorem dL_law_23 : decode cL_law 23 = .ok (.iload 4, 2) := by decide +kernel
theorem dL_law_25 : decode cL_law 25 = .ok (.aload_n 0, 1) := by decide +kernel
theorem dL_law_26 : decode cL_law 26 = .ok (.arraylength, 1) := by decide +kernel
theorem dL_law_27 : decode cL_law 27 = .ok (.iconst 5, 1) := by decide +kernel
theorem dL_law_28 : decode cL_law 28 = .ok (.isub, 1) := by decide +kernel
theorem dL_law_29 : decode cL_law 29 = .ok (.if_icmp .gt 1842, 3) := by decide +kernel
theorem dL_law_32 : decode cL_law 32 = .ok (.aload_n 0, 1) := by decide +kernel
theorem dL_law_33 : decode cL_law 33 = .ok (.iload 4, 2) := by decide +kernel
theorem dL_law_35 : decode cL_law 35 = .ok (.iaload, 1) := by decide +kernel
theorem dL_law_36 : decode cL_law 36 = .ok (.bipush 31, 2) := by decide +kernel
theorem dL_law_38 : decode cL_law 38 = .ok (.iand, 1) := by decide +kernel
theorem dL_law_39 : decode cL_law 39 = .ok (.tableswitch 1826 0 28 #[129, 185, 253, 309, 322, 366, 402, 438, 530, 621, 677, 757, 820, 876, 979, 1047, 1115, 1159, 1227, 1307, 1387, 1455, 1511, 1595, 1608, 1621, 1634, 1702, 1758], 129) := by decide +kernel
theorem dL_law_168 : decode cL_law 168 = .ok (.aload_n 1, 1) := by decide +kernel
theorem dL_law_169 : decode cL_law 169 = .ok (.aload_n 0, 1) := by decide +kernel
theorem dL_law_170 : decode cL_law 170 = .ok (.iload 4, 2) := by decide +kernel
theorem dL_law_172 : decode cL_law 172 = .ok (.iconst 1, 1) := by decide +kernel
theorem dL_law_173 : decode cL_law 173 = .ok (.iadd, 1) := by decide +kernel
theorem dL_law_174 : decode cL_law 174 = .ok (.iaload, 1) := by decide +kernel
theorem dL_law_175 : decode cL_law 175 = .ok (.aload_n 3, 1) := by decide +kernel
theorem dL_law_176 : decode cL_law 176 = .ok (.invokestatic 104, 3) := by decide +kernel
theorem dL_law_179 : decode cL_law 179 = .ok (.istore 5, 2) := by decide +kernel
theorem dL_law_181 : decode cL_law 181 = .ok (.aload_n 2, 1) := by decide +kernel
theorem dL_law_182 : decode cL_law 182 = .ok (.aload_n 0, 1) := by decide +kernel
theorem dL_law_183 : decode cL_law 183 = .ok (.iload 4, 2) := by decide +kernel
theorem dL_law_185 : decode cL_law 185 = .ok (.iconst 1, 1) := by decide +kernel
theorem dL_law_186 : decode cL_law 186 = .ok (.iadd, 1) := by decide +kernel
theorem dL_law_187 : decode cL_law 187 = .ok (.iaload, 1) := by decide +kernel
theorem dL_law_188 : decode cL_law 188 = .ok (.invokevirtual 109, 3) := by decide +kernel
theorem dL_law_191 : decode cL_law 191 = .ok (.istore 6, 2) := by decide +kernel
theorem dL_law_193 : decode cL_law 193 = .ok (.aload_n 2, 1) := by decide +kernel
theorem dL_law_194 : decode cL_law 194 = .ok (.invokevirtual 110, 3) := by decide +kernel
theorem dL_law_197 : decode cL_law 197 = .ok (.iload 5, 2) := by decide +kernel
theorem dL_law_199 : decode cL_law 199 = .ok (.if_icmp .eq 5, 3) := by decide +kernel
theorem dL_law_202 : decode cL_law 202 = .ok (.iconst 0, 1) := by decide +kernel
theorem dL_law_203 : decode cL_law 203 = .ok (.ireturn, 1) := by decide +kernel
theorem dL_law_204 : decode cL_law 204 = .ok (.iload 5, 2) := by decide +kernel
theorem dL_law_206 : decode cL_law 206 = .ok (.ifCond .ne 15, 3) := by decide +kernel
theorem dL_law_209 : decode cL_law 209 = .ok (.aload_n 3, 1) := by decide +kernel
theorem dL_law_210 : decode cL_law 210 = .ok (.iconst 0, 1) := by decide +kernel
theorem dL_law_211 : decode cL_law 211 = .ok (.laload, 1) := by decide +kernel
theorem dL_law_212 : decode cL_law 212 = .ok (.iload 6, 2) := by decide +kernel
theorem dL_law_214 : decode cL_law 214 = .ok (.i2l, 1) := by decide +kernel
theorem dL_law_215 : decode cL_law 215 = .ok (.lcmp, 1) := by decide +kernel
theorem dL_law_216 : decode cL_law 216 = .ok (.ifCond .eq 5, 3) := by decide +kernel
theorem dL_law_219 : decode cL_law 219 = .ok (.iconst 0, 1) := by decide +kernel
theorem dL_law_220 : decode cL_law 220 = .ok (.ireturn, 1) := by decide +kernel
theorem dL_law_221 : decode cL_law 221 = .ok (.goto 1644, 3) := by decide +kernel
theorem dL_law_224 : decode cL_law 224 = .ok (.aload_n 1, 1) := by decide +kernel
theorem dL_law_225 : decode cL_law 225 = .ok (.aload_n 0, 1) := by decide +kernel
theorem dL_law_226 : decode cL_law 226 = .ok (.iload 4, 2) := by decide +kernel
theorem dL_law_228 : decode cL_law 228 = .ok (.iconst 1, 1) := by decide +kernel
theorem dL_law_229 : decode cL_law 229 = .ok (.iadd, 1) := by decide +kernel
theorem dL_law_230 : decode cL_law 230 = .ok (.iaload, 1) := by decide +kernel
theorem dL_law_231 : decode cL_law 231 = .ok (.aload_n 0, 1) := by decide +kernel
theorem dL_law_232 : decode cL_law 232 = .ok (.iload 4, 2) := by decide +kernel
theorem dL_law_234 : decode cL_law 234 = .ok (.iconst 2, 1) := by decide +kernel
theorem dL_law_235 : decode cL_law 235 = .ok (.iadd, 1) := by decide +kernel
theorem dL_law_236 : decode cL_law 236 = .ok (.iaload, 1) := by decide +kernel
theorem dL_law_237 : decode cL_law 237 = .ok (.aload_n 3, 1) := by decide +kernel
theorem dL_law_238 : decode cL_law 238 = .ok (.invokestatic 113, 3) := by decide +kernel
theorem dL_law_241 : decode cL_law 241 = .ok (.istore 5, 2) := by decide +kernel
theorem dL_law_243 : decode cL_law 243 = .ok (.aload_n 2, 1) := by decide +kernel
theorem dL_law_244 : decode cL_law 244 = .ok (.aload_n 0, 1) := by decide +kernel
theorem dL_law_245 : decode cL_law 245 = .ok (.iload 4, 2) := by decide +kernel
theorem dL_law_247 : decode cL_law 247 = .ok (.iconst 1, 1) := by decide +kernel
theorem dL_law_248 : decode cL_law 248 = .ok (.iadd, 1) := by decide +kernel
theorem dL_law_249 : decode cL_law 249 = .ok (.iaload, 1) := by decide +kernel
theorem dL_law_250 : decode cL_law 250 = .ok (.aload_n 0, 1) := by decide +kernel
theorem dL_law_251 : decode cL_law 251 = .ok (.iload 4, 2) := by decide +kernel
theorem dL_law_253 : decode cL_law 253 = .ok (.iconst 2, 1) := by decide +kernel
theorem dL_law_254 : decode cL_law 254 = .ok (.iadd, 1) := by decide +kernel
theorem dL_law_255 : decode cL_law 255 = .ok (.iaload, 1) := by decide +kernel
theorem dL_law_256 : decode cL_law 256 = .ok (.invokevirtual 116, 3) := by decide +kernel
theorem dL_law_259 : decode cL_law 259 = .ok (.istore 6, 2) := by decide +kernel
theorem dL_law_261 : decode cL_law 261 = .ok (.aload_n 2, 1) := by decide +kernel
theorem dL_law_262 : decode cL_law 262 = .ok (.invokevirtual 110, 3) := by decide +kernel
theorem dL_law_265 : decode cL_law 265 = .ok (.iload 5, 2) := by decide +kernel
theorem dL_law_267 : decode cL_law 267 = .ok (.if_icmp .eq 5, 3) := by decide +kernel
theorem dL_law_270 : decode cL_law 270 = .ok (.iconst 0, 1) := by decide +kernel
theorem dL_law_271 : decode cL_law 271 = .ok (.ireturn, 1) := by decide +kernel
theorem dL_law_272 : decode cL_law 272 = .ok (.iload 5, 2) := by decide +kernel
theorem dL_law_274 : decode cL_law 274 = .ok (.ifCond .ne 15, 3) := by decide +kernel
theorem dL_law_277 : decode cL_law 277 = .ok (.aload_n 3, 1) := by decide +kernel
theorem dL_law_278 : decode cL_law 278 = .ok (.iconst 0, 1) := by decide +kernel
theorem dL_law_279 : decode cL_law 279 = .ok (.laload, 1) := by decide +kernel
theorem dL_law_280 : decode cL_law 280 = .ok (.iload 6, 2) := by decide +kernel
theorem dL_law_282 : decode cL_law 282 = .ok (.i2l, 1) := by decide +kernel
theorem dL_law_283 : decode cL_law 283 = .ok (.lcmp, 1) := by decide +kernel
theorem dL_law_284 : decode cL_law 284 = .ok (.ifCond .eq 5, 3) := by decide +kernel
theorem dL_law_287 : decode cL_law 287 = .ok (.iconst 0, 1) := by decide +kernel
theorem dL_law_288 : decode cL_law 288 = .ok (.ireturn, 1) := by decide +kernel
theorem dL_law_289 : decode cL_law 289 = .ok (.goto 1576, 3) := by decide +kernel
theorem dL_law_292 : decode cL_law 292 = .ok (.aload_n 1, 1) := by decide +kernel
theorem dL_law_293 : decode cL_law 293 = .ok (.aload_n 0, 1) := by decide +kernel
theorem dL_law_294 : decode cL_law 294 = .ok (.iload 4, 2) := by decide +kernel
theorem dL_law_296 : decode cL_law 296 = .ok (.iconst 1, 1) := by decide +kernel
theorem dL_law_297 : decode cL_law 297 = .ok (.iadd, 1) := by decide +kernel
theorem dL_law_298 : decode cL_law 298 = .ok (.iaload, 1) := by decide +kernel
theorem dL_law_299 : decode cL_law 299 = .ok (.aload_n 3, 1) := by decide +kernel
theorem dL_law_300 : decode cL_law 300 = .ok (.invokestatic 117, 3) := by decide +kernel
theorem dL_law_303 : decode cL_law 303 = .ok (.istore 5, 2) := by decide +kernel
theorem dL_law_305 : decode cL_law 305 = .ok (.aload_n 2, 1) := by decide +kernel
theorem dL_law_306 : decode cL_law 306 = .ok (.aload_n 0, 1) := by decide +kernel
theorem dL_law_307 : decode cL_law 307 = .ok (.iload 4, 2) := by decide +kernel
theorem dL_law_309 : decode cL_law 309 = .ok (.iconst 1, 1) := by decide +kernel
theorem dL_law_310 : decode cL_law 310 = .ok (.iadd, 1) := by decide +kernel
theorem dL_law_311 : decode cL_law 311 = .ok (.iaload, 1) := by decide +kernel
theorem dL_law_312 : decode cL_law 312 = .ok (.invokevirtual 119, 3) := by decide +kernel
theorem dL_law_315 : decode cL_law 315 = .ok (.istore 6, 2) := by decide +kernel
theorem dL_law_317 : decode cL_law 317 = .ok (.aload_n 2, 1) := by decide +kernel
theorem dL_law_318 : decode cL_law 318 = .ok (.invokevirtual 110, 3) := by decide +kernel
theorem dL_law_321 : decode cL_law 321 = .ok (.iload 5, 2) := by decide +kernel
theorem dL_law_323 : decode cL_law 323 = .ok (.if_icmp .eq 5, 3) := by decide +kernel
theorem dL_law_326 : decode cL_law 326 = .ok (.iconst 0, 1) := by decide +kernel
theorem dL_law_327 : decode cL_law 327 = .ok (.ireturn, 1) := by decide +kernel
theorem dL_law_328 : decode cL_law 328 = .ok (.iload 5, 2) := by decide +kernel
theorem dL_law_330 : decode cL_law 330 = .ok (.ifCond .ne 15, 3) := by decide +kernel
theorem dL_law_333 : decode cL_law 333 = .ok (.aload_n 3, 1) := by decide +kernel
theorem dL_law_334 : decode cL_law 334 = .ok (.iconst 0, 1) := by decide +kernel
theorem dL_law_335 : decode cL_law 335 = .ok (.laload, 1) := by decide +kernel
theorem dL_law_336 : decode cL_law 336 = .ok (.iload 6, 2) := by decide +kernel
theorem dL_law_338 : decode cL_law 338 = .ok (.i2l, 1) := by decide +kernel
theorem dL_law_339 : decode cL_law 339 = .ok (.lcmp, 1) := by decide +kernel
theorem dL_law_340 : decode cL_law 340 = .ok (.ifCond .eq 5, 3) := by decide +kernel
theorem dL_law_343 : decode cL_law 343 = .ok (.iconst 0, 1) := by decide +kernel
theorem dL_law_344 : decode cL_law 344 = .ok (.ireturn, 1) := by decide +kernel
theorem dL_law_345 : decode cL_law 345 = .ok (.goto 1520, 3) := by decide +kernel
theorem dL_law_348 : decode cL_law 348 = .ok (.aload_n 1, 1) := by decide +kernel
theorem dL_law_349 : decode cL_law 349 = .ok (.invokevirtual 120, 3) := by decide +kernel
theorem dL_law_352 : decode cL_law 352 = .ok (.aload_n 2, 1) := by decide +kernel
theorem dL_law_353 : decode cL_law 353 = .ok (.invokevirtual 123, 3) := by decide +kernel
theorem dL_law_356 : decode cL_law 356 = .ok (.if_icmp .eq 1509, 3) := by decide +kernel
theorem dL_law_359 : decode cL_law 359 = .ok (.iconst 0, 1) := by decide +kernel
theorem dL_law_360 : decode cL_law 360 = .ok (.ireturn, 1) := by decide +kernel
theorem dL_law_361 : decode cL_law 361 = .ok (.aload_n 1, 1) := by decide +kernel
theorem dL_law_362 : decode cL_law 362 = .ok (.aload_n 3, 1) := by decide +kernel
theorem dL_law_363 : decode cL_law 363 = .ok (.invokestatic 124, 3) := by decide +kernel
theorem dL_law_366 : decode cL_law 366 = .ok (.istore 5, 2) := by decide +kernel
theorem dL_law_368 : decode cL_law 368 = .ok (.aload_n 2, 1) := by decide +kernel
theorem dL_law_369 : decode cL_law 369 = .ok (.invokevirtual 127, 3) := by decide +kernel
theorem dL_law_372 : decode cL_law 372 = .ok (.istore 6, 2) := by decide +kernel
theorem dL_law_374 : decode cL_law 374 = .ok (.aload_n 2, 1) := by decide +kernel
theorem dL_law_375 : decode cL_law 375 = .ok (.invokevirtual 110, 3) := by decide +kernel
theorem dL_law_378 : decode cL_law 378 = .ok (.iload 5, 2) := by decide +kernel
theorem dL_law_380 : decode cL_law 380 = .ok (.if_icmp .eq 5, 3) := by decide +kernel
theorem dL_law_383 : decode cL_law 383 = .ok (.iconst 0, 1) := by decide +kernel
theorem dL_law_384 : decode cL_law 384 = .ok (.ireturn, 1) := by decide +kernel
theorem dL_law_385 : decode cL_law 385 = .ok (.iload 5, 2) := by decide +kernel
theorem dL_law_387 : decode cL_law 387 = .ok (.ifCond .ne 15, 3) := by decide +kernel
theorem dL_law_390 : decode cL_law 390 = .ok (.aload_n 3, 1) := by decide +kernel
theorem dL_law_391 : decode cL_law 391 = .ok (.iconst 0, 1) := by decide +kernel
theorem dL_law_392 : decode cL_law 392 = .ok (.laload, 1) := by decide +kernel
theorem dL_law_393 : decode cL_law 393 = .ok (.iload 6, 2) := by decide +kernel
theorem dL_law_395 : decode cL_law 395 = .ok (.i2l, 1) := by decide +kernel
theorem dL_law_396 : decode cL_law 396 = .ok (.lcmp, 1) := by decide +kernel
theorem dL_law_397 : decode cL_law 397 = .ok (.ifCond .eq 5, 3) := by decide +kernel
theorem dL_law_400 : decode cL_law 400 = .ok (.iconst 0, 1) := by decide +kernel
theorem dL_law_401 : decode cL_law 401 = .ok (.ireturn, 1) := by decide +kernel
theorem dL_law_402 : decode cL_law 402 = .ok (.goto 1463, 3) := by decide +kernel
theorem dL_law_405 : decode cL_law 405 = .ok (.aload_n 1, 1) := by decide +kernel
theorem dL_law_406 : decode cL_law 406 = .ok (.aload_n 0, 1) := by decide +kernel
theorem dL_law_407 : decode cL_law 407 = .ok (.iload 4, 2) := by decide +kernel
theorem dL_law_409 : decode cL_law 409 = .ok (.iconst 1, 1) := by decide +kernel
theorem dL_law_410 : decode cL_law 410 = .ok (.iadd, 1) := by decide +kernel
theorem dL_law_411 : decode cL_law 411 = .ok (.iaload, 1) := by decide +kernel
theorem dL_law_412 : decode cL_law 412 = .ok (.invokestatic 128, 3) := by decide +kernel
theorem dL_law_415 : decode cL_law 415 = .ok (.istore 5, 2) := by decide +kernel
theorem dL_law_417 : decode cL_law 417 = .ok (.aload_n 2, 1) := by decide +kernel
theorem dL_law_418 : decode cL_law 418 = .ok (.aload_n 0, 1) := by decide +kernel
theorem dL_law_419 : decode cL_law 419 = .ok (.iload 4, 2) := by decide +kernel
theorem dL_law_421 : decode cL_law 421 = .ok (.iconst 1, 1) := by decide +kernel
theorem dL_law_422 : decode cL_law 422 = .ok (.iadd, 1) := by decide +kernel
theorem dL_law_423 : decode cL_law 423 = .ok (.iaload, 1) := by decide +kernel
theorem dL_law_424 : decode cL_law 424 = .ok (.invokevirtual 131, 3) := by decide +kernel
theorem dL_law_427 : decode cL_law 427 = .ok (.aload_n 2, 1) := by decide +kernel
theorem dL_law_428 : decode cL_law 428 = .ok (.invokevirtual 110, 3) := by decide +kernel
theorem dL_law_431 : decode cL_law 431 = .ok (.iload 5, 2) := by decide +kernel
theorem dL_law_433 : decode cL_law 433 = .ok (.if_icmp .eq 5, 3) := by decide +kernel
theorem dL_law_436 : decode cL_law 436 = .ok (.iconst 0, 1) := by decide +kernel
theorem dL_law_437 : decode cL_law 437 = .ok (.ireturn, 1) := by decide +kernel
theorem dL_law_438 : decode cL_law 438 = .ok (.goto 1427, 3) := by decide +kernel
theorem dL_law_441 : decode cL_law 441 = .ok (.aload_n 1, 1) := by decide +kernel
theorem dL_law_442 : decode cL_law 442 = .ok (.aload_n 0, 1) := by decide +kernel
theorem dL_law_443 : decode cL_law 443 = .ok (.iload 4, 2) := by decide +kernel
theorem dL_law_445 : decode cL_law 445 = .ok (.iconst 1, 1) := by decide +kernel
theorem dL_law_446 : decode cL_law 446 = .ok (.iadd, 1) := by decide +kernel
theorem dL_law_447 : decode cL_law 447 = .ok (.iaload, 1) := by decide +kernel
theorem dL_law_448 : decode cL_law 448 = .ok (.invokestatic 132, 3) := by decide +kernel
theorem dL_law_451 : decode cL_law 451 = .ok (.istore 5, 2) := by decide +kernel
theorem dL_law_453 : decode cL_law 453 = .ok (.aload_n 2, 1) := by decide +kernel
theorem dL_law_454 : decode cL_law 454 = .ok (.aload_n 0, 1) := by decide +kernel
theorem dL_law_455 : decode cL_law 455 = .ok (.iload 4, 2) := by decide +kernel
theorem dL_law_457 : decode cL_law 457 = .ok (.iconst 1, 1) := by decide +kernel
theorem dL_law_458 : decode cL_law 458 = .ok (.iadd, 1) := by decide +kernel
theorem dL_law_459 : decode cL_law 459 = .ok (.iaload, 1) := by decide +kernel
theorem dL_law_460 : decode cL_law 460 = .ok (.invokevirtual 134, 3) := by decide +kernel
theorem dL_law_463 : decode cL_law 463 = .ok (.aload_n 2, 1) := by decide +kernel
theorem dL_law_464 : decode cL_law 464 = .ok (.invokevirtual 110, 3) := by decide +kernel
theorem dL_law_467 : decode cL_law 467 = .ok (.iload 5, 2) := by decide +kernel
theorem dL_law_469 : decode cL_law 469 = .ok (.if_icmp .eq 5, 3) := by decide +kernel
theorem dL_law_472 : decode cL_law 472 = .ok (.iconst 0, 1) := by decide +kernel
theorem dL_law_473 : decode cL_law 473 = .ok (.ireturn, 1) := by decide +kernel
theorem dL_law_474 : decode cL_law 474 = .ok (.goto 1391, 3) := by decide +kernel
theorem dL_law_477 : decode cL_law 477 = .ok (.aload_n 1, 1) := by decide +kernel
theorem dL_law_478 : decode cL_law 478 = .ok (.aload_n 0, 1) := by decide +kernel
theorem dL_law_479 : decode cL_law 479 = .ok (.iload 4, 2) := by decide +kernel
theorem dL_law_481 : decode cL_law 481 = .ok (.iconst 1, 1) := by decide +kernel
theorem dL_law_482 : decode cL_law 482 = .ok (.iadd, 1) := by decide +kernel
theorem dL_law_483 : decode cL_law 483 = .ok (.iaload, 1) := by decide +kernel
theorem dL_law_484 : decode cL_law 484 = .ok (.aload_n 0, 1) := by decide +kernel
theorem dL_law_485 : decode cL_law 485 = .ok (.iload 4, 2) := by decide +kernel
theorem dL_law_487 : decode cL_law 487 = .ok (.iconst 2, 1) := by decide +kernel
theorem dL_law_488 : decode cL_law 488 = .ok (.iadd, 1) := by decide +kernel
theorem dL_law_489 : decode cL_law 489 = .ok (.iaload, 1) := by decide +kernel
theorem dL_law_490 : decode cL_law 490 = .ok (.aload_n 0, 1) := by decide +kernel
theorem dL_law_491 : decode cL_law 491 = .ok (.iload 4, 2) := by decide +kernel
theorem dL_law_493 : decode cL_law 493 = .ok (.iconst 3, 1) := by decide +kernel
theorem dL_law_494 : decode cL_law 494 = .ok (.iadd, 1) := by decide +kernel
theorem dL_law_495 : decode cL_law 495 = .ok (.iaload, 1) := by decide +kernel
theorem dL_law_496 : decode cL_law 496 = .ok (.aload_n 0, 1) := by decide +kernel
theorem dL_law_497 : decode cL_law 497 = .ok (.iload 4, 2) := by decide +kernel
theorem dL_law_499 : decode cL_law 499 = .ok (.iconst 4, 1) := by decide +kernel
theorem dL_law_500 : decode cL_law 500 = .ok (.iadd, 1) := by decide +kernel
theorem dL_law_501 : decode cL_law 501 = .ok (.iaload, 1) := by decide +kernel
theorem dL_law_502 : decode cL_law 502 = .ok (.aload_n 3, 1) := by decide +kernel
theorem dL_law_503 : decode cL_law 503 = .ok (.invokestatic 135, 3) := by decide +kernel
theorem dL_law_506 : decode cL_law 506 = .ok (.istore 5, 2) := by decide +kernel
theorem dL_law_508 : decode cL_law 508 = .ok (.aload_n 2, 1) := by decide +kernel
theorem dL_law_509 : decode cL_law 509 = .ok (.aload_n 0, 1) := by decide +kernel
theorem dL_law_510 : decode cL_law 510 = .ok (.iload 4, 2) := by decide +kernel
theorem dL_law_512 : decode cL_law 512 = .ok (.iconst 1, 1) := by decide +kernel
theorem dL_law_513 : decode cL_law 513 = .ok (.iadd, 1) := by decide +kernel
theorem dL_law_514 : decode cL_law 514 = .ok (.iaload, 1) := by decide +kernel
theorem dL_law_515 : decode cL_law 515 = .ok (.aload_n 0, 1) := by decide +kernel
theorem dL_law_516 : decode cL_law 516 = .ok (.iload 4, 2) := by decide +kernel
theorem dL_law_518 : decode cL_law 518 = .ok (.iconst 2, 1) := by decide +kernel
theorem dL_law_519 : decode cL_law 519 = .ok (.iadd, 1) := by decide +kernel
theorem dL_law_520 : decode cL_law 520 = .ok (.iaload, 1) := by decide +kernel
theorem dL_law_521 : decode cL_law 521 = .ok (.aload_n 0, 1) := by decide +kernel
theorem dL_law_522 : decode cL_law 522 = .ok (.iload 4, 2) := by decide +kernel
theorem dL_law_524 : decode cL_law 524 = .ok (.iconst 3, 1) := by decide +kernel
theorem dL_law_525 : decode cL_law 525 = .ok (.iadd, 1) := by decide +kernel
theorem dL_law_526 : decode cL_law 526 = .ok (.iaload, 1) := by decide +kernel
theorem dL_law_527 : decode cL_law 527 = .ok (.aload_n 0, 1) := by decide +kernel
theorem dL_law_528 : decode cL_law 528 = .ok (.iload 4, 2) := by decide +kernel
theorem dL_law_530 : decode cL_law 530 = .ok (.iconst 4, 1) := by decide +kernel
theorem dL_law_531 : decode cL_law 531 = .ok (.iadd, 1) := by decide +kernel
theorem dL_law_532 : decode cL_law 532 = .ok (.iaload, 1) := by decide +kernel
theorem dL_law_533 : decode cL_law 533 = .ok (.invokevirtual 138, 3) := by decide +kernel
theorem dL_law_536 : decode cL_law 536 = .ok (.istore 6, 2) := by decide +kernel
theorem dL_law_538 : decode cL_law 538 = .ok (.aload_n 2, 1) := by decide +kernel
theorem dL_law_539 : decode cL_law 539 = .ok (.invokevirtual 110, 3) := by decide +kernel
theorem dL_law_542 : decode cL_law 542 = .ok (.iload 5, 2) := by decide +kernel
theorem dL_law_544 : decode cL_law 544 = .ok (.if_icmp .eq 5, 3) := by decide +kernel
theorem dL_law_547 : decode cL_law 547 = .ok (.iconst 0, 1) := by decide +kernel
theorem dL_law_548 : decode cL_law 548 = .ok (.ireturn, 1) := by decide +kernel
theorem dL_law_549 : decode cL_law 549 = .ok (.iload 5, 2) := by decide +kernel
theorem dL_law_551 : decode cL_law 551 = .ok (.ifCond .ne 15, 3) := by decide +kernel
theorem dL_law_554 : decode cL_law 554 = .ok (.aload_n 3, 1) := by decide +kernel
theorem dL_law_555 : decode cL_law 555 = .ok (.iconst 0, 1) := by decide +kernel
theorem dL_law_556 : decode cL_law 556 = .ok (.laload, 1) := by decide +kernel
theorem dL_law_557 : decode cL_law 557 = .ok (.iload 6, 2) := by decide +kernel
theorem dL_law_559 : decode cL_law 559 = .ok (.i2l, 1) := by decide +kernel
theorem dL_law_560 : decode cL_law 560 = .ok (.lcmp, 1) := by decide +kernel
theorem dL_law_561 : decode cL_law 561 = .ok (.ifCond .eq 5, 3) := by decide +kernel
theorem dL_law_564 : decode cL_law 564 = .ok (.iconst 0, 1) := by decide +kernel
theorem dL_law_565 : decode cL_law 565 = .ok (.ireturn, 1) := by decide +kernel
theorem dL_law_566 : decode cL_law 566 = .ok (.goto 1299, 3) := by decide +kernel
theorem dL_law_569 : decode cL_law 569 = .ok (.aload_n 1, 1) := by decide +kernel
theorem dL_law_570 : decode cL_law 570 = .ok (.aload_n 0, 1) := by decide +kernel
theorem dL_law_571 : decode cL_law 571 = .ok (.iload 4, 2) := by decide +kernel
theorem dL_law_573 : decode cL_law 573 = .ok (.iconst 1, 1) := by decide +kernel
theorem dL_law_574 : decode cL_law 574 = .ok (.iadd, 1) := by decide +kernel
theorem dL_law_575 : decode cL_law 575 = .ok (.iaload, 1) := by decide +kernel
theorem dL_law_576 : decode cL_law 576 = .ok (.aload_n 0, 1) := by decide +kernel
theorem dL_law_577 : decode cL_law 577 = .ok (.iload 4, 2) := by decide +kernel
theorem dL_law_579 : decode cL_law 579 = .ok (.iconst 2, 1) := by decide +kernel
theorem dL_law_580 : decode cL_law 580 = .ok (.iadd, 1) := by decide +kernel
theorem dL_law_581 : decode cL_law 581 = .ok (.iaload, 1) := by decide +kernel
theorem dL_law_582 : decode cL_law 582 = .ok (.ifCond .eq 7, 3) := by decide +kernel
theorem dL_law_585 : decode cL_law 585 = .ok (.iconst 1, 1) := by decide +kernel
theorem dL_law_586 : decode cL_law 586 = .ok (.goto 4, 3) := by decide +kernel
theorem dL_law_589 : decode cL_law 589 = .ok (.iconst 0, 1) := by decide +kernel
theorem dL_law_590 : decode cL_law 590 = .ok (.aload_n 3, 1) := by decide +kernel
theorem dL_law_591 : decode cL_law 591 = .ok (.invokestatic 139, 3) := by decide +kernel
theorem dL_law_594 : decode cL_law 594 = .ok (.istore 5, 2) := by decide +kernel
theorem dL_law_596 : decode cL_law 596 = .ok (.aload_n 2, 1) := by decide +kernel
theorem dL_law_597 : decode cL_law 597 = .ok (.aload_n 0, 1) := by decide +kernel
theorem dL_law_598 : decode cL_law 598 = .ok (.iload 4, 2) := by decide +kernel
theorem dL_law_600 : decode cL_law 600 = .ok (.iconst 1, 1) := by decide +kernel
theorem dL_law_601 : decode cL_law 601 = .ok (.iadd, 1) := by decide +kernel
theorem dL_law_602 : decode cL_law 602 = .ok (.iaload, 1) := by decide +kernel
theorem dL_law_603 : decode cL_law 603 = .ok (.aload_n 0, 1) := by decide +kernel
theorem dL_law_604 : decode cL_law 604 = .ok (.iload 4, 2) := by decide +kernel
theorem dL_law_606 : decode cL_law 606 = .ok (.iconst 2, 1) := by decide +kernel
theorem dL_law_607 : decode cL_law 607 = .ok (.iadd, 1) := by decide +kernel
theorem dL_law_608 : decode cL_law 608 = .ok (.iaload, 1) := by decide +kernel
theorem dL_law_609 : decode cL_law 609 = .ok (.ifCond .eq 7, 3) := by decide +kernel
theorem dL_law_612 : decode cL_law 612 = .ok (.iconst 1, 1) := by decide +kernel
theorem dL_law_613 : decode cL_law 613 = .ok (.goto 4, 3) := by decide +kernel
theorem dL_law_616 : decode cL_law 616 = .ok (.iconst 0, 1) := by decide +kernel
theorem dL_law_617 : decode cL_law 617 = .ok (.invokevirtual 142, 3) := by decide +kernel
theorem dL_law_620 : decode cL_law 620 = .ok (.istore 6, 2) := by decide +kernel
theorem dL_law_622 : decode cL_law 622 = .ok (.aload_n 2, 1) := by decide +kernel
theorem dL_law_623 : decode cL_law 623 = .ok (.invokevirtual 110, 3) := by decide +kernel
theorem dL_law_626 : decode cL_law 626 = .ok (.iload 5, 2) := by decide +kernel
theorem dL_law_628 : decode cL_law 628 = .ok (.if_icmp .eq 5, 3) := by decide +kernel
theorem dL_law_631 : decode cL_law 631 = .ok (.iconst 0, 1) := by decide +kernel
theorem dL_law_632 : decode cL_law 632 = .ok (.ireturn, 1) := by decide +kernel
theorem dL_law_633 : decode cL_law 633 = .ok (.iload 5, 2) := by decide +kernel
theorem dL_law_635 : decode cL_law 635 = .ok (.ifCond .ne 22, 3) := by decide +kernel
theorem dL_law_638 : decode cL_law 638 = .ok (.aload_n 3, 1) := by decide +kernel
theorem dL_law_639 : decode cL_law 639 = .ok (.iconst 0, 1) := by decide +kernel
theorem dL_law_640 : decode cL_law 640 = .ok (.laload, 1) := by decide +kernel
theorem dL_law_641 : decode cL_law 641 = .ok (.iload 6, 2) := by decide +kernel
theorem dL_law_643 : decode cL_law 643 = .ok (.ifCond .eq 7, 3) := by decide +kernel
theorem dL_law_646 : decode cL_law 646 = .ok (.lconst 1, 1) := by decide +kernel
theorem dL_law_647 : decode cL_law 647 = .ok (.goto 4, 3) := by decide +kernel
theorem dL_law_650 : decode cL_law 650 = .ok (.lconst 0, 1) := by decide +kernel
theorem dL_law_651 : decode cL_law 651 = .ok (.lcmp, 1) := by decide +kernel
theorem dL_law_652 : decode cL_law 652 = .ok (.ifCond .eq 5, 3) := by decide +kernel
theorem dL_law_655 : decode cL_law 655 = .ok (.iconst 0, 1) := by decide +kernel
theorem dL_law_656 : decode cL_law 656 = .ok (.ireturn, 1) := by decide +kernel
theorem dL_law_657 : decode cL_law 657 = .ok (.goto 1208, 3) := by decide +kernel
theorem dL_law_660 : decode cL_law 660 = .ok (.aload_n 1, 1) := by decide +kernel
theorem dL_law_661 : decode cL_law 661 = .ok (.aload_n 0, 1) := by decide +kernel
theorem dL_law_662 : decode cL_law 662 = .ok (.iload 4, 2) := by decide +kernel
theorem dL_law_664 : decode cL_law 664 = .ok (.iconst 1, 1) := by decide +kernel
theorem dL_law_665 : decode cL_law 665 = .ok (.iadd, 1) := by decide +kernel
theorem dL_law_666 : decode cL_law 666 = .ok (.iaload, 1) := by decide +kernel
theorem dL_law_667 : decode cL_law 667 = .ok (.aload_n 3, 1) := by decide +kernel
theorem dL_law_668 : decode cL_law 668 = .ok (.invokestatic 143, 3) := by decide +kernel
theorem dL_law_671 : decode cL_law 671 = .ok (.istore 5, 2) := by decide +kernel
theorem dL_law_673 : decode cL_law 673 = .ok (.aload_n 2, 1) := by decide +kernel
theorem dL_law_674 : decode cL_law 674 = .ok (.aload_n 0, 1) := by decide +kernel
theorem dL_law_675 : decode cL_law 675 = .ok (.iload 4, 2) := by decide +kernel
theorem dL_law_677 : decode cL_law 677 = .ok (.iconst 1, 1) := by decide +kernel
theorem dL_law_678 : decode cL_law 678 = .ok (.iadd, 1) := by decide +kernel
theorem dL_law_679 : decode cL_law 679 = .ok (.iaload, 1) := by decide +kernel
theorem dL_law_680 : decode cL_law 680 = .ok (.invokevirtual 145, 3) := by decide +kernel
theorem dL_law_683 : decode cL_law 683 = .ok (.istore 6, 2) := by decide +kernel
theorem dL_law_685 : decode cL_law 685 = .ok (.aload_n 2, 1) := by decide +kernel
theorem dL_law_686 : decode cL_law 686 = .ok (.invokevirtual 110, 3) := by decide +kernel
theorem dL_law_689 : decode cL_law 689 = .ok (.iload 5, 2) := by decide +kernel
theorem dL_law_691 : decode cL_law 691 = .ok (.if_icmp .eq 5, 3) := by decide +kernel
theorem dL_law_694 : decode cL_law 694 = .ok (.iconst 0, 1) := by decide +kernel
theorem dL_law_695 : decode cL_law 695 = .ok (.ireturn, 1) := by decide +kernel
theorem dL_law_696 : decode cL_law 696 = .ok (.iload 5, 2) := by decide +kernel
theorem dL_law_698 : decode cL_law 698 = .ok (.ifCond .ne 15, 3) := by decide +kernel
theorem dL_law_701 : decode cL_law 701 = .ok (.aload_n 3, 1) := by decide +kernel
theorem dL_law_702 : decode cL_law 702 = .ok (.iconst 0, 1) := by decide +kernel
theorem dL_law_703 : decode cL_law 703 = .ok (.laload, 1) := by decide +kernel
theorem dL_law_704 : decode cL_law 704 = .ok (.iload 6, 2) := by decide +kernel
theorem dL_law_706 : decode cL_law 706 = .ok (.i2l, 1) := by decide +kernel
theorem dL_law_707 : decode cL_law 707 = .ok (.lcmp, 1) := by decide +kernel
theorem dL_law_708 : decode cL_law 708 = .ok (.ifCond .eq 5, 3) := by decide +kernel
theorem dL_law_711 : decode cL_law 711 = .ok (.iconst 0, 1) := by decide +kernel
theorem dL_law_712 : decode cL_law 712 = .ok (.ireturn, 1) := by decide +kernel
theorem dL_law_713 : decode cL_law 713 = .ok (.goto 1152, 3) := by decide +kernel
theorem dL_law_716 : decode cL_law 716 = .ok (.aload_n 1, 1) := by decide +kernel
theorem dL_law_717 : decode cL_law 717 = .ok (.aload_n 0, 1) := by decide +kernel
theorem dL_law_718 : decode cL_law 718 = .ok (.iload 4, 2) := by decide +kernel
theorem dL_law_720 : decode cL_law 720 = .ok (.iconst 1, 1) := by decide +kernel
theorem dL_law_721 : decode cL_law 721 = .ok (.iadd, 1) := by decide +kernel
theorem dL_law_722 : decode cL_law 722 = .ok (.iaload, 1) := by decide +kernel
theorem dL_law_723 : decode cL_law 723 = .ok (.aload_n 0, 1) := by decide +kernel
theorem dL_law_724 : decode cL_law 724 = .ok (.iload 4, 2) := by decide +kernel
theorem dL_law_726 : decode cL_law 726 = .ok (.iconst 2, 1) := by decide +kernel
theorem dL_law_727 : decode cL_law 727 = .ok (.iadd, 1) := by decide +kernel
theorem dL_law_728 : decode cL_law 728 = .ok (.iaload, 1) := by decide +kernel
theorem dL_law_729 : decode cL_law 729 = .ok (.aload_n 0, 1) := by decide +kernel
theorem dL_law_730 : decode cL_law 730 = .ok (.iload 4, 2) := by decide +kernel
theorem dL_law_732 : decode cL_law 732 = .ok (.iconst 3, 1) := by decide +kernel
theorem dL_law_733 : decode cL_law 733 = .ok (.iadd, 1) := by decide +kernel
theorem dL_law_734 : decode cL_law 734 = .ok (.iaload, 1) := by decide +kernel
theorem dL_law_735 : decode cL_law 735 = .ok (.aload_n 3, 1) := by decide +kernel
theorem dL_law_736 : decode cL_law 736 = .ok (.invokestatic 146, 3) := by decide +kernel
theorem dL_law_739 : decode cL_law 739 = .ok (.istore 5, 2) := by decide +kernel
theorem dL_law_741 : decode cL_law 741 = .ok (.aload_n 2, 1) := by decide +kernel
theorem dL_law_742 : decode cL_law 742 = .ok (.aload_n 0, 1) := by decide +kernel
theorem dL_law_743 : decode cL_law 743 = .ok (.iload 4, 2) := by decide +kernel
theorem dL_law_745 : decode cL_law 745 = .ok (.iconst 1, 1) := by decide +kernel
theorem dL_law_746 : decode cL_law 746 = .ok (.iadd, 1) := by decide +kernel
theorem dL_law_747 : decode cL_law 747 = .ok (.iaload, 1) := by decide +kernel
theorem dL_law_748 : decode cL_law 748 = .ok (.aload_n 0, 1) := by decide +kernel
theorem dL_law_749 : decode cL_law 749 = .ok (.iload 4, 2) := by decide +kernel
theorem dL_law_751 : decode cL_law 751 = .ok (.iconst 2, 1) := by decide +kernel
theorem dL_law_752 : decode cL_law 752 = .ok (.iadd, 1) := by decide +kernel
theorem dL_law_753 : decode cL_law 753 = .ok (.iaload, 1) := by decide +kernel
theorem dL_law_754 : decode cL_law 754 = .ok (.aload_n 0, 1) := by decide +kernel
theorem dL_law_755 : decode cL_law 755 = .ok (.iload 4, 2) := by decide +kernel
theorem dL_law_757 : decode cL_law 757 = .ok (.iconst 3, 1) := by decide +kernel
theorem dL_law_758 : decode cL_law 758 = .ok (.iadd, 1) := by decide +kernel
theorem dL_law_759 : decode cL_law 759 = .ok (.iaload, 1) := by decide +kernel
theorem dL_law_760 : decode cL_law 760 = .ok (.invokevirtual 149, 3) := by decide +kernel
theorem dL_law_763 : decode cL_law 763 = .ok (.istore 6, 2) := by decide +kernel
theorem dL_law_765 : decode cL_law 765 = .ok (.aload_n 2, 1) := by decide +kernel
theorem dL_law_766 : decode cL_law 766 = .ok (.invokevirtual 110, 3) := by decide +kernel
theorem dL_law_769 : decode cL_law 769 = .ok (.iload 5, 2) := by decide +kernel
theorem dL_law_771 : decode cL_law 771 = .ok (.if_icmp .eq 5, 3) := by decide +kernel
theorem dL_law_774 : decode cL_law 774 = .ok (.iconst 0, 1) := by decide +kernel
theorem dL_law_775 : decode cL_law 775 = .ok (.ireturn, 1) := by decide +kernel
theorem dL_law_776 : decode cL_law 776 = .ok (.iload 5, 2) := by decide +kernel
theorem dL_law_778 : decode cL_law 778 = .ok (.ifCond .ne 15, 3) := by decide +kernel
theorem dL_law_781 : decode cL_law 781 = .ok (.aload_n 3, 1) := by decide +kernel
theorem dL_law_782 : decode cL_law 782 = .ok (.iconst 0, 1) := by decide +kernel
theorem dL_law_783 : decode cL_law 783 = .ok (.laload, 1) := by decide +kernel
theorem dL_law_784 : decode cL_law 784 = .ok (.iload 6, 2) := by decide +kernel
theorem dL_law_786 : decode cL_law 786 = .ok (.i2l, 1) := by decide +kernel
theorem dL_law_787 : decode cL_law 787 = .ok (.lcmp, 1) := by decide +kernel
theorem dL_law_788 : decode cL_law 788 = .ok (.ifCond .eq 5, 3) := by decide +kernel
theorem dL_law_791 : decode cL_law 791 = .ok (.iconst 0, 1) := by decide +kernel
theorem dL_law_792 : decode cL_law 792 = .ok (.ireturn, 1) := by decide +kernel
theorem dL_law_793 : decode cL_law 793 = .ok (.goto 1072, 3) := by decide +kernel
theorem dL_law_796 : decode cL_law 796 = .ok (.aload_n 1, 1) := by decide +kernel
theorem dL_law_797 : decode cL_law 797 = .ok (.aload_n 0, 1) := by decide +kernel
theorem dL_law_798 : decode cL_law 798 = .ok (.iload 4, 2) := by decide +kernel
theorem dL_law_800 : decode cL_law 800 = .ok (.iconst 1, 1) := by decide +kernel
theorem dL_law_801 : decode cL_law 801 = .ok (.iadd, 1) := by decide +kernel
theorem dL_law_802 : decode cL_law 802 = .ok (.iaload, 1) := by decide +kernel
theorem dL_law_803 : decode cL_law 803 = .ok (.aload_n 3, 1) := by decide +kernel
theorem dL_law_804 : decode cL_law 804 = .ok (.invokestatic 150, 3) := by decide +kernel
theorem dL_law_807 : decode cL_law 807 = .ok (.istore 5, 2) := by decide +kernel
theorem dL_law_809 : decode cL_law 809 = .ok (.aload_n 2, 1) := by decide +kernel
theorem dL_law_810 : decode cL_law 810 = .ok (.aload_n 0, 1) := by decide +kernel
theorem dL_law_811 : decode cL_law 811 = .ok (.iload 4, 2) := by decide +kernel
theorem dL_law_813 : decode cL_law 813 = .ok (.iconst 1, 1) := by decide +kernel
theorem dL_law_814 : decode cL_law 814 = .ok (.iadd, 1) := by decide +kernel
theorem dL_law_815 : decode cL_law 815 = .ok (.iaload, 1) := by decide +kernel
theorem dL_law_816 : decode cL_law 816 = .ok (.invokevirtual 152, 3) := by decide +kernel
theorem dL_law_819 : decode cL_law 819 = .ok (.istore 6, 2) := by decide +kernel
theorem dL_law_821 : decode cL_law 821 = .ok (.aload_n 2, 1) := by decide +kernel
theorem dL_law_822 : decode cL_law 822 = .ok (.invokevirtual 110, 3) := by decide +kernel
theorem dL_law_825 : decode cL_law 825 = .ok (.iload 5, 2) := by decide +kernel
theorem dL_law_827 : decode cL_law 827 = .ok (.if_icmp .eq 5, 3) := by decide +kernel
theorem dL_law_830 : decode cL_law 830 = .ok (.iconst 0, 1) := by decide +kernel
theorem dL_law_831 : decode cL_law 831 = .ok (.ireturn, 1) := by decide +kernel
theorem dL_law_832 : decode cL_law 832 = .ok (.iload 5, 2) := by decide +kernel
theorem dL_law_834 : decode cL_law 834 = .ok (.ifCond .ne 22, 3) := by decide +kernel
theorem dL_law_837 : decode cL_law 837 = .ok (.aload_n 3, 1) := by decide +kernel
theorem dL_law_838 : decode cL_law 838 = .ok (.iconst 0, 1) := by decide +kernel
theorem dL_law_839 : decode cL_law 839 = .ok (.laload, 1) := by decide +kernel
theorem dL_law_840 : decode cL_law 840 = .ok (.iload 6, 2) := by decide +kernel
theorem dL_law_842 : decode cL_law 842 = .ok (.ifCond .eq 7, 3) := by decide +kernel
theorem dL_law_845 : decode cL_law 845 = .ok (.lconst 1, 1) := by decide +kernel
theorem dL_law_846 : decode cL_law 846 = .ok (.goto 4, 3) := by decide +kernel
theorem dL_law_849 : decode cL_law 849 = .ok (.lconst 0, 1) := by decide +kernel
theorem dL_law_850 : decode cL_law 850 = .ok (.lcmp, 1) := by decide +kernel
theorem dL_law_851 : decode cL_law 851 = .ok (.ifCond .eq 5, 3) := by decide +kernel
theorem dL_law_854 : decode cL_law 854 = .ok (.iconst 0, 1) := by decide +kernel
theorem dL_law_855 : decode cL_law 855 = .ok (.ireturn, 1) := by decide +kernel
theorem dL_law_856 : decode cL_law 856 = .ok (.goto 1009, 3) := by decide +kernel
theorem dL_law_859 : decode cL_law 859 = .ok (.aload_n 1, 1) := by decide +kernel
theorem dL_law_860 : decode cL_law 860 = .ok (.aload_n 0, 1) := by decide +kernel
theorem dL_law_861 : decode cL_law 861 = .ok (.iload 4, 2) := by decide +kernel
theorem dL_law_863 : decode cL_law 863 = .ok (.iconst 1, 1) := by decide +kernel
theorem dL_law_864 : decode cL_law 864 = .ok (.iadd, 1) := by decide +kernel
theorem dL_law_865 : decode cL_law 865 = .ok (.iaload, 1) := by decide +kernel
theorem dL_law_866 : decode cL_law 866 = .ok (.aload_n 3, 1) := by decide +kernel
theorem dL_law_867 : decode cL_law 867 = .ok (.invokestatic 153, 3) := by decide +kernel
theorem dL_law_870 : decode cL_law 870 = .ok (.istore 5, 2) := by decide +kernel
theorem dL_law_872 : decode cL_law 872 = .ok (.aload_n 2, 1) := by decide +kernel
theorem dL_law_873 : decode cL_law 873 = .ok (.aload_n 0, 1) := by decide +kernel
theorem dL_law_874 : decode cL_law 874 = .ok (.iload 4, 2) := by decide +kernel
theorem dL_law_876 : decode cL_law 876 = .ok (.iconst 1, 1) := by decide +kernel
theorem dL_law_877 : decode cL_law 877 = .ok (.iadd, 1) := by decide +kernel
theorem dL_law_878 : decode cL_law 878 = .ok (.iaload, 1) := by decide +kernel
theorem dL_law_879 : decode cL_law 879 = .ok (.invokevirtual 155, 3) := by decide +kernel
theorem dL_law_882 : decode cL_law 882 = .ok (.istore 6, 2) := by decide +kernel
theorem dL_law_884 : decode cL_law 884 = .ok (.aload_n 2, 1) := by decide +kernel
theorem dL_law_885 : decode cL_law 885 = .ok (.invokevirtual 110, 3) := by decide +kernel
theorem dL_law_888 : decode cL_law 888 = .ok (.iload 5, 2) := by decide +kernel
theorem dL_law_890 : decode cL_law 890 = .ok (.if_icmp .eq 5, 3) := by decide +kernel
theorem dL_law_893 : decode cL_law 893 = .ok (.iconst 0, 1) := by decide +kernel
theorem dL_law_894 : decode cL_law 894 = .ok (.ireturn, 1) := by decide +kernel
theorem dL_law_895 : decode cL_law 895 = .ok (.iload 5, 2) := by decide +kernel
theorem dL_law_897 : decode cL_law 897 = .ok (.ifCond .ne 15, 3) := by decide +kernel
theorem dL_law_900 : decode cL_law 900 = .ok (.aload_n 3, 1) := by decide +kernel
theorem dL_law_901 : decode cL_law 901 = .ok (.iconst 0, 1) := by decide +kernel
theorem dL_law_902 : decode cL_law 902 = .ok (.laload, 1) := by decide +kernel
theorem dL_law_903 : decode cL_law 903 = .ok (.iload 6, 2) := by decide +kernel
theorem dL_law_905 : decode cL_law 905 = .ok (.i2l, 1) := by decide +kernel
theorem dL_law_906 : decode cL_law 906 = .ok (.lcmp, 1) := by decide +kernel
theorem dL_law_907 : decode cL_law 907 = .ok (.ifCond .eq 5, 3) := by decide +kernel
theorem dL_law_910 : decode cL_law 910 = .ok (.iconst 0, 1) := by decide +kernel
theorem dL_law_911 : decode cL_law 911 = .ok (.ireturn, 1) := by decide +kernel
theorem dL_law_912 : decode cL_law 912 = .ok (.goto 953, 3) := by decide +kernel
theorem dL_law_915 : decode cL_law 915 = .ok (.aload_n 1, 1) := by decide +kernel
theorem dL_law_916 : decode cL_law 916 = .ok (.aload_n 0, 1) := by decide +kernel
theorem dL_law_917 : decode cL_law 917 = .ok (.iload 4, 2) := by decide +kernel
theorem dL_law_919 : decode cL_law 919 = .ok (.iconst 1, 1) := by decide +kernel
theorem dL_law_920 : decode cL_law 920 = .ok (.iadd, 1) := by decide +kernel
theorem dL_law_921 : decode cL_law 921 = .ok (.iaload, 1) := by decide +kernel
theorem dL_law_922 : decode cL_law 922 = .ok (.aload_n 0, 1) := by decide +kernel
theorem dL_law_923 : decode cL_law 923 = .ok (.iload 4, 2) := by decide +kernel
theorem dL_law_925 : decode cL_law 925 = .ok (.iconst 2, 1) := by decide +kernel
theorem dL_law_926 : decode cL_law 926 = .ok (.iadd, 1) := by decide +kernel
theorem dL_law_927 : decode cL_law 927 = .ok (.iaload, 1) := by decide +kernel
theorem dL_law_928 : decode cL_law 928 = .ok (.aload_n 0, 1) := by decide +kernel
theorem dL_law_929 : decode cL_law 929 = .ok (.iload 4, 2) := by decide +kernel
theorem dL_law_931 : decode cL_law 931 = .ok (.iconst 3, 1) := by decide +kernel
theorem dL_law_932 : decode cL_law 932 = .ok (.iadd, 1) := by decide +kernel
theorem dL_law_933 : decode cL_law 933 = .ok (.iaload, 1) := by decide +kernel
theorem dL_law_934 : decode cL_law 934 = .ok (.ifCond .eq 7, 3) := by decide +kernel
theorem dL_law_937 : decode cL_law 937 = .ok (.iconst 1, 1) := by decide +kernel
theorem dL_law_938 : decode cL_law 938 = .ok (.goto 4, 3) := by decide +kernel
theorem dL_law_941 : decode cL_law 941 = .ok (.iconst 0, 1) := by decide +kernel
theorem dL_law_942 : decode cL_law 942 = .ok (.aload_n 3, 1) := by decide +kernel
theorem dL_law_943 : decode cL_law 943 = .ok (.invokestatic 156, 3) := by decide +kernel
theorem dL_law_946 : decode cL_law 946 = .ok (.istore 5, 2) := by decide +kernel
theorem dL_law_948 : decode cL_law 948 = .ok (.aload_n 2, 1) := by decide +kernel
theorem dL_law_949 : decode cL_law 949 = .ok (.aload_n 0, 1) := by decide +kernel
theorem dL_law_950 : decode cL_law 950 = .ok (.iload 4, 2) := by decide +kernel
theorem dL_law_952 : decode cL_law 952 = .ok (.iconst 1, 1) := by decide +kernel
theorem dL_law_953 : decode cL_law 953 = .ok (.iadd, 1) := by decide +kernel
theorem dL_law_954 : decode cL_law 954 = .ok (.iaload, 1) := by decide +kernel
theorem dL_law_955 : decode cL_law 955 = .ok (.aload_n 0, 1) := by decide +kernel
theorem dL_law_956 : decode cL_law 956 = .ok (.iload 4, 2) := by decide +kernel
theorem dL_law_958 : decode cL_law 958 = .ok (.iconst 2, 1) := by decide +kernel
theorem dL_law_959 : decode cL_law 959 = .ok (.iadd, 1) := by decide +kernel
theorem dL_law_960 : decode cL_law 960 = .ok (.iaload, 1) := by decide +kernel
theorem dL_law_961 : decode cL_law 961 = .ok (.aload_n 0, 1) := by decide +kernel
theorem dL_law_962 : decode cL_law 962 = .ok (.iload 4, 2) := by decide +kernel
theorem dL_law_964 : decode cL_law 964 = .ok (.iconst 3, 1) := by decide +kernel
theorem dL_law_965 : decode cL_law 965 = .ok (.iadd, 1) := by decide +kernel
theorem dL_law_966 : decode cL_law 966 = .ok (.iaload, 1) := by decide +kernel
theorem dL_law_967 : decode cL_law 967 = .ok (.ifCond .eq 7, 3) := by decide +kernel
theorem dL_law_970 : decode cL_law 970 = .ok (.iconst 1, 1) := by decide +kernel
theorem dL_law_971 : decode cL_law 971 = .ok (.goto 4, 3) := by decide +kernel
theorem dL_law_974 : decode cL_law 974 = .ok (.iconst 0, 1) := by decide +kernel
theorem dL_law_975 : decode cL_law 975 = .ok (.invokevirtual 159, 3) := by decide +kernel
theorem dL_law_978 : decode cL_law 978 = .ok (.istore 6, 2) := by decide +kernel
theorem dL_law_980 : decode cL_law 980 = .ok (.aload_n 2, 1) := by decide +kernel
theorem dL_law_981 : decode cL_law 981 = .ok (.invokevirtual 110, 3) := by decide +kernel
theorem dL_law_984 : decode cL_law 984 = .ok (.iload 5, 2) := by decide +kernel
theorem dL_law_986 : decode cL_law 986 = .ok (.if_icmp .eq 5, 3) := by decide +kernel
theorem dL_law_989 : decode cL_law 989 = .ok (.iconst 0, 1) := by decide +kernel
theorem dL_law_990 : decode cL_law 990 = .ok (.ireturn, 1) := by decide +kernel
theorem dL_law_991 : decode cL_law 991 = .ok (.iload 5, 2) := by decide +kernel
theorem dL_law_993 : decode cL_law 993 = .ok (.ifCond .ne 22, 3) := by decide +kernel
theorem dL_law_996 : decode cL_law 996 = .ok (.aload_n 3, 1) := by decide +kernel
theorem dL_law_997 : decode cL_law 997 = .ok (.iconst 0, 1) := by decide +kernel
theorem dL_law_998 : decode cL_law 998 = .ok (.laload, 1) := by decide +kernel
theorem dL_law_999 : decode cL_law 999 = .ok (.iload 6, 2) := by decide +kernel
theorem dL_law_1001 : decode cL_law 1001 = .ok (.ifCond .eq 7, 3) := by decide +kernel
theorem dL_law_1004 : decode cL_law 1004 = .ok (.lconst 1, 1) := by decide +kernel
theorem dL_law_1005 : decode cL_law 1005 = .ok (.goto 4, 3) := by decide +kernel
theorem dL_law_1008 : decode cL_law 1008 = .ok (.lconst 0, 1) := by decide +kernel
theorem dL_law_1009 : decode cL_law 1009 = .ok (.lcmp, 1) := by decide +kernel
theorem dL_law_1010 : decode cL_law 1010 = .ok (.ifCond .eq 5, 3) := by decide +kernel
theorem dL_law_1013 : decode cL_law 1013 = .ok (.iconst 0, 1) := by decide +kernel
theorem dL_law_1014 : decode cL_law 1014 = .ok (.ireturn, 1) := by decide +kernel
theorem dL_law_1015 : decode cL_law 1015 = .ok (.goto 850, 3) := by decide +kernel
theorem dL_law_1018 : decode cL_law 1018 = .ok (.aload_n 1, 1) := by decide +kernel
theorem dL_law_1019 : decode cL_law 1019 = .ok (.aload_n 0, 1) := by decide +kernel
theorem dL_law_1020 : decode cL_law 1020 = .ok (.iload 4, 2) := by decide +kernel
theorem dL_law_1022 : decode cL_law 1022 = .ok (.iconst 1, 1) := by decide +kernel
theorem dL_law_1023 : decode cL_law 1023 = .ok (.iadd, 1) := by decide +kernel
theorem dL_law_1024 : decode cL_law 1024 = .ok (.iaload, 1) := by decide +kernel
theorem dL_law_1025 : decode cL_law 1025 = .ok (.aload_n 0, 1) := by decide +kernel
theorem dL_law_1026 : decode cL_law 1026 = .ok (.iload 4, 2) := by decide +kernel
theorem dL_law_1028 : decode cL_law 1028 = .ok (.iconst 2, 1) := by decide +kernel
theorem dL_law_1029 : decode cL_law 1029 = .ok (.iadd, 1) := by decide +kernel
theorem dL_law_1030 : decode cL_law 1030 = .ok (.iaload, 1) := by decide +kernel
theorem dL_law_1031 : decode cL_law 1031 = .ok (.aload_n 3, 1) := by decide +kernel
theorem dL_law_1032 : decode cL_law 1032 = .ok (.invokestatic 160, 3) := by decide +kernel
theorem dL_law_1035 : decode cL_law 1035 = .ok (.istore 5, 2) := by decide +kernel
theorem dL_law_1037 : decode cL_law 1037 = .ok (.aload_n 2, 1) := by decide +kernel
theorem dL_law_1038 : decode cL_law 1038 = .ok (.aload_n 0, 1) := by decide +kernel
theorem dL_law_1039 : decode cL_law 1039 = .ok (.iload 4, 2) := by decide +kernel
theorem dL_law_1041 : decode cL_law 1041 = .ok (.iconst 1, 1) := by decide +kernel
theorem dL_law_1042 : decode cL_law 1042 = .ok (.iadd, 1) := by decide +kernel
theorem dL_law_1043 : decode cL_law 1043 = .ok (.iaload, 1) := by decide +kernel
theorem dL_law_1044 : decode cL_law 1044 = .ok (.aload_n 0, 1) := by decide +kernel
theorem dL_law_1045 : decode cL_law 1045 = .ok (.iload 4, 2) := by decide +kernel
theorem dL_law_1047 : decode cL_law 1047 = .ok (.iconst 2, 1) := by decide +kernel
theorem dL_law_1048 : decode cL_law 1048 = .ok (.iadd, 1) := by decide +kernel
theorem dL_law_1049 : decode cL_law 1049 = .ok (.iaload, 1) := by decide +kernel
theorem dL_law_1050 : decode cL_law 1050 = .ok (.invokevirtual 162, 3) := by decide +kernel
theorem dL_law_1053 : decode cL_law 1053 = .ok (.istore 6, 2) := by decide +kernel
theorem dL_law_1055 : decode cL_law 1055 = .ok (.aload_n 2, 1) := by decide +kernel
theorem dL_law_1056 : decode cL_law 1056 = .ok (.invokevirtual 110, 3) := by decide +kernel
theorem dL_law_1059 : decode cL_law 1059 = .ok (.iload 5, 2) := by decide +kernel
theorem dL_law_1061 : decode cL_law 1061 = .ok (.if_icmp .eq 5, 3) := by decide +kernel
theorem dL_law_1064 : decode cL_law 1064 = .ok (.iconst 0, 1) := by decide +kernel
theorem dL_law_1065 : decode cL_law 1065 = .ok (.ireturn, 1) := by decide +kernel
theorem dL_law_1066 : decode cL_law 1066 = .ok (.iload 5, 2) := by decide +kernel
theorem dL_law_1068 : decode cL_law 1068 = .ok (.ifCond .ne 15, 3) := by decide +kernel
theorem dL_law_1071 : decode cL_law 1071 = .ok (.aload_n 3, 1) := by decide +kernel
theorem dL_law_1072 : decode cL_law 1072 = .ok (.iconst 0, 1) := by decide +kernel
theorem dL_law_1073 : decode cL_law 1073 = .ok (.laload, 1) := by decide +kernel
theorem dL_law_1074 : decode cL_law 1074 = .ok (.iload 6, 2) := by decide +kernel
theorem dL_law_1076 : decode cL_law 1076 = .ok (.i2l, 1) := by decide +kernel
theorem dL_law_1077 : decode cL_law 1077 = .ok (.lcmp, 1) := by decide +kernel
theorem dL_law_1078 : decode cL_law 1078 = .ok (.ifCond .eq 5, 3) := by decide +kernel
theorem dL_law_1081 : decode cL_law 1081 = .ok (.iconst 0, 1) := by decide +kernel
theorem dL_law_1082 : decode cL_law 1082 = .ok (.ireturn, 1) := by decide +kernel
theorem dL_law_1083 : decode cL_law 1083 = .ok (.goto 782, 3) := by decide +kernel
theorem dL_law_1086 : decode cL_law 1086 = .ok (.aload_n 1, 1) := by decide +kernel
theorem dL_law_1087 : decode cL_law 1087 = .ok (.aload_n 0, 1) := by decide +kernel
theorem dL_law_1088 : decode cL_law 1088 = .ok (.iload 4, 2) := by decide +kernel
theorem dL_law_1090 : decode cL_law 1090 = .ok (.iconst 1, 1) := by decide +kernel
theorem dL_law_1091 : decode cL_law 1091 = .ok (.iadd, 1) := by decide +kernel
theorem dL_law_1092 : decode cL_law 1092 = .ok (.iaload, 1) := by decide +kernel
theorem dL_law_1093 : decode cL_law 1093 = .ok (.aload_n 0, 1) := by decide +kernel
theorem dL_law_1094 : decode cL_law 1094 = .ok (.iload 4, 2) := by decide +kernel
theorem dL_law_1096 : decode cL_law 1096 = .ok (.iconst 2, 1) := by decide +kernel
theorem dL_law_1097 : decode cL_law 1097 = .ok (.iadd, 1) := by decide +kernel
theorem dL_law_1098 : decode cL_law 1098 = .ok (.iaload, 1) := by decide +kernel
theorem dL_law_1099 : decode cL_law 1099 = .ok (.aload_n 3, 1) := by decide +kernel
theorem dL_law_1100 : decode cL_law 1100 = .ok (.invokestatic 163, 3) := by decide +kernel
theorem dL_law_1103 : decode cL_law 1103 = .ok (.istore 5, 2) := by decide +kernel
theorem dL_law_1105 : decode cL_law 1105 = .ok (.aload_n 2, 1) := by decide +kernel
theorem dL_law_1106 : decode cL_law 1106 = .ok (.aload_n 0, 1) := by decide +kernel
theorem dL_law_1107 : decode cL_law 1107 = .ok (.iload 4, 2) := by decide +kernel
theorem dL_law_1109 : decode cL_law 1109 = .ok (.iconst 1, 1) := by decide +kernel
theorem dL_law_1110 : decode cL_law 1110 = .ok (.iadd, 1) := by decide +kernel
theorem dL_law_1111 : decode cL_law 1111 = .ok (.iaload, 1) := by decide +kernel
theorem dL_law_1112 : decode cL_law 1112 = .ok (.aload_n 0, 1) := by decide +kernel
theorem dL_law_1113 : decode cL_law 1113 = .ok (.iload 4, 2) := by decide +kernel
theorem dL_law_1115 : decode cL_law 1115 = .ok (.iconst 2, 1) := by decide +kernel
theorem dL_law_1116 : decode cL_law 1116 = .ok (.iadd, 1) := by decide +kernel
theorem dL_law_1117 : decode cL_law 1117 = .ok (.iaload, 1) := by decide +kernel
theorem dL_law_1118 : decode cL_law 1118 = .ok (.invokevirtual 165, 3) := by decide +kernel
theorem dL_law_1121 : decode cL_law 1121 = .ok (.istore 6, 2) := by decide +kernel
theorem dL_law_1123 : decode cL_law 1123 = .ok (.aload_n 2, 1) := by decide +kernel
theorem dL_law_1124 : decode cL_law 1124 = .ok (.invokevirtual 110, 3) := by decide +kernel
theorem dL_law_1127 : decode cL_law 1127 = .ok (.iload 5, 2) := by decide +kernel
theorem dL_law_1129 : decode cL_law 1129 = .ok (.if_icmp .eq 5, 3) := by decide +kernel
theorem dL_law_1132 : decode cL_law 1132 = .ok (.iconst 0, 1) := by decide +kernel
theorem dL_law_1133 : decode cL_law 1133 = .ok (.ireturn, 1) := by decide +kernel
theorem dL_law_1134 : decode cL_law 1134 = .ok (.iload 5, 2) := by decide +kernel
theorem dL_law_1136 : decode cL_law 1136 = .ok (.ifCond .ne 15, 3) := by decide +kernel
theorem dL_law_1139 : decode cL_law 1139 = .ok (.aload_n 3, 1) := by decide +kernel
theorem dL_law_1140 : decode cL_law 1140 = .ok (.iconst 0, 1) := by decide +kernel
theorem dL_law_1141 : decode cL_law 1141 = .ok (.laload, 1) := by decide +kernel
theorem dL_law_1142 : decode cL_law 1142 = .ok (.iload 6, 2) := by decide +kernel
theorem dL_law_1144 : decode cL_law 1144 = .ok (.i2l, 1) := by decide +kernel
theorem dL_law_1145 : decode cL_law 1145 = .ok (.lcmp, 1) := by decide +kernel
theorem dL_law_1146 : decode cL_law 1146 = .ok (.ifCond .eq 5, 3) := by decide +kernel
theorem dL_law_1149 : decode cL_law 1149 = .ok (.iconst 0, 1) := by decide +kernel
theorem dL_law_1150 : decode cL_law 1150 = .ok (.ireturn, 1) := by decide +kernel
theorem dL_law_1151 : decode cL_law 1151 = .ok (.goto 714, 3) := by decide +kernel
theorem dL_law_1154 : decode cL_law 1154 = .ok (.aload_n 1, 1) := by decide +kernel
theorem dL_law_1155 : decode cL_law 1155 = .ok (.aload_n 3, 1) := by decide +kernel
theorem dL_law_1156 : decode cL_law 1156 = .ok (.invokestatic 166, 3) := by decide +kernel
theorem dL_law_1159 : decode cL_law 1159 = .ok (.istore 5, 2) := by decide +kernel
theorem dL_law_1161 : decode cL_law 1161 = .ok (.aload_n 2, 1) := by decide +kernel
theorem dL_law_1162 : decode cL_law 1162 = .ok (.invokevirtual 168, 3) := by decide +kernel
theorem dL_law_1165 : decode cL_law 1165 = .ok (.istore 6, 2) := by decide +kernel
theorem dL_law_1167 : decode cL_law 1167 = .ok (.aload_n 2, 1) := by decide +kernel
theorem dL_law_1168 : decode cL_law 1168 = .ok (.invokevirtual 110, 3) := by decide +kernel
theorem dL_law_1171 : decode cL_law 1171 = .ok (.iload 5, 2) := by decide +kernel
theorem dL_law_1173 : decode cL_law 1173 = .ok (.if_icmp .eq 5, 3) := by decide +kernel
theorem dL_law_1176 : decode cL_law 1176 = .ok (.iconst 0, 1) := by decide +kernel
theorem dL_law_1177 : decode cL_law 1177 = .ok (.ireturn, 1) := by decide +kernel
theorem dL_law_1178 : decode cL_law 1178 = .ok (.iload 5, 2) := by decide +kernel
theorem dL_law_1180 : decode cL_law 1180 = .ok (.ifCond .ne 15, 3) := by decide +kernel
theorem dL_law_1183 : decode cL_law 1183 = .ok (.aload_n 3, 1) := by decide +kernel
theorem dL_law_1184 : decode cL_law 1184 = .ok (.iconst 0, 1) := by decide +kernel
theorem dL_law_1185 : decode cL_law 1185 = .ok (.laload, 1) := by decide +kernel
theorem dL_law_1186 : decode cL_law 1186 = .ok (.iload 6, 2) := by decide +kernel
theorem dL_law_1188 : decode cL_law 1188 = .ok (.i2l, 1) := by decide +kernel
theorem dL_law_1189 : decode cL_law 1189 = .ok (.lcmp, 1) := by decide +kernel
theorem dL_law_1190 : decode cL_law 1190 = .ok (.ifCond .eq 5, 3) := by decide +kernel
theorem dL_law_1193 : decode cL_law 1193 = .ok (.iconst 0, 1) := by decide +kernel
theorem dL_law_1194 : decode cL_law 1194 = .ok (.ireturn, 1) := by decide +kernel
theorem dL_law_1195 : decode cL_law 1195 = .ok (.goto 670, 3) := by decide +kernel
theorem dL_law_1198 : decode cL_law 1198 = .ok (.aload_n 1, 1) := by decide +kernel
theorem dL_law_1199 : decode cL_law 1199 = .ok (.aload_n 0, 1) := by decide +kernel
theorem dL_law_1200 : decode cL_law 1200 = .ok (.iload 4, 2) := by decide +kernel
theorem dL_law_1202 : decode cL_law 1202 = .ok (.iconst 1, 1) := by decide +kernel
theorem dL_law_1203 : decode cL_law 1203 = .ok (.iadd, 1) := by decide +kernel
theorem dL_law_1204 : decode cL_law 1204 = .ok (.iaload, 1) := by decide +kernel
theorem dL_law_1205 : decode cL_law 1205 = .ok (.aload_n 0, 1) := by decide +kernel
theorem dL_law_1206 : decode cL_law 1206 = .ok (.iload 4, 2) := by decide +kernel
theorem dL_law_1208 : decode cL_law 1208 = .ok (.iconst 2, 1) := by decide +kernel
theorem dL_law_1209 : decode cL_law 1209 = .ok (.iadd, 1) := by decide +kernel
theorem dL_law_1210 : decode cL_law 1210 = .ok (.iaload, 1) := by decide +kernel
theorem dL_law_1211 : decode cL_law 1211 = .ok (.aload_n 3, 1) := by decide +kernel
theorem dL_law_1212 : decode cL_law 1212 = .ok (.invokestatic 169, 3) := by decide +kernel
theorem dL_law_1215 : decode cL_law 1215 = .ok (.istore 5, 2) := by decide +kernel
theorem dL_law_1217 : decode cL_law 1217 = .ok (.aload_n 2, 1) := by decide +kernel
theorem dL_law_1218 : decode cL_law 1218 = .ok (.aload_n 0, 1) := by decide +kernel
theorem dL_law_1219 : decode cL_law 1219 = .ok (.iload 4, 2) := by decide +kernel
theorem dL_law_1221 : decode cL_law 1221 = .ok (.iconst 1, 1) := by decide +kernel
theorem dL_law_1222 : decode cL_law 1222 = .ok (.iadd, 1) := by decide +kernel
theorem dL_law_1223 : decode cL_law 1223 = .ok (.iaload, 1) := by decide +kernel
theorem dL_law_1224 : decode cL_law 1224 = .ok (.aload_n 0, 1) := by decide +kernel
theorem dL_law_1225 : decode cL_law 1225 = .ok (.iload 4, 2) := by decide +kernel
theorem dL_law_1227 : decode cL_law 1227 = .ok (.iconst 2, 1) := by decide +kernel
theorem dL_law_1228 : decode cL_law 1228 = .ok (.iadd, 1) := by decide +kernel
theorem dL_law_1229 : decode cL_law 1229 = .ok (.iaload, 1) := by decide +kernel
theorem dL_law_1230 : decode cL_law 1230 = .ok (.invokevirtual 171, 3) := by decide +kernel
theorem dL_law_1233 : decode cL_law 1233 = .ok (.istore 6, 2) := by decide +kernel
theorem dL_law_1235 : decode cL_law 1235 = .ok (.aload_n 2, 1) := by decide +kernel
theorem dL_law_1236 : decode cL_law 1236 = .ok (.invokevirtual 110, 3) := by decide +kernel
theorem dL_law_1239 : decode cL_law 1239 = .ok (.iload 5, 2) := by decide +kernel
theorem dL_law_1241 : decode cL_law 1241 = .ok (.if_icmp .eq 5, 3) := by decide +kernel
theorem dL_law_1244 : decode cL_law 1244 = .ok (.iconst 0, 1) := by decide +kernel
theorem dL_law_1245 : decode cL_law 1245 = .ok (.ireturn, 1) := by decide +kernel
theorem dL_law_1246 : decode cL_law 1246 = .ok (.iload 5, 2) := by decide +kernel
theorem dL_law_1248 : decode cL_law 1248 = .ok (.ifCond .ne 15, 3) := by decide +kernel
theorem dL_law_1251 : decode cL_law 1251 = .ok (.aload_n 3, 1) := by decide +kernel
theorem dL_law_1252 : decode cL_law 1252 = .ok (.iconst 0, 1) := by decide +kernel
theorem dL_law_1253 : decode cL_law 1253 = .ok (.laload, 1) := by decide +kernel
theorem dL_law_1254 : decode cL_law 1254 = .ok (.iload 6, 2) := by decide +kernel
theorem dL_law_1256 : decode cL_law 1256 = .ok (.i2l, 1) := by decide +kernel
theorem dL_law_1257 : decode cL_law 1257 = .ok (.lcmp, 1) := by decide +kernel
theorem dL_law_1258 : decode cL_law 1258 = .ok (.ifCond .eq 5, 3) := by decide +kernel
theorem dL_law_1261 : decode cL_law 1261 = .ok (.iconst 0, 1) := by decide +kernel
theorem dL_law_1262 : decode cL_law 1262 = .ok (.ireturn, 1) := by decide +kernel
theorem dL_law_1263 : decode cL_law 1263 = .ok (.goto 602, 3) := by decide +kernel
theorem dL_law_1266 : decode cL_law 1266 = .ok (.aload_n 1, 1) := by decide +kernel
theorem dL_law_1267 : decode cL_law 1267 = .ok (.aload_n 0, 1) := by decide +kernel
theorem dL_law_1268 : decode cL_law 1268 = .ok (.iload 4, 2) := by decide +kernel
theorem dL_law_1270 : decode cL_law 1270 = .ok (.iconst 1, 1) := by decide +kernel
theorem dL_law_1271 : decode cL_law 1271 = .ok (.iadd, 1) := by decide +kernel
theorem dL_law_1272 : decode cL_law 1272 = .ok (.iaload, 1) := by decide +kernel
theorem dL_law_1273 : decode cL_law 1273 = .ok (.aload_n 0, 1) := by decide +kernel
theorem dL_law_1274 : decode cL_law 1274 = .ok (.iload 4, 2) := by decide +kernel
theorem dL_law_1276 : decode cL_law 1276 = .ok (.iconst 2, 1) := by decide +kernel
theorem dL_law_1277 : decode cL_law 1277 = .ok (.iadd, 1) := by decide +kernel
theorem dL_law_1278 : decode cL_law 1278 = .ok (.iaload, 1) := by decide +kernel
theorem dL_law_1279 : decode cL_law 1279 = .ok (.aload_n 0, 1) := by decide +kernel
theorem dL_law_1280 : decode cL_law 1280 = .ok (.iload 4, 2) := by decide +kernel
theorem dL_law_1282 : decode cL_law 1282 = .ok (.iconst 3, 1) := by decide +kernel
theorem dL_law_1283 : decode cL_law 1283 = .ok (.iadd, 1) := by decide +kernel
theorem dL_law_1284 : decode cL_law 1284 = .ok (.iaload, 1) := by decide +kernel
theorem dL_law_1285 : decode cL_law 1285 = .ok (.aload_n 3, 1) := by decide +kernel
theorem dL_law_1286 : decode cL_law 1286 = .ok (.invokestatic 172, 3) := by decide +kernel
theorem dL_law_1289 : decode cL_law 1289 = .ok (.istore 5, 2) := by decide +kernel
theorem dL_law_1291 : decode cL_law 1291 = .ok (.aload_n 2, 1) := by decide +kernel
theorem dL_law_1292 : decode cL_law 1292 = .ok (.aload_n 0, 1) := by decide +kernel
theorem dL_law_1293 : decode cL_law 1293 = .ok (.iload 4, 2) := by decide +kernel
theorem dL_law_1295 : decode cL_law 1295 = .ok (.iconst 1, 1) := by decide +kernel
theorem dL_law_1296 : decode cL_law 1296 = .ok (.iadd, 1) := by decide +kernel
theorem dL_law_1297 : decode cL_law 1297 = .ok (.iaload, 1) := by decide +kernel
theorem dL_law_1298 : decode cL_law 1298 = .ok (.aload_n 0, 1) := by decide +kernel
theorem dL_law_1299 : decode cL_law 1299 = .ok (.iload 4, 2) := by decide +kernel
theorem dL_law_1301 : decode cL_law 1301 = .ok (.iconst 2, 1) := by decide +kernel
theorem dL_law_1302 : decode cL_law 1302 = .ok (.iadd, 1) := by decide +kernel
theorem dL_law_1303 : decode cL_law 1303 = .ok (.iaload, 1) := by decide +kernel
theorem dL_law_1304 : decode cL_law 1304 = .ok (.aload_n 0, 1) := by decide +kernel
theorem dL_law_1305 : decode cL_law 1305 = .ok (.iload 4, 2) := by decide +kernel
theorem dL_law_1307 : decode cL_law 1307 = .ok (.iconst 3, 1) := by decide +kernel
theorem dL_law_1308 : decode cL_law 1308 = .ok (.iadd, 1) := by decide +kernel
theorem dL_law_1309 : decode cL_law 1309 = .ok (.iaload, 1) := by decide +kernel
theorem dL_law_1310 : decode cL_law 1310 = .ok (.invokevirtual 174, 3) := by decide +kernel
theorem dL_law_1313 : decode cL_law 1313 = .ok (.istore 6, 2) := by decide +kernel
theorem dL_law_1315 : decode cL_law 1315 = .ok (.aload_n 2, 1) := by decide +kernel
theorem dL_law_1316 : decode cL_law 1316 = .ok (.invokevirtual 110, 3) := by decide +kernel
theorem dL_law_1319 : decode cL_law 1319 = .ok (.iload 5, 2) := by decide +kernel
theorem dL_law_1321 : decode cL_law 1321 = .ok (.if_icmp .eq 5, 3) := by decide +kernel
theorem dL_law_1324 : decode cL_law 1324 = .ok (.iconst 0, 1) := by decide +kernel
theorem dL_law_1325 : decode cL_law 1325 = .ok (.ireturn, 1) := by decide +kernel
theorem dL_law_1326 : decode cL_law 1326 = .ok (.iload 5, 2) := by decide +kernel
theorem dL_law_1328 : decode cL_law 1328 = .ok (.ifCond .ne 15, 3) := by decide +kernel
theorem dL_law_1331 : decode cL_law 1331 = .ok (.aload_n 3, 1) := by decide +kernel
theorem dL_law_1332 : decode cL_law 1332 = .ok (.iconst 0, 1) := by decide +kernel
theorem dL_law_1333 : decode cL_law 1333 = .ok (.laload, 1) := by decide +kernel
theorem dL_law_1334 : decode cL_law 1334 = .ok (.iload 6, 2) := by decide +kernel
theorem dL_law_1336 : decode cL_law 1336 = .ok (.i2l, 1) := by decide +kernel
theorem dL_law_1337 : decode cL_law 1337 = .ok (.lcmp, 1) := by decide +kernel
theorem dL_law_1338 : decode cL_law 1338 = .ok (.ifCond .eq 5, 3) := by decide +kernel
theorem dL_law_1341 : decode cL_law 1341 = .ok (.iconst 0, 1) := by decide +kernel
theorem dL_law_1342 : decode cL_law 1342 = .ok (.ireturn, 1) := by decide +kernel
theorem dL_law_1343 : decode cL_law 1343 = .ok (.goto 522, 3) := by decide +kernel
theorem dL_law_1346 : decode cL_law 1346 = .ok (.aload_n 1, 1) := by decide +kernel
theorem dL_law_1347 : decode cL_law 1347 = .ok (.aload_n 0, 1) := by decide +kernel
theorem dL_law_1348 : decode cL_law 1348 = .ok (.iload 4, 2) := by decide +kernel
theorem dL_law_1350 : decode cL_law 1350 = .ok (.iconst 1, 1) := by decide +kernel
theorem dL_law_1351 : decode cL_law 1351 = .ok (.iadd, 1) := by decide +kernel
theorem dL_law_1352 : decode cL_law 1352 = .ok (.iaload, 1) := by decide +kernel
theorem dL_law_1353 : decode cL_law 1353 = .ok (.aload_n 0, 1) := by decide +kernel
theorem dL_law_1354 : decode cL_law 1354 = .ok (.iload 4, 2) := by decide +kernel
theorem dL_law_1356 : decode cL_law 1356 = .ok (.iconst 2, 1) := by decide +kernel
theorem dL_law_1357 : decode cL_law 1357 = .ok (.iadd, 1) := by decide +kernel
theorem dL_law_1358 : decode cL_law 1358 = .ok (.iaload, 1) := by decide +kernel
theorem dL_law_1359 : decode cL_law 1359 = .ok (.aload_n 0, 1) := by decide +kernel
theorem dL_law_1360 : decode cL_law 1360 = .ok (.iload 4, 2) := by decide +kernel
theorem dL_law_1362 : decode cL_law 1362 = .ok (.iconst 3, 1) := by decide +kernel
theorem dL_law_1363 : decode cL_law 1363 = .ok (.iadd, 1) := by decide +kernel
theorem dL_law_1364 : decode cL_law 1364 = .ok (.iaload, 1) := by decide +kernel
theorem dL_law_1365 : decode cL_law 1365 = .ok (.aload_n 3, 1) := by decide +kernel
theorem dL_law_1366 : decode cL_law 1366 = .ok (.invokestatic 175, 3) := by decide +kernel
theorem dL_law_1369 : decode cL_law 1369 = .ok (.istore 5, 2) := by decide +kernel
theorem dL_law_1371 : decode cL_law 1371 = .ok (.aload_n 2, 1) := by decide +kernel
theorem dL_law_1372 : decode cL_law 1372 = .ok (.aload_n 0, 1) := by decide +kernel
theorem dL_law_1373 : decode cL_law 1373 = .ok (.iload 4, 2) := by decide +kernel
theorem dL_law_1375 : decode cL_law 1375 = .ok (.iconst 1, 1) := by decide +kernel
theorem dL_law_1376 : decode cL_law 1376 = .ok (.iadd, 1) := by decide +kernel
theorem dL_law_1377 : decode cL_law 1377 = .ok (.iaload, 1) := by decide +kernel
theorem dL_law_1378 : decode cL_law 1378 = .ok (.aload_n 0, 1) := by decide +kernel
theorem dL_law_1379 : decode cL_law 1379 = .ok (.iload 4, 2) := by decide +kernel
theorem dL_law_1381 : decode cL_law 1381 = .ok (.iconst 2, 1) := by decide +kernel
theorem dL_law_1382 : decode cL_law 1382 = .ok (.iadd, 1) := by decide +kernel
theorem dL_law_1383 : decode cL_law 1383 = .ok (.iaload, 1) := by decide +kernel
theorem dL_law_1384 : decode cL_law 1384 = .ok (.aload_n 0, 1) := by decide +kernel
theorem dL_law_1385 : decode cL_law 1385 = .ok (.iload 4, 2) := by decide +kernel
theorem dL_law_1387 : decode cL_law 1387 = .ok (.iconst 3, 1) := by decide +kernel
theorem dL_law_1388 : decode cL_law 1388 = .ok (.iadd, 1) := by decide +kernel
theorem dL_law_1389 : decode cL_law 1389 = .ok (.iaload, 1) := by decide +kernel
theorem dL_law_1390 : decode cL_law 1390 = .ok (.invokevirtual 177, 3) := by decide +kernel
theorem dL_law_1393 : decode cL_law 1393 = .ok (.istore 6, 2) := by decide +kernel
theorem dL_law_1395 : decode cL_law 1395 = .ok (.aload_n 2, 1) := by decide +kernel
theorem dL_law_1396 : decode cL_law 1396 = .ok (.invokevirtual 110, 3) := by decide +kernel
theorem dL_law_1399 : decode cL_law 1399 = .ok (.iload 5, 2) := by decide +kernel
theorem dL_law_1401 : decode cL_law 1401 = .ok (.if_icmp .eq 5, 3) := by decide +kernel
theorem dL_law_1404 : decode cL_law 1404 = .ok (.iconst 0, 1) := by decide +kernel
theorem dL_law_1405 : decode cL_law 1405 = .ok (.ireturn, 1) := by decide +kernel
theorem dL_law_1406 : decode cL_law 1406 = .ok (.iload 5, 2) := by decide +kernel
theorem dL_law_1408 : decode cL_law 1408 = .ok (.ifCond .ne 15, 3) := by decide +kernel
theorem dL_law_1411 : decode cL_law 1411 = .ok (.aload_n 3, 1) := by decide +kernel
theorem dL_law_1412 : decode cL_law 1412 = .ok (.iconst 0, 1) := by decide +kernel
theorem dL_law_1413 : decode cL_law 1413 = .ok (.laload, 1) := by decide +kernel
theorem dL_law_1414 : decode cL_law 1414 = .ok (.iload 6, 2) := by decide +kernel
theorem dL_law_1416 : decode cL_law 1416 = .ok (.i2l, 1) := by decide +kernel
theorem dL_law_1417 : decode cL_law 1417 = .ok (.lcmp, 1) := by decide +kernel
theorem dL_law_1418 : decode cL_law 1418 = .ok (.ifCond .eq 5, 3) := by decide +kernel
theorem dL_law_1421 : decode cL_law 1421 = .ok (.iconst 0, 1) := by decide +kernel
theorem dL_law_1422 : decode cL_law 1422 = .ok (.ireturn, 1) := by decide +kernel
theorem dL_law_1423 : decode cL_law 1423 = .ok (.goto 442, 3) := by decide +kernel
theorem dL_law_1426 : decode cL_law 1426 = .ok (.aload_n 1, 1) := by decide +kernel
theorem dL_law_1427 : decode cL_law 1427 = .ok (.aload_n 0, 1) := by decide +kernel
theorem dL_law_1428 : decode cL_law 1428 = .ok (.iload 4, 2) := by decide +kernel
theorem dL_law_1430 : decode cL_law 1430 = .ok (.iconst 1, 1) := by decide +kernel
theorem dL_law_1431 : decode cL_law 1431 = .ok (.iadd, 1) := by decide +kernel
theorem dL_law_1432 : decode cL_law 1432 = .ok (.iaload, 1) := by decide +kernel
theorem dL_law_1433 : decode cL_law 1433 = .ok (.aload_n 0, 1) := by decide +kernel
theorem dL_law_1434 : decode cL_law 1434 = .ok (.iload 4, 2) := by decide +kernel
theorem dL_law_1436 : decode cL_law 1436 = .ok (.iconst 2, 1) := by decide +kernel
theorem dL_law_1437 : decode cL_law 1437 = .ok (.iadd, 1) := by decide +kernel
theorem dL_law_1438 : decode cL_law 1438 = .ok (.iaload, 1) := by decide +kernel
theorem dL_law_1439 : decode cL_law 1439 = .ok (.aload_n 3, 1) := by decide +kernel
theorem dL_law_1440 : decode cL_law 1440 = .ok (.invokestatic 178, 3) := by decide +kernel
theorem dL_law_1443 : decode cL_law 1443 = .ok (.istore 5, 2) := by decide +kernel
theorem dL_law_1445 : decode cL_law 1445 = .ok (.aload_n 2, 1) := by decide +kernel
theorem dL_law_1446 : decode cL_law 1446 = .ok (.aload_n 0, 1) := by decide +kernel
theorem dL_law_1447 : decode cL_law 1447 = .ok (.iload 4, 2) := by decide +kernel
theorem dL_law_1449 : decode cL_law 1449 = .ok (.iconst 1, 1) := by decide +kernel
theorem dL_law_1450 : decode cL_law 1450 = .ok (.iadd, 1) := by decide +kernel
theorem dL_law_1451 : decode cL_law 1451 = .ok (.iaload, 1) := by decide +kernel
theorem dL_law_1452 : decode cL_law 1452 = .ok (.aload_n 0, 1) := by decide +kernel
theorem dL_law_1453 : decode cL_law 1453 = .ok (.iload 4, 2) := by decide +kernel
theorem dL_law_1455 : decode cL_law 1455 = .ok (.iconst 2, 1) := by decide +kernel
theorem dL_law_1456 : decode cL_law 1456 = .ok (.iadd, 1) := by decide +kernel
theorem dL_law_1457 : decode cL_law 1457 = .ok (.iaload, 1) := by decide +kernel
theorem dL_law_1458 : decode cL_law 1458 = .ok (.invokevirtual 180, 3) := by decide +kernel
theorem dL_law_1461 : decode cL_law 1461 = .ok (.istore 6, 2) := by decide +kernel
theorem dL_law_1463 : decode cL_law 1463 = .ok (.aload_n 2, 1) := by decide +kernel
theorem dL_law_1464 : decode cL_law 1464 = .ok (.invokevirtual 110, 3) := by decide +kernel
theorem dL_law_1467 : decode cL_law 1467 = .ok (.iload 5, 2) := by decide +kernel
theorem dL_law_1469 : decode cL_law 1469 = .ok (.if_icmp .eq 5, 3) := by decide +kernel
theorem dL_law_1472 : decode cL_law 1472 = .ok (.iconst 0, 1) := by decide +kernel
theorem dL_law_1473 : decode cL_law 1473 = .ok (.ireturn, 1) := by decide +kernel
theorem dL_law_1474 : decode cL_law 1474 = .ok (.iload 5, 2) := by decide +kernel
theorem dL_law_1476 : decode cL_law 1476 = .ok (.ifCond .ne 15, 3) := by decide +kernel
theorem dL_law_1479 : decode cL_law 1479 = .ok (.aload_n 3, 1) := by decide +kernel
theorem dL_law_1480 : decode cL_law 1480 = .ok (.iconst 0, 1) := by decide +kernel
theorem dL_law_1481 : decode cL_law 1481 = .ok (.laload, 1) := by decide +kernel
theorem dL_law_1482 : decode cL_law 1482 = .ok (.iload 6, 2) := by decide +kernel
theorem dL_law_1484 : decode cL_law 1484 = .ok (.i2l, 1) := by decide +kernel
theorem dL_law_1485 : decode cL_law 1485 = .ok (.lcmp, 1) := by decide +kernel
theorem dL_law_1486 : decode cL_law 1486 = .ok (.ifCond .eq 5, 3) := by decide +kernel
theorem dL_law_1489 : decode cL_law 1489 = .ok (.iconst 0, 1) := by decide +kernel
theorem dL_law_1490 : decode cL_law 1490 = .ok (.ireturn, 1) := by decide +kernel
theorem dL_law_1491 : decode cL_law 1491 = .ok (.goto 374, 3) := by decide +kernel
theorem dL_law_1494 : decode cL_law 1494 = .ok (.aload_n 1, 1) := by decide +kernel
theorem dL_law_1495 : decode cL_law 1495 = .ok (.aload_n 0, 1) := by decide +kernel
theorem dL_law_1496 : decode cL_law 1496 = .ok (.iload 4, 2) := by decide +kernel
theorem dL_law_1498 : decode cL_law 1498 = .ok (.iconst 1, 1) := by decide +kernel
theorem dL_law_1499 : decode cL_law 1499 = .ok (.iadd, 1) := by decide +kernel
theorem dL_law_1500 : decode cL_law 1500 = .ok (.iaload, 1) := by decide +kernel
theorem dL_law_1501 : decode cL_law 1501 = .ok (.aload_n 3, 1) := by decide +kernel
theorem dL_law_1502 : decode cL_law 1502 = .ok (.invokestatic 181, 3) := by decide +kernel
theorem dL_law_1505 : decode cL_law 1505 = .ok (.istore 5, 2) := by decide +kernel
theorem dL_law_1507 : decode cL_law 1507 = .ok (.aload_n 2, 1) := by decide +kernel
theorem dL_law_1508 : decode cL_law 1508 = .ok (.aload_n 0, 1) := by decide +kernel
theorem dL_law_1509 : decode cL_law 1509 = .ok (.iload 4, 2) := by decide +kernel
theorem dL_law_1511 : decode cL_law 1511 = .ok (.iconst 1, 1) := by decide +kernel
theorem dL_law_1512 : decode cL_law 1512 = .ok (.iadd, 1) := by decide +kernel
theorem dL_law_1513 : decode cL_law 1513 = .ok (.iaload, 1) := by decide +kernel
theorem dL_law_1514 : decode cL_law 1514 = .ok (.invokevirtual 183, 3) := by decide +kernel
theorem dL_law_1517 : decode cL_law 1517 = .ok (.istore 6, 2) := by decide +kernel
theorem dL_law_1519 : decode cL_law 1519 = .ok (.aload_n 2, 1) := by decide +kernel
theorem dL_law_1520 : decode cL_law 1520 = .ok (.invokevirtual 110, 3) := by decide +kernel
theorem dL_law_1523 : decode cL_law 1523 = .ok (.iload 5, 2) := by decide +kernel
theorem dL_law_1525 : decode cL_law 1525 = .ok (.if_icmp .eq 5, 3) := by decide +kernel
theorem dL_law_1528 : decode cL_law 1528 = .ok (.iconst 0, 1) := by decide +kernel
theorem dL_law_1529 : decode cL_law 1529 = .ok (.ireturn, 1) := by decide +kernel
theorem dL_law_1530 : decode cL_law 1530 = .ok (.iload 5, 2) := by decide +kernel
theorem dL_law_1532 : decode cL_law 1532 = .ok (.ifCond .ne 15, 3) := by decide +kernel
theorem dL_law_1535 : decode cL_law 1535 = .ok (.aload_n 3, 1) := by decide +kernel
theorem dL_law_1536 : decode cL_law 1536 = .ok (.iconst 0, 1) := by decide +kernel
theorem dL_law_1537 : decode cL_law 1537 = .ok (.laload, 1) := by decide +kernel
theorem dL_law_1538 : decode cL_law 1538 = .ok (.iload 6, 2) := by decide +kernel
theorem dL_law_1540 : decode cL_law 1540 = .ok (.i2l, 1) := by decide +kernel
theorem dL_law_1541 : decode cL_law 1541 = .ok (.lcmp, 1) := by decide +kernel
theorem dL_law_1542 : decode cL_law 1542 = .ok (.ifCond .eq 5, 3) := by decide +kernel
theorem dL_law_1545 : decode cL_law 1545 = .ok (.iconst 0, 1) := by decide +kernel
theorem dL_law_1546 : decode cL_law 1546 = .ok (.ireturn, 1) := by decide +kernel
theorem dL_law_1547 : decode cL_law 1547 = .ok (.goto 318, 3) := by decide +kernel
theorem dL_law_1550 : decode cL_law 1550 = .ok (.aload_n 1, 1) := by decide +kernel
theorem dL_law_1551 : decode cL_law 1551 = .ok (.aload_n 0, 1) := by decide +kernel
theorem dL_law_1552 : decode cL_law 1552 = .ok (.iload 4, 2) := by decide +kernel
theorem dL_law_1554 : decode cL_law 1554 = .ok (.iconst 1, 1) := by decide +kernel
theorem dL_law_1555 : decode cL_law 1555 = .ok (.iadd, 1) := by decide +kernel
theorem dL_law_1556 : decode cL_law 1556 = .ok (.iaload, 1) := by decide +kernel
theorem dL_law_1557 : decode cL_law 1557 = .ok (.aload_n 0, 1) := by decide +kernel
theorem dL_law_1558 : decode cL_law 1558 = .ok (.iload 4, 2) := by decide +kernel
theorem dL_law_1560 : decode cL_law 1560 = .ok (.iconst 2, 1) := by decide +kernel
theorem dL_law_1561 : decode cL_law 1561 = .ok (.iadd, 1) := by decide +kernel
theorem dL_law_1562 : decode cL_law 1562 = .ok (.iaload, 1) := by decide +kernel
theorem dL_law_1563 : decode cL_law 1563 = .ok (.ifCond .eq 7, 3) := by decide +kernel
theorem dL_law_1566 : decode cL_law 1566 = .ok (.iconst 1, 1) := by decide +kernel
theorem dL_law_1567 : decode cL_law 1567 = .ok (.goto 4, 3) := by decide +kernel
theorem dL_law_1570 : decode cL_law 1570 = .ok (.iconst 0, 1) := by decide +kernel
theorem dL_law_1571 : decode cL_law 1571 = .ok (.aload_n 3, 1) := by decide +kernel
theorem dL_law_1572 : decode cL_law 1572 = .ok (.invokestatic 184, 3) := by decide +kernel
theorem dL_law_1575 : decode cL_law 1575 = .ok (.istore 5, 2) := by decide +kernel
theorem dL_law_1577 : decode cL_law 1577 = .ok (.aload_n 2, 1) := by decide +kernel
theorem dL_law_1578 : decode cL_law 1578 = .ok (.aload_n 0, 1) := by decide +kernel
theorem dL_law_1579 : decode cL_law 1579 = .ok (.iload 4, 2) := by decide +kernel
theorem dL_law_1581 : decode cL_law 1581 = .ok (.iconst 1, 1) := by decide +kernel
theorem dL_law_1582 : decode cL_law 1582 = .ok (.iadd, 1) := by decide +kernel
theorem dL_law_1583 : decode cL_law 1583 = .ok (.iaload, 1) := by decide +kernel
theorem dL_law_1584 : decode cL_law 1584 = .ok (.aload_n 0, 1) := by decide +kernel
theorem dL_law_1585 : decode cL_law 1585 = .ok (.iload 4, 2) := by decide +kernel
theorem dL_law_1587 : decode cL_law 1587 = .ok (.iconst 2, 1) := by decide +kernel
theorem dL_law_1588 : decode cL_law 1588 = .ok (.iadd, 1) := by decide +kernel
theorem dL_law_1589 : decode cL_law 1589 = .ok (.iaload, 1) := by decide +kernel
theorem dL_law_1590 : decode cL_law 1590 = .ok (.ifCond .eq 7, 3) := by decide +kernel
theorem dL_law_1593 : decode cL_law 1593 = .ok (.iconst 1, 1) := by decide +kernel
theorem dL_law_1594 : decode cL_law 1594 = .ok (.goto 4, 3) := by decide +kernel
theorem dL_law_1597 : decode cL_law 1597 = .ok (.iconst 0, 1) := by decide +kernel
theorem dL_law_1598 : decode cL_law 1598 = .ok (.invokevirtual 186, 3) := by decide +kernel
theorem dL_law_1601 : decode cL_law 1601 = .ok (.istore 6, 2) := by decide +kernel
theorem dL_law_1603 : decode cL_law 1603 = .ok (.aload_n 2, 1) := by decide +kernel
theorem dL_law_1604 : decode cL_law 1604 = .ok (.invokevirtual 110, 3) := by decide +kernel
theorem dL_law_1607 : decode cL_law 1607 = .ok (.iload 5, 2) := by decide +kernel
theorem dL_law_1609 : decode cL_law 1609 = .ok (.if_icmp .eq 5, 3) := by decide +kernel
theorem dL_law_1612 : decode cL_law 1612 = .ok (.iconst 0, 1) := by decide +kernel
theorem dL_law_1613 : decode cL_law 1613 = .ok (.ireturn, 1) := by decide +kernel
theorem dL_law_1614 : decode cL_law 1614 = .ok (.iload 5, 2) := by decide +kernel
theorem dL_law_1616 : decode cL_law 1616 = .ok (.ifCond .ne 15, 3) := by decide +kernel
theorem dL_law_1619 : decode cL_law 1619 = .ok (.aload_n 3, 1) := by decide +kernel
theorem dL_law_1620 : decode cL_law 1620 = .ok (.iconst 0, 1) := by decide +kernel
theorem dL_law_1621 : decode cL_law 1621 = .ok (.laload, 1) := by decide +kernel
theorem dL_law_1622 : decode cL_law 1622 = .ok (.iload 6, 2) := by decide +kernel
theorem dL_law_1624 : decode cL_law 1624 = .ok (.i2l, 1) := by decide +kernel
theorem dL_law_1625 : decode cL_law 1625 = .ok (.lcmp, 1) := by decide +kernel
theorem dL_law_1626 : decode cL_law 1626 = .ok (.ifCond .eq 5, 3) := by decide +kernel
theorem dL_law_1629 : decode cL_law 1629 = .ok (.iconst 0, 1) := by decide +kernel
theorem dL_law_1630 : decode cL_law 1630 = .ok (.ireturn, 1) := by decide +kernel
theorem dL_law_1631 : decode cL_law 1631 = .ok (.goto 234, 3) := by decide +kernel
theorem dL_law_1634 : decode cL_law 1634 = .ok (.aload_n 1, 1) := by decide +kernel
theorem dL_law_1635 : decode cL_law 1635 = .ok (.invokevirtual 187, 3) := by decide +kernel
theorem dL_law_1638 : decode cL_law 1638 = .ok (.aload_n 2, 1) := by decide +kernel
theorem dL_law_1639 : decode cL_law 1639 = .ok (.invokevirtual 190, 3) := by decide +kernel
theorem dL_law_1642 : decode cL_law 1642 = .ok (.if_icmp .eq 223, 3) := by decide +kernel
theorem dL_law_1645 : decode cL_law 1645 = .ok (.iconst 0, 1) := by decide +kernel
theorem dL_law_1646 : decode cL_law 1646 = .ok (.ireturn, 1) := by decide +kernel
theorem dL_law_1647 : decode cL_law 1647 = .ok (.aload_n 1, 1) := by decide +kernel
theorem dL_law_1648 : decode cL_law 1648 = .ok (.invokevirtual 191, 3) := by decide +kernel
theorem dL_law_1651 : decode cL_law 1651 = .ok (.aload_n 2, 1) := by decide +kernel
theorem dL_law_1652 : decode cL_law 1652 = .ok (.invokevirtual 194, 3) := by decide +kernel
theorem dL_law_1655 : decode cL_law 1655 = .ok (.if_icmp .eq 210, 3) := by decide +kernel
theorem dL_law_1658 : decode cL_law 1658 = .ok (.iconst 0, 1) := by decide +kernel
theorem dL_law_1659 : decode cL_law 1659 = .ok (.ireturn, 1) := by decide +kernel
theorem dL_law_1660 : decode cL_law 1660 = .ok (.aload_n 1, 1) := by decide +kernel
theorem dL_law_1661 : decode cL_law 1661 = .ok (.invokevirtual 195, 3) := by decide +kernel
theorem dL_law_1664 : decode cL_law 1664 = .ok (.aload_n 2, 1) := by decide +kernel
theorem dL_law_1665 : decode cL_law 1665 = .ok (.invokevirtual 198, 3) := by decide +kernel
theorem dL_law_1668 : decode cL_law 1668 = .ok (.if_icmp .eq 197, 3) := by decide +kernel
theorem dL_law_1671 : decode cL_law 1671 = .ok (.iconst 0, 1) := by decide +kernel
theorem dL_law_1672 : decode cL_law 1672 = .ok (.ireturn, 1) := by decide +kernel
theorem dL_law_1673 : decode cL_law 1673 = .ok (.aload_n 1, 1) := by decide +kernel
theorem dL_law_1674 : decode cL_law 1674 = .ok (.aload_n 0, 1) := by decide +kernel
theorem dL_law_1675 : decode cL_law 1675 = .ok (.iload 4, 2) := by decide +kernel
theorem dL_law_1677 : decode cL_law 1677 = .ok (.iconst 1, 1) := by decide +kernel
theorem dL_law_1678 : decode cL_law 1678 = .ok (.iadd, 1) := by decide +kernel
theorem dL_law_1679 : decode cL_law 1679 = .ok (.iaload, 1) := by decide +kernel
theorem dL_law_1680 : decode cL_law 1680 = .ok (.aload_n 0, 1) := by decide +kernel
theorem dL_law_1681 : decode cL_law 1681 = .ok (.iload 4, 2) := by decide +kernel
theorem dL_law_1683 : decode cL_law 1683 = .ok (.iconst 2, 1) := by decide +kernel
theorem dL_law_1684 : decode cL_law 1684 = .ok (.iadd, 1) := by decide +kernel
theorem dL_law_1685 : decode cL_law 1685 = .ok (.iaload, 1) := by decide +kernel
theorem dL_law_1686 : decode cL_law 1686 = .ok (.aload_n 3, 1) := by decide +kernel
theorem dL_law_1687 : decode cL_law 1687 = .ok (.invokestatic 199, 3) := by decide +kernel
theorem dL_law_1690 : decode cL_law 1690 = .ok (.istore 5, 2) := by decide +kernel
theorem dL_law_1692 : decode cL_law 1692 = .ok (.aload_n 2, 1) := by decide +kernel
theorem dL_law_1693 : decode cL_law 1693 = .ok (.aload_n 0, 1) := by decide +kernel
theorem dL_law_1694 : decode cL_law 1694 = .ok (.iload 4, 2) := by decide +kernel
theorem dL_law_1696 : decode cL_law 1696 = .ok (.iconst 1, 1) := by decide +kernel
theorem dL_law_1697 : decode cL_law 1697 = .ok (.iadd, 1) := by decide +kernel
theorem dL_law_1698 : decode cL_law 1698 = .ok (.iaload, 1) := by decide +kernel
theorem dL_law_1699 : decode cL_law 1699 = .ok (.aload_n 0, 1) := by decide +kernel
theorem dL_law_1700 : decode cL_law 1700 = .ok (.iload 4, 2) := by decide +kernel
theorem dL_law_1702 : decode cL_law 1702 = .ok (.iconst 2, 1) := by decide +kernel
theorem dL_law_1703 : decode cL_law 1703 = .ok (.iadd, 1) := by decide +kernel
theorem dL_law_1704 : decode cL_law 1704 = .ok (.iaload, 1) := by decide +kernel
theorem dL_law_1705 : decode cL_law 1705 = .ok (.invokevirtual 201, 3) := by decide +kernel
theorem dL_law_1708 : decode cL_law 1708 = .ok (.istore 6, 2) := by decide +kernel
theorem dL_law_1710 : decode cL_law 1710 = .ok (.aload_n 2, 1) := by decide +kernel
theorem dL_law_1711 : decode cL_law 1711 = .ok (.invokevirtual 110, 3) := by decide +kernel
theorem dL_law_1714 : decode cL_law 1714 = .ok (.iload 5, 2) := by decide +kernel
theorem dL_law_1716 : decode cL_law 1716 = .ok (.if_icmp .eq 5, 3) := by decide +kernel
theorem dL_law_1719 : decode cL_law 1719 = .ok (.iconst 0, 1) := by decide +kernel
theorem dL_law_1720 : decode cL_law 1720 = .ok (.ireturn, 1) := by decide +kernel
theorem dL_law_1721 : decode cL_law 1721 = .ok (.iload 5, 2) := by decide +kernel
theorem dL_law_1723 : decode cL_law 1723 = .ok (.ifCond .ne 15, 3) := by decide +kernel
theorem dL_law_1726 : decode cL_law 1726 = .ok (.aload_n 3, 1) := by decide +kernel
theorem dL_law_1727 : decode cL_law 1727 = .ok (.iconst 0, 1) := by decide +kernel
theorem dL_law_1728 : decode cL_law 1728 = .ok (.laload, 1) := by decide +kernel
theorem dL_law_1729 : decode cL_law 1729 = .ok (.iload 6, 2) := by decide +kernel
theorem dL_law_1731 : decode cL_law 1731 = .ok (.i2l, 1) := by decide +kernel
theorem dL_law_1732 : decode cL_law 1732 = .ok (.lcmp, 1) := by decide +kernel
theorem dL_law_1733 : decode cL_law 1733 = .ok (.ifCond .eq 5, 3) := by decide +kernel
theorem dL_law_1736 : decode cL_law 1736 = .ok (.iconst 0, 1) := by decide +kernel
theorem dL_law_1737 : decode cL_law 1737 = .ok (.ireturn, 1) := by decide +kernel
theorem dL_law_1738 : decode cL_law 1738 = .ok (.goto 127, 3) := by decide +kernel
theorem dL_law_1741 : decode cL_law 1741 = .ok (.aload_n 1, 1) := by decide +kernel
theorem dL_law_1742 : decode cL_law 1742 = .ok (.aload_n 0, 1) := by decide +kernel
theorem dL_law_1743 : decode cL_law 1743 = .ok (.iload 4, 2) := by decide +kernel
theorem dL_law_1745 : decode cL_law 1745 = .ok (.iconst 1, 1) := by decide +kernel
theorem dL_law_1746 : decode cL_law 1746 = .ok (.iadd, 1) := by decide +kernel
theorem dL_law_1747 : decode cL_law 1747 = .ok (.iaload, 1) := by decide +kernel
theorem dL_law_1748 : decode cL_law 1748 = .ok (.aload_n 3, 1) := by decide +kernel
theorem dL_law_1749 : decode cL_law 1749 = .ok (.invokestatic 202, 3) := by decide +kernel
theorem dL_law_1752 : decode cL_law 1752 = .ok (.istore 5, 2) := by decide +kernel
theorem dL_law_1754 : decode cL_law 1754 = .ok (.aload_n 2, 1) := by decide +kernel
theorem dL_law_1755 : decode cL_law 1755 = .ok (.aload_n 0, 1) := by decide +kernel
theorem dL_law_1756 : decode cL_law 1756 = .ok (.iload 4, 2) := by decide +kernel
theorem dL_law_1758 : decode cL_law 1758 = .ok (.iconst 1, 1) := by decide +kernel
theorem dL_law_1759 : decode cL_law 1759 = .ok (.iadd, 1) := by decide +kernel
theorem dL_law_1760 : decode cL_law 1760 = .ok (.iaload, 1) := by decide +kernel
theorem dL_law_1761 : decode cL_law 1761 = .ok (.invokevirtual 204, 3) := by decide +kernel
theorem dL_law_1764 : decode cL_law 1764 = .ok (.istore 6, 2) := by decide +kernel
theorem dL_law_1766 : decode cL_law 1766 = .ok (.aload_n 2, 1) := by decide +kernel
theorem dL_law_1767 : decode cL_law 1767 = .ok (.invokevirtual 110, 3) := by decide +kernel
theorem dL_law_1770 : decode cL_law 1770 = .ok (.iload 5, 2) := by decide +kernel
theorem dL_law_1772 : decode cL_law 1772 = .ok (.if_icmp .eq 5, 3) := by decide +kernel
theorem dL_law_1775 : decode cL_law 1775 = .ok (.iconst 0, 1) := by decide +kernel
theorem dL_law_1776 : decode cL_law 1776 = .ok (.ireturn, 1) := by decide +kernel
theorem dL_law_1777 : decode cL_law 1777 = .ok (.iload 5, 2) := by decide +kernel
theorem dL_law_1779 : decode cL_law 1779 = .ok (.ifCond .ne 15, 3) := by decide +kernel
theorem dL_law_1782 : decode cL_law 1782 = .ok (.aload_n 3, 1) := by decide +kernel
theorem dL_law_1783 : decode cL_law 1783 = .ok (.iconst 0, 1) := by decide +kernel
theorem dL_law_1784 : decode cL_law 1784 = .ok (.laload, 1) := by decide +kernel
theorem dL_law_1785 : decode cL_law 1785 = .ok (.iload 6, 2) := by decide +kernel
theorem dL_law_1787 : decode cL_law 1787 = .ok (.i2l, 1) := by decide +kernel
theorem dL_law_1788 : decode cL_law 1788 = .ok (.lcmp, 1) := by decide +kernel
theorem dL_law_1789 : decode cL_law 1789 = .ok (.ifCond .eq 5, 3) := by decide +kernel
theorem dL_law_1792 : decode cL_law 1792 = .ok (.iconst 0, 1) := by decide +kernel
theorem dL_law_1793 : decode cL_law 1793 = .ok (.ireturn, 1) := by decide +kernel
theorem dL_law_1794 : decode cL_law 1794 = .ok (.goto 71, 3) := by decide +kernel
theorem dL_law_1797 : decode cL_law 1797 = .ok (.aload_n 1, 1) := by decide +kernel
theorem dL_law_1798 : decode cL_law 1798 = .ok (.aload_n 0, 1) := by decide +kernel
theorem dL_law_1799 : decode cL_law 1799 = .ok (.iload 4, 2) := by decide +kernel
theorem dL_law_1801 : decode cL_law 1801 = .ok (.iconst 1, 1) := by decide +kernel
theorem dL_law_1802 : decode cL_law 1802 = .ok (.iadd, 1) := by decide +kernel
theorem dL_law_1803 : decode cL_law 1803 = .ok (.iaload, 1) := by decide +kernel
theorem dL_law_1804 : decode cL_law 1804 = .ok (.aload_n 0, 1) := by decide +kernel
theorem dL_law_1805 : decode cL_law 1805 = .ok (.iload 4, 2) := by decide +kernel
theorem dL_law_1807 : decode cL_law 1807 = .ok (.iconst 2, 1) := by decide +kernel
theorem dL_law_1808 : decode cL_law 1808 = .ok (.iadd, 1) := by decide +kernel
theorem dL_law_1809 : decode cL_law 1809 = .ok (.iaload, 1) := by decide +kernel
theorem dL_law_1810 : decode cL_law 1810 = .ok (.aload_n 3, 1) := by decide +kernel
theorem dL_law_1811 : decode cL_law 1811 = .ok (.invokestatic 205, 3) := by decide +kernel
theorem dL_law_1814 : decode cL_law 1814 = .ok (.istore 5, 2) := by decide +kernel
theorem dL_law_1816 : decode cL_law 1816 = .ok (.aload_n 2, 1) := by decide +kernel
theorem dL_law_1817 : decode cL_law 1817 = .ok (.aload_n 0, 1) := by decide +kernel
theorem dL_law_1818 : decode cL_law 1818 = .ok (.iload 4, 2) := by decide +kernel
theorem dL_law_1820 : decode cL_law 1820 = .ok (.iconst 1, 1) := by decide +kernel
theorem dL_law_1821 : decode cL_law 1821 = .ok (.iadd, 1) := by decide +kernel
theorem dL_law_1822 : decode cL_law 1822 = .ok (.iaload, 1) := by decide +kernel
theorem dL_law_1823 : decode cL_law 1823 = .ok (.aload_n 0, 1) := by decide +kernel
theorem dL_law_1824 : decode cL_law 1824 = .ok (.iload 4, 2) := by decide +kernel
theorem dL_law_1826 : decode cL_law 1826 = .ok (.iconst 2, 1) := by decide +kernel
theorem dL_law_1827 : decode cL_law 1827 = .ok (.iadd, 1) := by decide +kernel
theorem dL_law_1828 : decode cL_law 1828 = .ok (.iaload, 1) := by decide +kernel
theorem dL_law_1829 : decode cL_law 1829 = .ok (.invokevirtual 207, 3) := by decide +kernel
theorem dL_law_1832 : decode cL_law 1832 = .ok (.istore 6, 2) := by decide +kernel
theorem dL_law_1834 : decode cL_law 1834 = .ok (.aload_n 2, 1) := by decide +kernel
theorem dL_law_1835 : decode cL_law 1835 = .ok (.invokevirtual 110, 3) := by decide +kernel
theorem dL_law_1838 : decode cL_law 1838 = .ok (.iload 5, 2) := by decide +kernel
theorem dL_law_1840 : decode cL_law 1840 = .ok (.if_icmp .eq 5, 3) := by decide +kernel
theorem dL_law_1843 : decode cL_law 1843 = .ok (.iconst 0, 1) := by decide +kernel
theorem dL_law_1844 : decode cL_law 1844 = .ok (.ireturn, 1) := by decide +kernel
theorem dL_law_1845 : decode cL_law 1845 = .ok (.iload 5, 2) := by decide +kernel
theorem dL_law_1847 : decode cL_law 1847 = .ok (.ifCond .ne 15, 3) := by decide +kernel
theorem dL_law_1850 : decode cL_law 1850 = .ok (.aload_n 3, 1) := by decide +kernel
theorem dL_law_1851 : decode cL_law 1851 = .ok (.iconst 0, 1) := by decide +kernel
theorem dL_law_1852 : decode cL_law 1852 = .ok (.laload, 1) := by decide +kernel
theorem dL_law_1853 : decode cL_law 1853 = .ok (.iload 6, 2) := by decide +kernel
theorem dL_law_1855 : decode cL_law 1855 = .ok (.i2l, 1) := by decide +kernel
theorem dL_law_1856 : decode cL_law 1856 = .ok (.lcmp, 1) := by decide +kernel
theorem dL_law_1857 : decode cL_law 1857 = .ok (.ifCond .eq 5, 3) := by decide +kernel
theorem dL_law_1860 : decode cL_law 1860 = .ok (.iconst 0, 1) := by decide +kernel
theorem dL_law_1861 : decode cL_law 1861 = .ok (.ireturn, 1) := by decide +kernel
theorem dL_law_1862 : decode cL_law 1862 = .ok (.goto 3, 3) := by decide +kernel
theorem dL_law_1865 : decode cL_law 1865 = .ok (.iinc 4 5, 3) := by decide +kernel
theorem dL_law_1868 : decode cL_law 1868 = .ok (.goto (-1845), 3) := by decide +kernel
theorem dL_law_1871 : decode cL_law 1871 = .ok (.iconst 1, 1) := by decide +kernel
theorem dL_law_1872 : decode cL_law 1872 = .ok (.ireturn, 1) := by decide +kernel
abbrev vwCl : List vw_C := [(RJx4a65c, TJx4a65c, 3), (RX0, TX0, 2), (RX1, TX1, 5), (RX2, TX2, 3), (RX3, TX3, 4), (RX4, TX4, 3), (RX5, TX5, 10), (RX7, TX7, 5), (RX8, TX8, 5), (RX9, TX9, 4), (RX10, TX10, 34)]
