def RX0 : String := "BentWords$Ballot"
def TX0 : u_T := fun k => match k with
  | 0 => ("BentWords$Ballot", "words", "[I", true)
  | 1 => ("BentWords$Ballot", "letters", "[I", true)
  | 2 => ("BentWords$Ballot", "votes", "[I", true)
  | 3 => ("BentWords$Ballot", "weights", "[I", true)
  | _ => ("BentWords$Ballot", "size", "I", false)
def tyX0 : Nat → FieldType := fun k => match k with
  | 0 => .array .int
  | 1 => .array .int
  | 2 => .array .int
  | 3 => .array .int
  | _ => .int
abbrev wsX00 : List Cond := u_ws RX0 TX0 5
theorem nmX0 : ∀ a, a < 5 → ∀ b, b < 5 → a ≠ b → (TX0 a).2.1 ≠ (TX0 b).2.1 := by decide +kernel
theorem tyX0_ok : ∀ k, k < 5 → parseFieldDescriptor (TX0 k).2.2.1 = some (tyX0 k) := by decide +kernel
abbrev cX0_init : ByteArray := prog_2_method_1_code
def yX0_init : MethodName := ⟨RX0, "<init>", "()V"⟩
abbrev cX0_copyFrom : ByteArray := prog_2_method_2_code
def yX0_copyFrom : MethodName := ⟨RX0, "copyFrom", "(LBentWords$Ballot;)V"⟩
abbrev cX0_placeOfAnswer : ByteArray := prog_2_method_3_code
def yX0_placeOfAnswer : MethodName := ⟨RX0, "placeOfAnswer", "(II)I"⟩
abbrev cX0_unlikeAnswers : ByteArray := prog_2_method_4_code
def yX0_unlikeAnswers : MethodName := ⟨RX0, "unlikeAnswers", "(I)I"⟩
abbrev cX0_leadingLetters : ByteArray := prog_2_method_5_code
def yX0_leadingLetters : MethodName := ⟨RX0, "leadingLetters", "(I)I"⟩
abbrev cX0_leadingWeight : ByteArray := prog_2_method_6_code
def yX0_leadingWeight : MethodName := ⟨RX0, "leadingWeight", "(I)I"⟩
abbrev cX0_leadOf : ByteArray := prog_2_method_7_code
def yX0_leadOf : MethodName := ⟨RX0, "leadOf", "(I)I"⟩
abbrev cX0_rankByWeight : ByteArray := prog_2_method_8_code
def yX0_rankByWeight : MethodName := ⟨RX0, "rankByWeight", "(I)I"⟩
abbrev cX0_cast : ByteArray := prog_2_method_9_code
def yX0_cast : MethodName := ⟨RX0, "cast", "(III)Z"⟩
abbrev cX0_forget : ByteArray := prog_2_method_10_code
def yX0_forget : MethodName := ⟨RX0, "forget", "(I)V"⟩
abbrev cX0_renumberBehind : ByteArray := prog_2_method_11_code
def yX0_renumberBehind : MethodName := ⟨RX0, "renumberBehind", "(I)V"⟩
abbrev cX0_placeOfLetters : ByteArray := prog_2_method_12_code
def yX0_placeOfLetters : MethodName := ⟨RX0, "placeOfLetters", "(II)I"⟩
abbrev cX0_leadingPlace : ByteArray := prog_2_method_13_code
def yX0_leadingPlace : MethodName := ⟨RX0, "leadingPlace", "(I)I"⟩
def RX1 : String := "BentWords$Pad"
def TX1 : u_T := fun k => match k with
  | 0 => ("BentWords$Pad", "characters", "[C", true)
  | _ => ("BentWords$Pad", "length", "I", false)
def tyX1 : Nat → FieldType := fun k => match k with
  | 0 => .array .char
  | _ => .int
abbrev wsX10 : List Cond := u_ws RX1 TX1 2
theorem nmX1 : ∀ a, a < 2 → ∀ b, b < 2 → a ≠ b → (TX1 a).2.1 ≠ (TX1 b).2.1 := by decide +kernel
theorem tyX1_ok : ∀ k, k < 2 → parseFieldDescriptor (TX1 k).2.2.1 = some (tyX1 k) := by decide +kernel
abbrev cX1_init : ByteArray := prog_3_method_1_code
def yX1_init : MethodName := ⟨RX1, "<init>", "()V"⟩
abbrev cX1_hasRoomFor : ByteArray := prog_3_method_2_code
def yX1_hasRoomFor : MethodName := ⟨RX1, "hasRoomFor", "(I)Z"⟩
abbrev cX1_append : ByteArray := prog_3_method_3_code
def yX1_append : MethodName := ⟨RX1, "append", "(I)V"⟩
def RX2 : String := "BentWords$Part"
def TX2 : u_T := fun k => match k with
  | 0 => ("BentWords$Part", "word", "I", false)
  | _ => ("BentWords$Part", "letters", "I", false)
def tyX2 : Nat → FieldType := fun k => match k with
  | 0 => .int
  | _ => .int
abbrev wsX20 : List Cond := u_ws RX2 TX2 2
theorem nmX2 : ∀ a, a < 2 → ∀ b, b < 2 → a ≠ b → (TX2 a).2.1 ≠ (TX2 b).2.1 := by decide +kernel
theorem tyX2_ok : ∀ k, k < 2 → parseFieldDescriptor (TX2 k).2.2.1 = some (tyX2 k) := by decide +kernel
abbrev cX2_init : ByteArray := prog_4_method_1_code
def yX2_init : MethodName := ⟨RX2, "<init>", "()V"⟩
def RX3 : String := "BentWords$Reading"
def TX3 : u_T := fun k => match k with
  | 0 => ("BentWords$Reading", "pad", "LBentWords$Pad;", true)
  | 1 => ("BentWords$Reading", "at", "I", false)
  | 2 => ("BentWords$Reading", "solver", "I", false)
  | 3 => ("BentWords$Reading", "seconds", "I", false)
  | 4 => ("BentWords$Reading", "told", "LBentWords$Part;", true)
  | _ => ("BentWords$Reading", "other", "LBentWords$Part;", true)
def tyX3 : Nat → FieldType := fun k => match k with
  | 0 => .object "BentWords$Pad"
  | 1 => .int
  | 2 => .int
  | 3 => .int
  | 4 => .object "BentWords$Part"
  | _ => .object "BentWords$Part"
abbrev wsX30 : List Cond := u_ws RX3 TX3 6
theorem nmX3 : ∀ a, a < 6 → ∀ b, b < 6 → a ≠ b → (TX3 a).2.1 ≠ (TX3 b).2.1 := by decide +kernel
theorem tyX3_ok : ∀ k, k < 6 → parseFieldDescriptor (TX3 k).2.2.1 = some (tyX3 k) := by decide +kernel
abbrev cX3_init : ByteArray := prog_5_method_1_code
def yX3_init : MethodName := ⟨RX3, "<init>", "()V"⟩
abbrev cX3_readWholeAsLetters : ByteArray := prog_5_method_2_code
def yX3_readWholeAsLetters : MethodName := ⟨RX3, "readWholeAsLetters", "()I"⟩
abbrev cX3_readWholeAsAnswer : ByteArray := prog_5_method_3_code
def yX3_readWholeAsAnswer : MethodName := ⟨RX3, "readWholeAsAnswer", "()I"⟩
abbrev cX3_readSolver : ByteArray := prog_5_method_4_code
def yX3_readSolver : MethodName := ⟨RX3, "readSolver", "()Z"⟩
abbrev cX3_readPart : ByteArray := prog_5_method_5_code
def yX3_readPart : MethodName := ⟨RX3, "readPart", "(LBentWords$Part;)Z"⟩
abbrev cX3_readSeconds : ByteArray := prog_5_method_6_code
def yX3_readSeconds : MethodName := ⟨RX3, "readSeconds", "()Z"⟩
abbrev cX3_readWordNumber : ByteArray := prog_5_method_7_code
def yX3_readWordNumber : MethodName := ⟨RX3, "readWordNumber", "()I"⟩
abbrev cX3_readSign : ByteArray := prog_5_method_8_code
def yX3_readSign : MethodName := ⟨RX3, "readSign", "(C)Z"⟩
abbrev cX3_readDigit : ByteArray := prog_5_method_9_code
def yX3_readDigit : MethodName := ⟨RX3, "readDigit", "(II)I"⟩
abbrev cX3_readLetters : ByteArray := prog_5_method_10_code
def yX3_readLetters : MethodName := ⟨RX3, "readLetters", "()I"⟩
def RX4 : String := "BentWords$Solver"
def TX4 : u_T := fun k => match k with
  | 0 => ("BentWords$Solver", "trust", "I", false)
  | 1 => ("BentWords$Solver", "answers", "I", false)
  | 2 => ("BentWords$Solver", "right", "I", false)
  | _ => ("BentWords$Solver", "seconds", "I", false)
def tyX4 : Nat → FieldType := fun k => match k with
  | 0 => .int
  | 1 => .int
  | 2 => .int
  | _ => .int
abbrev wsX40 : List Cond := u_ws RX4 TX4 4
theorem nmX4 : ∀ a, a < 4 → ∀ b, b < 4 → a ≠ b → (TX4 a).2.1 ≠ (TX4 b).2.1 := by decide +kernel
theorem tyX4_ok : ∀ k, k < 4 → parseFieldDescriptor (TX4 k).2.2.1 = some (tyX4 k) := by decide +kernel
abbrev cX4_init : ByteArray := prog_6_method_1_code
def yX4_init : MethodName := ⟨RX4, "<init>", "()V"⟩
abbrev cX4_copyFrom : ByteArray := prog_6_method_2_code
def yX4_copyFrom : MethodName := ⟨RX4, "copyFrom", "(LBentWords$Solver;)V"⟩
def RX5 : String := "BentWords$State"
def TX5 : u_T := fun k => match k with
  | 0 => ("BentWords$State", "settings", "[I", true)
  | 1 => ("BentWords$State", "solvers", "[LBentWords$Solver;", true)
  | 2 => ("BentWords$State", "words", "[LBentWords$Word;", true)
  | 3 => ("BentWords$State", "ballot", "LBentWords$Ballot;", true)
  | 4 => ("BentWords$State", "wordCount", "I", false)
  | 5 => ("BentWords$State", "retiredSoFar", "I", false)
  | _ => ("BentWords$State", "solvedSoFar", "I", false)
def tyX5 : Nat → FieldType := fun k => match k with
  | 0 => .array .int
  | 1 => .array (.object "BentWords$Solver")
  | 2 => .array (.object "BentWords$Word")
  | 3 => .object "BentWords$Ballot"
  | 4 => .int
  | 5 => .int
  | _ => .int
abbrev wsX50 : List Cond := u_ws RX5 TX5 7
theorem nmX5 : ∀ a, a < 7 → ∀ b, b < 7 → a ≠ b → (TX5 a).2.1 ≠ (TX5 b).2.1 := by decide +kernel
theorem tyX5_ok : ∀ k, k < 7 → parseFieldDescriptor (TX5 k).2.2.1 = some (tyX5 k) := by decide +kernel
abbrev cX5_init : ByteArray := prog_7_method_1_code
def yX5_init : MethodName := ⟨RX5, "<init>", "()V"⟩
abbrev cX5_copyFrom : ByteArray := prog_7_method_2_code
def yX5_copyFrom : MethodName := ⟨RX5, "copyFrom", "(LBentWords$State;)V"⟩
abbrev cX5_hasWord : ByteArray := prog_7_method_3_code
def yX5_hasWord : MethodName := ⟨RX5, "hasWord", "(I)Z"⟩
abbrev cX5_hasRoom : ByteArray := prog_7_method_4_code
def yX5_hasRoom : MethodName := ⟨RX5, "hasRoom", "()Z"⟩
abbrev cX5_append : ByteArray := prog_7_method_5_code
def yX5_append : MethodName := ⟨RX5, "append", "(III)I"⟩
abbrev cX5_remove : ByteArray := prog_7_method_6_code
def yX5_remove : MethodName := ⟨RX5, "remove", "(I)V"⟩
abbrev cX5_take : ByteArray := prog_7_method_7_code
def yX5_take : MethodName := ⟨RX5, "take", "(LBentWords$Reading;)V"⟩
abbrev cX5_takeVote : ByteArray := prog_7_method_8_code
def yX5_takeVote : MethodName := ⟨RX5, "takeVote", "(LBentWords$Part;II)V"⟩
abbrev cX5_lookBehindVote : ByteArray := prog_7_method_9_code
def yX5_lookBehindVote : MethodName := ⟨RX5, "lookBehindVote", "(I)V"⟩
abbrev cX5_kindWhenAgreed : ByteArray := prog_7_method_10_code
def yX5_kindWhenAgreed : MethodName := ⟨RX5, "kindWhenAgreed", "(II)I"⟩
abbrev cX5_weightLacking : ByteArray := prog_7_method_11_code
def yX5_weightLacking : MethodName := ⟨RX5, "weightLacking", "(I)I"⟩
abbrev cX5_trustBehindRight : ByteArray := prog_7_method_12_code
def yX5_trustBehindRight : MethodName := ⟨RX5, "trustBehindRight", "(I)I"⟩
abbrev cX5_rankByTrust : ByteArray := prog_7_method_13_code
def yX5_rankByTrust : MethodName := ⟨RX5, "rankByTrust", "(I)I"⟩
abbrev cX5_wordsOfKind : ByteArray := prog_7_method_14_code
def yX5_wordsOfKind : MethodName := ⟨RX5, "wordsOfKind", "(I)I"⟩
abbrev cX5_allAnswers : ByteArray := prog_7_method_15_code
def yX5_allAnswers : MethodName := ⟨RX5, "allAnswers", "()I"⟩
abbrev cX5_allRight : ByteArray := prog_7_method_16_code
def yX5_allRight : MethodName := ⟨RX5, "allRight", "()I"⟩
abbrev cX5_allTrust : ByteArray := prog_7_method_17_code
def yX5_allTrust : MethodName := ⟨RX5, "allTrust", "()I"⟩
def RX6 : String := "BentWords$Word"
def TX6 : u_T := fun k => match k with
  | 0 => ("BentWords$Word", "kind", "I", false)
  | 1 => ("BentWords$Word", "bend", "I", false)
  | 2 => ("BentWords$Word", "letters", "I", false)
  | 3 => ("BentWords$Word", "missed", "I", false)
  | 4 => ("BentWords$Word", "votes", "I", false)
  | _ => ("BentWords$Word", "seconds", "I", false)
def tyX6 : Nat → FieldType := fun k => match k with
  | 0 => .int
  | 1 => .int
  | 2 => .int
  | 3 => .int
  | 4 => .int
  | _ => .int
abbrev wsX60 : List Cond := u_ws RX6 TX6 6
theorem nmX6 : ∀ a, a < 6 → ∀ b, b < 6 → a ≠ b → (TX6 a).2.1 ≠ (TX6 b).2.1 := by decide +kernel
theorem tyX6_ok : ∀ k, k < 6 → parseFieldDescriptor (TX6 k).2.2.1 = some (tyX6 k) := by decide +kernel
abbrev cX6_init : ByteArray := prog_8_method_1_code
def yX6_init : MethodName := ⟨RX6, "<init>", "()V"⟩
abbrev cX6_begin : ByteArray := prog_8_method_2_code
def yX6_begin : MethodName := ⟨RX6, "begin", "(III)V"⟩
abbrev cX6_isTold : ByteArray := prog_8_method_3_code
def yX6_isTold : MethodName := ⟨RX6, "isTold", "()Z"⟩
abbrev cX6_copyFrom : ByteArray := prog_8_method_4_code
def yX6_copyFrom : MethodName := ⟨RX6, "copyFrom", "(LBentWords$Word;)V"⟩
def RX7 : String := "BentWords"
def TX7 : u_T := fun k => match k with
  | 0 => ("BentWords", "pad", "LBentWords$Pad;", true)
  | 1 => ("BentWords", "reading", "LBentWords$Reading;", true)
  | 2 => ("BentWords", "now", "LBentWords$State;", true)
  | 3 => ("BentWords", "history", "[LBentWords$State;", true)
  | 4 => ("BentWords", "changes", "I", false)
  | 5 => ("BentWords", "slots", "[LBentWords$State;", true)
  | _ => ("BentWords", "saved", "[Z", true)
def tyX7 : Nat → FieldType := fun k => match k with
  | 0 => .object "BentWords$Pad"
  | 1 => .object "BentWords$Reading"
  | 2 => .object "BentWords$State"
  | 3 => .array (.object "BentWords$State")
  | 4 => .int
  | 5 => .array (.object "BentWords$State")
  | _ => .array .boolean
abbrev wsX70 : List Cond := u_ws RX7 TX7 7
theorem nmX7 : ∀ a, a < 7 → ∀ b, b < 7 → a ≠ b → (TX7 a).2.1 ≠ (TX7 b).2.1 := by decide +kernel
theorem tyX7_ok : ∀ k, k < 7 → parseFieldDescriptor (TX7 k).2.2.1 = some (tyX7 k) := by decide +kernel
abbrev cX7_init : ByteArray := prog_1_method_1_code
def yX7_init : MethodName := ⟨RX7, "<init>", "()V"⟩
abbrev cX7_set : ByteArray := prog_1_method_2_code
def yX7_set : MethodName := ⟨RX7, "set", "(II)I"⟩
abbrev cX7_know : ByteArray := prog_1_method_3_code
def yX7_know : MethodName := ⟨RX7, "know", "(I)I"⟩
abbrev cX7_add : ByteArray := prog_1_method_4_code
def yX7_add : MethodName := ⟨RX7, "add", "(I)I"⟩
abbrev cX7_answer : ByteArray := prog_1_method_5_code
def yX7_answer : MethodName := ⟨RX7, "answer", "()I"⟩
abbrev cX7_bend : ByteArray := prog_1_method_6_code
def yX7_bend : MethodName := ⟨RX7, "bend", "(II)I"⟩
abbrev cX7_drop : ByteArray := prog_1_method_7_code
def yX7_drop : MethodName := ⟨RX7, "drop", "(I)I"⟩
abbrev cX7_trust : ByteArray := prog_1_method_8_code
def yX7_trust : MethodName := ⟨RX7, "trust", "(II)I"⟩
abbrev cX7_word : ByteArray := prog_1_method_9_code
def yX7_word : MethodName := ⟨RX7, "word", "(II)I"⟩
abbrev cX7_vote : ByteArray := prog_1_method_10_code
def yX7_vote : MethodName := ⟨RX7, "vote", "(III)I"⟩
abbrev cX7_solver : ByteArray := prog_1_method_11_code
def yX7_solver : MethodName := ⟨RX7, "solver", "(II)I"⟩
abbrev cX7_count : ByteArray := prog_1_method_12_code
def yX7_count : MethodName := ⟨RX7, "count", "(I)I"⟩
abbrev cX7_lacking : ByteArray := prog_1_method_13_code
def yX7_lacking : MethodName := ⟨RX7, "lacking", "(I)I"⟩
abbrev cX7_answersFor : ByteArray := prog_1_method_14_code
def yX7_answersFor : MethodName := ⟨RX7, "answersFor", "(II)I"⟩
abbrev cX7_ifVoted : ByteArray := prog_1_method_15_code
def yX7_ifVoted : MethodName := ⟨RX7, "ifVoted", "(III)I"⟩
abbrev cX7_mostMissed : ByteArray := prog_1_method_16_code
def yX7_mostMissed : MethodName := ⟨RX7, "mostMissed", "()I"⟩
abbrev cX7_nearest : ByteArray := prog_1_method_17_code
def yX7_nearest : MethodName := ⟨RX7, "nearest", "()I"⟩
abbrev cX7_put : ByteArray := prog_1_method_18_code
def yX7_put : MethodName := ⟨RX7, "put", "(J)I"⟩
abbrev cX7_wipe : ByteArray := prog_1_method_19_code
def yX7_wipe : MethodName := ⟨RX7, "wipe", "()I"⟩
abbrev cX7_fault : ByteArray := prog_1_method_20_code
def yX7_fault : MethodName := ⟨RX7, "fault", "()I"⟩
abbrev cX7_undo : ByteArray := prog_1_method_21_code
def yX7_undo : MethodName := ⟨RX7, "undo", "()I"⟩
abbrev cX7_remember : ByteArray := prog_1_method_24_code
def yX7_remember : MethodName := ⟨RX7, "remember", "()V"⟩
abbrev cX7_isWithin : ByteArray := prog_1_method_25_code
def yX7_isWithin : MethodName := ⟨RX7, "isWithin", "(III)Z"⟩
abbrev cX7_isSolver : ByteArray := prog_1_method_26_code
def yX7_isSolver : MethodName := ⟨RX7, "isSolver", "(I)Z"⟩
abbrev cX7_mean : ByteArray := prog_1_method_27_code
def yX7_mean : MethodName := ⟨RX7, "mean", "(II)I"⟩
abbrev cX7_lettersIn : ByteArray := prog_1_method_28_code
def yX7_lettersIn : MethodName := ⟨RX7, "lettersIn", "(I)I"⟩
abbrev cX7_aboutLetters : ByteArray := prog_1_method_29_code
def yX7_aboutLetters : MethodName := ⟨RX7, "aboutLetters", "(II)I"⟩
abbrev cX7_codeAt : ByteArray := prog_1_method_30_code
def yX7_codeAt : MethodName := ⟨RX7, "codeAt", "(JI)I"⟩
abbrev cX7_charactersIn : ByteArray := prog_1_method_31_code
def yX7_charactersIn : MethodName := ⟨RX7, "charactersIn", "(J)I"⟩
def RX8 : String := "BentWordsModel"
def TX8 : u_T := fun k => match k with
  | _ => ("", "", "", false)
def tyX8 : Nat → FieldType := fun k => match k with
  | _ => .int
abbrev wsX80 : List Cond := u_ws RX8 TX8 0
theorem nmX8 : ∀ a, a < 0 → ∀ b, b < 0 → a ≠ b → (TX8 a).2.1 ≠ (TX8 b).2.1 := by decide +kernel
theorem tyX8_ok : ∀ k, k < 0 → parseFieldDescriptor (TX8 k).2.2.1 = some (tyX8 k) := by decide +kernel
def RJx8e188 : String := "java/lang/Cloneable"
def TJx8e188 : u_T := fun k => match k with
  | _ => ("", "", "", false)
def tyJx8e188 : Nat → FieldType := fun k => match k with
  | _ => .int
abbrev wsJx8e1880 : List Cond := u_ws RJx8e188 TJx8e188 0
theorem nmJx8e188 : ∀ a, a < 0 → ∀ b, b < 0 → a ≠ b → (TJx8e188 a).2.1 ≠ (TJx8e188 b).2.1 := by decide +kernel
theorem tyJx8e188_ok : ∀ k, k < 0 → parseFieldDescriptor (TJx8e188 k).2.2.1 = some (tyJx8e188 k) := by decide +kernel
def RJ9 : String := "java/lang/Math"
def TJ9 : u_T := fun k => match k with
  | _ => ("", "", "", false)
def tyJ9 : Nat → FieldType := fun k => match k with
  | _ => .int
abbrev wsJ90 : List Cond := u_ws RJ9 TJ9 0
theorem nmJ9 : ∀ a, a < 0 → ∀ b, b < 0 → a ≠ b → (TJ9 a).2.1 ≠ (TJ9 b).2.1 := by decide +kernel
theorem tyJ9_ok : ∀ k, k < 0 → parseFieldDescriptor (TJ9 k).2.2.1 = some (tyJ9 k) := by decide +kernel
abbrev cJ9_max_7cf53 : ByteArray := prog_12_method_65_code
def yJ9_max_7cf53 : MethodName := ⟨RJ9, "max", "(II)I"⟩
abbrev cJ9_min_7cf53 : ByteArray := prog_12_method_69_code
def yJ9_min_7cf53 : MethodName := ⟨RJ9, "min", "(II)I"⟩
def RJ10 : String := "java/lang/System"
def TJ10 : u_T := fun k => match k with
  | _ => ("", "", "", false)
def tyJ10 : Nat → FieldType := fun k => match k with
  | _ => .int
abbrev wsJ100 : List Cond := u_ws RJ10 TJ10 0
theorem nmJ10 : ∀ a, a < 0 → ∀ b, b < 0 → a ≠ b → (TJ10 a).2.1 ≠ (TJ10 b).2.1 := by decide +kernel
theorem tyJ10_ok : ∀ k, k < 0 → parseFieldDescriptor (TJ10 k).2.2.1 = some (tyJ10 k) := by decide +kernel
def RL : String := "BentWordsLaw"
abbrev cL_cell : ByteArray := method_2_code
def yL_cell : MethodName := ⟨RL, "cell", "([II)I"⟩
abbrev cL_low : ByteArray := method_3_code
def yL_low : MethodName := ⟨RL, "low", "(II)I"⟩
abbrev cL_number : ByteArray := method_4_code
def yL_number : MethodName := ⟨RL, "number", "(LBentWords;I)V"⟩
abbrev cL_letters : ByteArray := method_5_code
def yL_letters : MethodName := ⟨RL, "letters", "(LBentWords;I)V"⟩
abbrev cL_first : ByteArray := method_6_code
def yL_first : MethodName := ⟨RL, "first", "(LBentWords;IZ)Z"⟩
abbrev cL_answers : ByteArray := method_7_code
def yL_answers : MethodName := ⟨RL, "answers", "(LBentWords;IIII)Z"⟩
abbrev cL_change : ByteArray := method_8_code
def yL_change : MethodName := ⟨RL, "change", "(LBentWords;III)I"⟩
abbrev cL_areVotes : ByteArray := method_9_code
def yL_areVotes : MethodName := ⟨RL, "areVotes", "(LBentWords;I)Z"⟩
abbrev cL_isUnknown : ByteArray := method_10_code
def yL_isUnknown : MethodName := ⟨RL, "isUnknown", "(LBentWords;I)Z"⟩
abbrev cL_holds : ByteArray := method_11_code
def yL_holds : MethodName := ⟨RL, "holds", "(LBentWords;)Z"⟩
abbrev cL_law : ByteArray := code
def yL_law : MethodName := ⟨RL, "law", "([I)Z"⟩
