/-! the tables of the machine of this claim, by program out of the Statement: methods (name, code, locals, answer, level), fields, calls, statics, classes, constants -/
abbrev mRow : Type := MethodName × ByteArray × Nat × Option FieldType × Nat
def mTab_0 : List mRow := [(yX0_init, cX0_init, 1, none, 1), (yX0_copyFrom, cX0_copyFrom, 2, none, 1), (yX0_placeOfAnswer, cX0_placeOfAnswer, 5, (some .int), 0), (yX0_unlikeAnswers, cX0_unlikeAnswers, 4, (some .int), 0), (yX0_leadingLetters, cX0_leadingLetters, 3, (some .int), 1), (yX0_leadingWeight, cX0_leadingWeight, 3, (some .int), 1), (yX0_leadOf, cX0_leadOf, 5, (some .int), 1), (yX0_rankByWeight, cX0_rankByWeight, 5, (some .int), 0), (yX0_cast, cX0_cast, 5, (some .boolean), 1), (yX0_forget, cX0_forget, 4, none, 0), (yX0_renumberBehind, cX0_renumberBehind, 3, none, 0), (yX0_placeOfLetters, cX0_placeOfLetters, 4, (some .int), 0), (yX0_leadingPlace, cX0_leadingPlace, 4, (some .int), 0), (yX1_init, cX1_init, 1, none, 1), (yX1_hasRoomFor, cX1_hasRoomFor, 2, (some .boolean), 0), (yX1_append, cX1_append, 2, none, 1), (yX2_init, cX2_init, 1, none, 1), (yX3_init, cX3_init, 1, none, 2), (yX3_readWholeAsLetters, cX3_readWholeAsLetters, 2, (some .int), 1), (yX3_readWholeAsAnswer, cX3_readWholeAsAnswer, 2, (some .int), 4)]
def mTab_1 : List mRow := [(yX3_readSolver, cX3_readSolver, 1, (some .boolean), 2), (yX3_readPart, cX3_readPart, 2, (some .boolean), 3), (yX3_readSeconds, cX3_readSeconds, 2, (some .boolean), 2), (yX3_readWordNumber, cX3_readWordNumber, 3, (some .int), 2), (yX3_readSign, cX3_readSign, 2, (some .boolean), 0), (yX3_readDigit, cX3_readDigit, 4, (some .int), 1), (yX3_readLetters, cX3_readLetters, 4, (some .int), 0), (yX4_init, cX4_init, 1, none, 1), (yX4_copyFrom, cX4_copyFrom, 2, none, 0), (yX5_init, cX5_init, 2, none, 2), (yX5_copyFrom, cX5_copyFrom, 3, none, 2), (yX5_hasWord, cX5_hasWord, 2, (some .boolean), 0), (yX5_hasRoom, cX5_hasRoom, 1, (some .boolean), 0), (yX5_append, cX5_append, 5, (some .int), 1), (yX5_remove, cX5_remove, 4, none, 1), (yX5_take, cX5_take, 5, none, 5), (yX5_takeVote, cX5_takeVote, 5, none, 4), (yX5_lookBehindVote, cX5_lookBehindVote, 3, none, 3), (yX5_kindWhenAgreed, cX5_kindWhenAgreed, 4, (some .int), 1), (yX5_weightLacking, cX5_weightLacking, 4, (some .int), 2)]
def mTab_2 : List mRow := [(yX5_trustBehindRight, cX5_trustBehindRight, 2, (some .int), 1), (yX5_rankByTrust, cX5_rankByTrust, 5, (some .int), 0), (yX5_wordsOfKind, cX5_wordsOfKind, 4, (some .int), 0), (yX5_allAnswers, cX5_allAnswers, 3, (some .int), 0), (yX5_allRight, cX5_allRight, 3, (some .int), 0), (yX5_allTrust, cX5_allTrust, 3, (some .int), 0), (yX6_init, cX6_init, 1, none, 1), (yX6_begin, cX6_begin, 4, none, 0), (yX6_isTold, cX6_isTold, 1, (some .boolean), 0), (yX6_copyFrom, cX6_copyFrom, 2, none, 0), (yX7_init, cX7_init, 2, none, 3), (yX7_set, cX7_set, 4, (some .int), 4), (yX7_know, cX7_know, 3, (some .int), 4), (yX7_add, cX7_add, 2, (some .int), 4), (yX7_answer, cX7_answer, 2, (some .int), 6), (yX7_bend, cX7_bend, 4, (some .int), 4), (yX7_drop, cX7_drop, 3, (some .int), 4), (yX7_trust, cX7_trust, 4, (some .int), 4), (yX7_word, cX7_word, 4, (some .int), 2), (yX7_vote, cX7_vote, 5, (some .int), 2)]
def mTab_3 : List mRow := [(yX7_solver, cX7_solver, 4, (some .int), 2), (yX7_count, cX7_count, 2, (some .int), 1), (yX7_lacking, cX7_lacking, 2, (some .int), 3), (yX7_answersFor, cX7_answersFor, 6, (some .int), 3), (yX7_ifVoted, cX7_ifVoted, 5, (some .int), 3), (yX7_mostMissed, cX7_mostMissed, 4, (some .int), 1), (yX7_nearest, cX7_nearest, 5, (some .int), 3), (yX7_put, cX7_put, 5, (some .int), 2), (yX7_wipe, cX7_wipe, 2, (some .int), 0), (yX7_fault, cX7_fault, 1, (some .int), 5), (yX7_undo, cX7_undo, 1, (some .int), 3), (yX7_remember, cX7_remember, 3, none, 3), (yX7_isWithin, cX7_isWithin, 3, (some .boolean), 0), (yX7_isSolver, cX7_isSolver, 1, (some .boolean), 1), (yX7_mean, cX7_mean, 2, (some .int), 0), (yX7_lettersIn, cX7_lettersIn, 2, (some .int), 0), (yX7_aboutLetters, cX7_aboutLetters, 3, (some .int), 1), (yX7_codeAt, cX7_codeAt, 3, (some .int), 0), (yX7_charactersIn, cX7_charactersIn, 4, (some .int), 1), (yL_cell, cL_cell, 2, (some .int), 0)]
def mTab_4 : List mRow := [(yL_low, cL_low, 2, (some .int), 0), (yL_number, cL_number, 2, none, 3), (yL_letters, cL_letters, 3, none, 3), (yL_first, cL_first, 5, (some .boolean), 3), (yL_answers, cL_answers, 17, (some .boolean), 7), (yL_change, cL_change, 7, (some .int), 5), (yL_areVotes, cL_areVotes, 10, (some .boolean), 3), (yL_isUnknown, cL_isUnknown, 12, (some .boolean), 4), (yL_holds, cL_holds, 10, (some .boolean), 5)]
def mTab : List mRow := mTab_0 ++ (mTab_1 ++ (mTab_2 ++ (mTab_3 ++ (mTab_4))))
def fTab : List ((Nat × Nat) × (Nat × Nat × Nat × Bool)) := [((0, 9), (0, 0, 2, true)), ((0, 15), (0, 1, 2, true)), ((0, 18), (0, 2, 2, true)), ((0, 21), (0, 3, 2, true)), ((0, 24), (0, 4, 0, false)), ((1, 9), (1, 0, 2, true)), ((1, 15), (1, 1, 0, false)), ((3, 12), (3, 0, 2, true)), ((3, 21), (3, 4, 2, true)), ((3, 25), (3, 5, 2, true)), ((3, 28), (3, 1, 0, false)), ((3, 36), (1, 1, 0, false)), ((3, 58), (3, 2, 0, false)), ((3, 64), (2, 0, 0, false)), ((3, 67), (2, 1, 0, false)), ((3, 70), (3, 3, 0, false)), ((3, 73), (1, 0, 2, true)), ((4, 9), (4, 0, 0, false)), ((4, 15), (4, 1, 0, false)), ((4, 18), (4, 2, 0, false)), ((4, 21), (4, 3, 0, false)), ((5, 18), (5, 0, 2, true)), ((5, 25), (5, 1, 2, true)), ((5, 31), (5, 2, 2, true)), ((5, 38), (5, 3, 2, true)), ((5, 54), (5, 4, 0, false)), ((5, 64), (5, 5, 0, false)), ((5, 67), (5, 6, 0, false)), ((5, 85), (3, 2, 0, false)), ((5, 90), (3, 4, 2, true)), ((5, 94), (2, 0, 0, false)), ((5, 99), (4, 1, 0, false)), ((5, 102), (4, 3, 0, false)), ((5, 105), (3, 3, 0, false)), ((5, 106), (6, 2, 0, false)), ((5, 109), (2, 1, 0, false)), ((5, 110), (4, 0, 0, false)), ((5, 113), (4, 2, 0, false)), ((5, 120), (3, 5, 2, true)), ((5, 133), (6, 3, 0, false)), ((5, 140), (6, 4, 0, false)), ((5, 143), (6, 5, 0, false)), ((5, 153), (6, 0, 0, false)), ((5, 162), (6, 1, 0, false)), ((6, 9), (6, 0, 0, false)), ((6, 15), (6, 1, 0, false)), ((6, 18), (6, 2, 0, false)), ((6, 21), (6, 3, 0, false)), ((6, 24), (6, 4, 0, false)), ((6, 27), (6, 5, 0, false)), ((7, 10), (7, 1, 2, true)), ((7, 16), (3, 0, 2, true)), ((7, 20), (7, 0, 2, true)), ((7, 24), (7, 2, 2, true)), ((7, 28), (7, 3, 2, true)), ((7, 32), (7, 5, 2, true)), ((7, 35), (7, 6, 2, true)), ((7, 53), (5, 0, 2, true)), ((7, 64), (1, 1, 0, false)), ((7, 77), (3, 4, 2, true)), ((7, 81), (2, 0, 0, false)), ((7, 90), (3, 5, 2, true)), ((7, 93), (5, 2, 2, true)), ((7, 102), (6, 0, 0, false)), ((7, 113), (5, 3, 2, true)), ((7, 129), (5, 1, 2, true)), ((7, 133), (4, 0, 0, false)), ((7, 138), (6, 1, 0, false)), ((7, 141), (6, 4, 0, false)), ((7, 154), (6, 5, 0, false)), ((7, 161), (6, 3, 0, false)), ((7, 164), (6, 2, 0, false)), ((7, 173), (0, 2, 2, true)), ((7, 175), (0, 3, 2, true)), ((7, 181), (0, 1, 2, true)), ((7, 183), (4, 1, 0, false)), ((7, 186), (4, 2, 0, false)), ((7, 192), (4, 3, 0, false)), ((7, 196), (5, 4, 0, false)), ((7, 205), (5, 5, 0, false)), ((7, 208), (5, 6, 0, false)), ((7, 214), (7, 4, 0, false))]
def cTab_0 : List ((Nat × Nat) × (Nat × Nat × Nat × Nat × Nat)) := [((0, 3), (6, 0, 0, 0, 0)), ((0, 28), (9, 0, 0, 0, 0)), ((0, 34), (0, 12, 1, 0, 0)), ((0, 38), (7, 0, 0, 0, 0)), ((0, 44), (0, 11, 2, 0, 0)), ((1, 3), (6, 0, 0, 0, 0)), ((1, 19), (0, 14, 1, 0, 1)), ((2, 1), (6, 0, 0, 0, 0)), ((3, 3), (6, 0, 0, 0, 0)), ((3, 11), (3, 13, 0, 1, 1)), ((3, 20), (3, 16, 0, 1, 2)), ((3, 32), (0, 26, 0, 0, 3)), ((3, 39), (0, 20, 0, 2, 3)), ((3, 43), (0, 24, 1, 0, 3)), ((3, 47), (0, 21, 1, 3, 3)), ((3, 51), (0, 22, 0, 2, 3)), ((3, 54), (0, 25, 2, 1, 3)), ((3, 61), (0, 23, 0, 2, 3)), ((3, 77), (4, 72, 3, 0, 7)), ((4, 3), (6, 0, 0, 0, 0)), ((5, 3), (6, 0, 0, 0, 0)), ((5, 13), (5, 0, 0, 0, 0)), ((5, 37), (3, 0, 0, 1, 0)), ((5, 42), (3, 27, 0, 1, 4))]
def cTab_1 : List ((Nat × Nat) × (Nat × Nat × Nat × Nat × Nat)) := [((5, 43), (3, 46, 0, 1, 6)), ((5, 44), (9, 0, 0, 0, 0)), ((5, 50), (0, 28, 1, 0, 4)), ((5, 58), (0, 49, 1, 0, 6)), ((5, 61), (0, 1, 1, 1, 0)), ((5, 70), (0, 32, 0, 0, 5)), ((5, 74), (0, 47, 3, 0, 6)), ((5, 78), (0, 9, 1, 0, 0)), ((5, 82), (0, 10, 1, 0, 0)), ((5, 116), (0, 40, 1, 1, 5)), ((5, 123), (0, 36, 3, 4, 5)), ((5, 127), (7, 0, 0, 0, 0)), ((5, 136), (0, 8, 3, 1, 0)), ((5, 144), (0, 37, 1, 3, 5)), ((5, 147), (0, 39, 1, 2, 5)), ((5, 150), (0, 38, 2, 1, 5)), ((5, 156), (0, 4, 1, 1, 0)), ((5, 159), (4, 74, 2, 0, 7)), ((5, 165), (0, 5, 1, 1, 0)), ((5, 168), (0, 6, 1, 1, 0)), ((5, 171), (8, 0, 0, 0, 0)), ((6, 3), (6, 0, 0, 0, 0)), ((7, 1), (6, 0, 0, 0, 0)), ((7, 9), (3, 17, 0, 2, 3))]
def cTab_2 : List ((Nat × Nat) × (Nat × Nat × Nat × Nat × Nat)) := [((7, 23), (2, 29, 0, 2, 5)), ((7, 39), (1, 72, 3, 0, 7)), ((7, 50), (0, 71, 0, 3, 7)), ((7, 56), (0, 18, 0, 1, 3)), ((7, 60), (0, 32, 0, 0, 5)), ((7, 70), (0, 33, 3, 1, 5)), ((7, 74), (0, 19, 0, 4, 3)), ((7, 86), (0, 31, 1, 0, 5)), ((7, 97), (0, 48, 0, 0, 6)), ((7, 105), (0, 35, 1, 5, 5)), ((7, 109), (0, 47, 3, 0, 6)), ((7, 117), (0, 9, 1, 0, 0)), ((7, 123), (0, 34, 1, 1, 5)), ((7, 126), (1, 73, 1, 1, 7)), ((7, 144), (0, 3, 1, 0, 0)), ((7, 148), (0, 5, 1, 1, 0)), ((7, 151), (0, 6, 1, 1, 0)), ((7, 157), (1, 74, 2, 0, 7)), ((7, 167), (1, 76, 2, 1, 7)), ((7, 170), (0, 2, 2, 0, 0)), ((7, 178), (0, 7, 1, 0, 0)), ((7, 189), (0, 41, 1, 0, 5)), ((7, 193), (0, 42, 1, 0, 5)), ((7, 199), (0, 43, 0, 0, 5))]
def cTab_3 : List ((Nat × Nat) × (Nat × Nat × Nat × Nat × Nat)) := [((7, 202), (0, 44, 0, 0, 5)), ((7, 211), (0, 45, 0, 0, 5)), ((7, 217), (0, 39, 1, 2, 5)), ((7, 220), (0, 40, 1, 1, 5)), ((7, 223), (0, 38, 2, 1, 5)), ((7, 226), (1, 78, 1, 1, 7)), ((7, 230), (0, 14, 1, 0, 1)), ((7, 233), (1, 77, 2, 0, 7)), ((7, 237), (0, 15, 1, 1, 1)), ((7, 239), (0, 30, 1, 2, 5)), ((7, 243), (1, 75, 1, 0, 7)), ((8, 9), (0, 67, 1, 2, 7)), ((8, 15), (1, 80, 2, 0, 8)), ((8, 21), (0, 58, 2, 2, 7)), ((8, 26), (0, 60, 2, 2, 7)), ((8, 29), (0, 61, 1, 1, 7)), ((8, 33), (1, 81, 2, 3, 8)), ((8, 41), (1, 83, 3, 3, 8)), ((8, 47), (1, 82, 2, 3, 8)), ((8, 52), (0, 69, 0, 5, 7)), ((8, 56), (0, 54, 0, 6, 7)), ((8, 59), (0, 68, 0, 0, 7)), ((8, 62), (0, 51, 2, 4, 7)), ((8, 65), (0, 52, 1, 4, 7))]
def cTab_4 : List ((Nat × Nat) × (Nat × Nat × Nat × Nat × Nat)) := [((8, 68), (0, 53, 1, 4, 7)), ((8, 71), (0, 55, 2, 4, 7)), ((8, 74), (0, 56, 1, 4, 7)), ((8, 77), (0, 57, 2, 4, 7)), ((8, 80), (0, 59, 3, 2, 7)), ((8, 84), (0, 62, 1, 3, 7)), ((8, 87), (0, 66, 0, 3, 7)), ((8, 90), (0, 63, 2, 3, 7)), ((8, 93), (0, 64, 3, 3, 7)), ((8, 96), (0, 65, 0, 1, 7)), ((8, 99), (1, 86, 2, 3, 8)), ((8, 103), (1, 87, 2, 4, 8)), ((8, 106), (2, 50, 0, 3, 7)), ((8, 107), (1, 88, 1, 5, 8)), ((8, 111), (0, 70, 0, 3, 7)), ((8, 114), (1, 79, 2, 0, 8)), ((8, 118), (1, 85, 4, 5, 8)), ((8, 122), (1, 84, 5, 7, 8))]
def cTab : List ((Nat × Nat) × (Nat × Nat × Nat × Nat × Nat)) := cTab_0 ++ (cTab_1 ++ (cTab_2 ++ (cTab_3 ++ (cTab_4))))
def kTab : List (Nat × Nat) := [(5, 14)]
def sTab : List ((Nat × Nat) × (Nat × Bool)) := [((5, 9), (1000001, true)), ((7, 43), (1000002, false)), ((7, 47), (1000003, false))]
def nTab : List ((Nat × Nat) × Nat) := [((8, 10), 7), ((7, 7), 3), ((3, 9), 1), ((3, 18), 2), ((7, 21), 5), ((5, 23), 4), ((5, 29), 6), ((5, 35), 0)]
def lTab : List ((Nat × Nat) × Int64) := [((7, 246), 255), ((8, 37), 58), ((8, 39), 61), ((8, 24), 122), ((8, 45), 43), ((8, 50), 64)]
def jTab : List ((Nat × Nat) × Int32) := [((8, 7), 40503), ((8, 8), 2147483647)]
def jOf (o i : Nat) : Option Int32 := jTab.lookup (o, i)
def fOf (o i : Nat) : Option (Nat × Nat × Nat × Bool) := fTab.lookup (o, i)
def cOf (o i : Nat) : Option (Nat × Nat × Nat × Nat × Nat) := cTab.lookup (o, i)
def sOf (o i : Nat) : Option (Nat × Bool) := sTab.lookup (o, i)
def nOf (o i : Nat) : Option Nat := nTab.lookup (o, i)
def lOf (o i : Nat) : Option Int64 := lTab.lookup (o, i)
def mOf (z : Nat) : mRow := mTab.getD z (yX0_init, cX0_init, 0, none, 0)
def RXn (c : Nat) : String := match c with | 0 => RX0 | 1 => RX1 | 2 => RX2 | 3 => RX3 | 4 => RX4 | 5 => RX5 | 6 => RX6 | 7 => RX7 | _ => RL
def TXn (c : Nat) : u_T := match c with | 0 => TX0 | 1 => TX1 | 2 => TX2 | 3 => TX3 | 4 => TX4 | 5 => TX5 | 6 => TX6 | _ => TX7
def NXn (c : Nat) : Nat := match c with | 0 => 5 | 1 => 2 | 2 => 2 | 3 => 6 | 4 => 4 | 5 => 7 | 6 => 6 | 7 => 7 | _ => 0
def tyn (c : Nat) : Nat → FieldType := match c with | 0 => tyX0 | 1 => tyX1 | 2 => tyX2 | 3 => tyX3 | 4 => tyX4 | 5 => tyX5 | 6 => tyX6 | _ => tyX7
def tcs (c : Nat) : List Nat := match c with | 0 => [2, 2, 2, 2, 0] | 1 => [2, 0] | 2 => [0, 0] | 3 => [2, 0, 0, 0, 2, 2] | 4 => [0, 0, 0, 0] | 5 => [2, 2, 2, 2, 0, 0, 0] | 6 => [0, 0, 0, 0, 0, 0] | 7 => [2, 2, 2, 2, 0, 2, 2] | _ => []
def cl9 : List vw_C := [(RX0, TX0, 5), (RX1, TX1, 2), (RX2, TX2, 2), (RX3, TX3, 6), (RX4, TX4, 4), (RX5, TX5, 7), (RX6, TX6, 6), (RX7, TX7, 7)]
theorem fo_0_9 : fOf 0 9 = some (0, 0, 2, true) := by decide +kernel
theorem fo_0_15 : fOf 0 15 = some (0, 1, 2, true) := by decide +kernel
theorem fo_0_18 : fOf 0 18 = some (0, 2, 2, true) := by decide +kernel
theorem fo_0_21 : fOf 0 21 = some (0, 3, 2, true) := by decide +kernel
theorem fo_0_24 : fOf 0 24 = some (0, 4, 0, false) := by decide +kernel
theorem fo_1_9 : fOf 1 9 = some (1, 0, 2, true) := by decide +kernel
theorem fo_1_15 : fOf 1 15 = some (1, 1, 0, false) := by decide +kernel
theorem fo_3_12 : fOf 3 12 = some (3, 0, 2, true) := by decide +kernel
theorem fo_3_21 : fOf 3 21 = some (3, 4, 2, true) := by decide +kernel
theorem fo_3_25 : fOf 3 25 = some (3, 5, 2, true) := by decide +kernel
theorem fo_3_28 : fOf 3 28 = some (3, 1, 0, false) := by decide +kernel
theorem fo_3_36 : fOf 3 36 = some (1, 1, 0, false) := by decide +kernel
theorem fo_3_58 : fOf 3 58 = some (3, 2, 0, false) := by decide +kernel
theorem fo_3_64 : fOf 3 64 = some (2, 0, 0, false) := by decide +kernel
theorem fo_3_67 : fOf 3 67 = some (2, 1, 0, false) := by decide +kernel
theorem fo_3_70 : fOf 3 70 = some (3, 3, 0, false) := by decide +kernel
theorem fo_3_73 : fOf 3 73 = some (1, 0, 2, true) := by decide +kernel
theorem fo_4_9 : fOf 4 9 = some (4, 0, 0, false) := by decide +kernel
theorem fo_4_15 : fOf 4 15 = some (4, 1, 0, false) := by decide +kernel
theorem fo_4_18 : fOf 4 18 = some (4, 2, 0, false) := by decide +kernel
theorem fo_4_21 : fOf 4 21 = some (4, 3, 0, false) := by decide +kernel
theorem fo_5_18 : fOf 5 18 = some (5, 0, 2, true) := by decide +kernel
theorem fo_5_25 : fOf 5 25 = some (5, 1, 2, true) := by decide +kernel
theorem fo_5_31 : fOf 5 31 = some (5, 2, 2, true) := by decide +kernel
theorem fo_5_38 : fOf 5 38 = some (5, 3, 2, true) := by decide +kernel
theorem fo_5_54 : fOf 5 54 = some (5, 4, 0, false) := by decide +kernel
theorem fo_5_64 : fOf 5 64 = some (5, 5, 0, false) := by decide +kernel
theorem fo_5_67 : fOf 5 67 = some (5, 6, 0, false) := by decide +kernel
theorem fo_5_85 : fOf 5 85 = some (3, 2, 0, false) := by decide +kernel
theorem fo_5_90 : fOf 5 90 = some (3, 4, 2, true) := by decide +kernel
theorem fo_5_94 : fOf 5 94 = some (2, 0, 0, false) := by decide +kernel
theorem fo_5_99 : fOf 5 99 = some (4, 1, 0, false) := by decide +kernel
theorem fo_5_102 : fOf 5 102 = some (4, 3, 0, false) := by decide +kernel
theorem fo_5_105 : fOf 5 105 = some (3, 3, 0, false) := by decide +kernel
theorem fo_5_106 : fOf 5 106 = some (6, 2, 0, false) := by decide +kernel
theorem fo_5_109 : fOf 5 109 = some (2, 1, 0, false) := by decide +kernel
theorem fo_5_110 : fOf 5 110 = some (4, 0, 0, false) := by decide +kernel
theorem fo_5_113 : fOf 5 113 = some (4, 2, 0, false) := by decide +kernel
theorem fo_5_120 : fOf 5 120 = some (3, 5, 2, true) := by decide +kernel
theorem fo_5_133 : fOf 5 133 = some (6, 3, 0, false) := by decide +kernel
theorem fo_5_140 : fOf 5 140 = some (6, 4, 0, false) := by decide +kernel
theorem fo_5_143 : fOf 5 143 = some (6, 5, 0, false) := by decide +kernel
theorem fo_5_153 : fOf 5 153 = some (6, 0, 0, false) := by decide +kernel
theorem fo_5_162 : fOf 5 162 = some (6, 1, 0, false) := by decide +kernel
theorem fo_6_9 : fOf 6 9 = some (6, 0, 0, false) := by decide +kernel
theorem fo_6_15 : fOf 6 15 = some (6, 1, 0, false) := by decide +kernel
theorem fo_6_18 : fOf 6 18 = some (6, 2, 0, false) := by decide +kernel
theorem fo_6_21 : fOf 6 21 = some (6, 3, 0, false) := by decide +kernel
theorem fo_6_24 : fOf 6 24 = some (6, 4, 0, false) := by decide +kernel
theorem fo_6_27 : fOf 6 27 = some (6, 5, 0, false) := by decide +kernel
theorem fo_7_10 : fOf 7 10 = some (7, 1, 2, true) := by decide +kernel
theorem fo_7_16 : fOf 7 16 = some (3, 0, 2, true) := by decide +kernel
theorem fo_7_20 : fOf 7 20 = some (7, 0, 2, true) := by decide +kernel
theorem fo_7_24 : fOf 7 24 = some (7, 2, 2, true) := by decide +kernel
theorem fo_7_28 : fOf 7 28 = some (7, 3, 2, true) := by decide +kernel
theorem fo_7_32 : fOf 7 32 = some (7, 5, 2, true) := by decide +kernel
theorem fo_7_35 : fOf 7 35 = some (7, 6, 2, true) := by decide +kernel
theorem fo_7_53 : fOf 7 53 = some (5, 0, 2, true) := by decide +kernel
theorem fo_7_64 : fOf 7 64 = some (1, 1, 0, false) := by decide +kernel
theorem fo_7_77 : fOf 7 77 = some (3, 4, 2, true) := by decide +kernel
theorem fo_7_81 : fOf 7 81 = some (2, 0, 0, false) := by decide +kernel
theorem fo_7_90 : fOf 7 90 = some (3, 5, 2, true) := by decide +kernel
theorem fo_7_93 : fOf 7 93 = some (5, 2, 2, true) := by decide +kernel
theorem fo_7_102 : fOf 7 102 = some (6, 0, 0, false) := by decide +kernel
theorem fo_7_113 : fOf 7 113 = some (5, 3, 2, true) := by decide +kernel
theorem fo_7_129 : fOf 7 129 = some (5, 1, 2, true) := by decide +kernel
theorem fo_7_133 : fOf 7 133 = some (4, 0, 0, false) := by decide +kernel
theorem fo_7_138 : fOf 7 138 = some (6, 1, 0, false) := by decide +kernel
theorem fo_7_141 : fOf 7 141 = some (6, 4, 0, false) := by decide +kernel
theorem fo_7_154 : fOf 7 154 = some (6, 5, 0, false) := by decide +kernel
theorem fo_7_161 : fOf 7 161 = some (6, 3, 0, false) := by decide +kernel
theorem fo_7_164 : fOf 7 164 = some (6, 2, 0, false) := by decide +kernel
theorem fo_7_173 : fOf 7 173 = some (0, 2, 2, true) := by decide +kernel
theorem fo_7_175 : fOf 7 175 = some (0, 3, 2, true) := by decide +kernel
theorem fo_7_181 : fOf 7 181 = some (0, 1, 2, true) := by decide +kernel
theorem fo_7_183 : fOf 7 183 = some (4, 1, 0, false) := by decide +kernel
theorem fo_7_186 : fOf 7 186 = some (4, 2, 0, false) := by decide +kernel
theorem fo_7_192 : fOf 7 192 = some (4, 3, 0, false) := by decide +kernel
theorem fo_7_196 : fOf 7 196 = some (5, 4, 0, false) := by decide +kernel
theorem fo_7_205 : fOf 7 205 = some (5, 5, 0, false) := by decide +kernel
theorem fo_7_208 : fOf 7 208 = some (5, 6, 0, false) := by decide +kernel
theorem fo_7_214 : fOf 7 214 = some (7, 4, 0, false) := by decide +kernel
theorem co_0_3 : cOf 0 3 = some (6, 0, 0, 0, 0) := by decide +kernel
theorem co_0_28 : cOf 0 28 = some (9, 0, 0, 0, 0) := by decide +kernel
theorem co_0_34 : cOf 0 34 = some (0, 12, 1, 0, 0) := by decide +kernel
theorem co_0_38 : cOf 0 38 = some (7, 0, 0, 0, 0) := by decide +kernel
theorem co_0_44 : cOf 0 44 = some (0, 11, 2, 0, 0) := by decide +kernel
theorem co_1_3 : cOf 1 3 = some (6, 0, 0, 0, 0) := by decide +kernel
theorem co_1_19 : cOf 1 19 = some (0, 14, 1, 0, 1) := by decide +kernel
theorem co_2_1 : cOf 2 1 = some (6, 0, 0, 0, 0) := by decide +kernel
theorem co_3_3 : cOf 3 3 = some (6, 0, 0, 0, 0) := by decide +kernel
theorem co_3_11 : cOf 3 11 = some (3, 13, 0, 1, 1) := by decide +kernel
theorem co_3_20 : cOf 3 20 = some (3, 16, 0, 1, 2) := by decide +kernel
theorem co_3_32 : cOf 3 32 = some (0, 26, 0, 0, 3) := by decide +kernel
theorem co_3_39 : cOf 3 39 = some (0, 20, 0, 2, 3) := by decide +kernel
theorem co_3_43 : cOf 3 43 = some (0, 24, 1, 0, 3) := by decide +kernel
theorem co_3_47 : cOf 3 47 = some (0, 21, 1, 3, 3) := by decide +kernel
theorem co_3_51 : cOf 3 51 = some (0, 22, 0, 2, 3) := by decide +kernel
theorem co_3_54 : cOf 3 54 = some (0, 25, 2, 1, 3) := by decide +kernel
theorem co_3_61 : cOf 3 61 = some (0, 23, 0, 2, 3) := by decide +kernel
theorem co_3_77 : cOf 3 77 = some (4, 72, 3, 0, 7) := by decide +kernel
theorem co_4_3 : cOf 4 3 = some (6, 0, 0, 0, 0) := by decide +kernel
theorem co_5_3 : cOf 5 3 = some (6, 0, 0, 0, 0) := by decide +kernel
theorem co_5_13 : cOf 5 13 = some (5, 0, 0, 0, 0) := by decide +kernel
theorem co_5_37 : cOf 5 37 = some (3, 0, 0, 1, 0) := by decide +kernel
theorem co_5_42 : cOf 5 42 = some (3, 27, 0, 1, 4) := by decide +kernel
theorem co_5_43 : cOf 5 43 = some (3, 46, 0, 1, 6) := by decide +kernel
theorem co_5_44 : cOf 5 44 = some (9, 0, 0, 0, 0) := by decide +kernel
theorem co_5_50 : cOf 5 50 = some (0, 28, 1, 0, 4) := by decide +kernel
theorem co_5_58 : cOf 5 58 = some (0, 49, 1, 0, 6) := by decide +kernel
theorem co_5_61 : cOf 5 61 = some (0, 1, 1, 1, 0) := by decide +kernel
theorem co_5_70 : cOf 5 70 = some (0, 32, 0, 0, 5) := by decide +kernel
theorem co_5_74 : cOf 5 74 = some (0, 47, 3, 0, 6) := by decide +kernel
theorem co_5_78 : cOf 5 78 = some (0, 9, 1, 0, 0) := by decide +kernel
theorem co_5_82 : cOf 5 82 = some (0, 10, 1, 0, 0) := by decide +kernel
theorem co_5_116 : cOf 5 116 = some (0, 40, 1, 1, 5) := by decide +kernel
theorem co_5_123 : cOf 5 123 = some (0, 36, 3, 4, 5) := by decide +kernel
theorem co_5_127 : cOf 5 127 = some (7, 0, 0, 0, 0) := by decide +kernel
theorem co_5_136 : cOf 5 136 = some (0, 8, 3, 1, 0) := by decide +kernel
theorem co_5_144 : cOf 5 144 = some (0, 37, 1, 3, 5) := by decide +kernel
theorem co_5_147 : cOf 5 147 = some (0, 39, 1, 2, 5) := by decide +kernel
theorem co_5_150 : cOf 5 150 = some (0, 38, 2, 1, 5) := by decide +kernel
theorem co_5_156 : cOf 5 156 = some (0, 4, 1, 1, 0) := by decide +kernel
theorem co_5_159 : cOf 5 159 = some (4, 74, 2, 0, 7) := by decide +kernel
theorem co_5_165 : cOf 5 165 = some (0, 5, 1, 1, 0) := by decide +kernel
theorem co_5_168 : cOf 5 168 = some (0, 6, 1, 1, 0) := by decide +kernel
theorem co_5_171 : cOf 5 171 = some (8, 0, 0, 0, 0) := by decide +kernel
theorem co_6_3 : cOf 6 3 = some (6, 0, 0, 0, 0) := by decide +kernel
theorem co_7_1 : cOf 7 1 = some (6, 0, 0, 0, 0) := by decide +kernel
theorem co_7_9 : cOf 7 9 = some (3, 17, 0, 2, 3) := by decide +kernel
theorem co_7_23 : cOf 7 23 = some (2, 29, 0, 2, 5) := by decide +kernel
theorem co_7_39 : cOf 7 39 = some (1, 72, 3, 0, 7) := by decide +kernel
theorem co_7_50 : cOf 7 50 = some (0, 71, 0, 3, 7) := by decide +kernel
theorem co_7_56 : cOf 7 56 = some (0, 18, 0, 1, 3) := by decide +kernel
theorem co_7_60 : cOf 7 60 = some (0, 32, 0, 0, 5) := by decide +kernel
theorem co_7_70 : cOf 7 70 = some (0, 33, 3, 1, 5) := by decide +kernel
theorem co_7_74 : cOf 7 74 = some (0, 19, 0, 4, 3) := by decide +kernel
theorem co_7_86 : cOf 7 86 = some (0, 31, 1, 0, 5) := by decide +kernel
theorem co_7_97 : cOf 7 97 = some (0, 48, 0, 0, 6) := by decide +kernel
theorem co_7_105 : cOf 7 105 = some (0, 35, 1, 5, 5) := by decide +kernel
theorem co_7_109 : cOf 7 109 = some (0, 47, 3, 0, 6) := by decide +kernel
theorem co_7_117 : cOf 7 117 = some (0, 9, 1, 0, 0) := by decide +kernel
theorem co_7_123 : cOf 7 123 = some (0, 34, 1, 1, 5) := by decide +kernel
theorem co_7_126 : cOf 7 126 = some (1, 73, 1, 1, 7) := by decide +kernel
theorem co_7_144 : cOf 7 144 = some (0, 3, 1, 0, 0) := by decide +kernel
theorem co_7_148 : cOf 7 148 = some (0, 5, 1, 1, 0) := by decide +kernel
theorem co_7_151 : cOf 7 151 = some (0, 6, 1, 1, 0) := by decide +kernel
theorem co_7_157 : cOf 7 157 = some (1, 74, 2, 0, 7) := by decide +kernel
theorem co_7_167 : cOf 7 167 = some (1, 76, 2, 1, 7) := by decide +kernel
theorem co_7_170 : cOf 7 170 = some (0, 2, 2, 0, 0) := by decide +kernel
theorem co_7_178 : cOf 7 178 = some (0, 7, 1, 0, 0) := by decide +kernel
theorem co_7_189 : cOf 7 189 = some (0, 41, 1, 0, 5) := by decide +kernel
theorem co_7_193 : cOf 7 193 = some (0, 42, 1, 0, 5) := by decide +kernel
theorem co_7_199 : cOf 7 199 = some (0, 43, 0, 0, 5) := by decide +kernel
theorem co_7_202 : cOf 7 202 = some (0, 44, 0, 0, 5) := by decide +kernel
theorem co_7_211 : cOf 7 211 = some (0, 45, 0, 0, 5) := by decide +kernel
theorem co_7_217 : cOf 7 217 = some (0, 39, 1, 2, 5) := by decide +kernel
theorem co_7_220 : cOf 7 220 = some (0, 40, 1, 1, 5) := by decide +kernel
theorem co_7_223 : cOf 7 223 = some (0, 38, 2, 1, 5) := by decide +kernel
theorem co_7_226 : cOf 7 226 = some (1, 78, 1, 1, 7) := by decide +kernel
theorem co_7_230 : cOf 7 230 = some (0, 14, 1, 0, 1) := by decide +kernel
theorem co_7_233 : cOf 7 233 = some (1, 77, 2, 0, 7) := by decide +kernel
theorem co_7_237 : cOf 7 237 = some (0, 15, 1, 1, 1) := by decide +kernel
theorem co_7_239 : cOf 7 239 = some (0, 30, 1, 2, 5) := by decide +kernel
theorem co_7_243 : cOf 7 243 = some (1, 75, 1, 0, 7) := by decide +kernel
theorem co_8_9 : cOf 8 9 = some (0, 67, 1, 2, 7) := by decide +kernel
theorem co_8_15 : cOf 8 15 = some (1, 80, 2, 0, 8) := by decide +kernel
theorem co_8_21 : cOf 8 21 = some (0, 58, 2, 2, 7) := by decide +kernel
theorem co_8_26 : cOf 8 26 = some (0, 60, 2, 2, 7) := by decide +kernel
theorem co_8_29 : cOf 8 29 = some (0, 61, 1, 1, 7) := by decide +kernel
theorem co_8_33 : cOf 8 33 = some (1, 81, 2, 3, 8) := by decide +kernel
theorem co_8_41 : cOf 8 41 = some (1, 83, 3, 3, 8) := by decide +kernel
theorem co_8_47 : cOf 8 47 = some (1, 82, 2, 3, 8) := by decide +kernel
theorem co_8_52 : cOf 8 52 = some (0, 69, 0, 5, 7) := by decide +kernel
theorem co_8_56 : cOf 8 56 = some (0, 54, 0, 6, 7) := by decide +kernel
theorem co_8_59 : cOf 8 59 = some (0, 68, 0, 0, 7) := by decide +kernel
theorem co_8_62 : cOf 8 62 = some (0, 51, 2, 4, 7) := by decide +kernel
theorem co_8_65 : cOf 8 65 = some (0, 52, 1, 4, 7) := by decide +kernel
theorem co_8_68 : cOf 8 68 = some (0, 53, 1, 4, 7) := by decide +kernel
theorem co_8_71 : cOf 8 71 = some (0, 55, 2, 4, 7) := by decide +kernel
theorem co_8_74 : cOf 8 74 = some (0, 56, 1, 4, 7) := by decide +kernel
theorem co_8_77 : cOf 8 77 = some (0, 57, 2, 4, 7) := by decide +kernel
theorem co_8_80 : cOf 8 80 = some (0, 59, 3, 2, 7) := by decide +kernel
theorem co_8_84 : cOf 8 84 = some (0, 62, 1, 3, 7) := by decide +kernel
theorem co_8_87 : cOf 8 87 = some (0, 66, 0, 3, 7) := by decide +kernel
theorem co_8_90 : cOf 8 90 = some (0, 63, 2, 3, 7) := by decide +kernel
theorem co_8_93 : cOf 8 93 = some (0, 64, 3, 3, 7) := by decide +kernel
theorem co_8_96 : cOf 8 96 = some (0, 65, 0, 1, 7) := by decide +kernel
theorem co_8_99 : cOf 8 99 = some (1, 86, 2, 3, 8) := by decide +kernel
theorem co_8_103 : cOf 8 103 = some (1, 87, 2, 4, 8) := by decide +kernel
theorem co_8_106 : cOf 8 106 = some (2, 50, 0, 3, 7) := by decide +kernel
theorem co_8_107 : cOf 8 107 = some (1, 88, 1, 5, 8) := by decide +kernel
theorem co_8_111 : cOf 8 111 = some (0, 70, 0, 3, 7) := by decide +kernel
theorem co_8_114 : cOf 8 114 = some (1, 79, 2, 0, 8) := by decide +kernel
theorem co_8_118 : cOf 8 118 = some (1, 85, 4, 5, 8) := by decide +kernel
theorem co_8_122 : cOf 8 122 = some (1, 84, 5, 7, 8) := by decide +kernel
theorem so_5_9 : sOf 5 9 = some (1000001, true) := by decide +kernel
theorem so_7_43 : sOf 7 43 = some (1000002, false) := by decide +kernel
theorem so_7_47 : sOf 7 47 = some (1000003, false) := by decide +kernel
theorem no_8_10 : nOf 8 10 = some 7 := by decide +kernel
theorem no_7_7 : nOf 7 7 = some 3 := by decide +kernel
theorem no_3_9 : nOf 3 9 = some 1 := by decide +kernel
theorem no_3_18 : nOf 3 18 = some 2 := by decide +kernel
theorem no_7_21 : nOf 7 21 = some 5 := by decide +kernel
theorem no_5_23 : nOf 5 23 = some 4 := by decide +kernel
theorem no_5_29 : nOf 5 29 = some 6 := by decide +kernel
theorem no_5_35 : nOf 5 35 = some 0 := by decide +kernel
theorem lo_7_246 : lOf 7 246 = some 255 := by decide +kernel
theorem lo_8_37 : lOf 8 37 = some 58 := by decide +kernel
theorem lo_8_39 : lOf 8 39 = some 61 := by decide +kernel
theorem lo_8_24 : lOf 8 24 = some 122 := by decide +kernel
theorem lo_8_45 : lOf 8 45 = some 43 := by decide +kernel
theorem lo_8_50 : lOf 8 50 = some 64 := by decide +kernel
theorem jo_8_7 : jOf 8 7 = some 40503 := by decide +kernel
theorem jo_8_8 : jOf 8 8 = some 2147483647 := by decide +kernel
theorem mo_0 : mOf 0 = (yX0_init, cX0_init, 1, none, 1) := rfl
theorem mo_1 : mOf 1 = (yX0_copyFrom, cX0_copyFrom, 2, none, 1) := rfl
theorem mo_2 : mOf 2 = (yX0_placeOfAnswer, cX0_placeOfAnswer, 5, (some .int), 0) := rfl
theorem mo_3 : mOf 3 = (yX0_unlikeAnswers, cX0_unlikeAnswers, 4, (some .int), 0) := rfl
theorem mo_4 : mOf 4 = (yX0_leadingLetters, cX0_leadingLetters, 3, (some .int), 1) := rfl
theorem mo_5 : mOf 5 = (yX0_leadingWeight, cX0_leadingWeight, 3, (some .int), 1) := rfl
theorem mo_6 : mOf 6 = (yX0_leadOf, cX0_leadOf, 5, (some .int), 1) := rfl
theorem mo_7 : mOf 7 = (yX0_rankByWeight, cX0_rankByWeight, 5, (some .int), 0) := rfl
theorem mo_8 : mOf 8 = (yX0_cast, cX0_cast, 5, (some .boolean), 1) := rfl
theorem mo_9 : mOf 9 = (yX0_forget, cX0_forget, 4, none, 0) := rfl
theorem mo_10 : mOf 10 = (yX0_renumberBehind, cX0_renumberBehind, 3, none, 0) := rfl
theorem mo_11 : mOf 11 = (yX0_placeOfLetters, cX0_placeOfLetters, 4, (some .int), 0) := rfl
theorem mo_12 : mOf 12 = (yX0_leadingPlace, cX0_leadingPlace, 4, (some .int), 0) := rfl
theorem mo_13 : mOf 13 = (yX1_init, cX1_init, 1, none, 1) := rfl
theorem mo_14 : mOf 14 = (yX1_hasRoomFor, cX1_hasRoomFor, 2, (some .boolean), 0) := rfl
theorem mo_15 : mOf 15 = (yX1_append, cX1_append, 2, none, 1) := rfl
theorem mo_16 : mOf 16 = (yX2_init, cX2_init, 1, none, 1) := rfl
theorem mo_17 : mOf 17 = (yX3_init, cX3_init, 1, none, 2) := rfl
theorem mo_18 : mOf 18 = (yX3_readWholeAsLetters, cX3_readWholeAsLetters, 2, (some .int), 1) := rfl
theorem mo_19 : mOf 19 = (yX3_readWholeAsAnswer, cX3_readWholeAsAnswer, 2, (some .int), 4) := rfl
theorem mo_20 : mOf 20 = (yX3_readSolver, cX3_readSolver, 1, (some .boolean), 2) := rfl
theorem mo_21 : mOf 21 = (yX3_readPart, cX3_readPart, 2, (some .boolean), 3) := rfl
theorem mo_22 : mOf 22 = (yX3_readSeconds, cX3_readSeconds, 2, (some .boolean), 2) := rfl
theorem mo_23 : mOf 23 = (yX3_readWordNumber, cX3_readWordNumber, 3, (some .int), 2) := rfl
theorem mo_24 : mOf 24 = (yX3_readSign, cX3_readSign, 2, (some .boolean), 0) := rfl
theorem mo_25 : mOf 25 = (yX3_readDigit, cX3_readDigit, 4, (some .int), 1) := rfl
theorem mo_26 : mOf 26 = (yX3_readLetters, cX3_readLetters, 4, (some .int), 0) := rfl
theorem mo_27 : mOf 27 = (yX4_init, cX4_init, 1, none, 1) := rfl
theorem mo_28 : mOf 28 = (yX4_copyFrom, cX4_copyFrom, 2, none, 0) := rfl
theorem mo_29 : mOf 29 = (yX5_init, cX5_init, 2, none, 2) := rfl
theorem mo_30 : mOf 30 = (yX5_copyFrom, cX5_copyFrom, 3, none, 2) := rfl
theorem mo_31 : mOf 31 = (yX5_hasWord, cX5_hasWord, 2, (some .boolean), 0) := rfl
theorem mo_32 : mOf 32 = (yX5_hasRoom, cX5_hasRoom, 1, (some .boolean), 0) := rfl
theorem mo_33 : mOf 33 = (yX5_append, cX5_append, 5, (some .int), 1) := rfl
theorem mo_34 : mOf 34 = (yX5_remove, cX5_remove, 4, none, 1) := rfl
theorem mo_35 : mOf 35 = (yX5_take, cX5_take, 5, none, 5) := rfl
theorem mo_36 : mOf 36 = (yX5_takeVote, cX5_takeVote, 5, none, 4) := rfl
theorem mo_37 : mOf 37 = (yX5_lookBehindVote, cX5_lookBehindVote, 3, none, 3) := rfl
theorem mo_38 : mOf 38 = (yX5_kindWhenAgreed, cX5_kindWhenAgreed, 4, (some .int), 1) := rfl
theorem mo_39 : mOf 39 = (yX5_weightLacking, cX5_weightLacking, 4, (some .int), 2) := rfl
theorem mo_40 : mOf 40 = (yX5_trustBehindRight, cX5_trustBehindRight, 2, (some .int), 1) := rfl
theorem mo_41 : mOf 41 = (yX5_rankByTrust, cX5_rankByTrust, 5, (some .int), 0) := rfl
theorem mo_42 : mOf 42 = (yX5_wordsOfKind, cX5_wordsOfKind, 4, (some .int), 0) := rfl
theorem mo_43 : mOf 43 = (yX5_allAnswers, cX5_allAnswers, 3, (some .int), 0) := rfl
theorem mo_44 : mOf 44 = (yX5_allRight, cX5_allRight, 3, (some .int), 0) := rfl
theorem mo_45 : mOf 45 = (yX5_allTrust, cX5_allTrust, 3, (some .int), 0) := rfl
theorem mo_46 : mOf 46 = (yX6_init, cX6_init, 1, none, 1) := rfl
theorem mo_47 : mOf 47 = (yX6_begin, cX6_begin, 4, none, 0) := rfl
theorem mo_48 : mOf 48 = (yX6_isTold, cX6_isTold, 1, (some .boolean), 0) := rfl
theorem mo_49 : mOf 49 = (yX6_copyFrom, cX6_copyFrom, 2, none, 0) := rfl
theorem mo_50 : mOf 50 = (yX7_init, cX7_init, 2, none, 3) := rfl
theorem mo_51 : mOf 51 = (yX7_set, cX7_set, 4, (some .int), 4) := rfl
theorem mo_52 : mOf 52 = (yX7_know, cX7_know, 3, (some .int), 4) := rfl
theorem mo_53 : mOf 53 = (yX7_add, cX7_add, 2, (some .int), 4) := rfl
theorem mo_54 : mOf 54 = (yX7_answer, cX7_answer, 2, (some .int), 6) := rfl
theorem mo_55 : mOf 55 = (yX7_bend, cX7_bend, 4, (some .int), 4) := rfl
theorem mo_56 : mOf 56 = (yX7_drop, cX7_drop, 3, (some .int), 4) := rfl
theorem mo_57 : mOf 57 = (yX7_trust, cX7_trust, 4, (some .int), 4) := rfl
theorem mo_58 : mOf 58 = (yX7_word, cX7_word, 4, (some .int), 2) := rfl
theorem mo_59 : mOf 59 = (yX7_vote, cX7_vote, 5, (some .int), 2) := rfl
theorem mo_60 : mOf 60 = (yX7_solver, cX7_solver, 4, (some .int), 2) := rfl
theorem mo_61 : mOf 61 = (yX7_count, cX7_count, 2, (some .int), 1) := rfl
theorem mo_62 : mOf 62 = (yX7_lacking, cX7_lacking, 2, (some .int), 3) := rfl
theorem mo_63 : mOf 63 = (yX7_answersFor, cX7_answersFor, 6, (some .int), 3) := rfl
theorem mo_64 : mOf 64 = (yX7_ifVoted, cX7_ifVoted, 5, (some .int), 3) := rfl
theorem mo_65 : mOf 65 = (yX7_mostMissed, cX7_mostMissed, 4, (some .int), 1) := rfl
theorem mo_66 : mOf 66 = (yX7_nearest, cX7_nearest, 5, (some .int), 3) := rfl
theorem mo_67 : mOf 67 = (yX7_put, cX7_put, 5, (some .int), 2) := rfl
theorem mo_68 : mOf 68 = (yX7_wipe, cX7_wipe, 2, (some .int), 0) := rfl
theorem mo_69 : mOf 69 = (yX7_fault, cX7_fault, 1, (some .int), 5) := rfl
theorem mo_70 : mOf 70 = (yX7_undo, cX7_undo, 1, (some .int), 3) := rfl
theorem mo_71 : mOf 71 = (yX7_remember, cX7_remember, 3, none, 3) := rfl
theorem mo_72 : mOf 72 = (yX7_isWithin, cX7_isWithin, 3, (some .boolean), 0) := rfl
theorem mo_73 : mOf 73 = (yX7_isSolver, cX7_isSolver, 1, (some .boolean), 1) := rfl
theorem mo_74 : mOf 74 = (yX7_mean, cX7_mean, 2, (some .int), 0) := rfl
theorem mo_75 : mOf 75 = (yX7_lettersIn, cX7_lettersIn, 2, (some .int), 0) := rfl
theorem mo_76 : mOf 76 = (yX7_aboutLetters, cX7_aboutLetters, 3, (some .int), 1) := rfl
theorem mo_77 : mOf 77 = (yX7_codeAt, cX7_codeAt, 3, (some .int), 0) := rfl
theorem mo_78 : mOf 78 = (yX7_charactersIn, cX7_charactersIn, 4, (some .int), 1) := rfl
theorem mo_79 : mOf 79 = (yL_cell, cL_cell, 2, (some .int), 0) := rfl
theorem mo_80 : mOf 80 = (yL_low, cL_low, 2, (some .int), 0) := rfl
theorem mo_81 : mOf 81 = (yL_number, cL_number, 2, none, 3) := rfl
theorem mo_82 : mOf 82 = (yL_letters, cL_letters, 3, none, 3) := rfl
theorem mo_83 : mOf 83 = (yL_first, cL_first, 5, (some .boolean), 3) := rfl
theorem mo_84 : mOf 84 = (yL_answers, cL_answers, 17, (some .boolean), 7) := rfl
theorem mo_85 : mOf 85 = (yL_change, cL_change, 7, (some .int), 5) := rfl
theorem mo_86 : mOf 86 = (yL_areVotes, cL_areVotes, 10, (some .boolean), 3) := rfl
theorem mo_87 : mOf 87 = (yL_isUnknown, cL_isUnknown, 12, (some .boolean), 4) := rfl
theorem mo_88 : mOf 88 = (yL_holds, cL_holds, 10, (some .boolean), 5) := rfl
theorem bp_m9 : (Int8.ofInt (-9)).toInt32 = (-9) := by decide +kernel
theorem bp_m6 : (Int8.ofInt (-6)).toInt32 = (-6) := by decide +kernel
theorem bp_m5 : (Int8.ofInt (-5)).toInt32 = (-5) := by decide +kernel
theorem bp_m4 : (Int8.ofInt (-4)).toInt32 = (-4) := by decide +kernel
theorem bp_m3 : (Int8.ofInt (-3)).toInt32 = (-3) := by decide +kernel
theorem bp_m2 : (Int8.ofInt (-2)).toInt32 = (-2) := by decide +kernel
theorem bp_6 : (Int8.ofInt 6).toInt32 = 6 := by decide +kernel
theorem bp_7 : (Int8.ofInt 7).toInt32 = 7 := by decide +kernel
theorem bp_8 : (Int8.ofInt 8).toInt32 = 8 := by decide +kernel
theorem bp_9 : (Int8.ofInt 9).toInt32 = 9 := by decide +kernel
theorem bp_10 : (Int8.ofInt 10).toInt32 = 10 := by decide +kernel
theorem bp_11 : (Int8.ofInt 11).toInt32 = 11 := by decide +kernel
theorem bp_12 : (Int8.ofInt 12).toInt32 = 12 := by decide +kernel
theorem bp_15 : (Int8.ofInt 15).toInt32 = 15 := by decide +kernel
theorem bp_17 : (Int8.ofInt 17).toInt32 = 17 := by decide +kernel
theorem bp_20 : (Int8.ofInt 20).toInt32 = 20 := by decide +kernel
theorem bp_31 : (Int8.ofInt 31).toInt32 = 31 := by decide +kernel
theorem bp_33 : (Int8.ofInt 33).toInt32 = 33 := by decide +kernel
theorem bp_36 : (Int8.ofInt 36).toInt32 = 36 := by decide +kernel
theorem bp_43 : (Int8.ofInt 43).toInt32 = 43 := by decide +kernel
theorem bp_48 : (Int8.ofInt 48).toInt32 = 48 := by decide +kernel
theorem bp_50 : (Int8.ofInt 50).toInt32 = 50 := by decide +kernel
theorem bp_58 : (Int8.ofInt 58).toInt32 = 58 := by decide +kernel
theorem bp_60 : (Int8.ofInt 60).toInt32 = 60 := by decide +kernel
theorem bp_61 : (Int8.ofInt 61).toInt32 = 61 := by decide +kernel
theorem bp_63 : (Int8.ofInt 63).toInt32 = 63 := by decide +kernel
theorem bp_64 : (Int8.ofInt 64).toInt32 = 64 := by decide +kernel
theorem bp_96 : (Int8.ofInt 96).toInt32 = 96 := by decide +kernel
theorem bp_97 : (Int8.ofInt 97).toInt32 = 97 := by decide +kernel
theorem bp_100 : (Int8.ofInt 100).toInt32 = 100 := by decide +kernel
theorem bp_101 : (Int8.ofInt 101).toInt32 = 101 := by decide +kernel
theorem bp_102 : (Int8.ofInt 102).toInt32 = 102 := by decide +kernel
theorem bp_120 : (Int8.ofInt 120).toInt32 = 120 := by decide +kernel
theorem bp_122 : (Int8.ofInt 122).toInt32 = 122 := by decide +kernel
theorem bp_126 : (Int8.ofInt 126).toInt32 = 126 := by decide +kernel
theorem sp_170 : (Int16.ofInt 170).toInt32 = 170 := by decide +kernel
theorem sp_977 : (Int16.ofInt 977).toInt32 = 977 := by decide +kernel
