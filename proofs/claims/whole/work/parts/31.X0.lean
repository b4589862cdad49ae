/-! the class: its shape (52 places: 0 main, 1 text, 2 land, 3 draftLand, 4 law, 5 draftLaw, 6 lawReader, 7 steps, 8 book, 9 draftBook, 10 state, 11 trial, 12 past, 13 orders, 14 ways, 15 likely, 16 text.tape, 17 land.kinds, 18 land.firstDebts, 19 land.friends, 20 draftLand.kinds, 21 draftLand.firstDebts, 22 draftLand.friends, 23 law.codes, 24 law.heap, 25 law.facts, 26 draftLaw.codes, 27 draftLaw.heap, 28 draftLaw.facts, 29 lawReader.waiting, 30 steps.deeds, 31 steps.firsts, 32 steps.seconds, 33 steps.starts, 34 steps.rounds, 35 book.stones, 36 draftBook.stones, 37 state.debts, 38 state.under, 39 state.died, 40 trial.debts, 41 trial.under, 42 trial.died, 43 past.workRow, 44 past.imageRow, 45 orders.line, 46 orders.alike, 47 ways.asking, 48 ways.offers, 49 ways.room, 50 ways.chosen, 51 ways.best) -/
def kdX (k : Nat) : Nat := [3, 3, 3, 3, 3, 3, 3, 3, 3, 3, 3, 3, 3, 3, 3, 1, 0, 0, 0, 0, 0, 0, 0, 0, 0, 0, 0, 0, 0, 0, 0, 0, 0, 0, 0, 0, 0, 0, 0, 0, 0, 0, 0, 0, 0, 0, 0, 0, 0, 0, 0, 0].getD k 0
def lnX (k : Nat) : Nat := [10, 8, 1, 1, 2, 2, 3, 7, 0, 0, 6, 6, 5, 4, 9, 13, 600, 8, 8, 8, 8, 8, 8, 150, 150, 8, 150, 150, 8, 150, 150, 150, 150, 6, 6, 8, 8, 8, 8, 8, 8, 8, 8, 400, 1278, 5, 72, 8, 64, 8, 8, 8].getD k 0
def rfX (k j : Nat) : Nat := ([[2, 3, 4, 5, 6, 7, 8, 9, 10, 11, 12, 13, 14, 15, 16, 0, 0, 0, 0], [17, 0, 0, 0, 0, 0, 0, 0], [0, 0, 18, 19, 20], [0, 0, 21, 22, 23], [24, 25, 26, 0], [27, 28, 29, 0], [30, 0, 0], [31, 32, 33, 34, 35, 0, 0, 0, 0], [36, 0], [37, 0], [3, 5, 38, 39, 40, 0], [3, 5, 41, 42, 43, 0], [44, 45, 0, 0], [46, 47, 0, 0, 0, 0, 0], [48, 49, 50, 51, 52, 0, 0, 0]].getD k []).getD j 0
def shX : Sh := (52, kdX, lnX, rfX, fun _ => 0)
/-- the place that a field points to -/
def rX (k j : Nat) : Nat := rfX k j - 1
theorem ob_0 : 0 < shX.1 ∧ shX.2.1 0 = 3 ∧ shX.2.2.1 0 = 10 := by decide
theorem ob_1 : 1 < shX.1 ∧ shX.2.1 1 = 3 ∧ shX.2.2.1 1 = 8 := by decide
theorem ob_2 : 2 < shX.1 ∧ shX.2.1 2 = 3 ∧ shX.2.2.1 2 = 1 := by decide
theorem ob_3 : 3 < shX.1 ∧ shX.2.1 3 = 3 ∧ shX.2.2.1 3 = 1 := by decide
theorem ob_4 : 4 < shX.1 ∧ shX.2.1 4 = 3 ∧ shX.2.2.1 4 = 2 := by decide
theorem ob_5 : 5 < shX.1 ∧ shX.2.1 5 = 3 ∧ shX.2.2.1 5 = 2 := by decide
theorem ob_6 : 6 < shX.1 ∧ shX.2.1 6 = 3 ∧ shX.2.2.1 6 = 3 := by decide
theorem ob_7 : 7 < shX.1 ∧ shX.2.1 7 = 3 ∧ shX.2.2.1 7 = 7 := by decide
theorem ob_8 : 8 < shX.1 ∧ shX.2.1 8 = 3 ∧ shX.2.2.1 8 = 0 := by decide
theorem ob_9 : 9 < shX.1 ∧ shX.2.1 9 = 3 ∧ shX.2.2.1 9 = 0 := by decide
theorem ob_10 : 10 < shX.1 ∧ shX.2.1 10 = 3 ∧ shX.2.2.1 10 = 6 := by decide
theorem ob_11 : 11 < shX.1 ∧ shX.2.1 11 = 3 ∧ shX.2.2.1 11 = 6 := by decide
theorem ob_12 : 12 < shX.1 ∧ shX.2.1 12 = 3 ∧ shX.2.2.1 12 = 5 := by decide
theorem ob_13 : 13 < shX.1 ∧ shX.2.1 13 = 3 ∧ shX.2.2.1 13 = 4 := by decide
theorem ob_14 : 14 < shX.1 ∧ shX.2.1 14 = 3 ∧ shX.2.2.1 14 = 9 := by decide
def isLand (k : Nat) : Prop := k = 2 ∨ k = 3
theorem ob_Land {k : Nat} (h : isLand k) : k < shX.1 ∧ shX.2.1 k = 3 ∧ shX.2.2.1 k = 1 := by rcases h with rfl | rfl <;> decide
theorem rf_Land_0 {k : Nat} (h : isLand k) : shX.2.2.2.1 k 0 = 0 := by rcases h with rfl | rfl <;> decide
theorem rf_Land_1 {k : Nat} (h : isLand k) : shX.2.2.2.1 k 1 = 0 := by rcases h with rfl | rfl <;> decide
theorem rf_Land_2 {k : Nat} (h : isLand k) : shX.2.2.2.1 k 2 = rX k 2 + 1 := by rcases h with rfl | rfl <;> decide
theorem ln_Land_2 {k : Nat} (h : isLand k) : lenW shX (rX k 2) = 8 := by rcases h with rfl | rfl <;> decide
theorem rf_Land_3 {k : Nat} (h : isLand k) : shX.2.2.2.1 k 3 = rX k 3 + 1 := by rcases h with rfl | rfl <;> decide
theorem ln_Land_3 {k : Nat} (h : isLand k) : lenW shX (rX k 3) = 8 := by rcases h with rfl | rfl <;> decide
theorem rf_Land_4 {k : Nat} (h : isLand k) : shX.2.2.2.1 k 4 = rX k 4 + 1 := by rcases h with rfl | rfl <;> decide
theorem ln_Land_4 {k : Nat} (h : isLand k) : lenW shX (rX k 4) = 8 := by rcases h with rfl | rfl <;> decide
def isLaw (k : Nat) : Prop := k = 4 ∨ k = 5
theorem ob_Law {k : Nat} (h : isLaw k) : k < shX.1 ∧ shX.2.1 k = 3 ∧ shX.2.2.1 k = 2 := by rcases h with rfl | rfl <;> decide
theorem rf_Law_0 {k : Nat} (h : isLaw k) : shX.2.2.2.1 k 0 = rX k 0 + 1 := by rcases h with rfl | rfl <;> decide
theorem ln_Law_0 {k : Nat} (h : isLaw k) : lenW shX (rX k 0) = 150 := by rcases h with rfl | rfl <;> decide
theorem rf_Law_1 {k : Nat} (h : isLaw k) : shX.2.2.2.1 k 1 = rX k 1 + 1 := by rcases h with rfl | rfl <;> decide
theorem ln_Law_1 {k : Nat} (h : isLaw k) : lenW shX (rX k 1) = 150 := by rcases h with rfl | rfl <;> decide
theorem rf_Law_2 {k : Nat} (h : isLaw k) : shX.2.2.2.1 k 2 = rX k 2 + 1 := by rcases h with rfl | rfl <;> decide
theorem ln_Law_2 {k : Nat} (h : isLaw k) : lenW shX (rX k 2) = 8 := by rcases h with rfl | rfl <;> decide
theorem rf_Law_3 {k : Nat} (h : isLaw k) : shX.2.2.2.1 k 3 = 0 := by rcases h with rfl | rfl <;> decide
def isBook (k : Nat) : Prop := k = 8 ∨ k = 9
theorem ob_Book {k : Nat} (h : isBook k) : k < shX.1 ∧ shX.2.1 k = 3 ∧ shX.2.2.1 k = 0 := by rcases h with rfl | rfl <;> decide
theorem rf_Book_0 {k : Nat} (h : isBook k) : shX.2.2.2.1 k 0 = rX k 0 + 1 := by rcases h with rfl | rfl <;> decide
theorem ln_Book_0 {k : Nat} (h : isBook k) : lenW shX (rX k 0) = 8 := by rcases h with rfl | rfl <;> decide
theorem rf_Book_1 {k : Nat} (h : isBook k) : shX.2.2.2.1 k 1 = 0 := by rcases h with rfl | rfl <;> decide
def isState (k : Nat) : Prop := k = 10 ∨ k = 11
theorem ob_State {k : Nat} (h : isState k) : k < shX.1 ∧ shX.2.1 k = 3 ∧ shX.2.2.1 k = 6 := by rcases h with rfl | rfl <;> decide
theorem rf_State_0 {k : Nat} (h : isState k) : shX.2.2.2.1 k 0 = 2 + 1 := by rcases h with rfl | rfl <;> decide
theorem rf_State_1 {k : Nat} (h : isState k) : shX.2.2.2.1 k 1 = 4 + 1 := by rcases h with rfl | rfl <;> decide
theorem rf_State_2 {k : Nat} (h : isState k) : shX.2.2.2.1 k 2 = rX k 2 + 1 := by rcases h with rfl | rfl <;> decide
theorem ln_State_2 {k : Nat} (h : isState k) : lenW shX (rX k 2) = 8 := by rcases h with rfl | rfl <;> decide
theorem rf_State_3 {k : Nat} (h : isState k) : shX.2.2.2.1 k 3 = rX k 3 + 1 := by rcases h with rfl | rfl <;> decide
theorem ln_State_3 {k : Nat} (h : isState k) : lenW shX (rX k 3) = 8 := by rcases h with rfl | rfl <;> decide
theorem rf_State_4 {k : Nat} (h : isState k) : shX.2.2.2.1 k 4 = rX k 4 + 1 := by rcases h with rfl | rfl <;> decide
theorem ln_State_4 {k : Nat} (h : isState k) : lenW shX (rX k 4) = 8 := by rcases h with rfl | rfl <;> decide
theorem rf_State_5 {k : Nat} (h : isState k) : shX.2.2.2.1 k 5 = 0 := by rcases h with rfl | rfl <;> decide
def BXw : List Cond := [Cond.code yX0_init cX0_init 1 none, Cond.methodLink RX0 3 objectInit, Cond.instanceMethod objectInit, Cond.code objectInit ⟨#[0xb1]⟩ 1 none, Cond.arrayClass .int, Cond.fieldLink RX0 9 "BorrowedStones$Book" "stones" "[I", Cond.code yX0_clear cX0_clear 2 none, Cond.fieldLink RX0 15 "BorrowedStones$Book" "lines" "I", Cond.code yX0_take cX0_take 2 none, Cond.methodLink RX0 19 yX6_copy, Cond.static yX6_copy, Cond.initialized RX6, Cond.code yX6_copy cX6_copy 6 none, Cond.methodLink RX6 7 yX6_at, Cond.static yX6_at, Cond.code yX6_at cX6_at 2 (some .int), Cond.methodLink RX6 13 yX6_put, Cond.static yX6_put, Cond.code yX6_put cX6_put 3 none, Cond.code yX0_tellsOf cX0_tellsOf 2 (some .boolean), Cond.methodLink RX0 25 yX6_at, Cond.code yX0_isRightFor cX0_isRightFor 3 (some .boolean), Cond.methodLink RX0 29 yX0_tellsOf, Cond.instanceMethod yX0_tellsOf, Cond.selects RX0 yX0_tellsOf yX0_tellsOf, Cond.initialized RX0, Cond.methodLink RX0 33 yX7_stonesOf, Cond.instanceMethod yX7_stonesOf, Cond.selects RX7 yX7_stonesOf yX7_stonesOf, Cond.initialized RX7, Cond.code yX7_stonesOf cX7_stonesOf 4 (some .int), Cond.fieldLink RX7 15 "BorrowedStones$State" "under" "[I", Cond.fieldLink RX0 55 "BorrowedStones$Text" "numberStart" "I", Cond.methodLink RX0 39 yX0_clear, Cond.instanceMethod yX0_clear, Cond.selects RX0 yX0_clear yX0_clear, Cond.methodLink RX0 42 yX9_hasMore, Cond.instanceMethod yX9_hasMore, Cond.selects RX9 yX9_hasMore yX9_hasMore, Cond.initialized RX9, Cond.code yX9_hasMore cX9_hasMore 1 (some .boolean), Cond.fieldLink RX9 34 "BorrowedStones$Text" "fault" "I", Cond.methodLink RX9 41 yX9_nextByte, Cond.instanceMethod yX9_nextByte, Cond.selects RX9 yX9_nextByte yX9_nextByte, Cond.code yX9_nextByte cX9_nextByte 1 (some .int), Cond.fieldLink RX9 31 "BorrowedStones$Text" "place" "I", Cond.fieldLink RX9 28 "BorrowedStones$Text" "end" "I", Cond.fieldLink RX9 9 "BorrowedStones$Text" "tape" "[I", Cond.methodLink RX9 37 yX6_at, Cond.methodLink RX0 48 yX9_number, Cond.instanceMethod yX9_number, Cond.selects RX9 yX9_number yX9_number, Cond.code yX9_number cX9_number 4 (some .int), Cond.fieldLink RX9 53 "BorrowedStones$Text" "numberStart" "I", Cond.methodLink RX9 56 Lib.Math.min.name, Cond.static Lib.Math.min.name, Cond.initialized "java/lang/Math", Cond.code Lib.Math.min.name Lib.Math.min.code 2 (some .int), Cond.methodLink RX9 49 yX9_isDigit, Cond.static yX9_isDigit, Cond.code yX9_isDigit cX9_isDigit 1 (some .boolean), Cond.methodLink RX9 45 yX9_blame, Cond.instanceMethod yX9_blame, Cond.selects RX9 yX9_blame yX9_blame, Cond.code yX9_blame cX9_blame 3 none, Cond.fieldLink RX9 15 "BorrowedStones$Text" "faultPlace" "I", Cond.methodLink RX0 52 yX9_isSound, Cond.instanceMethod yX9_isSound, Cond.selects RX9 yX9_isSound yX9_isSound, Cond.code yX9_isSound cX9_isSound 1 (some .boolean), Cond.methodLink RX0 58 yX9_blame, Cond.methodLink RX0 62 yX6_put, Cond.methodLink RX0 66 yX9_expect, Cond.instanceMethod yX9_expect, Cond.selects RX9 yX9_expect yX9_expect, Cond.code yX9_expect cX9_expect 2 none, Cond.code yX0_readFrom cX0_readFrom 5 none, Cond.code yX1_init cX1_init 1 none, Cond.methodLink RX1 3 objectInit, Cond.fieldLink RX1 9 "BorrowedStones$Land" "most" "I", Cond.fieldLink RX1 15 "BorrowedStones$Land" "kinds" "[I", Cond.fieldLink RX1 19 "BorrowedStones$Land" "firstDebts" "[I", Cond.fieldLink RX1 22 "BorrowedStones$Land" "friends" "[I", Cond.code yX1_take cX1_take 2 none, Cond.fieldLink RX1 25 "BorrowedStones$Land" "persons" "I", Cond.methodLink RX1 28 yX6_copy, Cond.code yX1_areFriends cX1_areFriends 3 (some .boolean), Cond.methodLink RX1 34 yX6_at, Cond.methodLink RX1 74 yX9_number, Cond.methodLink RX1 82 yX6_put, Cond.code yX1_readPerson cX1_readPerson 2 none, Cond.fieldLink RX1 86 "BorrowedStones$Text" "numberStart" "I", Cond.methodLink RX1 63 yX9_blame, Cond.methodLink RX1 89 yX9_isSound, Cond.code yX1_readFriends cX1_readFriends 4 none, Cond.fieldLink RX1 60 "BorrowedStones$Text" "wordStart" "I", Cond.methodLink RX1 48 yX9_word, Cond.instanceMethod yX9_word, Cond.selects RX9 yX9_word yX9_word, Cond.code yX9_word cX9_word 1 none, Cond.fieldLink RX9 62 "BorrowedStones$Text" "wordStart" "I", Cond.methodLink RX9 65 yX9_isLetter, Cond.static yX9_isLetter, Cond.code yX9_isLetter cX9_isLetter 1 (some .boolean), Cond.methodLink RX1 53 yX9_isWord, Cond.instanceMethod yX9_isWord, Cond.selects RX9 yX9_isWord yX9_isWord, Cond.code yX9_isWord cX9_isWord 3 (some .boolean), Cond.methodLink RX9 68 yJ0_length_8abf5, Cond.instanceMethod yJ0_length_8abf5, Cond.selects RJ0 yJ0_length_8abf5 yJ0_length_8abf5, Cond.initialized RJ0, Cond.code yJ0_length_8abf5 cJ0_length_8abf5 1 (some .int), Cond.fieldLink RJ0 9 "java/lang/String" "value" "[B", Cond.methodLink RJ0 335 yJ0_coder_7d493, Cond.instanceMethod yJ0_coder_7d493, Cond.selects RJ0 yJ0_coder_7d493 yJ0_coder_7d493, Cond.code yJ0_coder_7d493 cJ0_coder_7d493 1 (some .byte), Cond.fieldLink RJ0 38 "java/lang/String" "COMPACT_STRINGS" "Z", Cond.fieldLink RJ0 15 "java/lang/String" "coder" "B", Cond.methodLink RX9 73 yJ0_charAt_5068e, Cond.instanceMethod yJ0_charAt_5068e, Cond.selects RJ0 yJ0_charAt_5068e yJ0_charAt_5068e, Cond.code yJ0_charAt_5068e cJ0_charAt_5068e 2 (some .char), Cond.methodLink RJ0 492 yJ0_isLatin1_aae02, Cond.instanceMethod yJ0_isLatin1_aae02, Cond.selects RJ0 yJ0_isLatin1_aae02 yJ0_isLatin1_aae02, Cond.code yJ0_isLatin1_aae02 cJ0_isLatin1_aae02 1 (some .boolean), Cond.methodLink RJ0 495 yJ1_charAt_3b067, Cond.static yJ1_charAt_3b067, Cond.initialized RJ1, Cond.code yJ1_charAt_3b067 cJ1_charAt_3b067 2 (some .char), Cond.methodLink RJ1 9 yJ0_checkIndex_df160, Cond.static yJ0_checkIndex_df160, Cond.code yJ0_checkIndex_df160 cJ0_checkIndex_df160 2 none, Cond.fieldLink RJ0 1053 "jdk/internal/util/Preconditions" "SIOOBE_FORMATTER" "Ljava/util/function/BiFunction;", Cond.methodLink RJ0 1059 yJ3_checkIndex_8e157, Cond.static yJ3_checkIndex_8e157, Cond.initialized RJ3, Cond.code yJ3_checkIndex_8e157 cJ3_checkIndex_8e157 3 (some .int), Cond.methodLink RJ0 498 yJ2_charAt_3b067, Cond.static yJ2_charAt_3b067, Cond.initialized RJ2, Cond.code yJ2_charAt_3b067 cJ2_charAt_3b067 2 (some .char), Cond.methodLink RJ2 67 yJ2_checkIndex_2214a, Cond.static yJ2_checkIndex_2214a, Cond.code yJ2_checkIndex_2214a cJ2_checkIndex_2214a 2 none, Cond.methodLink RJ2 48 yJ2_length_9d52b, Cond.static yJ2_length_9d52b, Cond.code yJ2_length_9d52b cJ2_length_9d52b 1 (some .int), Cond.methodLink RJ2 414 yJ0_checkIndex_df160, Cond.methodLink RJ2 71 yJ2_getChar_3b067, Cond.static yJ2_getChar_3b067, Cond.code yJ2_getChar_3b067 cJ2_getChar_3b067 2 (some .char), Cond.fieldLink RJ2 44 "java/lang/StringUTF16" "$assertionsDisabled" "Z", Cond.fieldLink RJ2 59 "java/lang/StringUTF16" "HI_BYTE_SHIFT" "I", Cond.fieldLink RJ2 63 "java/lang/StringUTF16" "LO_BYTE_SHIFT" "I", Cond.methodLink RX1 67 yX1_readPerson, Cond.instanceMethod yX1_readPerson, Cond.selects RX1 yX1_readPerson yX1_readPerson, Cond.initialized RX1, Cond.methodLink RX1 71 yX1_readFriends, Cond.instanceMethod yX1_readFriends, Cond.selects RX1 yX1_readFriends yX1_readFriends, Cond.methodLink RX1 78 yX9_expect, Cond.code yX1_readClause cX1_readClause 5 none, Cond.methodLink RX1 38 yX9_hasMore, Cond.methodLink RX1 44 yX1_readClause, Cond.instanceMethod yX1_readClause, Cond.selects RX1 yX1_readClause yX1_readClause, Cond.code yX1_readFrom cX1_readFrom 3 none, Cond.code yX2_init cX2_init 1 none, Cond.methodLink RX2 3 objectInit, Cond.fieldLink RX2 9 "BorrowedStones$Law" "codes" "[I", Cond.fieldLink RX2 15 "BorrowedStones$Law" "heap" "[I", Cond.fieldLink RX2 18 "BorrowedStones$Law" "facts" "[I", Cond.code yX2_clear cX2_clear 1 none, Cond.fieldLink RX2 21 "BorrowedStones$Law" "length" "I", Cond.code yX2_add cX2_add 2 none, Cond.methodLink RX2 25 yX6_put, Cond.code yX2_take cX2_take 2 none, Cond.methodLink RX2 31 yX6_copy, Cond.code yX2_becomePlain cX2_becomePlain 1 none, Cond.methodLink RX2 35 yX2_clear, Cond.instanceMethod yX2_clear, Cond.selects RX2 yX2_clear yX2_clear, Cond.initialized RX2, Cond.methodLink RX2 38 yX2_add, Cond.instanceMethod yX2_add, Cond.selects RX2 yX2_add yX2_add, Cond.code yX2_joined cX2_joined 3 (some .int), Cond.code yX2_answer cX2_answer 5 (some .int), Cond.methodLink RX2 42 yX6_at, Cond.methodLink RX2 46 yX2_joined, Cond.static yX2_joined, Cond.code yX3_init cX3_init 1 none, Cond.methodLink RX3 3 objectInit, Cond.fieldLink RX3 9 "BorrowedStones$LawReader" "waiting" "[I", Cond.code yX3_hold cX3_hold 2 none, Cond.fieldLink RX3 15 "BorrowedStones$LawReader" "height" "I", Cond.methodLink RX3 99 yX6_put, Cond.code yX3_push cX3_push 4 none, Cond.fieldLink RX3 19 "BorrowedStones$LawReader" "open" "I", Cond.methodLink RX3 43 yX9_blame, Cond.methodLink RX3 96 yX3_hold, Cond.instanceMethod yX3_hold, Cond.selects RX3 yX3_hold yX3_hold, Cond.initialized RX3, Cond.methodLink RX3 83 yX9_isWord, Cond.code yX3_factOf cX3_factOf 1 (some .int), Cond.fieldLink RX3 40 "BorrowedStones$Text" "place" "I", Cond.fieldLink RX3 87 "BorrowedStones$Text" "wordStart" "I", Cond.methodLink RX3 51 yX9_nextByte, Cond.methodLink RX3 55 yX9_isDigit, Cond.methodLink RX3 59 yX9_number, Cond.methodLink RX3 63 yX2_add, Cond.methodLink RX3 67 yX3_push, Cond.instanceMethod yX3_push, Cond.selects RX3 yX3_push yX3_push, Cond.methodLink RX3 71 yX9_pass, Cond.instanceMethod yX9_pass, Cond.selects RX9 yX9_pass yX9_pass, Cond.code yX9_pass cX9_pass 1 none, Cond.methodLink RX3 74 yX9_word, Cond.methodLink RX3 77 yX3_factOf, Cond.static yX3_factOf, Cond.methodLink RX3 92 yX9_expect, Cond.code yX3_readUnit cX3_readUnit 5 (some .boolean), Cond.code yX3_rankOf cX3_rankOf 1 (some .int), Cond.code yX3_settle cX3_settle 3 none, Cond.methodLink RX3 125 yX6_at, Cond.methodLink RX3 121 yX3_rankOf, Cond.static yX3_rankOf, Cond.methodLink RX3 47 yX3_settle, Cond.instanceMethod yX3_settle, Cond.selects RX3 yX3_settle yX3_settle, Cond.code yX3_readSign cX3_readSign 6 (some .boolean), Cond.methodLink RX3 22 yX2_clear, Cond.methodLink RX3 27 yX9_hasMore, Cond.methodLink RX3 33 yX3_readUnit, Cond.instanceMethod yX3_readUnit, Cond.selects RX3 yX3_readUnit yX3_readUnit, Cond.methodLink RX3 37 yX3_readSign, Cond.instanceMethod yX3_readSign, Cond.selects RX3 yX3_readSign yX3_readSign, Cond.code yX3_readFrom cX3_readFrom 5 none, Cond.code yX4_init cX4_init 1 none, Cond.methodLink RX4 3 objectInit, Cond.fieldLink RX4 9 "BorrowedStones$Orders" "line" "[I", Cond.fieldLink RX4 15 "BorrowedStones$Orders" "alike" "[I", Cond.fieldLink RX4 18 "BorrowedStones$Orders" "many" "I", Cond.methodLink RX4 22 yX7_living, Cond.instanceMethod yX7_living, Cond.selects RX7 yX7_living yX7_living, Cond.code yX7_living cX7_living 3 (some .int), Cond.fieldLink RX7 21 "BorrowedStones$State" "land" "LBorrowedStones$Land;", Cond.fieldLink RX7 33 "BorrowedStones$Land" "persons" "I", Cond.methodLink RX7 55 yX7_lives, Cond.instanceMethod yX7_lives, Cond.selects RX7 yX7_lives yX7_lives, Cond.code yX7_lives cX7_lives 2 (some .boolean), Cond.fieldLink RX7 18 "BorrowedStones$State" "died" "[I", Cond.methodLink RX7 41 yX6_at, Cond.methodLink RX4 28 yJ6_bitCount_0f7a4, Cond.static yJ6_bitCount_0f7a4, Cond.initialized RJ6, Cond.code yJ6_bitCount_0f7a4 cJ6_bitCount_0f7a4 1 (some .int), Cond.constant RJ6 265 (1431655765), Cond.constant RJ6 266 (858993459), Cond.constant RJ6 267 (252645135), Cond.methodLink RX4 34 yX6_put, Cond.code yX4_gather cX4_gather 5 (some .boolean), Cond.code yX4_swap cX4_swap 4 none, Cond.methodLink RX4 40 yX6_at, Cond.code yX4_step cX4_step 5 (some .boolean), Cond.methodLink RX4 44 yX4_swap, Cond.instanceMethod yX4_swap, Cond.selects RX4 yX4_swap yX4_swap, Cond.initialized RX4, Cond.code yX4_digits cX4_digits 3 (some .int), Cond.code yX4_forget cX4_forget 2 none, Cond.fieldLink RX4 48 "BorrowedStones$Orders" "fewest" "I", Cond.fieldLink RX4 51 "BorrowedStones$Orders" "firstBest" "I", Cond.fieldLink RX4 54 "BorrowedStones$Orders" "fitting" "I", Cond.fieldLink RX4 57 "BorrowedStones$Orders" "firstFitting" "I", Cond.code yX4_countStones cX4_countStones 4 none, Cond.methodLink RX4 70 yX7_stonesOf, Cond.methodLink RX4 60 yX7_nameless, Cond.instanceMethod yX7_nameless, Cond.selects RX7 yX7_nameless yX7_nameless, Cond.code yX7_nameless cX7_nameless 3 (some .int), Cond.methodLink RX7 59 yX7_isDead, Cond.instanceMethod yX7_isDead, Cond.selects RX7 yX7_isDead yX7_isDead, Cond.code yX7_isDead cX7_isDead 2 (some .boolean), Cond.methodLink RX4 63 yX4_digits, Cond.instanceMethod yX4_digits, Cond.selects RX4 yX4_digits yX4_digits, Cond.methodLink RX4 66 yX4_countStones, Cond.instanceMethod yX4_countStones, Cond.selects RX4 yX4_countStones yX4_countStones, Cond.code yX4_note cX4_note 4 none, Cond.code yX4_mostAlike cX4_mostAlike 4 (some .int), Cond.methodLink RX4 73 Lib.Math.max.name, Cond.static Lib.Math.max.name, Cond.code Lib.Math.max.name Lib.Math.max.code 2 (some .int), Cond.code yX5_init cX5_init 1 none, Cond.methodLink RX5 7 objectInit, Cond.fieldLink RX5 13 "BorrowedStones$Past" "workRow" "[I", Cond.fieldLink RX5 17 "BorrowedStones$Past" "imageRow" "[I", Cond.code yX5_clear cX5_clear 1 none, Cond.fieldLink RX5 20 "BorrowedStones$Past" "works" "I", Cond.fieldLink RX5 24 "BorrowedStones$Past" "images" "I", Cond.code yX5_isFull cX5_isFull 1 (some .boolean), Cond.code yX5_keepWork cX5_keepWork 2 none, Cond.methodLink RX5 27 yX7_writeTo, Cond.instanceMethod yX7_writeTo, Cond.selects RX7 yX7_writeTo yX7_writeTo, Cond.code yX7_writeTo cX7_writeTo 3 none, Cond.fieldLink RX7 9 "BorrowedStones$State" "debts" "[I", Cond.fieldLink RX7 29 "BorrowedStones$State" "year" "I", Cond.methodLink RX7 51 yX6_copy, Cond.methodLink RX7 47 yX6_put, Cond.code yX5_undoWork cX5_undoWork 2 none, Cond.methodLink RX5 31 yX7_readFrom, Cond.instanceMethod yX7_readFrom, Cond.selects RX7 yX7_readFrom yX7_readFrom, Cond.code yX7_readFrom cX7_readFrom 3 none, Cond.methodLink RX5 34 yX6_put, Cond.methodLink RX5 40 yX6_copy, Cond.code yX5_keepImage cX5_keepImage 3 none, Cond.methodLink RX5 44 yX6_at, Cond.code yX5_restoreImage cX5_restoreImage 3 none, Cond.code yX7_init cX7_init 3 none, Cond.methodLink RX7 3 objectInit, Cond.fieldLink RX7 25 "BorrowedStones$State" "law" "LBorrowedStones$Law;", Cond.code yX7_begin cX7_begin 2 none, Cond.fieldLink RX7 38 "BorrowedStones$Land" "firstDebts" "[I", Cond.code yX7_take cX7_take 2 none, Cond.code yX7_named cX7_named 3 (some .int), Cond.code yX7_howManyDead cX7_howManyDead 3 (some .int), Cond.code yX7_stonesUpTo cX7_stonesUpTo 5 (some .int), Cond.methodLink RX7 66 Lib.Math.min.name, Cond.methodLink RX7 62 yX7_stonesOf, Cond.code yX7_directlyUnder cX7_directlyUnder 4 (some .int), Cond.code yX7_allDebts cX7_allDebts 3 (some .int), Cond.code yX7_debtsOfDead cX7_debtsOfDead 3 (some .int), Cond.code yX7_mostInDebt cX7_mostInDebt 3 (some .int), Cond.code yX7_roomOf cX7_roomOf 2 (some .int), Cond.fieldLink RX7 72 "BorrowedStones$Land" "most" "I", Cond.code yX7_hasRoom cX7_hasRoom 2 (some .boolean), Cond.fieldLink RX7 75 "BorrowedStones$Law" "facts" "[I", Cond.fieldLink RX7 80 "BorrowedStones$Land" "kinds" "[I", Cond.methodLink RX7 83 yX1_areFriends, Cond.instanceMethod yX1_areFriends, Cond.selects RX1 yX1_areFriends yX1_areFriends, Cond.methodLink RX7 87 yX7_howManyDead, Cond.instanceMethod yX7_howManyDead, Cond.selects RX7 yX7_howManyDead yX7_howManyDead, Cond.methodLink RX7 91 yX2_answer, Cond.instanceMethod yX2_answer, Cond.selects RX2 yX2_answer yX2_answer, Cond.code yX7_willOf cX7_willOf 4 (some .int), Cond.code yX7_couldLend cX7_couldLend 3 (some .boolean), Cond.methodLink RX7 94 yX7_hasRoom, Cond.instanceMethod yX7_hasRoom, Cond.selects RX7 yX7_hasRoom yX7_hasRoom, Cond.methodLink RX7 97 yX7_couldLend, Cond.instanceMethod yX7_couldLend, Cond.selects RX7 yX7_couldLend yX7_couldLend, Cond.methodLink RX7 100 yX7_willOf, Cond.instanceMethod yX7_willOf, Cond.selects RX7 yX7_willOf yX7_willOf, Cond.code yX7_lendsTo cX7_lendsTo 3 (some .boolean), Cond.code yX7_heirOf cX7_heirOf 7 (some .int), Cond.methodLink RX7 103 yX7_heirOf, Cond.instanceMethod yX7_heirOf, Cond.selects RX7 yX7_heirOf yX7_heirOf, Cond.code yX7_heirs cX7_heirs 4 (some .int), Cond.code yX7_heired cX7_heired 3 (some .int), Cond.code yX7_owes cX7_owes 3 none, Cond.code yX7_takeName cX7_takeName 3 none, Cond.methodLink RX7 116 yX7_owes, Cond.instanceMethod yX7_owes, Cond.selects RX7 yX7_owes yX7_owes, Cond.code yX7_passYear cX7_passYear 2 none, Cond.methodLink RX7 113 Lib.Math.max.name, Cond.methodLink RX7 106 yX7_takeName, Cond.instanceMethod yX7_takeName, Cond.selects RX7 yX7_takeName yX7_takeName, Cond.methodLink RX7 110 yX7_lendsTo, Cond.instanceMethod yX7_lendsTo, Cond.selects RX7 yX7_lendsTo yX7_lendsTo, Cond.methodLink RX7 119 yX7_passYear, Cond.instanceMethod yX7_passYear, Cond.selects RX7 yX7_passYear yX7_passYear, Cond.code yX7_does cX7_does 5 (some .boolean), Cond.code yX7_trueName cX7_trueName 4 (some .int), Cond.code yX7_chainLength cX7_chainLength 5 (some .int), Cond.code yX7_longestChain cX7_longestChain 3 (some .int), Cond.methodLink RX7 122 yX7_chainLength, Cond.instanceMethod yX7_chainLength, Cond.selects RX7 yX7_chainLength yX7_chainLength, Cond.code yX8_init cX8_init 1 none, Cond.methodLink RX8 3 objectInit, Cond.fieldLink RX8 9 "BorrowedStones$Steps" "deeds" "[I", Cond.fieldLink RX8 15 "BorrowedStones$Steps" "firsts" "[I", Cond.fieldLink RX8 18 "BorrowedStones$Steps" "seconds" "[I", Cond.fieldLink RX8 21 "BorrowedStones$Steps" "starts" "[I", Cond.fieldLink RX8 24 "BorrowedStones$Steps" "rounds" "[I", Cond.code yX8_add cX8_add 4 none, Cond.fieldLink RX8 27 "BorrowedStones$Steps" "length" "I", Cond.methodLink RX8 99 yX6_put, Cond.code yX8_closeAgain cX8_closeAgain 2 none, Cond.fieldLink RX8 31 "BorrowedStones$Steps" "open" "I", Cond.methodLink RX8 105 yX6_at, Cond.methodLink RX8 84 yX8_add, Cond.instanceMethod yX8_add, Cond.selects RX8 yX8_add yX8_add, Cond.initialized RX8, Cond.fieldLink RX8 96 "BorrowedStones$Text" "wordStart" "I", Cond.methodLink RX8 61 yX9_blame, Cond.methodLink RX8 80 yX9_number, Cond.methodLink RX8 50 yX9_expect, Cond.code yX8_openAgain cX8_openAgain 3 none, Cond.methodLink RX8 65 yX9_word, Cond.methodLink RX8 70 yX9_isWord, Cond.methodLink RX8 74 yX8_openAgain, Cond.instanceMethod yX8_openAgain, Cond.selects RX8 yX8_openAgain yX8_openAgain, Cond.code yX8_readStep cX8_readStep 4 none, Cond.fieldLink RX8 58 "BorrowedStones$Text" "place" "I", Cond.methodLink RX8 34 yX9_hasMore, Cond.methodLink RX8 40 yX9_nextByte, Cond.methodLink RX8 44 yX9_pass, Cond.methodLink RX8 47 yX8_closeAgain, Cond.instanceMethod yX8_closeAgain, Cond.selects RX8 yX8_closeAgain yX8_closeAgain, Cond.methodLink RX8 54 yX8_readStep, Cond.instanceMethod yX8_readStep, Cond.selects RX8 yX8_readStep yX8_readStep, Cond.code yX8_readFrom cX8_readFrom 4 none, Cond.code yX8_behindEnd cX8_behindEnd 3 (some .int), Cond.code yX8_behindAgain cX8_behindAgain 3 (some .int), Cond.fieldLink RX8 109 "BorrowedStones$Steps" "done" "I", Cond.fieldLink RX8 112 "BorrowedStones$Steps" "refused" "I", Cond.constant RX8 115 (1000000), Cond.methodLink RX8 116 yX8_behindEnd, Cond.instanceMethod yX8_behindEnd, Cond.selects RX8 yX8_behindEnd yX8_behindEnd, Cond.methodLink RX8 120 yX8_behindAgain, Cond.instanceMethod yX8_behindAgain, Cond.selects RX8 yX8_behindAgain yX8_behindAgain, Cond.methodLink RX8 123 yX7_does, Cond.instanceMethod yX7_does, Cond.selects RX7 yX7_does yX7_does, Cond.code yX8_run cX8_run 6 none, Cond.code yX9_init cX9_init 1 none, Cond.methodLink RX9 3 objectInit, Cond.code yX9_takesTwenty cX9_takesTwenty 1 (some .boolean), Cond.fieldLink RX9 19 "BorrowedStones$Text" "bytes" "I", Cond.code yX9_takeNumber cX9_takeNumber 3 none, Cond.methodLink RX9 22 yX6_put, Cond.code yX9_begin cX9_begin 2 none, Cond.code yX9_faultLessTen cX9_faultLessTen 1 (some .int), Cond.code yX10_init cX10_init 1 none, Cond.methodLink RX10 3 objectInit, Cond.fieldLink RX10 9 "BorrowedStones$Ways" "asking" "[I", Cond.fieldLink RX10 15 "BorrowedStones$Ways" "offers" "[I", Cond.fieldLink RX10 18 "BorrowedStones$Ways" "room" "[I", Cond.fieldLink RX10 21 "BorrowedStones$Ways" "chosen" "[I", Cond.fieldLink RX10 24 "BorrowedStones$Ways" "best" "[I", Cond.methodLink RX10 61 yX6_at, Cond.methodLink RX10 65 yX7_lendsTo, Cond.methodLink RX10 69 yX7_willOf, Cond.methodLink RX10 43 yX6_put, Cond.code yX10_takeOffers cX10_takeOffers 7 none, Cond.code yX10_keepIfBetter cX10_keepIfBetter 3 none, Cond.fieldLink RX10 31 "BorrowedStones$Ways" "bestServed" "I", Cond.fieldLink RX10 34 "BorrowedStones$Ways" "bestWills" "I", Cond.fieldLink RX10 27 "BorrowedStones$Ways" "many" "I", Cond.methodLink RX10 77 yX6_copy, Cond.methodLink RX10 73 yX10_keepIfBetter, Cond.instanceMethod yX10_keepIfBetter, Cond.selects RX10 yX10_keepIfBetter yX10_keepIfBetter, Cond.initialized RX10, Cond.methodLink RX10 57 yX10_give, Cond.instanceMethod yX10_give, Cond.selects RX10 yX10_give yX10_give, Cond.code yX10_give cX10_give 7 none, Cond.methodLink RX10 37 yX7_roomOf, Cond.instanceMethod yX7_roomOf, Cond.selects RX7 yX7_roomOf yX7_roomOf, Cond.methodLink RX10 49 yX7_lives, Cond.methodLink RX10 53 yX10_takeOffers, Cond.instanceMethod yX10_takeOffers, Cond.selects RX10 yX10_takeOffers yX10_takeOffers, Cond.code yX10_search cX10_search 4 none, Cond.code yX10_lenderOf cX10_lenderOf 3 (some .int), Cond.methodLink RX11 1 objectInit, Cond.classLink RX11 7 RX9, Cond.instantiable RX9 8, Cond.fieldLink RX11 10 "BorrowedStones" "text" "LBorrowedStones$Text;", Cond.classLink RX11 16 RX1, Cond.instantiable RX1 5, Cond.fieldLink RX11 19 "BorrowedStones" "land" "LBorrowedStones$Land;", Cond.fieldLink RX11 23 "BorrowedStones" "draftLand" "LBorrowedStones$Land;", Cond.classLink RX11 26 RX2, Cond.instantiable RX2 4, Cond.fieldLink RX11 29 "BorrowedStones" "law" "LBorrowedStones$Law;", Cond.fieldLink RX11 33 "BorrowedStones" "draftLaw" "LBorrowedStones$Law;", Cond.classLink RX11 36 RX3, Cond.instantiable RX3 3, Cond.fieldLink RX11 39 "BorrowedStones" "lawReader" "LBorrowedStones$LawReader;", Cond.classLink RX11 43 RX8, Cond.instantiable RX8 9, Cond.fieldLink RX11 46 "BorrowedStones" "steps" "LBorrowedStones$Steps;", Cond.classLink RX11 50 RX0, Cond.instantiable RX0 2, Cond.fieldLink RX11 53 "BorrowedStones" "book" "LBorrowedStones$Book;", Cond.fieldLink RX11 57 "BorrowedStones" "draftBook" "LBorrowedStones$Book;", Cond.classLink RX11 60 RX7, Cond.instantiable RX7 6, Cond.fieldLink RX11 65 "BorrowedStones" "state" "LBorrowedStones$State;", Cond.fieldLink RX11 69 "BorrowedStones" "trial" "LBorrowedStones$State;", Cond.classLink RX11 72 RX5, Cond.instantiable RX5 4, Cond.initialized RX5, Cond.fieldLink RX11 75 "BorrowedStones" "past" "LBorrowedStones$Past;", Cond.classLink RX11 79 RX4, Cond.instantiable RX4 7, Cond.fieldLink RX11 82 "BorrowedStones" "orders" "LBorrowedStones$Orders;", Cond.classLink RX11 86 RX10, Cond.instantiable RX10 8, Cond.fieldLink RX11 89 "BorrowedStones" "ways" "LBorrowedStones$Ways;", Cond.arrayClass .long, Cond.fieldLink RX11 93 "BorrowedStones" "likely" "[J", Cond.instanceMethod yX9_init, Cond.instanceMethod yX1_init, Cond.instanceMethod yX2_init, Cond.instanceMethod yX3_init, Cond.instanceMethod yX8_init, Cond.instanceMethod yX0_init, Cond.methodLink RX11 62 yX7_init, Cond.instanceMethod yX7_init, Cond.instanceMethod yX5_init, Cond.instanceMethod yX4_init, Cond.instanceMethod yX10_init, Cond.methodLink RX11 97 yX2_becomePlain, Cond.instanceMethod yX2_becomePlain, Cond.selects RX2 yX2_becomePlain yX2_becomePlain, Cond.methodLink RX11 100 yX7_begin, Cond.instanceMethod yX7_begin, Cond.selects RX7 yX7_begin yX7_begin, Cond.code yX11_init cX11_init 1 none, Cond.code yX11_feed cX11_feed 6 (some .int), Cond.fieldLink RX11 111 "BorrowedStones$Text" "bytes" "I", Cond.methodLink RX11 103 yX9_takesTwenty, Cond.instanceMethod yX9_takesTwenty, Cond.selects RX9 yX9_takesTwenty yX9_takesTwenty, Cond.methodLink RX11 107 yX9_takeNumber, Cond.instanceMethod yX9_takeNumber, Cond.selects RX9 yX9_takeNumber yX9_takeNumber, Cond.code yX11_need cX11_need 2 none, Cond.classLink RX11 380 "java/lang/IllegalArgumentException", Cond.initialized "java/lang/IllegalArgumentException", Cond.fieldLink RX11 374 "BorrowedStones" "wrongs" "I", Cond.fieldLink RX11 140 "BorrowedStones" "refusedSteps" "I", Cond.fieldLink RX11 143 "BorrowedStones$Land" "persons" "I", Cond.methodLink RX11 115 yX11_need, Cond.instanceMethod yX11_need, Cond.selects RX11 yX11_need yX11_need, Cond.initialized RX11, Cond.methodLink RX11 119 yX9_begin, Cond.instanceMethod yX9_begin, Cond.selects RX9 yX9_begin yX9_begin, Cond.methodLink RX11 121 yX1_readFrom, Cond.instanceMethod yX1_readFrom, Cond.selects RX1 yX1_readFrom yX1_readFrom, Cond.methodLink RX11 125 yX9_isSound, Cond.methodLink RX11 128 yX9_faultLessTen, Cond.instanceMethod yX9_faultLessTen, Cond.selects RX9 yX9_faultLessTen yX9_faultLessTen, Cond.methodLink RX11 132 yX1_take, Cond.instanceMethod yX1_take, Cond.selects RX1 yX1_take yX1_take, Cond.methodLink RX11 136 yX0_clear, Cond.methodLink RX11 139 yX5_clear, Cond.instanceMethod yX5_clear, Cond.selects RX5 yX5_clear yX5_clear, Cond.code yX11_peninsula cX11_peninsula 2 (some .int), Cond.methodLink RX11 146 yX3_readFrom, Cond.instanceMethod yX3_readFrom, Cond.selects RX3 yX3_readFrom yX3_readFrom, Cond.methodLink RX11 149 yX2_take, Cond.instanceMethod yX2_take, Cond.selects RX2 yX2_take yX2_take, Cond.code yX11_law cX11_law 2 (some .int), Cond.fieldLink RX11 165 "BorrowedStones$Steps" "refused" "I", Cond.fieldLink RX11 168 "BorrowedStones$Steps" "done" "I", Cond.methodLink RX11 152 yX5_isFull, Cond.instanceMethod yX5_isFull, Cond.selects RX5 yX5_isFull yX5_isFull, Cond.methodLink RX11 155 yX8_readFrom, Cond.instanceMethod yX8_readFrom, Cond.selects RX8 yX8_readFrom yX8_readFrom, Cond.methodLink RX11 158 yX5_keepWork, Cond.instanceMethod yX5_keepWork, Cond.selects RX5 yX5_keepWork yX5_keepWork, Cond.methodLink RX11 162 yX8_run, Cond.instanceMethod yX8_run, Cond.selects RX8 yX8_run yX8_run, Cond.code yX11_work cX11_work 2 (some .int), Cond.fieldLink RX11 175 "BorrowedStones$Book" "lines" "I", Cond.methodLink RX11 171 yX0_readFrom, Cond.instanceMethod yX0_readFrom, Cond.selects RX0 yX0_readFrom yX0_readFrom, Cond.methodLink RX11 172 yX0_take, Cond.instanceMethod yX0_take, Cond.selects RX0 yX0_take yX0_take, Cond.code yX11_book cX11_book 2 (some .int), Cond.code yX11_fault cX11_fault 1 (some .int), Cond.fieldLink RX11 178 "BorrowedStones$Text" "faultPlace" "I", Cond.fieldLink RX11 181 "BorrowedStones$Past" "works" "I", Cond.methodLink RX11 184 yX5_undoWork, Cond.instanceMethod yX5_undoWork, Cond.selects RX5 yX5_undoWork yX5_undoWork, Cond.code yX11_undo cX11_undo 1 (some .int), Cond.fieldLink RX11 193 "BorrowedStones$State" "year" "I", Cond.fieldLink RX11 208 "BorrowedStones$Land" "most" "I", Cond.methodLink RX11 187 yX7_living, Cond.methodLink RX11 190 yX7_nameless, Cond.methodLink RX11 196 yX7_named, Cond.instanceMethod yX7_named, Cond.selects RX7 yX7_named yX7_named, Cond.methodLink RX11 199 yX7_allDebts, Cond.instanceMethod yX7_allDebts, Cond.selects RX7 yX7_allDebts yX7_allDebts, Cond.methodLink RX11 202 yX7_debtsOfDead, Cond.instanceMethod yX7_debtsOfDead, Cond.selects RX7 yX7_debtsOfDead yX7_debtsOfDead, Cond.methodLink RX11 205 yX7_heirs, Cond.instanceMethod yX7_heirs, Cond.selects RX7 yX7_heirs yX7_heirs, Cond.methodLink RX11 211 yX7_longestChain, Cond.instanceMethod yX7_longestChain, Cond.selects RX7 yX7_longestChain yX7_longestChain, Cond.code yX11_told cX11_told 2 (some .int), Cond.code yX11_needPerson cX11_needPerson 2 none, Cond.classLink RX11 377 "java/util/NoSuchElementException", Cond.initialized "java/util/NoSuchElementException", Cond.fieldLink RX11 371 "BorrowedStones" "strangers" "I", Cond.fieldLink RX11 217 "BorrowedStones$Land" "kinds" "[I", Cond.fieldLink RX11 227 "BorrowedStones$State" "debts" "[I", Cond.fieldLink RX11 234 "BorrowedStones$State" "under" "[I", Cond.fieldLink RX11 244 "BorrowedStones$Land" "friends" "[I", Cond.fieldLink RX11 247 "BorrowedStones$State" "died" "[I", Cond.methodLink RX11 214 yX11_needPerson, Cond.instanceMethod yX11_needPerson, Cond.selects RX11 yX11_needPerson yX11_needPerson, Cond.methodLink RX11 221 yX6_at, Cond.methodLink RX11 230 yX7_lives, Cond.methodLink RX11 237 yX7_stonesOf, Cond.methodLink RX11 241 yX7_directlyUnder, Cond.instanceMethod yX7_directlyUnder, Cond.selects RX7 yX7_directlyUnder yX7_directlyUnder, Cond.code yX11_person cX11_person 3 (some .int), Cond.methodLink RX11 250 yX7_willOf, Cond.code yX11_will cX11_will 3 (some .int), Cond.methodLink RX11 254 yX7_lendsTo, Cond.code yX11_lends cX11_lends 3 (some .boolean), Cond.fieldLink RX11 258 "BorrowedStones$Law" "facts" "[I", Cond.methodLink RX11 261 yX6_put, Cond.methodLink RX11 265 yX2_answer, Cond.code yX11_would cX11_would 9 (some .int), Cond.methodLink RX11 268 yX7_heirOf, Cond.code yX11_lender cX11_lender 2 (some .int), Cond.methodLink RX11 271 yX7_take, Cond.instanceMethod yX7_take, Cond.selects RX7 yX7_take yX7_take, Cond.methodLink RX11 273 yX7_passYear, Cond.methodLink RX11 276 yX7_heired, Cond.instanceMethod yX7_heired, Cond.selects RX7 yX7_heired yX7_heired, Cond.methodLink RX11 279 yX7_mostInDebt, Cond.instanceMethod yX7_mostInDebt, Cond.selects RX7 yX7_mostInDebt yX7_mostInDebt, Cond.code yX11_ahead cX11_ahead 4 (some .int), Cond.methodLink RX11 282 yX7_trueName, Cond.instanceMethod yX7_trueName, Cond.selects RX7 yX7_trueName yX7_trueName, Cond.code yX11_truly cX11_truly 2 (some .int), Cond.code yX11_chain cX11_chain 2 (some .int), Cond.methodLink RX11 285 yX7_chainLength, Cond.code yX11_areTold cX11_areTold 2 (some .boolean), Cond.fieldLink RX11 295 "BorrowedStones$Ways" "bestServed" "I", Cond.fieldLink RX11 298 "BorrowedStones$Ways" "bestWills" "I", Cond.methodLink RX11 288 yX11_areTold, Cond.instanceMethod yX11_areTold, Cond.selects RX11 yX11_areTold yX11_areTold, Cond.methodLink RX11 291 yX10_search, Cond.instanceMethod yX10_search, Cond.selects RX10 yX10_search yX10_search, Cond.code yX11_served cX11_served 3 (some .int), Cond.methodLink RX11 301 yX10_lenderOf, Cond.instanceMethod yX10_lenderOf, Cond.selects RX10 yX10_lenderOf yX10_lenderOf, Cond.code yX11_giver cX11_giver 3 (some .int), Cond.methodLink RX11 383 yX4_gather, Cond.instanceMethod yX4_gather, Cond.selects RX4 yX4_gather yX4_gather, Cond.code yX11_needOrders cX11_needOrders 3 none, Cond.fieldLink RX11 390 "BorrowedStones$Orders" "many" "I", Cond.fieldLink RX11 393 "BorrowedStones$Orders" "line" "[I", Cond.methodLink RX11 387 yX4_forget, Cond.instanceMethod yX4_forget, Cond.selects RX4 yX4_forget yX4_forget, Cond.methodLink RX11 396 yX7_does, Cond.methodLink RX11 400 yX0_isRightFor, Cond.instanceMethod yX0_isRightFor, Cond.selects RX0 yX0_isRightFor yX0_isRightFor, Cond.methodLink RX11 404 yX4_note, Cond.instanceMethod yX4_note, Cond.selects RX4 yX4_note yX4_note, Cond.methodLink RX11 408 yX4_step, Cond.instanceMethod yX4_step, Cond.selects RX4 yX4_step yX4_step, Cond.code yX11_tryOrders cX11_tryOrders 4 none, Cond.fieldLink RX11 311 "BorrowedStones$Orders" "fewest" "I", Cond.fieldLink RX11 319 "BorrowedStones$Orders" "firstBest" "I", Cond.methodLink RX11 304 yX11_needOrders, Cond.instanceMethod yX11_needOrders, Cond.selects RX11 yX11_needOrders yX11_needOrders, Cond.methodLink RX11 308 yX11_tryOrders, Cond.instanceMethod yX11_tryOrders, Cond.selects RX11 yX11_tryOrders yX11_tryOrders, Cond.methodLink RX11 314 yJ6_bitCount_0f7a4, Cond.code yX11_order cX11_order 3 (some .int), Cond.fieldLink RX11 322 "BorrowedStones$Orders" "fitting" "I", Cond.fieldLink RX11 325 "BorrowedStones$Orders" "firstFitting" "I", Cond.code yX11_fits cX11_fits 3 (some .int), Cond.methodLink RX11 328 yX0_tellsOf, Cond.methodLink RX11 331 yX4_mostAlike, Cond.instanceMethod yX4_mostAlike, Cond.selects RX4 yX4_mostAlike yX4_mostAlike, Cond.code yX11_look cX11_look 7 (some .int), Cond.code yX11_gain cX11_gain 4 (some .int), Cond.code yX11_neighbours cX11_neighbours 12 (some .int), Cond.methodLink RX11 334 yX11_gain, Cond.static yX11_gain, Cond.code yX11_weighNames cX11_weighNames 7 none, Cond.code yX11_home cX11_home 10 (some .long), Cond.methodLink RX11 338 yX11_weighNames, Cond.instanceMethod yX11_weighNames, Cond.selects RX11 yX11_weighNames yX11_weighNames, Cond.methodLink RX11 344 Lib.Math.min.name, Cond.methodLink RX11 341 yX7_stonesUpTo, Cond.instanceMethod yX7_stonesUpTo, Cond.selects RX7 yX7_stonesUpTo yX7_stonesUpTo, Cond.code yX11_flowers cX11_flowers 5 (some .int), Cond.code yX11_honoured cX11_honoured 6 (some .int), Cond.code yX11_sued cX11_sued 4 (some .int), Cond.methodLink RX11 349 yX1_areFriends, Cond.methodLink RX11 352 yX7_hasRoom, Cond.code yX11_free cX11_free 4 (some .int), Cond.code yX11_kin cX11_kin 5 (some .int), Cond.code yX11_willing cX11_willing 4 (some .int), Cond.code yX11_below cX11_below 5 (some .int), Cond.code yX11_debtless cX11_debtless 3 (some .int), Cond.code yX11_after cX11_after 4 (some .int), Cond.code yX11_latest cX11_latest 5 (some .int), Cond.code yX11_drawn cX11_drawn 3 (some .int), Cond.fieldLink RX11 411 "BorrowedStones" "drawing" "I", Cond.constant RX11 417 (1103515245), Cond.methodLink RX11 414 yX11_drawn, Cond.instanceMethod yX11_drawn, Cond.selects RX11 yX11_drawn yX11_drawn, Cond.code yX11_passCentury cX11_passCentury 7 none, Cond.methodLink RX11 355 yX11_passCentury, Cond.instanceMethod yX11_passCentury, Cond.selects RX11 yX11_passCentury yX11_passCentury, Cond.code yX11_century cX11_century 5 (some .int), Cond.methodLink RX11 359 Lib.Math.max.name, Cond.code yX11_span cX11_span 12 (some .int), Cond.fieldLink RX11 362 "BorrowedStones$Past" "images" "I", Cond.methodLink RX11 365 yX5_keepImage, Cond.instanceMethod yX5_keepImage, Cond.selects RX5 yX5_keepImage yX5_keepImage, Cond.code yX11_image cX11_image 1 (some .int), Cond.methodLink RX11 368 yX5_restoreImage, Cond.instanceMethod yX5_restoreImage, Cond.selects RX5 yX5_restoreImage yX5_restoreImage, Cond.code yX11_restore cX11_restore 1 (some .int), Cond.code yX11_status cX11_status 2 (some .int), Cond.code yX11_count cX11_count 2 (some .int)]
def BXl : List Cond := wsX00 ++ wsX10 ++ wsX20 ++ wsX30 ++ wsX40 ++ wsX50 ++ wsX70 ++ wsX80 ++ wsX90 ++ wsX100 ++ wsX110
def BXt : List Cond := (vx_at0 RX11 382 "java/lang/IllegalArgumentException" ["java/lang/RuntimeException", "java/lang/Exception"]).filter goodWord ++ (vx_at0 RX11 379 "java/util/NoSuchElementException" ["java/lang/RuntimeException", "java/lang/Exception"]).filter goodWord
def BX : List Cond := BXw ++ (BXl ++ BXt)
set_option maxRecDepth 20000 in
theorem BX_good : BX.all goodWord = true := by decide +kernel
theorem BX_X0 {c0 : Cond} : ∀ w ∈ wsX00, w ∈ c0 :: BX := fun w h => List.mem_cons_of_mem _ (List.mem_append_right _ (List.mem_append_left _ (List.mem_append_left _ (List.mem_append_left _ (List.mem_append_left _ (List.mem_append_left _ (List.mem_append_left _ (List.mem_append_left _ (List.mem_append_left _ (List.mem_append_left _ (List.mem_append_left _ (List.mem_append_left _ (h)))))))))))))
theorem BX_X1 {c0 : Cond} : ∀ w ∈ wsX10, w ∈ c0 :: BX := fun w h => List.mem_cons_of_mem _ (List.mem_append_right _ (List.mem_append_left _ (List.mem_append_left _ (List.mem_append_left _ (List.mem_append_left _ (List.mem_append_left _ (List.mem_append_left _ (List.mem_append_left _ (List.mem_append_left _ (List.mem_append_left _ (List.mem_append_left _ (List.mem_append_right _ (h)))))))))))))
theorem BX_X2 {c0 : Cond} : ∀ w ∈ wsX20, w ∈ c0 :: BX := fun w h => List.mem_cons_of_mem _ (List.mem_append_right _ (List.mem_append_left _ (List.mem_append_left _ (List.mem_append_left _ (List.mem_append_left _ (List.mem_append_left _ (List.mem_append_left _ (List.mem_append_left _ (List.mem_append_left _ (List.mem_append_left _ (List.mem_append_right _ (h))))))))))))
theorem BX_X3 {c0 : Cond} : ∀ w ∈ wsX30, w ∈ c0 :: BX := fun w h => List.mem_cons_of_mem _ (List.mem_append_right _ (List.mem_append_left _ (List.mem_append_left _ (List.mem_append_left _ (List.mem_append_left _ (List.mem_append_left _ (List.mem_append_left _ (List.mem_append_left _ (List.mem_append_left _ (List.mem_append_right _ (h)))))))))))
theorem BX_X4 {c0 : Cond} : ∀ w ∈ wsX40, w ∈ c0 :: BX := fun w h => List.mem_cons_of_mem _ (List.mem_append_right _ (List.mem_append_left _ (List.mem_append_left _ (List.mem_append_left _ (List.mem_append_left _ (List.mem_append_left _ (List.mem_append_left _ (List.mem_append_left _ (List.mem_append_right _ (h))))))))))
theorem BX_X5 {c0 : Cond} : ∀ w ∈ wsX50, w ∈ c0 :: BX := fun w h => List.mem_cons_of_mem _ (List.mem_append_right _ (List.mem_append_left _ (List.mem_append_left _ (List.mem_append_left _ (List.mem_append_left _ (List.mem_append_left _ (List.mem_append_left _ (List.mem_append_right _ (h)))))))))
theorem BX_X7 {c0 : Cond} : ∀ w ∈ wsX70, w ∈ c0 :: BX := fun w h => List.mem_cons_of_mem _ (List.mem_append_right _ (List.mem_append_left _ (List.mem_append_left _ (List.mem_append_left _ (List.mem_append_left _ (List.mem_append_left _ (List.mem_append_right _ (h))))))))
theorem BX_X8 {c0 : Cond} : ∀ w ∈ wsX80, w ∈ c0 :: BX := fun w h => List.mem_cons_of_mem _ (List.mem_append_right _ (List.mem_append_left _ (List.mem_append_left _ (List.mem_append_left _ (List.mem_append_left _ (List.mem_append_right _ (h)))))))
theorem BX_X9 {c0 : Cond} : ∀ w ∈ wsX90, w ∈ c0 :: BX := fun w h => List.mem_cons_of_mem _ (List.mem_append_right _ (List.mem_append_left _ (List.mem_append_left _ (List.mem_append_left _ (List.mem_append_right _ (h))))))
theorem BX_X10 {c0 : Cond} : ∀ w ∈ wsX100, w ∈ c0 :: BX := fun w h => List.mem_cons_of_mem _ (List.mem_append_right _ (List.mem_append_left _ (List.mem_append_left _ (List.mem_append_right _ (h)))))
theorem BX_X11 {c0 : Cond} : ∀ w ∈ wsX110, w ∈ c0 :: BX := fun w h => List.mem_cons_of_mem _ (List.mem_append_right _ (List.mem_append_left _ (List.mem_append_right _ (h))))
theorem BX_t0 {c0 : Cond} : ∀ w ∈ (vx_at0 RX11 382 "java/lang/IllegalArgumentException" ["java/lang/RuntimeException", "java/lang/Exception"]).filter goodWord, w ∈ c0 :: BX := fun w h => List.mem_cons_of_mem _ (List.mem_append_right _ (List.mem_append_right _ (List.mem_append_left _ h)))
theorem BX_t1 {c0 : Cond} : ∀ w ∈ (vx_at0 RX11 379 "java/util/NoSuchElementException" ["java/lang/RuntimeException", "java/lang/Exception"]).filter goodWord, w ∈ c0 :: BX := fun w h => List.mem_cons_of_mem _ (List.mem_append_right _ (List.mem_append_right _ (List.mem_append_right _ h)))
set_option maxRecDepth 20000 in
theorem BX_n0 : ∀ w ∈ (vx_at0 RX11 382 "java/lang/IllegalArgumentException" ["java/lang/RuntimeException", "java/lang/Exception"]).filter (fun w => !goodWord w), w ∈ [Cond.castable "java/lang/IllegalArgumentException" "java/lang/IllegalArgumentException", Cond.declares (Bundle.init0 "java/lang/RuntimeException"), Cond.declares (Bundle.init0 "java/lang/Exception"), Cond.declares (Bundle.init0 Bundle.tN)] := by decide +kernel
set_option maxRecDepth 20000 in
theorem BX_n1 : ∀ w ∈ (vx_at0 RX11 379 "java/util/NoSuchElementException" ["java/lang/RuntimeException", "java/lang/Exception"]).filter (fun w => !goodWord w), w ∈ [Cond.castable "java/util/NoSuchElementException" "java/util/NoSuchElementException", Cond.declares (Bundle.init0 "java/lang/RuntimeException"), Cond.declares (Bundle.init0 "java/lang/Exception"), Cond.declares (Bundle.init0 Bundle.tN)] := by decide +kernel
theorem BX_g0 : ∀ w ∈ Cond.classLink RX11 380 "java/lang/IllegalArgumentException" :: Cond.initialized "java/lang/IllegalArgumentException" :: (vx_at0 RX11 382 "java/lang/IllegalArgumentException" ["java/lang/RuntimeException", "java/lang/Exception"]), vx_ot w = true := by decide +kernel
theorem BX_g1 : ∀ w ∈ Cond.classLink RX11 377 "java/util/NoSuchElementException" :: Cond.initialized "java/util/NoSuchElementException" :: (vx_at0 RX11 379 "java/util/NoSuchElementException" ["java/lang/RuntimeException", "java/lang/Exception"]), vx_ot w = true := by decide +kernel
theorem BX_h0 {c0 : Cond} {args : Array Value} {s : State} (h : ∀ w ∈ c0 :: BX, w.before args s = true) (hc : va_Nw (.castable "java/lang/IllegalArgumentException" "java/lang/IllegalArgumentException") s) (hd0 : va_Nw (.declares (Bundle.init0 "java/lang/RuntimeException")) s) (hd1 : va_Nw (.declares (Bundle.init0 "java/lang/Exception")) s) (hd2 : va_Nw (.declares (Bundle.init0 Bundle.tN)) s) : ∀ w ∈ (vx_at0 RX11 382 "java/lang/IllegalArgumentException" ["java/lang/RuntimeException", "java/lang/Exception"]), w.before args s = true := vx_hat (fun w hw => h w (BX_t0 w hw)) BX_n0 (vx_c (va_Nw.use rfl hc) (vx_c (va_Nw.use rfl hd0) (vx_c (va_Nw.use rfl hd1) (vx_c (va_Nw.use rfl hd2) vx_n))))
theorem BX_h1 {c0 : Cond} {args : Array Value} {s : State} (h : ∀ w ∈ c0 :: BX, w.before args s = true) (hc : va_Nw (.castable "java/util/NoSuchElementException" "java/util/NoSuchElementException") s) (hd0 : va_Nw (.declares (Bundle.init0 "java/lang/RuntimeException")) s) (hd1 : va_Nw (.declares (Bundle.init0 "java/lang/Exception")) s) (hd2 : va_Nw (.declares (Bundle.init0 Bundle.tN)) s) : ∀ w ∈ (vx_at0 RX11 379 "java/util/NoSuchElementException" ["java/lang/RuntimeException", "java/lang/Exception"]), w.before args s = true := vx_hat (fun w hw => h w (BX_t1 w hw)) BX_n1 (vx_c (va_Nw.use rfl hc) (vx_c (va_Nw.use rfl hd0) (vx_c (va_Nw.use rfl hd1) (vx_c (va_Nw.use rfl hd2) vx_n))))
set_option maxRecDepth 100000 in
theorem bx_0 : Cond.code yX0_init cX0_init 1 none ∈ BX := List.mem_append_left _ (List.mem_of_getElem? (i := 0) rfl)
set_option maxRecDepth 100000 in
theorem bx_1 : Cond.methodLink RX0 3 objectInit ∈ BX := List.mem_append_left _ (List.mem_of_getElem? (i := 1) rfl)
set_option maxRecDepth 100000 in
theorem bx_2 : Cond.instanceMethod objectInit ∈ BX := List.mem_append_left _ (List.mem_of_getElem? (i := 2) rfl)
set_option maxRecDepth 100000 in
theorem bx_3 : Cond.code objectInit ⟨#[0xb1]⟩ 1 none ∈ BX := List.mem_append_left _ (List.mem_of_getElem? (i := 3) rfl)
set_option maxRecDepth 100000 in
theorem bx_4 : Cond.arrayClass .int ∈ BX := List.mem_append_left _ (List.mem_of_getElem? (i := 4) rfl)
set_option maxRecDepth 100000 in
theorem bx_5 : Cond.fieldLink RX0 9 "BorrowedStones$Book" "stones" "[I" ∈ BX := List.mem_append_left _ (List.mem_of_getElem? (i := 5) rfl)
set_option maxRecDepth 100000 in
theorem bx_6 : Cond.code yX0_clear cX0_clear 2 none ∈ BX := List.mem_append_left _ (List.mem_of_getElem? (i := 6) rfl)
set_option maxRecDepth 100000 in
theorem bx_7 : Cond.fieldLink RX0 15 "BorrowedStones$Book" "lines" "I" ∈ BX := List.mem_append_left _ (List.mem_of_getElem? (i := 7) rfl)
set_option maxRecDepth 100000 in
theorem bx_8 : Cond.code yX0_take cX0_take 2 none ∈ BX := List.mem_append_left _ (List.mem_of_getElem? (i := 8) rfl)
set_option maxRecDepth 100000 in
theorem bx_9 : Cond.methodLink RX0 19 yX6_copy ∈ BX := List.mem_append_left _ (List.mem_of_getElem? (i := 9) rfl)
set_option maxRecDepth 100000 in
theorem bx_10 : Cond.static yX6_copy ∈ BX := List.mem_append_left _ (List.mem_of_getElem? (i := 10) rfl)
set_option maxRecDepth 100000 in
theorem bx_11 : Cond.initialized RX6 ∈ BX := List.mem_append_left _ (List.mem_of_getElem? (i := 11) rfl)
set_option maxRecDepth 100000 in
theorem bx_12 : Cond.code yX6_copy cX6_copy 6 none ∈ BX := List.mem_append_left _ (List.mem_of_getElem? (i := 12) rfl)
set_option maxRecDepth 100000 in
theorem bx_13 : Cond.methodLink RX6 7 yX6_at ∈ BX := List.mem_append_left _ (List.mem_of_getElem? (i := 13) rfl)
set_option maxRecDepth 100000 in
theorem bx_14 : Cond.static yX6_at ∈ BX := List.mem_append_left _ (List.mem_of_getElem? (i := 14) rfl)
set_option maxRecDepth 100000 in
theorem bx_15 : Cond.code yX6_at cX6_at 2 (some .int) ∈ BX := List.mem_append_left _ (List.mem_of_getElem? (i := 15) rfl)
set_option maxRecDepth 100000 in
theorem bx_16 : Cond.methodLink RX6 13 yX6_put ∈ BX := List.mem_append_left _ (List.mem_of_getElem? (i := 16) rfl)
set_option maxRecDepth 100000 in
theorem bx_17 : Cond.static yX6_put ∈ BX := List.mem_append_left _ (List.mem_of_getElem? (i := 17) rfl)
set_option maxRecDepth 100000 in
theorem bx_18 : Cond.code yX6_put cX6_put 3 none ∈ BX := List.mem_append_left _ (List.mem_of_getElem? (i := 18) rfl)
set_option maxRecDepth 100000 in
theorem bx_19 : Cond.code yX0_tellsOf cX0_tellsOf 2 (some .boolean) ∈ BX := List.mem_append_left _ (List.mem_of_getElem? (i := 19) rfl)
set_option maxRecDepth 100000 in
theorem bx_20 : Cond.methodLink RX0 25 yX6_at ∈ BX := List.mem_append_left _ (List.mem_of_getElem? (i := 20) rfl)
set_option maxRecDepth 100000 in
theorem bx_21 : Cond.code yX0_isRightFor cX0_isRightFor 3 (some .boolean) ∈ BX := List.mem_append_left _ (List.mem_of_getElem? (i := 21) rfl)
set_option maxRecDepth 100000 in
theorem bx_22 : Cond.methodLink RX0 29 yX0_tellsOf ∈ BX := List.mem_append_left _ (List.mem_of_getElem? (i := 22) rfl)
set_option maxRecDepth 100000 in
theorem bx_23 : Cond.instanceMethod yX0_tellsOf ∈ BX := List.mem_append_left _ (List.mem_of_getElem? (i := 23) rfl)
set_option maxRecDepth 100000 in
theorem bx_24 : Cond.selects RX0 yX0_tellsOf yX0_tellsOf ∈ BX := List.mem_append_left _ (List.mem_of_getElem? (i := 24) rfl)
set_option maxRecDepth 100000 in
theorem bx_25 : Cond.initialized RX0 ∈ BX := List.mem_append_left _ (List.mem_of_getElem? (i := 25) rfl)
set_option maxRecDepth 100000 in
theorem bx_26 : Cond.methodLink RX0 33 yX7_stonesOf ∈ BX := List.mem_append_left _ (List.mem_of_getElem? (i := 26) rfl)
set_option maxRecDepth 100000 in
theorem bx_27 : Cond.instanceMethod yX7_stonesOf ∈ BX := List.mem_append_left _ (List.mem_of_getElem? (i := 27) rfl)
set_option maxRecDepth 100000 in
theorem bx_28 : Cond.selects RX7 yX7_stonesOf yX7_stonesOf ∈ BX := List.mem_append_left _ (List.mem_of_getElem? (i := 28) rfl)
set_option maxRecDepth 100000 in
theorem bx_29 : Cond.initialized RX7 ∈ BX := List.mem_append_left _ (List.mem_of_getElem? (i := 29) rfl)
set_option maxRecDepth 100000 in
theorem bx_30 : Cond.code yX7_stonesOf cX7_stonesOf 4 (some .int) ∈ BX := List.mem_append_left _ (List.mem_of_getElem? (i := 30) rfl)
set_option maxRecDepth 100000 in
theorem bx_31 : Cond.fieldLink RX7 15 "BorrowedStones$State" "under" "[I" ∈ BX := List.mem_append_left _ (List.mem_of_getElem? (i := 31) rfl)
set_option maxRecDepth 100000 in
theorem bx_32 : Cond.fieldLink RX0 55 "BorrowedStones$Text" "numberStart" "I" ∈ BX := List.mem_append_left _ (List.mem_of_getElem? (i := 32) rfl)
set_option maxRecDepth 100000 in
theorem bx_33 : Cond.methodLink RX0 39 yX0_clear ∈ BX := List.mem_append_left _ (List.mem_of_getElem? (i := 33) rfl)
set_option maxRecDepth 100000 in
theorem bx_34 : Cond.instanceMethod yX0_clear ∈ BX := List.mem_append_left _ (List.mem_of_getElem? (i := 34) rfl)
set_option maxRecDepth 100000 in
theorem bx_35 : Cond.selects RX0 yX0_clear yX0_clear ∈ BX := List.mem_append_left _ (List.mem_of_getElem? (i := 35) rfl)
set_option maxRecDepth 100000 in
theorem bx_36 : Cond.methodLink RX0 42 yX9_hasMore ∈ BX := List.mem_append_left _ (List.mem_of_getElem? (i := 36) rfl)
set_option maxRecDepth 100000 in
theorem bx_37 : Cond.instanceMethod yX9_hasMore ∈ BX := List.mem_append_left _ (List.mem_of_getElem? (i := 37) rfl)
set_option maxRecDepth 100000 in
theorem bx_38 : Cond.selects RX9 yX9_hasMore yX9_hasMore ∈ BX := List.mem_append_left _ (List.mem_of_getElem? (i := 38) rfl)
set_option maxRecDepth 100000 in
theorem bx_39 : Cond.initialized RX9 ∈ BX := List.mem_append_left _ (List.mem_of_getElem? (i := 39) rfl)
set_option maxRecDepth 100000 in
theorem bx_40 : Cond.code yX9_hasMore cX9_hasMore 1 (some .boolean) ∈ BX := List.mem_append_left _ (List.mem_of_getElem? (i := 40) rfl)
set_option maxRecDepth 100000 in
theorem bx_41 : Cond.fieldLink RX9 34 "BorrowedStones$Text" "fault" "I" ∈ BX := List.mem_append_left _ (List.mem_of_getElem? (i := 41) rfl)
set_option maxRecDepth 100000 in
theorem bx_42 : Cond.methodLink RX9 41 yX9_nextByte ∈ BX := List.mem_append_left _ (List.mem_of_getElem? (i := 42) rfl)
set_option maxRecDepth 100000 in
theorem bx_43 : Cond.instanceMethod yX9_nextByte ∈ BX := List.mem_append_left _ (List.mem_of_getElem? (i := 43) rfl)
set_option maxRecDepth 100000 in
theorem bx_44 : Cond.selects RX9 yX9_nextByte yX9_nextByte ∈ BX := List.mem_append_left _ (List.mem_of_getElem? (i := 44) rfl)
set_option maxRecDepth 100000 in
theorem bx_45 : Cond.code yX9_nextByte cX9_nextByte 1 (some .int) ∈ BX := List.mem_append_left _ (List.mem_of_getElem? (i := 45) rfl)
set_option maxRecDepth 100000 in
theorem bx_46 : Cond.fieldLink RX9 31 "BorrowedStones$Text" "place" "I" ∈ BX := List.mem_append_left _ (List.mem_of_getElem? (i := 46) rfl)
set_option maxRecDepth 100000 in
theorem bx_47 : Cond.fieldLink RX9 28 "BorrowedStones$Text" "end" "I" ∈ BX := List.mem_append_left _ (List.mem_of_getElem? (i := 47) rfl)
set_option maxRecDepth 100000 in
theorem bx_48 : Cond.fieldLink RX9 9 "BorrowedStones$Text" "tape" "[I" ∈ BX := List.mem_append_left _ (List.mem_of_getElem? (i := 48) rfl)
set_option maxRecDepth 100000 in
theorem bx_49 : Cond.methodLink RX9 37 yX6_at ∈ BX := List.mem_append_left _ (List.mem_of_getElem? (i := 49) rfl)
set_option maxRecDepth 100000 in
theorem bx_50 : Cond.methodLink RX0 48 yX9_number ∈ BX := List.mem_append_left _ (List.mem_of_getElem? (i := 50) rfl)
set_option maxRecDepth 100000 in
theorem bx_51 : Cond.instanceMethod yX9_number ∈ BX := List.mem_append_left _ (List.mem_of_getElem? (i := 51) rfl)
set_option maxRecDepth 100000 in
theorem bx_52 : Cond.selects RX9 yX9_number yX9_number ∈ BX := List.mem_append_left _ (List.mem_of_getElem? (i := 52) rfl)
set_option maxRecDepth 100000 in
theorem bx_53 : Cond.code yX9_number cX9_number 4 (some .int) ∈ BX := List.mem_append_left _ (List.mem_of_getElem? (i := 53) rfl)
set_option maxRecDepth 100000 in
theorem bx_54 : Cond.fieldLink RX9 53 "BorrowedStones$Text" "numberStart" "I" ∈ BX := List.mem_append_left _ (List.mem_of_getElem? (i := 54) rfl)
set_option maxRecDepth 100000 in
theorem bx_55 : Cond.methodLink RX9 56 Lib.Math.min.name ∈ BX := List.mem_append_left _ (List.mem_of_getElem? (i := 55) rfl)
set_option maxRecDepth 100000 in
theorem bx_56 : Cond.static Lib.Math.min.name ∈ BX := List.mem_append_left _ (List.mem_of_getElem? (i := 56) rfl)
set_option maxRecDepth 100000 in
theorem bx_57 : Cond.initialized "java/lang/Math" ∈ BX := List.mem_append_left _ (List.mem_of_getElem? (i := 57) rfl)
set_option maxRecDepth 100000 in
theorem bx_58 : Cond.code Lib.Math.min.name Lib.Math.min.code 2 (some .int) ∈ BX := List.mem_append_left _ (List.mem_of_getElem? (i := 58) rfl)
set_option maxRecDepth 100000 in
theorem bx_59 : Cond.methodLink RX9 49 yX9_isDigit ∈ BX := List.mem_append_left _ (List.mem_of_getElem? (i := 59) rfl)
set_option maxRecDepth 100000 in
theorem bx_60 : Cond.static yX9_isDigit ∈ BX := List.mem_append_left _ (List.mem_of_getElem? (i := 60) rfl)
set_option maxRecDepth 100000 in
theorem bx_61 : Cond.code yX9_isDigit cX9_isDigit 1 (some .boolean) ∈ BX := List.mem_append_left _ (List.mem_of_getElem? (i := 61) rfl)
set_option maxRecDepth 100000 in
theorem bx_62 : Cond.methodLink RX9 45 yX9_blame ∈ BX := List.mem_append_left _ (List.mem_of_getElem? (i := 62) rfl)
set_option maxRecDepth 100000 in
theorem bx_63 : Cond.instanceMethod yX9_blame ∈ BX := List.mem_append_left _ (List.mem_of_getElem? (i := 63) rfl)
set_option maxRecDepth 100000 in
theorem bx_64 : Cond.selects RX9 yX9_blame yX9_blame ∈ BX := List.mem_append_left _ (List.mem_of_getElem? (i := 64) rfl)
set_option maxRecDepth 100000 in
theorem bx_65 : Cond.code yX9_blame cX9_blame 3 none ∈ BX := List.mem_append_left _ (List.mem_of_getElem? (i := 65) rfl)
set_option maxRecDepth 100000 in
theorem bx_66 : Cond.fieldLink RX9 15 "BorrowedStones$Text" "faultPlace" "I" ∈ BX := List.mem_append_left _ (List.mem_of_getElem? (i := 66) rfl)
set_option maxRecDepth 100000 in
theorem bx_67 : Cond.methodLink RX0 52 yX9_isSound ∈ BX := List.mem_append_left _ (List.mem_of_getElem? (i := 67) rfl)
set_option maxRecDepth 100000 in
theorem bx_68 : Cond.instanceMethod yX9_isSound ∈ BX := List.mem_append_left _ (List.mem_of_getElem? (i := 68) rfl)
set_option maxRecDepth 100000 in
theorem bx_69 : Cond.selects RX9 yX9_isSound yX9_isSound ∈ BX := List.mem_append_left _ (List.mem_of_getElem? (i := 69) rfl)
set_option maxRecDepth 100000 in
theorem bx_70 : Cond.code yX9_isSound cX9_isSound 1 (some .boolean) ∈ BX := List.mem_append_left _ (List.mem_of_getElem? (i := 70) rfl)
set_option maxRecDepth 100000 in
theorem bx_71 : Cond.methodLink RX0 58 yX9_blame ∈ BX := List.mem_append_left _ (List.mem_of_getElem? (i := 71) rfl)
set_option maxRecDepth 100000 in
theorem bx_72 : Cond.methodLink RX0 62 yX6_put ∈ BX := List.mem_append_left _ (List.mem_of_getElem? (i := 72) rfl)
set_option maxRecDepth 100000 in
theorem bx_73 : Cond.methodLink RX0 66 yX9_expect ∈ BX := List.mem_append_left _ (List.mem_of_getElem? (i := 73) rfl)
set_option maxRecDepth 100000 in
theorem bx_74 : Cond.instanceMethod yX9_expect ∈ BX := List.mem_append_left _ (List.mem_of_getElem? (i := 74) rfl)
set_option maxRecDepth 100000 in
theorem bx_75 : Cond.selects RX9 yX9_expect yX9_expect ∈ BX := List.mem_append_left _ (List.mem_of_getElem? (i := 75) rfl)
set_option maxRecDepth 100000 in
theorem bx_76 : Cond.code yX9_expect cX9_expect 2 none ∈ BX := List.mem_append_left _ (List.mem_of_getElem? (i := 76) rfl)
set_option maxRecDepth 100000 in
theorem bx_77 : Cond.code yX0_readFrom cX0_readFrom 5 none ∈ BX := List.mem_append_left _ (List.mem_of_getElem? (i := 77) rfl)
set_option maxRecDepth 100000 in
theorem bx_78 : Cond.code yX1_init cX1_init 1 none ∈ BX := List.mem_append_left _ (List.mem_of_getElem? (i := 78) rfl)
set_option maxRecDepth 100000 in
theorem bx_79 : Cond.methodLink RX1 3 objectInit ∈ BX := List.mem_append_left _ (List.mem_of_getElem? (i := 79) rfl)
set_option maxRecDepth 100000 in
theorem bx_80 : Cond.fieldLink RX1 9 "BorrowedStones$Land" "most" "I" ∈ BX := List.mem_append_left _ (List.mem_of_getElem? (i := 80) rfl)
set_option maxRecDepth 100000 in
theorem bx_81 : Cond.fieldLink RX1 15 "BorrowedStones$Land" "kinds" "[I" ∈ BX := List.mem_append_left _ (List.mem_of_getElem? (i := 81) rfl)
set_option maxRecDepth 100000 in
theorem bx_82 : Cond.fieldLink RX1 19 "BorrowedStones$Land" "firstDebts" "[I" ∈ BX := List.mem_append_left _ (List.mem_of_getElem? (i := 82) rfl)
set_option maxRecDepth 100000 in
theorem bx_83 : Cond.fieldLink RX1 22 "BorrowedStones$Land" "friends" "[I" ∈ BX := List.mem_append_left _ (List.mem_of_getElem? (i := 83) rfl)
set_option maxRecDepth 100000 in
theorem bx_84 : Cond.code yX1_take cX1_take 2 none ∈ BX := List.mem_append_left _ (List.mem_of_getElem? (i := 84) rfl)
set_option maxRecDepth 100000 in
theorem bx_85 : Cond.fieldLink RX1 25 "BorrowedStones$Land" "persons" "I" ∈ BX := List.mem_append_left _ (List.mem_of_getElem? (i := 85) rfl)
set_option maxRecDepth 100000 in
theorem bx_86 : Cond.methodLink RX1 28 yX6_copy ∈ BX := List.mem_append_left _ (List.mem_of_getElem? (i := 86) rfl)
set_option maxRecDepth 100000 in
theorem bx_87 : Cond.code yX1_areFriends cX1_areFriends 3 (some .boolean) ∈ BX := List.mem_append_left _ (List.mem_of_getElem? (i := 87) rfl)
set_option maxRecDepth 100000 in
theorem bx_88 : Cond.methodLink RX1 34 yX6_at ∈ BX := List.mem_append_left _ (List.mem_of_getElem? (i := 88) rfl)
set_option maxRecDepth 100000 in
theorem bx_89 : Cond.methodLink RX1 74 yX9_number ∈ BX := List.mem_append_left _ (List.mem_of_getElem? (i := 89) rfl)
set_option maxRecDepth 100000 in
theorem bx_90 : Cond.methodLink RX1 82 yX6_put ∈ BX := List.mem_append_left _ (List.mem_of_getElem? (i := 90) rfl)
set_option maxRecDepth 100000 in
theorem bx_91 : Cond.code yX1_readPerson cX1_readPerson 2 none ∈ BX := List.mem_append_left _ (List.mem_of_getElem? (i := 91) rfl)
set_option maxRecDepth 100000 in
theorem bx_92 : Cond.fieldLink RX1 86 "BorrowedStones$Text" "numberStart" "I" ∈ BX := List.mem_append_left _ (List.mem_of_getElem? (i := 92) rfl)
set_option maxRecDepth 100000 in
theorem bx_93 : Cond.methodLink RX1 63 yX9_blame ∈ BX := List.mem_append_left _ (List.mem_of_getElem? (i := 93) rfl)
set_option maxRecDepth 100000 in
theorem bx_94 : Cond.methodLink RX1 89 yX9_isSound ∈ BX := List.mem_append_left _ (List.mem_of_getElem? (i := 94) rfl)
set_option maxRecDepth 100000 in
theorem bx_95 : Cond.code yX1_readFriends cX1_readFriends 4 none ∈ BX := List.mem_append_left _ (List.mem_of_getElem? (i := 95) rfl)
set_option maxRecDepth 100000 in
theorem bx_96 : Cond.fieldLink RX1 60 "BorrowedStones$Text" "wordStart" "I" ∈ BX := List.mem_append_left _ (List.mem_of_getElem? (i := 96) rfl)
set_option maxRecDepth 100000 in
theorem bx_97 : Cond.methodLink RX1 48 yX9_word ∈ BX := List.mem_append_left _ (List.mem_of_getElem? (i := 97) rfl)
set_option maxRecDepth 100000 in
theorem bx_98 : Cond.instanceMethod yX9_word ∈ BX := List.mem_append_left _ (List.mem_of_getElem? (i := 98) rfl)
set_option maxRecDepth 100000 in
theorem bx_99 : Cond.selects RX9 yX9_word yX9_word ∈ BX := List.mem_append_left _ (List.mem_of_getElem? (i := 99) rfl)
set_option maxRecDepth 100000 in
theorem bx_100 : Cond.code yX9_word cX9_word 1 none ∈ BX := List.mem_append_left _ (List.mem_of_getElem? (i := 100) rfl)
set_option maxRecDepth 100000 in
theorem bx_101 : Cond.fieldLink RX9 62 "BorrowedStones$Text" "wordStart" "I" ∈ BX := List.mem_append_left _ (List.mem_of_getElem? (i := 101) rfl)
set_option maxRecDepth 100000 in
theorem bx_102 : Cond.methodLink RX9 65 yX9_isLetter ∈ BX := List.mem_append_left _ (List.mem_of_getElem? (i := 102) rfl)
set_option maxRecDepth 100000 in
theorem bx_103 : Cond.static yX9_isLetter ∈ BX := List.mem_append_left _ (List.mem_of_getElem? (i := 103) rfl)
set_option maxRecDepth 100000 in
theorem bx_104 : Cond.code yX9_isLetter cX9_isLetter 1 (some .boolean) ∈ BX := List.mem_append_left _ (List.mem_of_getElem? (i := 104) rfl)
set_option maxRecDepth 100000 in
theorem bx_105 : Cond.methodLink RX1 53 yX9_isWord ∈ BX := List.mem_append_left _ (List.mem_of_getElem? (i := 105) rfl)
set_option maxRecDepth 100000 in
theorem bx_106 : Cond.instanceMethod yX9_isWord ∈ BX := List.mem_append_left _ (List.mem_of_getElem? (i := 106) rfl)
set_option maxRecDepth 100000 in
theorem bx_107 : Cond.selects RX9 yX9_isWord yX9_isWord ∈ BX := List.mem_append_left _ (List.mem_of_getElem? (i := 107) rfl)
set_option maxRecDepth 100000 in
theorem bx_108 : Cond.code yX9_isWord cX9_isWord 3 (some .boolean) ∈ BX := List.mem_append_left _ (List.mem_of_getElem? (i := 108) rfl)
set_option maxRecDepth 100000 in
theorem bx_109 : Cond.methodLink RX9 68 yJ0_length_8abf5 ∈ BX := List.mem_append_left _ (List.mem_of_getElem? (i := 109) rfl)
set_option maxRecDepth 100000 in
theorem bx_110 : Cond.instanceMethod yJ0_length_8abf5 ∈ BX := List.mem_append_left _ (List.mem_of_getElem? (i := 110) rfl)
set_option maxRecDepth 100000 in
theorem bx_111 : Cond.selects RJ0 yJ0_length_8abf5 yJ0_length_8abf5 ∈ BX := List.mem_append_left _ (List.mem_of_getElem? (i := 111) rfl)
set_option maxRecDepth 100000 in
theorem bx_112 : Cond.initialized RJ0 ∈ BX := List.mem_append_left _ (List.mem_of_getElem? (i := 112) rfl)
set_option maxRecDepth 100000 in
theorem bx_113 : Cond.code yJ0_length_8abf5 cJ0_length_8abf5 1 (some .int) ∈ BX := List.mem_append_left _ (List.mem_of_getElem? (i := 113) rfl)
set_option maxRecDepth 100000 in
theorem bx_114 : Cond.fieldLink RJ0 9 "java/lang/String" "value" "[B" ∈ BX := List.mem_append_left _ (List.mem_of_getElem? (i := 114) rfl)
set_option maxRecDepth 100000 in
theorem bx_115 : Cond.methodLink RJ0 335 yJ0_coder_7d493 ∈ BX := List.mem_append_left _ (List.mem_of_getElem? (i := 115) rfl)
set_option maxRecDepth 100000 in
theorem bx_116 : Cond.instanceMethod yJ0_coder_7d493 ∈ BX := List.mem_append_left _ (List.mem_of_getElem? (i := 116) rfl)
set_option maxRecDepth 100000 in
theorem bx_117 : Cond.selects RJ0 yJ0_coder_7d493 yJ0_coder_7d493 ∈ BX := List.mem_append_left _ (List.mem_of_getElem? (i := 117) rfl)
set_option maxRecDepth 100000 in
theorem bx_118 : Cond.code yJ0_coder_7d493 cJ0_coder_7d493 1 (some .byte) ∈ BX := List.mem_append_left _ (List.mem_of_getElem? (i := 118) rfl)
set_option maxRecDepth 100000 in
theorem bx_119 : Cond.fieldLink RJ0 38 "java/lang/String" "COMPACT_STRINGS" "Z" ∈ BX := List.mem_append_left _ (List.mem_of_getElem? (i := 119) rfl)
set_option maxRecDepth 100000 in
theorem bx_120 : Cond.fieldLink RJ0 15 "java/lang/String" "coder" "B" ∈ BX := List.mem_append_left _ (List.mem_of_getElem? (i := 120) rfl)
set_option maxRecDepth 100000 in
theorem bx_121 : Cond.methodLink RX9 73 yJ0_charAt_5068e ∈ BX := List.mem_append_left _ (List.mem_of_getElem? (i := 121) rfl)
set_option maxRecDepth 100000 in
theorem bx_122 : Cond.instanceMethod yJ0_charAt_5068e ∈ BX := List.mem_append_left _ (List.mem_of_getElem? (i := 122) rfl)
set_option maxRecDepth 100000 in
theorem bx_123 : Cond.selects RJ0 yJ0_charAt_5068e yJ0_charAt_5068e ∈ BX := List.mem_append_left _ (List.mem_of_getElem? (i := 123) rfl)
set_option maxRecDepth 100000 in
theorem bx_124 : Cond.code yJ0_charAt_5068e cJ0_charAt_5068e 2 (some .char) ∈ BX := List.mem_append_left _ (List.mem_of_getElem? (i := 124) rfl)
set_option maxRecDepth 100000 in
theorem bx_125 : Cond.methodLink RJ0 492 yJ0_isLatin1_aae02 ∈ BX := List.mem_append_left _ (List.mem_of_getElem? (i := 125) rfl)
set_option maxRecDepth 100000 in
theorem bx_126 : Cond.instanceMethod yJ0_isLatin1_aae02 ∈ BX := List.mem_append_left _ (List.mem_of_getElem? (i := 126) rfl)
set_option maxRecDepth 100000 in
theorem bx_127 : Cond.selects RJ0 yJ0_isLatin1_aae02 yJ0_isLatin1_aae02 ∈ BX := List.mem_append_left _ (List.mem_of_getElem? (i := 127) rfl)
set_option maxRecDepth 100000 in
theorem bx_128 : Cond.code yJ0_isLatin1_aae02 cJ0_isLatin1_aae02 1 (some .boolean) ∈ BX := List.mem_append_left _ (List.mem_of_getElem? (i := 128) rfl)
set_option maxRecDepth 100000 in
theorem bx_129 : Cond.methodLink RJ0 495 yJ1_charAt_3b067 ∈ BX := List.mem_append_left _ (List.mem_of_getElem? (i := 129) rfl)
set_option maxRecDepth 100000 in
theorem bx_130 : Cond.static yJ1_charAt_3b067 ∈ BX := List.mem_append_left _ (List.mem_of_getElem? (i := 130) rfl)
set_option maxRecDepth 100000 in
theorem bx_131 : Cond.initialized RJ1 ∈ BX := List.mem_append_left _ (List.mem_of_getElem? (i := 131) rfl)
set_option maxRecDepth 100000 in
theorem bx_132 : Cond.code yJ1_charAt_3b067 cJ1_charAt_3b067 2 (some .char) ∈ BX := List.mem_append_left _ (List.mem_of_getElem? (i := 132) rfl)
set_option maxRecDepth 100000 in
theorem bx_133 : Cond.methodLink RJ1 9 yJ0_checkIndex_df160 ∈ BX := List.mem_append_left _ (List.mem_of_getElem? (i := 133) rfl)
set_option maxRecDepth 100000 in
theorem bx_134 : Cond.static yJ0_checkIndex_df160 ∈ BX := List.mem_append_left _ (List.mem_of_getElem? (i := 134) rfl)
set_option maxRecDepth 100000 in
theorem bx_135 : Cond.code yJ0_checkIndex_df160 cJ0_checkIndex_df160 2 none ∈ BX := List.mem_append_left _ (List.mem_of_getElem? (i := 135) rfl)
set_option maxRecDepth 100000 in
theorem bx_136 : Cond.fieldLink RJ0 1053 "jdk/internal/util/Preconditions" "SIOOBE_FORMATTER" "Ljava/util/function/BiFunction;" ∈ BX := List.mem_append_left _ (List.mem_of_getElem? (i := 136) rfl)
set_option maxRecDepth 100000 in
theorem bx_137 : Cond.methodLink RJ0 1059 yJ3_checkIndex_8e157 ∈ BX := List.mem_append_left _ (List.mem_of_getElem? (i := 137) rfl)
set_option maxRecDepth 100000 in
theorem bx_138 : Cond.static yJ3_checkIndex_8e157 ∈ BX := List.mem_append_left _ (List.mem_of_getElem? (i := 138) rfl)
set_option maxRecDepth 100000 in
theorem bx_139 : Cond.initialized RJ3 ∈ BX := List.mem_append_left _ (List.mem_of_getElem? (i := 139) rfl)
set_option maxRecDepth 100000 in
theorem bx_140 : Cond.code yJ3_checkIndex_8e157 cJ3_checkIndex_8e157 3 (some .int) ∈ BX := List.mem_append_left _ (List.mem_of_getElem? (i := 140) rfl)
set_option maxRecDepth 100000 in
theorem bx_141 : Cond.methodLink RJ0 498 yJ2_charAt_3b067 ∈ BX := List.mem_append_left _ (List.mem_of_getElem? (i := 141) rfl)
set_option maxRecDepth 100000 in
theorem bx_142 : Cond.static yJ2_charAt_3b067 ∈ BX := List.mem_append_left _ (List.mem_of_getElem? (i := 142) rfl)
set_option maxRecDepth 100000 in
theorem bx_143 : Cond.initialized RJ2 ∈ BX := List.mem_append_left _ (List.mem_of_getElem? (i := 143) rfl)
set_option maxRecDepth 100000 in
theorem bx_144 : Cond.code yJ2_charAt_3b067 cJ2_charAt_3b067 2 (some .char) ∈ BX := List.mem_append_left _ (List.mem_of_getElem? (i := 144) rfl)
set_option maxRecDepth 100000 in
theorem bx_145 : Cond.methodLink RJ2 67 yJ2_checkIndex_2214a ∈ BX := List.mem_append_left _ (List.mem_of_getElem? (i := 145) rfl)
set_option maxRecDepth 100000 in
theorem bx_146 : Cond.static yJ2_checkIndex_2214a ∈ BX := List.mem_append_left _ (List.mem_of_getElem? (i := 146) rfl)
set_option maxRecDepth 100000 in
theorem bx_147 : Cond.code yJ2_checkIndex_2214a cJ2_checkIndex_2214a 2 none ∈ BX := List.mem_append_left _ (List.mem_of_getElem? (i := 147) rfl)
set_option maxRecDepth 100000 in
theorem bx_148 : Cond.methodLink RJ2 48 yJ2_length_9d52b ∈ BX := List.mem_append_left _ (List.mem_of_getElem? (i := 148) rfl)
set_option maxRecDepth 100000 in
theorem bx_149 : Cond.static yJ2_length_9d52b ∈ BX := List.mem_append_left _ (List.mem_of_getElem? (i := 149) rfl)
set_option maxRecDepth 100000 in
theorem bx_150 : Cond.code yJ2_length_9d52b cJ2_length_9d52b 1 (some .int) ∈ BX := List.mem_append_left _ (List.mem_of_getElem? (i := 150) rfl)
set_option maxRecDepth 100000 in
theorem bx_151 : Cond.methodLink RJ2 414 yJ0_checkIndex_df160 ∈ BX := List.mem_append_left _ (List.mem_of_getElem? (i := 151) rfl)
set_option maxRecDepth 100000 in
theorem bx_152 : Cond.methodLink RJ2 71 yJ2_getChar_3b067 ∈ BX := List.mem_append_left _ (List.mem_of_getElem? (i := 152) rfl)
set_option maxRecDepth 100000 in
theorem bx_153 : Cond.static yJ2_getChar_3b067 ∈ BX := List.mem_append_left _ (List.mem_of_getElem? (i := 153) rfl)
set_option maxRecDepth 100000 in
theorem bx_154 : Cond.code yJ2_getChar_3b067 cJ2_getChar_3b067 2 (some .char) ∈ BX := List.mem_append_left _ (List.mem_of_getElem? (i := 154) rfl)
set_option maxRecDepth 100000 in
theorem bx_155 : Cond.fieldLink RJ2 44 "java/lang/StringUTF16" "$assertionsDisabled" "Z" ∈ BX := List.mem_append_left _ (List.mem_of_getElem? (i := 155) rfl)
set_option maxRecDepth 100000 in
theorem bx_156 : Cond.fieldLink RJ2 59 "java/lang/StringUTF16" "HI_BYTE_SHIFT" "I" ∈ BX := List.mem_append_left _ (List.mem_of_getElem? (i := 156) rfl)
set_option maxRecDepth 100000 in
theorem bx_157 : Cond.fieldLink RJ2 63 "java/lang/StringUTF16" "LO_BYTE_SHIFT" "I" ∈ BX := List.mem_append_left _ (List.mem_of_getElem? (i := 157) rfl)
set_option maxRecDepth 100000 in
theorem bx_158 : Cond.methodLink RX1 67 yX1_readPerson ∈ BX := List.mem_append_left _ (List.mem_of_getElem? (i := 158) rfl)
set_option maxRecDepth 100000 in
theorem bx_159 : Cond.instanceMethod yX1_readPerson ∈ BX := List.mem_append_left _ (List.mem_of_getElem? (i := 159) rfl)
set_option maxRecDepth 100000 in
theorem bx_160 : Cond.selects RX1 yX1_readPerson yX1_readPerson ∈ BX := List.mem_append_left _ (List.mem_of_getElem? (i := 160) rfl)
set_option maxRecDepth 100000 in
theorem bx_161 : Cond.initialized RX1 ∈ BX := List.mem_append_left _ (List.mem_of_getElem? (i := 161) rfl)
set_option maxRecDepth 100000 in
theorem bx_162 : Cond.methodLink RX1 71 yX1_readFriends ∈ BX := List.mem_append_left _ (List.mem_of_getElem? (i := 162) rfl)
set_option maxRecDepth 100000 in
theorem bx_163 : Cond.instanceMethod yX1_readFriends ∈ BX := List.mem_append_left _ (List.mem_of_getElem? (i := 163) rfl)
set_option maxRecDepth 100000 in
theorem bx_164 : Cond.selects RX1 yX1_readFriends yX1_readFriends ∈ BX := List.mem_append_left _ (List.mem_of_getElem? (i := 164) rfl)
set_option maxRecDepth 100000 in
theorem bx_165 : Cond.methodLink RX1 78 yX9_expect ∈ BX := List.mem_append_left _ (List.mem_of_getElem? (i := 165) rfl)
set_option maxRecDepth 100000 in
theorem bx_166 : Cond.code yX1_readClause cX1_readClause 5 none ∈ BX := List.mem_append_left _ (List.mem_of_getElem? (i := 166) rfl)
set_option maxRecDepth 100000 in
theorem bx_167 : Cond.methodLink RX1 38 yX9_hasMore ∈ BX := List.mem_append_left _ (List.mem_of_getElem? (i := 167) rfl)
set_option maxRecDepth 100000 in
theorem bx_168 : Cond.methodLink RX1 44 yX1_readClause ∈ BX := List.mem_append_left _ (List.mem_of_getElem? (i := 168) rfl)
set_option maxRecDepth 100000 in
theorem bx_169 : Cond.instanceMethod yX1_readClause ∈ BX := List.mem_append_left _ (List.mem_of_getElem? (i := 169) rfl)
set_option maxRecDepth 100000 in
theorem bx_170 : Cond.selects RX1 yX1_readClause yX1_readClause ∈ BX := List.mem_append_left _ (List.mem_of_getElem? (i := 170) rfl)
set_option maxRecDepth 100000 in
theorem bx_171 : Cond.code yX1_readFrom cX1_readFrom 3 none ∈ BX := List.mem_append_left _ (List.mem_of_getElem? (i := 171) rfl)
set_option maxRecDepth 100000 in
theorem bx_172 : Cond.code yX2_init cX2_init 1 none ∈ BX := List.mem_append_left _ (List.mem_of_getElem? (i := 172) rfl)
set_option maxRecDepth 100000 in
theorem bx_173 : Cond.methodLink RX2 3 objectInit ∈ BX := List.mem_append_left _ (List.mem_of_getElem? (i := 173) rfl)
set_option maxRecDepth 100000 in
theorem bx_174 : Cond.fieldLink RX2 9 "BorrowedStones$Law" "codes" "[I" ∈ BX := List.mem_append_left _ (List.mem_of_getElem? (i := 174) rfl)
set_option maxRecDepth 100000 in
theorem bx_175 : Cond.fieldLink RX2 15 "BorrowedStones$Law" "heap" "[I" ∈ BX := List.mem_append_left _ (List.mem_of_getElem? (i := 175) rfl)
set_option maxRecDepth 100000 in
theorem bx_176 : Cond.fieldLink RX2 18 "BorrowedStones$Law" "facts" "[I" ∈ BX := List.mem_append_left _ (List.mem_of_getElem? (i := 176) rfl)
set_option maxRecDepth 100000 in
theorem bx_177 : Cond.code yX2_clear cX2_clear 1 none ∈ BX := List.mem_append_left _ (List.mem_of_getElem? (i := 177) rfl)
set_option maxRecDepth 100000 in
theorem bx_178 : Cond.fieldLink RX2 21 "BorrowedStones$Law" "length" "I" ∈ BX := List.mem_append_left _ (List.mem_of_getElem? (i := 178) rfl)
set_option maxRecDepth 100000 in
theorem bx_179 : Cond.code yX2_add cX2_add 2 none ∈ BX := List.mem_append_left _ (List.mem_of_getElem? (i := 179) rfl)
set_option maxRecDepth 100000 in
theorem bx_180 : Cond.methodLink RX2 25 yX6_put ∈ BX := List.mem_append_left _ (List.mem_of_getElem? (i := 180) rfl)
set_option maxRecDepth 100000 in
theorem bx_181 : Cond.code yX2_take cX2_take 2 none ∈ BX := List.mem_append_left _ (List.mem_of_getElem? (i := 181) rfl)
set_option maxRecDepth 100000 in
theorem bx_182 : Cond.methodLink RX2 31 yX6_copy ∈ BX := List.mem_append_left _ (List.mem_of_getElem? (i := 182) rfl)
set_option maxRecDepth 100000 in
theorem bx_183 : Cond.code yX2_becomePlain cX2_becomePlain 1 none ∈ BX := List.mem_append_left _ (List.mem_of_getElem? (i := 183) rfl)
set_option maxRecDepth 100000 in
theorem bx_184 : Cond.methodLink RX2 35 yX2_clear ∈ BX := List.mem_append_left _ (List.mem_of_getElem? (i := 184) rfl)
set_option maxRecDepth 100000 in
theorem bx_185 : Cond.instanceMethod yX2_clear ∈ BX := List.mem_append_left _ (List.mem_of_getElem? (i := 185) rfl)
set_option maxRecDepth 100000 in
theorem bx_186 : Cond.selects RX2 yX2_clear yX2_clear ∈ BX := List.mem_append_left _ (List.mem_of_getElem? (i := 186) rfl)
set_option maxRecDepth 100000 in
theorem bx_187 : Cond.initialized RX2 ∈ BX := List.mem_append_left _ (List.mem_of_getElem? (i := 187) rfl)
set_option maxRecDepth 100000 in
theorem bx_188 : Cond.methodLink RX2 38 yX2_add ∈ BX := List.mem_append_left _ (List.mem_of_getElem? (i := 188) rfl)
set_option maxRecDepth 100000 in
theorem bx_189 : Cond.instanceMethod yX2_add ∈ BX := List.mem_append_left _ (List.mem_of_getElem? (i := 189) rfl)
set_option maxRecDepth 100000 in
theorem bx_190 : Cond.selects RX2 yX2_add yX2_add ∈ BX := List.mem_append_left _ (List.mem_of_getElem? (i := 190) rfl)
set_option maxRecDepth 100000 in
theorem bx_191 : Cond.code yX2_joined cX2_joined 3 (some .int) ∈ BX := List.mem_append_left _ (List.mem_of_getElem? (i := 191) rfl)
set_option maxRecDepth 100000 in
theorem bx_192 : Cond.code yX2_answer cX2_answer 5 (some .int) ∈ BX := List.mem_append_left _ (List.mem_of_getElem? (i := 192) rfl)
set_option maxRecDepth 100000 in
theorem bx_193 : Cond.methodLink RX2 42 yX6_at ∈ BX := List.mem_append_left _ (List.mem_of_getElem? (i := 193) rfl)
set_option maxRecDepth 100000 in
theorem bx_194 : Cond.methodLink RX2 46 yX2_joined ∈ BX := List.mem_append_left _ (List.mem_of_getElem? (i := 194) rfl)
set_option maxRecDepth 100000 in
theorem bx_195 : Cond.static yX2_joined ∈ BX := List.mem_append_left _ (List.mem_of_getElem? (i := 195) rfl)
set_option maxRecDepth 100000 in
theorem bx_196 : Cond.code yX3_init cX3_init 1 none ∈ BX := List.mem_append_left _ (List.mem_of_getElem? (i := 196) rfl)
set_option maxRecDepth 100000 in
theorem bx_197 : Cond.methodLink RX3 3 objectInit ∈ BX := List.mem_append_left _ (List.mem_of_getElem? (i := 197) rfl)
set_option maxRecDepth 100000 in
theorem bx_198 : Cond.fieldLink RX3 9 "BorrowedStones$LawReader" "waiting" "[I" ∈ BX := List.mem_append_left _ (List.mem_of_getElem? (i := 198) rfl)
set_option maxRecDepth 100000 in
theorem bx_199 : Cond.code yX3_hold cX3_hold 2 none ∈ BX := List.mem_append_left _ (List.mem_of_getElem? (i := 199) rfl)
set_option maxRecDepth 100000 in
theorem bx_200 : Cond.fieldLink RX3 15 "BorrowedStones$LawReader" "height" "I" ∈ BX := List.mem_append_left _ (List.mem_of_getElem? (i := 200) rfl)
set_option maxRecDepth 100000 in
theorem bx_201 : Cond.methodLink RX3 99 yX6_put ∈ BX := List.mem_append_left _ (List.mem_of_getElem? (i := 201) rfl)
set_option maxRecDepth 100000 in
theorem bx_202 : Cond.code yX3_push cX3_push 4 none ∈ BX := List.mem_append_left _ (List.mem_of_getElem? (i := 202) rfl)
set_option maxRecDepth 100000 in
theorem bx_203 : Cond.fieldLink RX3 19 "BorrowedStones$LawReader" "open" "I" ∈ BX := List.mem_append_left _ (List.mem_of_getElem? (i := 203) rfl)
set_option maxRecDepth 100000 in
theorem bx_204 : Cond.methodLink RX3 43 yX9_blame ∈ BX := List.mem_append_left _ (List.mem_of_getElem? (i := 204) rfl)
set_option maxRecDepth 100000 in
theorem bx_205 : Cond.methodLink RX3 96 yX3_hold ∈ BX := List.mem_append_left _ (List.mem_of_getElem? (i := 205) rfl)
set_option maxRecDepth 100000 in
theorem bx_206 : Cond.instanceMethod yX3_hold ∈ BX := List.mem_append_left _ (List.mem_of_getElem? (i := 206) rfl)
set_option maxRecDepth 100000 in
theorem bx_207 : Cond.selects RX3 yX3_hold yX3_hold ∈ BX := List.mem_append_left _ (List.mem_of_getElem? (i := 207) rfl)
set_option maxRecDepth 100000 in
theorem bx_208 : Cond.initialized RX3 ∈ BX := List.mem_append_left _ (List.mem_of_getElem? (i := 208) rfl)
set_option maxRecDepth 100000 in
theorem bx_209 : Cond.methodLink RX3 83 yX9_isWord ∈ BX := List.mem_append_left _ (List.mem_of_getElem? (i := 209) rfl)
set_option maxRecDepth 100000 in
theorem bx_210 : Cond.code yX3_factOf cX3_factOf 1 (some .int) ∈ BX := List.mem_append_left _ (List.mem_of_getElem? (i := 210) rfl)
set_option maxRecDepth 100000 in
theorem bx_211 : Cond.fieldLink RX3 40 "BorrowedStones$Text" "place" "I" ∈ BX := List.mem_append_left _ (List.mem_of_getElem? (i := 211) rfl)
set_option maxRecDepth 100000 in
theorem bx_212 : Cond.fieldLink RX3 87 "BorrowedStones$Text" "wordStart" "I" ∈ BX := List.mem_append_left _ (List.mem_of_getElem? (i := 212) rfl)
set_option maxRecDepth 100000 in
theorem bx_213 : Cond.methodLink RX3 51 yX9_nextByte ∈ BX := List.mem_append_left _ (List.mem_of_getElem? (i := 213) rfl)
set_option maxRecDepth 100000 in
theorem bx_214 : Cond.methodLink RX3 55 yX9_isDigit ∈ BX := List.mem_append_left _ (List.mem_of_getElem? (i := 214) rfl)
set_option maxRecDepth 100000 in
theorem bx_215 : Cond.methodLink RX3 59 yX9_number ∈ BX := List.mem_append_left _ (List.mem_of_getElem? (i := 215) rfl)
set_option maxRecDepth 100000 in
theorem bx_216 : Cond.methodLink RX3 63 yX2_add ∈ BX := List.mem_append_left _ (List.mem_of_getElem? (i := 216) rfl)
set_option maxRecDepth 100000 in
theorem bx_217 : Cond.methodLink RX3 67 yX3_push ∈ BX := List.mem_append_left _ (List.mem_of_getElem? (i := 217) rfl)
set_option maxRecDepth 100000 in
theorem bx_218 : Cond.instanceMethod yX3_push ∈ BX := List.mem_append_left _ (List.mem_of_getElem? (i := 218) rfl)
set_option maxRecDepth 100000 in
theorem bx_219 : Cond.selects RX3 yX3_push yX3_push ∈ BX := List.mem_append_left _ (List.mem_of_getElem? (i := 219) rfl)
set_option maxRecDepth 100000 in
theorem bx_220 : Cond.methodLink RX3 71 yX9_pass ∈ BX := List.mem_append_left _ (List.mem_of_getElem? (i := 220) rfl)
set_option maxRecDepth 100000 in
theorem bx_221 : Cond.instanceMethod yX9_pass ∈ BX := List.mem_append_left _ (List.mem_of_getElem? (i := 221) rfl)
set_option maxRecDepth 100000 in
theorem bx_222 : Cond.selects RX9 yX9_pass yX9_pass ∈ BX := List.mem_append_left _ (List.mem_of_getElem? (i := 222) rfl)
set_option maxRecDepth 100000 in
theorem bx_223 : Cond.code yX9_pass cX9_pass 1 none ∈ BX := List.mem_append_left _ (List.mem_of_getElem? (i := 223) rfl)
set_option maxRecDepth 100000 in
theorem bx_224 : Cond.methodLink RX3 74 yX9_word ∈ BX := List.mem_append_left _ (List.mem_of_getElem? (i := 224) rfl)
set_option maxRecDepth 100000 in
theorem bx_225 : Cond.methodLink RX3 77 yX3_factOf ∈ BX := List.mem_append_left _ (List.mem_of_getElem? (i := 225) rfl)
set_option maxRecDepth 100000 in
theorem bx_226 : Cond.static yX3_factOf ∈ BX := List.mem_append_left _ (List.mem_of_getElem? (i := 226) rfl)
set_option maxRecDepth 100000 in
theorem bx_227 : Cond.methodLink RX3 92 yX9_expect ∈ BX := List.mem_append_left _ (List.mem_of_getElem? (i := 227) rfl)
set_option maxRecDepth 100000 in
theorem bx_228 : Cond.code yX3_readUnit cX3_readUnit 5 (some .boolean) ∈ BX := List.mem_append_left _ (List.mem_of_getElem? (i := 228) rfl)
set_option maxRecDepth 100000 in
theorem bx_229 : Cond.code yX3_rankOf cX3_rankOf 1 (some .int) ∈ BX := List.mem_append_left _ (List.mem_of_getElem? (i := 229) rfl)
set_option maxRecDepth 100000 in
theorem bx_230 : Cond.code yX3_settle cX3_settle 3 none ∈ BX := List.mem_append_left _ (List.mem_of_getElem? (i := 230) rfl)
set_option maxRecDepth 100000 in
theorem bx_231 : Cond.methodLink RX3 125 yX6_at ∈ BX := List.mem_append_left _ (List.mem_of_getElem? (i := 231) rfl)
set_option maxRecDepth 100000 in
theorem bx_232 : Cond.methodLink RX3 121 yX3_rankOf ∈ BX := List.mem_append_left _ (List.mem_of_getElem? (i := 232) rfl)
set_option maxRecDepth 100000 in
theorem bx_233 : Cond.static yX3_rankOf ∈ BX := List.mem_append_left _ (List.mem_of_getElem? (i := 233) rfl)
set_option maxRecDepth 100000 in
theorem bx_234 : Cond.methodLink RX3 47 yX3_settle ∈ BX := List.mem_append_left _ (List.mem_of_getElem? (i := 234) rfl)
set_option maxRecDepth 100000 in
theorem bx_235 : Cond.instanceMethod yX3_settle ∈ BX := List.mem_append_left _ (List.mem_of_getElem? (i := 235) rfl)
set_option maxRecDepth 100000 in
theorem bx_236 : Cond.selects RX3 yX3_settle yX3_settle ∈ BX := List.mem_append_left _ (List.mem_of_getElem? (i := 236) rfl)
set_option maxRecDepth 100000 in
theorem bx_237 : Cond.code yX3_readSign cX3_readSign 6 (some .boolean) ∈ BX := List.mem_append_left _ (List.mem_of_getElem? (i := 237) rfl)
set_option maxRecDepth 100000 in
theorem bx_238 : Cond.methodLink RX3 22 yX2_clear ∈ BX := List.mem_append_left _ (List.mem_of_getElem? (i := 238) rfl)
set_option maxRecDepth 100000 in
theorem bx_239 : Cond.methodLink RX3 27 yX9_hasMore ∈ BX := List.mem_append_left _ (List.mem_of_getElem? (i := 239) rfl)
set_option maxRecDepth 100000 in
theorem bx_240 : Cond.methodLink RX3 33 yX3_readUnit ∈ BX := List.mem_append_left _ (List.mem_of_getElem? (i := 240) rfl)
set_option maxRecDepth 100000 in
theorem bx_241 : Cond.instanceMethod yX3_readUnit ∈ BX := List.mem_append_left _ (List.mem_of_getElem? (i := 241) rfl)
set_option maxRecDepth 100000 in
theorem bx_242 : Cond.selects RX3 yX3_readUnit yX3_readUnit ∈ BX := List.mem_append_left _ (List.mem_of_getElem? (i := 242) rfl)
set_option maxRecDepth 100000 in
theorem bx_243 : Cond.methodLink RX3 37 yX3_readSign ∈ BX := List.mem_append_left _ (List.mem_of_getElem? (i := 243) rfl)
set_option maxRecDepth 100000 in
theorem bx_244 : Cond.instanceMethod yX3_readSign ∈ BX := List.mem_append_left _ (List.mem_of_getElem? (i := 244) rfl)
set_option maxRecDepth 100000 in
theorem bx_245 : Cond.selects RX3 yX3_readSign yX3_readSign ∈ BX := List.mem_append_left _ (List.mem_of_getElem? (i := 245) rfl)
set_option maxRecDepth 100000 in
theorem bx_246 : Cond.code yX3_readFrom cX3_readFrom 5 none ∈ BX := List.mem_append_left _ (List.mem_of_getElem? (i := 246) rfl)
set_option maxRecDepth 100000 in
theorem bx_247 : Cond.code yX4_init cX4_init 1 none ∈ BX := List.mem_append_left _ (List.mem_of_getElem? (i := 247) rfl)
set_option maxRecDepth 100000 in
theorem bx_248 : Cond.methodLink RX4 3 objectInit ∈ BX := List.mem_append_left _ (List.mem_of_getElem? (i := 248) rfl)
set_option maxRecDepth 100000 in
theorem bx_249 : Cond.fieldLink RX4 9 "BorrowedStones$Orders" "line" "[I" ∈ BX := List.mem_append_left _ (List.mem_of_getElem? (i := 249) rfl)
set_option maxRecDepth 100000 in
theorem bx_250 : Cond.fieldLink RX4 15 "BorrowedStones$Orders" "alike" "[I" ∈ BX := List.mem_append_left _ (List.mem_of_getElem? (i := 250) rfl)
set_option maxRecDepth 100000 in
theorem bx_251 : Cond.fieldLink RX4 18 "BorrowedStones$Orders" "many" "I" ∈ BX := List.mem_append_left _ (List.mem_of_getElem? (i := 251) rfl)
set_option maxRecDepth 100000 in
theorem bx_252 : Cond.methodLink RX4 22 yX7_living ∈ BX := List.mem_append_left _ (List.mem_of_getElem? (i := 252) rfl)
set_option maxRecDepth 100000 in
theorem bx_253 : Cond.instanceMethod yX7_living ∈ BX := List.mem_append_left _ (List.mem_of_getElem? (i := 253) rfl)
set_option maxRecDepth 100000 in
theorem bx_254 : Cond.selects RX7 yX7_living yX7_living ∈ BX := List.mem_append_left _ (List.mem_of_getElem? (i := 254) rfl)
set_option maxRecDepth 100000 in
theorem bx_255 : Cond.code yX7_living cX7_living 3 (some .int) ∈ BX := List.mem_append_left _ (List.mem_of_getElem? (i := 255) rfl)
set_option maxRecDepth 100000 in
theorem bx_256 : Cond.fieldLink RX7 21 "BorrowedStones$State" "land" "LBorrowedStones$Land;" ∈ BX := List.mem_append_left _ (List.mem_of_getElem? (i := 256) rfl)
set_option maxRecDepth 100000 in
theorem bx_257 : Cond.fieldLink RX7 33 "BorrowedStones$Land" "persons" "I" ∈ BX := List.mem_append_left _ (List.mem_of_getElem? (i := 257) rfl)
set_option maxRecDepth 100000 in
theorem bx_258 : Cond.methodLink RX7 55 yX7_lives ∈ BX := List.mem_append_left _ (List.mem_of_getElem? (i := 258) rfl)
set_option maxRecDepth 100000 in
theorem bx_259 : Cond.instanceMethod yX7_lives ∈ BX := List.mem_append_left _ (List.mem_of_getElem? (i := 259) rfl)
set_option maxRecDepth 100000 in
theorem bx_260 : Cond.selects RX7 yX7_lives yX7_lives ∈ BX := List.mem_append_left _ (List.mem_of_getElem? (i := 260) rfl)
set_option maxRecDepth 100000 in
theorem bx_261 : Cond.code yX7_lives cX7_lives 2 (some .boolean) ∈ BX := List.mem_append_left _ (List.mem_of_getElem? (i := 261) rfl)
set_option maxRecDepth 100000 in
theorem bx_262 : Cond.fieldLink RX7 18 "BorrowedStones$State" "died" "[I" ∈ BX := List.mem_append_left _ (List.mem_of_getElem? (i := 262) rfl)
set_option maxRecDepth 100000 in
theorem bx_263 : Cond.methodLink RX7 41 yX6_at ∈ BX := List.mem_append_left _ (List.mem_of_getElem? (i := 263) rfl)
set_option maxRecDepth 100000 in
theorem bx_264 : Cond.methodLink RX4 28 yJ6_bitCount_0f7a4 ∈ BX := List.mem_append_left _ (List.mem_of_getElem? (i := 264) rfl)
set_option maxRecDepth 100000 in
theorem bx_265 : Cond.static yJ6_bitCount_0f7a4 ∈ BX := List.mem_append_left _ (List.mem_of_getElem? (i := 265) rfl)
set_option maxRecDepth 100000 in
theorem bx_266 : Cond.initialized RJ6 ∈ BX := List.mem_append_left _ (List.mem_of_getElem? (i := 266) rfl)
set_option maxRecDepth 100000 in
theorem bx_267 : Cond.code yJ6_bitCount_0f7a4 cJ6_bitCount_0f7a4 1 (some .int) ∈ BX := List.mem_append_left _ (List.mem_of_getElem? (i := 267) rfl)
set_option maxRecDepth 100000 in
theorem bx_268 : Cond.constant RJ6 265 (1431655765) ∈ BX := List.mem_append_left _ (List.mem_of_getElem? (i := 268) rfl)
set_option maxRecDepth 100000 in
theorem bx_269 : Cond.constant RJ6 266 (858993459) ∈ BX := List.mem_append_left _ (List.mem_of_getElem? (i := 269) rfl)
set_option maxRecDepth 100000 in
theorem bx_270 : Cond.constant RJ6 267 (252645135) ∈ BX := List.mem_append_left _ (List.mem_of_getElem? (i := 270) rfl)
set_option maxRecDepth 100000 in
theorem bx_271 : Cond.methodLink RX4 34 yX6_put ∈ BX := List.mem_append_left _ (List.mem_of_getElem? (i := 271) rfl)
set_option maxRecDepth 100000 in
theorem bx_272 : Cond.code yX4_gather cX4_gather 5 (some .boolean) ∈ BX := List.mem_append_left _ (List.mem_of_getElem? (i := 272) rfl)
set_option maxRecDepth 100000 in
theorem bx_273 : Cond.code yX4_swap cX4_swap 4 none ∈ BX := List.mem_append_left _ (List.mem_of_getElem? (i := 273) rfl)
set_option maxRecDepth 100000 in
theorem bx_274 : Cond.methodLink RX4 40 yX6_at ∈ BX := List.mem_append_left _ (List.mem_of_getElem? (i := 274) rfl)
set_option maxRecDepth 100000 in
theorem bx_275 : Cond.code yX4_step cX4_step 5 (some .boolean) ∈ BX := List.mem_append_left _ (List.mem_of_getElem? (i := 275) rfl)
set_option maxRecDepth 100000 in
theorem bx_276 : Cond.methodLink RX4 44 yX4_swap ∈ BX := List.mem_append_left _ (List.mem_of_getElem? (i := 276) rfl)
set_option maxRecDepth 100000 in
theorem bx_277 : Cond.instanceMethod yX4_swap ∈ BX := List.mem_append_left _ (List.mem_of_getElem? (i := 277) rfl)
set_option maxRecDepth 100000 in
theorem bx_278 : Cond.selects RX4 yX4_swap yX4_swap ∈ BX := List.mem_append_left _ (List.mem_of_getElem? (i := 278) rfl)
set_option maxRecDepth 100000 in
theorem bx_279 : Cond.initialized RX4 ∈ BX := List.mem_append_left _ (List.mem_of_getElem? (i := 279) rfl)
set_option maxRecDepth 100000 in
theorem bx_280 : Cond.code yX4_digits cX4_digits 3 (some .int) ∈ BX := List.mem_append_left _ (List.mem_of_getElem? (i := 280) rfl)
set_option maxRecDepth 100000 in
theorem bx_281 : Cond.code yX4_forget cX4_forget 2 none ∈ BX := List.mem_append_left _ (List.mem_of_getElem? (i := 281) rfl)
set_option maxRecDepth 100000 in
theorem bx_282 : Cond.fieldLink RX4 48 "BorrowedStones$Orders" "fewest" "I" ∈ BX := List.mem_append_left _ (List.mem_of_getElem? (i := 282) rfl)
set_option maxRecDepth 100000 in
theorem bx_283 : Cond.fieldLink RX4 51 "BorrowedStones$Orders" "firstBest" "I" ∈ BX := List.mem_append_left _ (List.mem_of_getElem? (i := 283) rfl)
set_option maxRecDepth 100000 in
theorem bx_284 : Cond.fieldLink RX4 54 "BorrowedStones$Orders" "fitting" "I" ∈ BX := List.mem_append_left _ (List.mem_of_getElem? (i := 284) rfl)
set_option maxRecDepth 100000 in
theorem bx_285 : Cond.fieldLink RX4 57 "BorrowedStones$Orders" "firstFitting" "I" ∈ BX := List.mem_append_left _ (List.mem_of_getElem? (i := 285) rfl)
set_option maxRecDepth 100000 in
theorem bx_286 : Cond.code yX4_countStones cX4_countStones 4 none ∈ BX := List.mem_append_left _ (List.mem_of_getElem? (i := 286) rfl)
set_option maxRecDepth 100000 in
theorem bx_287 : Cond.methodLink RX4 70 yX7_stonesOf ∈ BX := List.mem_append_left _ (List.mem_of_getElem? (i := 287) rfl)
set_option maxRecDepth 100000 in
theorem bx_288 : Cond.methodLink RX4 60 yX7_nameless ∈ BX := List.mem_append_left _ (List.mem_of_getElem? (i := 288) rfl)
set_option maxRecDepth 100000 in
theorem bx_289 : Cond.instanceMethod yX7_nameless ∈ BX := List.mem_append_left _ (List.mem_of_getElem? (i := 289) rfl)
set_option maxRecDepth 100000 in
theorem bx_290 : Cond.selects RX7 yX7_nameless yX7_nameless ∈ BX := List.mem_append_left _ (List.mem_of_getElem? (i := 290) rfl)
set_option maxRecDepth 100000 in
theorem bx_291 : Cond.code yX7_nameless cX7_nameless 3 (some .int) ∈ BX := List.mem_append_left _ (List.mem_of_getElem? (i := 291) rfl)
set_option maxRecDepth 100000 in
theorem bx_292 : Cond.methodLink RX7 59 yX7_isDead ∈ BX := List.mem_append_left _ (List.mem_of_getElem? (i := 292) rfl)
set_option maxRecDepth 100000 in
theorem bx_293 : Cond.instanceMethod yX7_isDead ∈ BX := List.mem_append_left _ (List.mem_of_getElem? (i := 293) rfl)
set_option maxRecDepth 100000 in
theorem bx_294 : Cond.selects RX7 yX7_isDead yX7_isDead ∈ BX := List.mem_append_left _ (List.mem_of_getElem? (i := 294) rfl)
set_option maxRecDepth 100000 in
theorem bx_295 : Cond.code yX7_isDead cX7_isDead 2 (some .boolean) ∈ BX := List.mem_append_left _ (List.mem_of_getElem? (i := 295) rfl)
set_option maxRecDepth 100000 in
theorem bx_296 : Cond.methodLink RX4 63 yX4_digits ∈ BX := List.mem_append_left _ (List.mem_of_getElem? (i := 296) rfl)
set_option maxRecDepth 100000 in
theorem bx_297 : Cond.instanceMethod yX4_digits ∈ BX := List.mem_append_left _ (List.mem_of_getElem? (i := 297) rfl)
set_option maxRecDepth 100000 in
theorem bx_298 : Cond.selects RX4 yX4_digits yX4_digits ∈ BX := List.mem_append_left _ (List.mem_of_getElem? (i := 298) rfl)
set_option maxRecDepth 100000 in
theorem bx_299 : Cond.methodLink RX4 66 yX4_countStones ∈ BX := List.mem_append_left _ (List.mem_of_getElem? (i := 299) rfl)
set_option maxRecDepth 100000 in
theorem bx_300 : Cond.instanceMethod yX4_countStones ∈ BX := List.mem_append_left _ (List.mem_of_getElem? (i := 300) rfl)
set_option maxRecDepth 100000 in
theorem bx_301 : Cond.selects RX4 yX4_countStones yX4_countStones ∈ BX := List.mem_append_left _ (List.mem_of_getElem? (i := 301) rfl)
set_option maxRecDepth 100000 in
theorem bx_302 : Cond.code yX4_note cX4_note 4 none ∈ BX := List.mem_append_left _ (List.mem_of_getElem? (i := 302) rfl)
set_option maxRecDepth 100000 in
theorem bx_303 : Cond.code yX4_mostAlike cX4_mostAlike 4 (some .int) ∈ BX := List.mem_append_left _ (List.mem_of_getElem? (i := 303) rfl)
set_option maxRecDepth 100000 in
theorem bx_304 : Cond.methodLink RX4 73 Lib.Math.max.name ∈ BX := List.mem_append_left _ (List.mem_of_getElem? (i := 304) rfl)
set_option maxRecDepth 100000 in
theorem bx_305 : Cond.static Lib.Math.max.name ∈ BX := List.mem_append_left _ (List.mem_of_getElem? (i := 305) rfl)
set_option maxRecDepth 100000 in
theorem bx_306 : Cond.code Lib.Math.max.name Lib.Math.max.code 2 (some .int) ∈ BX := List.mem_append_left _ (List.mem_of_getElem? (i := 306) rfl)
set_option maxRecDepth 100000 in
theorem bx_307 : Cond.code yX5_init cX5_init 1 none ∈ BX := List.mem_append_left _ (List.mem_of_getElem? (i := 307) rfl)
set_option maxRecDepth 100000 in
theorem bx_308 : Cond.methodLink RX5 7 objectInit ∈ BX := List.mem_append_left _ (List.mem_of_getElem? (i := 308) rfl)
set_option maxRecDepth 100000 in
theorem bx_309 : Cond.fieldLink RX5 13 "BorrowedStones$Past" "workRow" "[I" ∈ BX := List.mem_append_left _ (List.mem_of_getElem? (i := 309) rfl)
set_option maxRecDepth 100000 in
theorem bx_310 : Cond.fieldLink RX5 17 "BorrowedStones$Past" "imageRow" "[I" ∈ BX := List.mem_append_left _ (List.mem_of_getElem? (i := 310) rfl)
set_option maxRecDepth 100000 in
theorem bx_311 : Cond.code yX5_clear cX5_clear 1 none ∈ BX := List.mem_append_left _ (List.mem_of_getElem? (i := 311) rfl)
set_option maxRecDepth 100000 in
theorem bx_312 : Cond.fieldLink RX5 20 "BorrowedStones$Past" "works" "I" ∈ BX := List.mem_append_left _ (List.mem_of_getElem? (i := 312) rfl)
set_option maxRecDepth 100000 in
theorem bx_313 : Cond.fieldLink RX5 24 "BorrowedStones$Past" "images" "I" ∈ BX := List.mem_append_left _ (List.mem_of_getElem? (i := 313) rfl)
set_option maxRecDepth 100000 in
theorem bx_314 : Cond.code yX5_isFull cX5_isFull 1 (some .boolean) ∈ BX := List.mem_append_left _ (List.mem_of_getElem? (i := 314) rfl)
set_option maxRecDepth 100000 in
theorem bx_315 : Cond.code yX5_keepWork cX5_keepWork 2 none ∈ BX := List.mem_append_left _ (List.mem_of_getElem? (i := 315) rfl)
set_option maxRecDepth 100000 in
theorem bx_316 : Cond.methodLink RX5 27 yX7_writeTo ∈ BX := List.mem_append_left _ (List.mem_of_getElem? (i := 316) rfl)
set_option maxRecDepth 100000 in
theorem bx_317 : Cond.instanceMethod yX7_writeTo ∈ BX := List.mem_append_left _ (List.mem_of_getElem? (i := 317) rfl)
set_option maxRecDepth 100000 in
theorem bx_318 : Cond.selects RX7 yX7_writeTo yX7_writeTo ∈ BX := List.mem_append_left _ (List.mem_of_getElem? (i := 318) rfl)
set_option maxRecDepth 100000 in
theorem bx_319 : Cond.code yX7_writeTo cX7_writeTo 3 none ∈ BX := List.mem_append_left _ (List.mem_of_getElem? (i := 319) rfl)
set_option maxRecDepth 100000 in
theorem bx_320 : Cond.fieldLink RX7 9 "BorrowedStones$State" "debts" "[I" ∈ BX := List.mem_append_left _ (List.mem_of_getElem? (i := 320) rfl)
set_option maxRecDepth 100000 in
theorem bx_321 : Cond.fieldLink RX7 29 "BorrowedStones$State" "year" "I" ∈ BX := List.mem_append_left _ (List.mem_of_getElem? (i := 321) rfl)
set_option maxRecDepth 100000 in
theorem bx_322 : Cond.methodLink RX7 51 yX6_copy ∈ BX := List.mem_append_left _ (List.mem_of_getElem? (i := 322) rfl)
set_option maxRecDepth 100000 in
theorem bx_323 : Cond.methodLink RX7 47 yX6_put ∈ BX := List.mem_append_left _ (List.mem_of_getElem? (i := 323) rfl)
set_option maxRecDepth 100000 in
theorem bx_324 : Cond.code yX5_undoWork cX5_undoWork 2 none ∈ BX := List.mem_append_left _ (List.mem_of_getElem? (i := 324) rfl)
set_option maxRecDepth 100000 in
theorem bx_325 : Cond.methodLink RX5 31 yX7_readFrom ∈ BX := List.mem_append_left _ (List.mem_of_getElem? (i := 325) rfl)
set_option maxRecDepth 100000 in
theorem bx_326 : Cond.instanceMethod yX7_readFrom ∈ BX := List.mem_append_left _ (List.mem_of_getElem? (i := 326) rfl)
set_option maxRecDepth 100000 in
theorem bx_327 : Cond.selects RX7 yX7_readFrom yX7_readFrom ∈ BX := List.mem_append_left _ (List.mem_of_getElem? (i := 327) rfl)
set_option maxRecDepth 100000 in
theorem bx_328 : Cond.code yX7_readFrom cX7_readFrom 3 none ∈ BX := List.mem_append_left _ (List.mem_of_getElem? (i := 328) rfl)
set_option maxRecDepth 100000 in
theorem bx_329 : Cond.methodLink RX5 34 yX6_put ∈ BX := List.mem_append_left _ (List.mem_of_getElem? (i := 329) rfl)
set_option maxRecDepth 100000 in
theorem bx_330 : Cond.methodLink RX5 40 yX6_copy ∈ BX := List.mem_append_left _ (List.mem_of_getElem? (i := 330) rfl)
set_option maxRecDepth 100000 in
theorem bx_331 : Cond.code yX5_keepImage cX5_keepImage 3 none ∈ BX := List.mem_append_left _ (List.mem_of_getElem? (i := 331) rfl)
set_option maxRecDepth 100000 in
theorem bx_332 : Cond.methodLink RX5 44 yX6_at ∈ BX := List.mem_append_left _ (List.mem_of_getElem? (i := 332) rfl)
set_option maxRecDepth 100000 in
theorem bx_333 : Cond.code yX5_restoreImage cX5_restoreImage 3 none ∈ BX := List.mem_append_left _ (List.mem_of_getElem? (i := 333) rfl)
set_option maxRecDepth 100000 in
theorem bx_334 : Cond.code yX7_init cX7_init 3 none ∈ BX := List.mem_append_left _ (List.mem_of_getElem? (i := 334) rfl)
set_option maxRecDepth 100000 in
theorem bx_335 : Cond.methodLink RX7 3 objectInit ∈ BX := List.mem_append_left _ (List.mem_of_getElem? (i := 335) rfl)
set_option maxRecDepth 100000 in
theorem bx_336 : Cond.fieldLink RX7 25 "BorrowedStones$State" "law" "LBorrowedStones$Law;" ∈ BX := List.mem_append_left _ (List.mem_of_getElem? (i := 336) rfl)
set_option maxRecDepth 100000 in
theorem bx_337 : Cond.code yX7_begin cX7_begin 2 none ∈ BX := List.mem_append_left _ (List.mem_of_getElem? (i := 337) rfl)
set_option maxRecDepth 100000 in
theorem bx_338 : Cond.fieldLink RX7 38 "BorrowedStones$Land" "firstDebts" "[I" ∈ BX := List.mem_append_left _ (List.mem_of_getElem? (i := 338) rfl)
set_option maxRecDepth 100000 in
theorem bx_339 : Cond.code yX7_take cX7_take 2 none ∈ BX := List.mem_append_left _ (List.mem_of_getElem? (i := 339) rfl)
set_option maxRecDepth 100000 in
theorem bx_340 : Cond.code yX7_named cX7_named 3 (some .int) ∈ BX := List.mem_append_left _ (List.mem_of_getElem? (i := 340) rfl)
set_option maxRecDepth 100000 in
theorem bx_341 : Cond.code yX7_howManyDead cX7_howManyDead 3 (some .int) ∈ BX := List.mem_append_left _ (List.mem_of_getElem? (i := 341) rfl)
set_option maxRecDepth 100000 in
theorem bx_342 : Cond.code yX7_stonesUpTo cX7_stonesUpTo 5 (some .int) ∈ BX := List.mem_append_left _ (List.mem_of_getElem? (i := 342) rfl)
set_option maxRecDepth 100000 in
theorem bx_343 : Cond.methodLink RX7 66 Lib.Math.min.name ∈ BX := List.mem_append_left _ (List.mem_of_getElem? (i := 343) rfl)
set_option maxRecDepth 100000 in
theorem bx_344 : Cond.methodLink RX7 62 yX7_stonesOf ∈ BX := List.mem_append_left _ (List.mem_of_getElem? (i := 344) rfl)
set_option maxRecDepth 100000 in
theorem bx_345 : Cond.code yX7_directlyUnder cX7_directlyUnder 4 (some .int) ∈ BX := List.mem_append_left _ (List.mem_of_getElem? (i := 345) rfl)
set_option maxRecDepth 100000 in
theorem bx_346 : Cond.code yX7_allDebts cX7_allDebts 3 (some .int) ∈ BX := List.mem_append_left _ (List.mem_of_getElem? (i := 346) rfl)
set_option maxRecDepth 100000 in
theorem bx_347 : Cond.code yX7_debtsOfDead cX7_debtsOfDead 3 (some .int) ∈ BX := List.mem_append_left _ (List.mem_of_getElem? (i := 347) rfl)
set_option maxRecDepth 100000 in
theorem bx_348 : Cond.code yX7_mostInDebt cX7_mostInDebt 3 (some .int) ∈ BX := List.mem_append_left _ (List.mem_of_getElem? (i := 348) rfl)
set_option maxRecDepth 100000 in
theorem bx_349 : Cond.code yX7_roomOf cX7_roomOf 2 (some .int) ∈ BX := List.mem_append_left _ (List.mem_of_getElem? (i := 349) rfl)
set_option maxRecDepth 100000 in
theorem bx_350 : Cond.fieldLink RX7 72 "BorrowedStones$Land" "most" "I" ∈ BX := List.mem_append_left _ (List.mem_of_getElem? (i := 350) rfl)
set_option maxRecDepth 100000 in
theorem bx_351 : Cond.code yX7_hasRoom cX7_hasRoom 2 (some .boolean) ∈ BX := List.mem_append_left _ (List.mem_of_getElem? (i := 351) rfl)
set_option maxRecDepth 100000 in
theorem bx_352 : Cond.fieldLink RX7 75 "BorrowedStones$Law" "facts" "[I" ∈ BX := List.mem_append_left _ (List.mem_of_getElem? (i := 352) rfl)
set_option maxRecDepth 100000 in
theorem bx_353 : Cond.fieldLink RX7 80 "BorrowedStones$Land" "kinds" "[I" ∈ BX := List.mem_append_left _ (List.mem_of_getElem? (i := 353) rfl)
set_option maxRecDepth 100000 in
theorem bx_354 : Cond.methodLink RX7 83 yX1_areFriends ∈ BX := List.mem_append_left _ (List.mem_of_getElem? (i := 354) rfl)
set_option maxRecDepth 100000 in
theorem bx_355 : Cond.instanceMethod yX1_areFriends ∈ BX := List.mem_append_left _ (List.mem_of_getElem? (i := 355) rfl)
set_option maxRecDepth 100000 in
theorem bx_356 : Cond.selects RX1 yX1_areFriends yX1_areFriends ∈ BX := List.mem_append_left _ (List.mem_of_getElem? (i := 356) rfl)
set_option maxRecDepth 100000 in
theorem bx_357 : Cond.methodLink RX7 87 yX7_howManyDead ∈ BX := List.mem_append_left _ (List.mem_of_getElem? (i := 357) rfl)
set_option maxRecDepth 100000 in
theorem bx_358 : Cond.instanceMethod yX7_howManyDead ∈ BX := List.mem_append_left _ (List.mem_of_getElem? (i := 358) rfl)
set_option maxRecDepth 100000 in
theorem bx_359 : Cond.selects RX7 yX7_howManyDead yX7_howManyDead ∈ BX := List.mem_append_left _ (List.mem_of_getElem? (i := 359) rfl)
set_option maxRecDepth 100000 in
theorem bx_360 : Cond.methodLink RX7 91 yX2_answer ∈ BX := List.mem_append_left _ (List.mem_of_getElem? (i := 360) rfl)
set_option maxRecDepth 100000 in
theorem bx_361 : Cond.instanceMethod yX2_answer ∈ BX := List.mem_append_left _ (List.mem_of_getElem? (i := 361) rfl)
set_option maxRecDepth 100000 in
theorem bx_362 : Cond.selects RX2 yX2_answer yX2_answer ∈ BX := List.mem_append_left _ (List.mem_of_getElem? (i := 362) rfl)
set_option maxRecDepth 100000 in
theorem bx_363 : Cond.code yX7_willOf cX7_willOf 4 (some .int) ∈ BX := List.mem_append_left _ (List.mem_of_getElem? (i := 363) rfl)
set_option maxRecDepth 100000 in
theorem bx_364 : Cond.code yX7_couldLend cX7_couldLend 3 (some .boolean) ∈ BX := List.mem_append_left _ (List.mem_of_getElem? (i := 364) rfl)
set_option maxRecDepth 100000 in
theorem bx_365 : Cond.methodLink RX7 94 yX7_hasRoom ∈ BX := List.mem_append_left _ (List.mem_of_getElem? (i := 365) rfl)
set_option maxRecDepth 100000 in
theorem bx_366 : Cond.instanceMethod yX7_hasRoom ∈ BX := List.mem_append_left _ (List.mem_of_getElem? (i := 366) rfl)
set_option maxRecDepth 100000 in
theorem bx_367 : Cond.selects RX7 yX7_hasRoom yX7_hasRoom ∈ BX := List.mem_append_left _ (List.mem_of_getElem? (i := 367) rfl)
set_option maxRecDepth 100000 in
theorem bx_368 : Cond.methodLink RX7 97 yX7_couldLend ∈ BX := List.mem_append_left _ (List.mem_of_getElem? (i := 368) rfl)
set_option maxRecDepth 100000 in
theorem bx_369 : Cond.instanceMethod yX7_couldLend ∈ BX := List.mem_append_left _ (List.mem_of_getElem? (i := 369) rfl)
set_option maxRecDepth 100000 in
theorem bx_370 : Cond.selects RX7 yX7_couldLend yX7_couldLend ∈ BX := List.mem_append_left _ (List.mem_of_getElem? (i := 370) rfl)
set_option maxRecDepth 100000 in
theorem bx_371 : Cond.methodLink RX7 100 yX7_willOf ∈ BX := List.mem_append_left _ (List.mem_of_getElem? (i := 371) rfl)
set_option maxRecDepth 100000 in
theorem bx_372 : Cond.instanceMethod yX7_willOf ∈ BX := List.mem_append_left _ (List.mem_of_getElem? (i := 372) rfl)
set_option maxRecDepth 100000 in
theorem bx_373 : Cond.selects RX7 yX7_willOf yX7_willOf ∈ BX := List.mem_append_left _ (List.mem_of_getElem? (i := 373) rfl)
set_option maxRecDepth 100000 in
theorem bx_374 : Cond.code yX7_lendsTo cX7_lendsTo 3 (some .boolean) ∈ BX := List.mem_append_left _ (List.mem_of_getElem? (i := 374) rfl)
set_option maxRecDepth 100000 in
theorem bx_375 : Cond.code yX7_heirOf cX7_heirOf 7 (some .int) ∈ BX := List.mem_append_left _ (List.mem_of_getElem? (i := 375) rfl)
set_option maxRecDepth 100000 in
theorem bx_376 : Cond.methodLink RX7 103 yX7_heirOf ∈ BX := List.mem_append_left _ (List.mem_of_getElem? (i := 376) rfl)
set_option maxRecDepth 100000 in
theorem bx_377 : Cond.instanceMethod yX7_heirOf ∈ BX := List.mem_append_left _ (List.mem_of_getElem? (i := 377) rfl)
set_option maxRecDepth 100000 in
theorem bx_378 : Cond.selects RX7 yX7_heirOf yX7_heirOf ∈ BX := List.mem_append_left _ (List.mem_of_getElem? (i := 378) rfl)
set_option maxRecDepth 100000 in
theorem bx_379 : Cond.code yX7_heirs cX7_heirs 4 (some .int) ∈ BX := List.mem_append_left _ (List.mem_of_getElem? (i := 379) rfl)
set_option maxRecDepth 100000 in
theorem bx_380 : Cond.code yX7_heired cX7_heired 3 (some .int) ∈ BX := List.mem_append_left _ (List.mem_of_getElem? (i := 380) rfl)
set_option maxRecDepth 100000 in
theorem bx_381 : Cond.code yX7_owes cX7_owes 3 none ∈ BX := List.mem_append_left _ (List.mem_of_getElem? (i := 381) rfl)
set_option maxRecDepth 100000 in
theorem bx_382 : Cond.code yX7_takeName cX7_takeName 3 none ∈ BX := List.mem_append_left _ (List.mem_of_getElem? (i := 382) rfl)
set_option maxRecDepth 100000 in
theorem bx_383 : Cond.methodLink RX7 116 yX7_owes ∈ BX := List.mem_append_left _ (List.mem_of_getElem? (i := 383) rfl)
set_option maxRecDepth 100000 in
theorem bx_384 : Cond.instanceMethod yX7_owes ∈ BX := List.mem_append_left _ (List.mem_of_getElem? (i := 384) rfl)
set_option maxRecDepth 100000 in
theorem bx_385 : Cond.selects RX7 yX7_owes yX7_owes ∈ BX := List.mem_append_left _ (List.mem_of_getElem? (i := 385) rfl)
set_option maxRecDepth 100000 in
theorem bx_386 : Cond.code yX7_passYear cX7_passYear 2 none ∈ BX := List.mem_append_left _ (List.mem_of_getElem? (i := 386) rfl)
set_option maxRecDepth 100000 in
theorem bx_387 : Cond.methodLink RX7 113 Lib.Math.max.name ∈ BX := List.mem_append_left _ (List.mem_of_getElem? (i := 387) rfl)
set_option maxRecDepth 100000 in
theorem bx_388 : Cond.methodLink RX7 106 yX7_takeName ∈ BX := List.mem_append_left _ (List.mem_of_getElem? (i := 388) rfl)
set_option maxRecDepth 100000 in
theorem bx_389 : Cond.instanceMethod yX7_takeName ∈ BX := List.mem_append_left _ (List.mem_of_getElem? (i := 389) rfl)
set_option maxRecDepth 100000 in
theorem bx_390 : Cond.selects RX7 yX7_takeName yX7_takeName ∈ BX := List.mem_append_left _ (List.mem_of_getElem? (i := 390) rfl)
set_option maxRecDepth 100000 in
theorem bx_391 : Cond.methodLink RX7 110 yX7_lendsTo ∈ BX := List.mem_append_left _ (List.mem_of_getElem? (i := 391) rfl)
set_option maxRecDepth 100000 in
theorem bx_392 : Cond.instanceMethod yX7_lendsTo ∈ BX := List.mem_append_left _ (List.mem_of_getElem? (i := 392) rfl)
set_option maxRecDepth 100000 in
theorem bx_393 : Cond.selects RX7 yX7_lendsTo yX7_lendsTo ∈ BX := List.mem_append_left _ (List.mem_of_getElem? (i := 393) rfl)
set_option maxRecDepth 100000 in
theorem bx_394 : Cond.methodLink RX7 119 yX7_passYear ∈ BX := List.mem_append_left _ (List.mem_of_getElem? (i := 394) rfl)
set_option maxRecDepth 100000 in
theorem bx_395 : Cond.instanceMethod yX7_passYear ∈ BX := List.mem_append_left _ (List.mem_of_getElem? (i := 395) rfl)
set_option maxRecDepth 100000 in
theorem bx_396 : Cond.selects RX7 yX7_passYear yX7_passYear ∈ BX := List.mem_append_left _ (List.mem_of_getElem? (i := 396) rfl)
set_option maxRecDepth 100000 in
theorem bx_397 : Cond.code yX7_does cX7_does 5 (some .boolean) ∈ BX := List.mem_append_left _ (List.mem_of_getElem? (i := 397) rfl)
set_option maxRecDepth 100000 in
theorem bx_398 : Cond.code yX7_trueName cX7_trueName 4 (some .int) ∈ BX := List.mem_append_left _ (List.mem_of_getElem? (i := 398) rfl)
set_option maxRecDepth 100000 in
theorem bx_399 : Cond.code yX7_chainLength cX7_chainLength 5 (some .int) ∈ BX := List.mem_append_left _ (List.mem_of_getElem? (i := 399) rfl)
set_option maxRecDepth 100000 in
theorem bx_400 : Cond.code yX7_longestChain cX7_longestChain 3 (some .int) ∈ BX := List.mem_append_left _ (List.mem_of_getElem? (i := 400) rfl)
set_option maxRecDepth 100000 in
theorem bx_401 : Cond.methodLink RX7 122 yX7_chainLength ∈ BX := List.mem_append_left _ (List.mem_of_getElem? (i := 401) rfl)
set_option maxRecDepth 100000 in
theorem bx_402 : Cond.instanceMethod yX7_chainLength ∈ BX := List.mem_append_left _ (List.mem_of_getElem? (i := 402) rfl)
set_option maxRecDepth 100000 in
theorem bx_403 : Cond.selects RX7 yX7_chainLength yX7_chainLength ∈ BX := List.mem_append_left _ (List.mem_of_getElem? (i := 403) rfl)
set_option maxRecDepth 100000 in
theorem bx_404 : Cond.code yX8_init cX8_init 1 none ∈ BX := List.mem_append_left _ (List.mem_of_getElem? (i := 404) rfl)
set_option maxRecDepth 100000 in
theorem bx_405 : Cond.methodLink RX8 3 objectInit ∈ BX := List.mem_append_left _ (List.mem_of_getElem? (i := 405) rfl)
set_option maxRecDepth 100000 in
theorem bx_406 : Cond.fieldLink RX8 9 "BorrowedStones$Steps" "deeds" "[I" ∈ BX := List.mem_append_left _ (List.mem_of_getElem? (i := 406) rfl)
set_option maxRecDepth 100000 in
theorem bx_407 : Cond.fieldLink RX8 15 "BorrowedStones$Steps" "firsts" "[I" ∈ BX := List.mem_append_left _ (List.mem_of_getElem? (i := 407) rfl)
set_option maxRecDepth 100000 in
theorem bx_408 : Cond.fieldLink RX8 18 "BorrowedStones$Steps" "seconds" "[I" ∈ BX := List.mem_append_left _ (List.mem_of_getElem? (i := 408) rfl)
set_option maxRecDepth 100000 in
theorem bx_409 : Cond.fieldLink RX8 21 "BorrowedStones$Steps" "starts" "[I" ∈ BX := List.mem_append_left _ (List.mem_of_getElem? (i := 409) rfl)
set_option maxRecDepth 100000 in
theorem bx_410 : Cond.fieldLink RX8 24 "BorrowedStones$Steps" "rounds" "[I" ∈ BX := List.mem_append_left _ (List.mem_of_getElem? (i := 410) rfl)
set_option maxRecDepth 100000 in
theorem bx_411 : Cond.code yX8_add cX8_add 4 none ∈ BX := List.mem_append_left _ (List.mem_of_getElem? (i := 411) rfl)
set_option maxRecDepth 100000 in
theorem bx_412 : Cond.fieldLink RX8 27 "BorrowedStones$Steps" "length" "I" ∈ BX := List.mem_append_left _ (List.mem_of_getElem? (i := 412) rfl)
set_option maxRecDepth 100000 in
theorem bx_413 : Cond.methodLink RX8 99 yX6_put ∈ BX := List.mem_append_left _ (List.mem_of_getElem? (i := 413) rfl)
set_option maxRecDepth 100000 in
theorem bx_414 : Cond.code yX8_closeAgain cX8_closeAgain 2 none ∈ BX := List.mem_append_left _ (List.mem_of_getElem? (i := 414) rfl)
set_option maxRecDepth 100000 in
theorem bx_415 : Cond.fieldLink RX8 31 "BorrowedStones$Steps" "open" "I" ∈ BX := List.mem_append_left _ (List.mem_of_getElem? (i := 415) rfl)
set_option maxRecDepth 100000 in
theorem bx_416 : Cond.methodLink RX8 105 yX6_at ∈ BX := List.mem_append_left _ (List.mem_of_getElem? (i := 416) rfl)
set_option maxRecDepth 100000 in
theorem bx_417 : Cond.methodLink RX8 84 yX8_add ∈ BX := List.mem_append_left _ (List.mem_of_getElem? (i := 417) rfl)
set_option maxRecDepth 100000 in
theorem bx_418 : Cond.instanceMethod yX8_add ∈ BX := List.mem_append_left _ (List.mem_of_getElem? (i := 418) rfl)
set_option maxRecDepth 100000 in
theorem bx_419 : Cond.selects RX8 yX8_add yX8_add ∈ BX := List.mem_append_left _ (List.mem_of_getElem? (i := 419) rfl)
set_option maxRecDepth 100000 in
theorem bx_420 : Cond.initialized RX8 ∈ BX := List.mem_append_left _ (List.mem_of_getElem? (i := 420) rfl)
set_option maxRecDepth 100000 in
theorem bx_421 : Cond.fieldLink RX8 96 "BorrowedStones$Text" "wordStart" "I" ∈ BX := List.mem_append_left _ (List.mem_of_getElem? (i := 421) rfl)
set_option maxRecDepth 100000 in
theorem bx_422 : Cond.methodLink RX8 61 yX9_blame ∈ BX := List.mem_append_left _ (List.mem_of_getElem? (i := 422) rfl)
set_option maxRecDepth 100000 in
theorem bx_423 : Cond.methodLink RX8 80 yX9_number ∈ BX := List.mem_append_left _ (List.mem_of_getElem? (i := 423) rfl)
set_option maxRecDepth 100000 in
theorem bx_424 : Cond.methodLink RX8 50 yX9_expect ∈ BX := List.mem_append_left _ (List.mem_of_getElem? (i := 424) rfl)
set_option maxRecDepth 100000 in
theorem bx_425 : Cond.code yX8_openAgain cX8_openAgain 3 none ∈ BX := List.mem_append_left _ (List.mem_of_getElem? (i := 425) rfl)
set_option maxRecDepth 100000 in
theorem bx_426 : Cond.methodLink RX8 65 yX9_word ∈ BX := List.mem_append_left _ (List.mem_of_getElem? (i := 426) rfl)
set_option maxRecDepth 100000 in
theorem bx_427 : Cond.methodLink RX8 70 yX9_isWord ∈ BX := List.mem_append_left _ (List.mem_of_getElem? (i := 427) rfl)
set_option maxRecDepth 100000 in
theorem bx_428 : Cond.methodLink RX8 74 yX8_openAgain ∈ BX := List.mem_append_left _ (List.mem_of_getElem? (i := 428) rfl)
set_option maxRecDepth 100000 in
theorem bx_429 : Cond.instanceMethod yX8_openAgain ∈ BX := List.mem_append_left _ (List.mem_of_getElem? (i := 429) rfl)
set_option maxRecDepth 100000 in
theorem bx_430 : Cond.selects RX8 yX8_openAgain yX8_openAgain ∈ BX := List.mem_append_left _ (List.mem_of_getElem? (i := 430) rfl)
set_option maxRecDepth 100000 in
theorem bx_431 : Cond.code yX8_readStep cX8_readStep 4 none ∈ BX := List.mem_append_left _ (List.mem_of_getElem? (i := 431) rfl)
set_option maxRecDepth 100000 in
theorem bx_432 : Cond.fieldLink RX8 58 "BorrowedStones$Text" "place" "I" ∈ BX := List.mem_append_left _ (List.mem_of_getElem? (i := 432) rfl)
set_option maxRecDepth 100000 in
theorem bx_433 : Cond.methodLink RX8 34 yX9_hasMore ∈ BX := List.mem_append_left _ (List.mem_of_getElem? (i := 433) rfl)
set_option maxRecDepth 100000 in
theorem bx_434 : Cond.methodLink RX8 40 yX9_nextByte ∈ BX := List.mem_append_left _ (List.mem_of_getElem? (i := 434) rfl)
set_option maxRecDepth 100000 in
theorem bx_435 : Cond.methodLink RX8 44 yX9_pass ∈ BX := List.mem_append_left _ (List.mem_of_getElem? (i := 435) rfl)
set_option maxRecDepth 100000 in
theorem bx_436 : Cond.methodLink RX8 47 yX8_closeAgain ∈ BX := List.mem_append_left _ (List.mem_of_getElem? (i := 436) rfl)
set_option maxRecDepth 100000 in
theorem bx_437 : Cond.instanceMethod yX8_closeAgain ∈ BX := List.mem_append_left _ (List.mem_of_getElem? (i := 437) rfl)
set_option maxRecDepth 100000 in
theorem bx_438 : Cond.selects RX8 yX8_closeAgain yX8_closeAgain ∈ BX := List.mem_append_left _ (List.mem_of_getElem? (i := 438) rfl)
set_option maxRecDepth 100000 in
theorem bx_439 : Cond.methodLink RX8 54 yX8_readStep ∈ BX := List.mem_append_left _ (List.mem_of_getElem? (i := 439) rfl)
set_option maxRecDepth 100000 in
theorem bx_440 : Cond.instanceMethod yX8_readStep ∈ BX := List.mem_append_left _ (List.mem_of_getElem? (i := 440) rfl)
set_option maxRecDepth 100000 in
theorem bx_441 : Cond.selects RX8 yX8_readStep yX8_readStep ∈ BX := List.mem_append_left _ (List.mem_of_getElem? (i := 441) rfl)
set_option maxRecDepth 100000 in
theorem bx_442 : Cond.code yX8_readFrom cX8_readFrom 4 none ∈ BX := List.mem_append_left _ (List.mem_of_getElem? (i := 442) rfl)
set_option maxRecDepth 100000 in
theorem bx_443 : Cond.code yX8_behindEnd cX8_behindEnd 3 (some .int) ∈ BX := List.mem_append_left _ (List.mem_of_getElem? (i := 443) rfl)
set_option maxRecDepth 100000 in
theorem bx_444 : Cond.code yX8_behindAgain cX8_behindAgain 3 (some .int) ∈ BX := List.mem_append_left _ (List.mem_of_getElem? (i := 444) rfl)
set_option maxRecDepth 100000 in
theorem bx_445 : Cond.fieldLink RX8 109 "BorrowedStones$Steps" "done" "I" ∈ BX := List.mem_append_left _ (List.mem_of_getElem? (i := 445) rfl)
set_option maxRecDepth 100000 in
theorem bx_446 : Cond.fieldLink RX8 112 "BorrowedStones$Steps" "refused" "I" ∈ BX := List.mem_append_left _ (List.mem_of_getElem? (i := 446) rfl)
set_option maxRecDepth 100000 in
theorem bx_447 : Cond.constant RX8 115 (1000000) ∈ BX := List.mem_append_left _ (List.mem_of_getElem? (i := 447) rfl)
set_option maxRecDepth 100000 in
theorem bx_448 : Cond.methodLink RX8 116 yX8_behindEnd ∈ BX := List.mem_append_left _ (List.mem_of_getElem? (i := 448) rfl)
set_option maxRecDepth 100000 in
theorem bx_449 : Cond.instanceMethod yX8_behindEnd ∈ BX := List.mem_append_left _ (List.mem_of_getElem? (i := 449) rfl)
set_option maxRecDepth 100000 in
theorem bx_450 : Cond.selects RX8 yX8_behindEnd yX8_behindEnd ∈ BX := List.mem_append_left _ (List.mem_of_getElem? (i := 450) rfl)
set_option maxRecDepth 100000 in
theorem bx_451 : Cond.methodLink RX8 120 yX8_behindAgain ∈ BX := List.mem_append_left _ (List.mem_of_getElem? (i := 451) rfl)
set_option maxRecDepth 100000 in
theorem bx_452 : Cond.instanceMethod yX8_behindAgain ∈ BX := List.mem_append_left _ (List.mem_of_getElem? (i := 452) rfl)
set_option maxRecDepth 100000 in
theorem bx_453 : Cond.selects RX8 yX8_behindAgain yX8_behindAgain ∈ BX := List.mem_append_left _ (List.mem_of_getElem? (i := 453) rfl)
set_option maxRecDepth 100000 in
theorem bx_454 : Cond.methodLink RX8 123 yX7_does ∈ BX := List.mem_append_left _ (List.mem_of_getElem? (i := 454) rfl)
set_option maxRecDepth 100000 in
theorem bx_455 : Cond.instanceMethod yX7_does ∈ BX := List.mem_append_left _ (List.mem_of_getElem? (i := 455) rfl)
set_option maxRecDepth 100000 in
theorem bx_456 : Cond.selects RX7 yX7_does yX7_does ∈ BX := List.mem_append_left _ (List.mem_of_getElem? (i := 456) rfl)
set_option maxRecDepth 100000 in
theorem bx_457 : Cond.code yX8_run cX8_run 6 none ∈ BX := List.mem_append_left _ (List.mem_of_getElem? (i := 457) rfl)
set_option maxRecDepth 100000 in
theorem bx_458 : Cond.code yX9_init cX9_init 1 none ∈ BX := List.mem_append_left _ (List.mem_of_getElem? (i := 458) rfl)
set_option maxRecDepth 100000 in
theorem bx_459 : Cond.methodLink RX9 3 objectInit ∈ BX := List.mem_append_left _ (List.mem_of_getElem? (i := 459) rfl)
set_option maxRecDepth 100000 in
theorem bx_460 : Cond.code yX9_takesTwenty cX9_takesTwenty 1 (some .boolean) ∈ BX := List.mem_append_left _ (List.mem_of_getElem? (i := 460) rfl)
set_option maxRecDepth 100000 in
theorem bx_461 : Cond.fieldLink RX9 19 "BorrowedStones$Text" "bytes" "I" ∈ BX := List.mem_append_left _ (List.mem_of_getElem? (i := 461) rfl)
set_option maxRecDepth 100000 in
theorem bx_462 : Cond.code yX9_takeNumber cX9_takeNumber 3 none ∈ BX := List.mem_append_left _ (List.mem_of_getElem? (i := 462) rfl)
set_option maxRecDepth 100000 in
theorem bx_463 : Cond.methodLink RX9 22 yX6_put ∈ BX := List.mem_append_left _ (List.mem_of_getElem? (i := 463) rfl)
set_option maxRecDepth 100000 in
theorem bx_464 : Cond.code yX9_begin cX9_begin 2 none ∈ BX := List.mem_append_left _ (List.mem_of_getElem? (i := 464) rfl)
set_option maxRecDepth 100000 in
theorem bx_465 : Cond.code yX9_faultLessTen cX9_faultLessTen 1 (some .int) ∈ BX := List.mem_append_left _ (List.mem_of_getElem? (i := 465) rfl)
set_option maxRecDepth 100000 in
theorem bx_466 : Cond.code yX10_init cX10_init 1 none ∈ BX := List.mem_append_left _ (List.mem_of_getElem? (i := 466) rfl)
set_option maxRecDepth 100000 in
theorem bx_467 : Cond.methodLink RX10 3 objectInit ∈ BX := List.mem_append_left _ (List.mem_of_getElem? (i := 467) rfl)
set_option maxRecDepth 100000 in
theorem bx_468 : Cond.fieldLink RX10 9 "BorrowedStones$Ways" "asking" "[I" ∈ BX := List.mem_append_left _ (List.mem_of_getElem? (i := 468) rfl)
set_option maxRecDepth 100000 in
theorem bx_469 : Cond.fieldLink RX10 15 "BorrowedStones$Ways" "offers" "[I" ∈ BX := List.mem_append_left _ (List.mem_of_getElem? (i := 469) rfl)
set_option maxRecDepth 100000 in
theorem bx_470 : Cond.fieldLink RX10 18 "BorrowedStones$Ways" "room" "[I" ∈ BX := List.mem_append_left _ (List.mem_of_getElem? (i := 470) rfl)
set_option maxRecDepth 100000 in
theorem bx_471 : Cond.fieldLink RX10 21 "BorrowedStones$Ways" "chosen" "[I" ∈ BX := List.mem_append_left _ (List.mem_of_getElem? (i := 471) rfl)
set_option maxRecDepth 100000 in
theorem bx_472 : Cond.fieldLink RX10 24 "BorrowedStones$Ways" "best" "[I" ∈ BX := List.mem_append_left _ (List.mem_of_getElem? (i := 472) rfl)
set_option maxRecDepth 100000 in
theorem bx_473 : Cond.methodLink RX10 61 yX6_at ∈ BX := List.mem_append_left _ (List.mem_of_getElem? (i := 473) rfl)
set_option maxRecDepth 100000 in
theorem bx_474 : Cond.methodLink RX10 65 yX7_lendsTo ∈ BX := List.mem_append_left _ (List.mem_of_getElem? (i := 474) rfl)
set_option maxRecDepth 100000 in
theorem bx_475 : Cond.methodLink RX10 69 yX7_willOf ∈ BX := List.mem_append_left _ (List.mem_of_getElem? (i := 475) rfl)
set_option maxRecDepth 100000 in
theorem bx_476 : Cond.methodLink RX10 43 yX6_put ∈ BX := List.mem_append_left _ (List.mem_of_getElem? (i := 476) rfl)
set_option maxRecDepth 100000 in
theorem bx_477 : Cond.code yX10_takeOffers cX10_takeOffers 7 none ∈ BX := List.mem_append_left _ (List.mem_of_getElem? (i := 477) rfl)
set_option maxRecDepth 100000 in
theorem bx_478 : Cond.code yX10_keepIfBetter cX10_keepIfBetter 3 none ∈ BX := List.mem_append_left _ (List.mem_of_getElem? (i := 478) rfl)
set_option maxRecDepth 100000 in
theorem bx_479 : Cond.fieldLink RX10 31 "BorrowedStones$Ways" "bestServed" "I" ∈ BX := List.mem_append_left _ (List.mem_of_getElem? (i := 479) rfl)
set_option maxRecDepth 100000 in
theorem bx_480 : Cond.fieldLink RX10 34 "BorrowedStones$Ways" "bestWills" "I" ∈ BX := List.mem_append_left _ (List.mem_of_getElem? (i := 480) rfl)
set_option maxRecDepth 100000 in
theorem bx_481 : Cond.fieldLink RX10 27 "BorrowedStones$Ways" "many" "I" ∈ BX := List.mem_append_left _ (List.mem_of_getElem? (i := 481) rfl)
set_option maxRecDepth 100000 in
theorem bx_482 : Cond.methodLink RX10 77 yX6_copy ∈ BX := List.mem_append_left _ (List.mem_of_getElem? (i := 482) rfl)
set_option maxRecDepth 100000 in
theorem bx_483 : Cond.methodLink RX10 73 yX10_keepIfBetter ∈ BX := List.mem_append_left _ (List.mem_of_getElem? (i := 483) rfl)
set_option maxRecDepth 100000 in
theorem bx_484 : Cond.instanceMethod yX10_keepIfBetter ∈ BX := List.mem_append_left _ (List.mem_of_getElem? (i := 484) rfl)
set_option maxRecDepth 100000 in
theorem bx_485 : Cond.selects RX10 yX10_keepIfBetter yX10_keepIfBetter ∈ BX := List.mem_append_left _ (List.mem_of_getElem? (i := 485) rfl)
set_option maxRecDepth 100000 in
theorem bx_486 : Cond.initialized RX10 ∈ BX := List.mem_append_left _ (List.mem_of_getElem? (i := 486) rfl)
set_option maxRecDepth 100000 in
theorem bx_487 : Cond.methodLink RX10 57 yX10_give ∈ BX := List.mem_append_left _ (List.mem_of_getElem? (i := 487) rfl)
set_option maxRecDepth 100000 in
theorem bx_488 : Cond.instanceMethod yX10_give ∈ BX := List.mem_append_left _ (List.mem_of_getElem? (i := 488) rfl)
set_option maxRecDepth 100000 in
theorem bx_489 : Cond.selects RX10 yX10_give yX10_give ∈ BX := List.mem_append_left _ (List.mem_of_getElem? (i := 489) rfl)
set_option maxRecDepth 100000 in
theorem bx_490 : Cond.code yX10_give cX10_give 7 none ∈ BX := List.mem_append_left _ (List.mem_of_getElem? (i := 490) rfl)
set_option maxRecDepth 100000 in
theorem bx_491 : Cond.methodLink RX10 37 yX7_roomOf ∈ BX := List.mem_append_left _ (List.mem_of_getElem? (i := 491) rfl)
set_option maxRecDepth 100000 in
theorem bx_492 : Cond.instanceMethod yX7_roomOf ∈ BX := List.mem_append_left _ (List.mem_of_getElem? (i := 492) rfl)
set_option maxRecDepth 100000 in
theorem bx_493 : Cond.selects RX7 yX7_roomOf yX7_roomOf ∈ BX := List.mem_append_left _ (List.mem_of_getElem? (i := 493) rfl)
set_option maxRecDepth 100000 in
theorem bx_494 : Cond.methodLink RX10 49 yX7_lives ∈ BX := List.mem_append_left _ (List.mem_of_getElem? (i := 494) rfl)
set_option maxRecDepth 100000 in
theorem bx_495 : Cond.methodLink RX10 53 yX10_takeOffers ∈ BX := List.mem_append_left _ (List.mem_of_getElem? (i := 495) rfl)
set_option maxRecDepth 100000 in
theorem bx_496 : Cond.instanceMethod yX10_takeOffers ∈ BX := List.mem_append_left _ (List.mem_of_getElem? (i := 496) rfl)
set_option maxRecDepth 100000 in
theorem bx_497 : Cond.selects RX10 yX10_takeOffers yX10_takeOffers ∈ BX := List.mem_append_left _ (List.mem_of_getElem? (i := 497) rfl)
set_option maxRecDepth 100000 in
theorem bx_498 : Cond.code yX10_search cX10_search 4 none ∈ BX := List.mem_append_left _ (List.mem_of_getElem? (i := 498) rfl)
set_option maxRecDepth 100000 in
theorem bx_499 : Cond.code yX10_lenderOf cX10_lenderOf 3 (some .int) ∈ BX := List.mem_append_left _ (List.mem_of_getElem? (i := 499) rfl)
set_option maxRecDepth 100000 in
theorem bx_500 : Cond.methodLink RX11 1 objectInit ∈ BX := List.mem_append_left _ (List.mem_of_getElem? (i := 500) rfl)
set_option maxRecDepth 100000 in
theorem bx_501 : Cond.classLink RX11 7 RX9 ∈ BX := List.mem_append_left _ (List.mem_of_getElem? (i := 501) rfl)
set_option maxRecDepth 100000 in
theorem bx_502 : Cond.instantiable RX9 8 ∈ BX := List.mem_append_left _ (List.mem_of_getElem? (i := 502) rfl)
set_option maxRecDepth 100000 in
theorem bx_503 : Cond.fieldLink RX11 10 "BorrowedStones" "text" "LBorrowedStones$Text;" ∈ BX := List.mem_append_left _ (List.mem_of_getElem? (i := 503) rfl)
set_option maxRecDepth 100000 in
theorem bx_504 : Cond.classLink RX11 16 RX1 ∈ BX := List.mem_append_left _ (List.mem_of_getElem? (i := 504) rfl)
set_option maxRecDepth 100000 in
theorem bx_505 : Cond.instantiable RX1 5 ∈ BX := List.mem_append_left _ (List.mem_of_getElem? (i := 505) rfl)
set_option maxRecDepth 100000 in
theorem bx_506 : Cond.fieldLink RX11 19 "BorrowedStones" "land" "LBorrowedStones$Land;" ∈ BX := List.mem_append_left _ (List.mem_of_getElem? (i := 506) rfl)
set_option maxRecDepth 100000 in
theorem bx_507 : Cond.fieldLink RX11 23 "BorrowedStones" "draftLand" "LBorrowedStones$Land;" ∈ BX := List.mem_append_left _ (List.mem_of_getElem? (i := 507) rfl)
set_option maxRecDepth 100000 in
theorem bx_508 : Cond.classLink RX11 26 RX2 ∈ BX := List.mem_append_left _ (List.mem_of_getElem? (i := 508) rfl)
set_option maxRecDepth 100000 in
theorem bx_509 : Cond.instantiable RX2 4 ∈ BX := List.mem_append_left _ (List.mem_of_getElem? (i := 509) rfl)
set_option maxRecDepth 100000 in
theorem bx_510 : Cond.fieldLink RX11 29 "BorrowedStones" "law" "LBorrowedStones$Law;" ∈ BX := List.mem_append_left _ (List.mem_of_getElem? (i := 510) rfl)
set_option maxRecDepth 100000 in
theorem bx_511 : Cond.fieldLink RX11 33 "BorrowedStones" "draftLaw" "LBorrowedStones$Law;" ∈ BX := List.mem_append_left _ (List.mem_of_getElem? (i := 511) rfl)
set_option maxRecDepth 100000 in
theorem bx_512 : Cond.classLink RX11 36 RX3 ∈ BX := List.mem_append_left _ (List.mem_of_getElem? (i := 512) rfl)
set_option maxRecDepth 100000 in
theorem bx_513 : Cond.instantiable RX3 3 ∈ BX := List.mem_append_left _ (List.mem_of_getElem? (i := 513) rfl)
set_option maxRecDepth 100000 in
theorem bx_514 : Cond.fieldLink RX11 39 "BorrowedStones" "lawReader" "LBorrowedStones$LawReader;" ∈ BX := List.mem_append_left _ (List.mem_of_getElem? (i := 514) rfl)
set_option maxRecDepth 100000 in
theorem bx_515 : Cond.classLink RX11 43 RX8 ∈ BX := List.mem_append_left _ (List.mem_of_getElem? (i := 515) rfl)
set_option maxRecDepth 100000 in
theorem bx_516 : Cond.instantiable RX8 9 ∈ BX := List.mem_append_left _ (List.mem_of_getElem? (i := 516) rfl)
set_option maxRecDepth 100000 in
theorem bx_517 : Cond.fieldLink RX11 46 "BorrowedStones" "steps" "LBorrowedStones$Steps;" ∈ BX := List.mem_append_left _ (List.mem_of_getElem? (i := 517) rfl)
set_option maxRecDepth 100000 in
theorem bx_518 : Cond.classLink RX11 50 RX0 ∈ BX := List.mem_append_left _ (List.mem_of_getElem? (i := 518) rfl)
set_option maxRecDepth 100000 in
theorem bx_519 : Cond.instantiable RX0 2 ∈ BX := List.mem_append_left _ (List.mem_of_getElem? (i := 519) rfl)
set_option maxRecDepth 100000 in
theorem bx_520 : Cond.fieldLink RX11 53 "BorrowedStones" "book" "LBorrowedStones$Book;" ∈ BX := List.mem_append_left _ (List.mem_of_getElem? (i := 520) rfl)
set_option maxRecDepth 100000 in
theorem bx_521 : Cond.fieldLink RX11 57 "BorrowedStones" "draftBook" "LBorrowedStones$Book;" ∈ BX := List.mem_append_left _ (List.mem_of_getElem? (i := 521) rfl)
set_option maxRecDepth 100000 in
theorem bx_522 : Cond.classLink RX11 60 RX7 ∈ BX := List.mem_append_left _ (List.mem_of_getElem? (i := 522) rfl)
set_option maxRecDepth 100000 in
theorem bx_523 : Cond.instantiable RX7 6 ∈ BX := List.mem_append_left _ (List.mem_of_getElem? (i := 523) rfl)
set_option maxRecDepth 100000 in
theorem bx_524 : Cond.fieldLink RX11 65 "BorrowedStones" "state" "LBorrowedStones$State;" ∈ BX := List.mem_append_left _ (List.mem_of_getElem? (i := 524) rfl)
set_option maxRecDepth 100000 in
theorem bx_525 : Cond.fieldLink RX11 69 "BorrowedStones" "trial" "LBorrowedStones$State;" ∈ BX := List.mem_append_left _ (List.mem_of_getElem? (i := 525) rfl)
set_option maxRecDepth 100000 in
theorem bx_526 : Cond.classLink RX11 72 RX5 ∈ BX := List.mem_append_left _ (List.mem_of_getElem? (i := 526) rfl)
set_option maxRecDepth 100000 in
theorem bx_527 : Cond.instantiable RX5 4 ∈ BX := List.mem_append_left _ (List.mem_of_getElem? (i := 527) rfl)
set_option maxRecDepth 100000 in
theorem bx_528 : Cond.initialized RX5 ∈ BX := List.mem_append_left _ (List.mem_of_getElem? (i := 528) rfl)
set_option maxRecDepth 100000 in
theorem bx_529 : Cond.fieldLink RX11 75 "BorrowedStones" "past" "LBorrowedStones$Past;" ∈ BX := List.mem_append_left _ (List.mem_of_getElem? (i := 529) rfl)
set_option maxRecDepth 100000 in
theorem bx_530 : Cond.classLink RX11 79 RX4 ∈ BX := List.mem_append_left _ (List.mem_of_getElem? (i := 530) rfl)
set_option maxRecDepth 100000 in
theorem bx_531 : Cond.instantiable RX4 7 ∈ BX := List.mem_append_left _ (List.mem_of_getElem? (i := 531) rfl)
set_option maxRecDepth 100000 in
theorem bx_532 : Cond.fieldLink RX11 82 "BorrowedStones" "orders" "LBorrowedStones$Orders;" ∈ BX := List.mem_append_left _ (List.mem_of_getElem? (i := 532) rfl)
set_option maxRecDepth 100000 in
theorem bx_533 : Cond.classLink RX11 86 RX10 ∈ BX := List.mem_append_left _ (List.mem_of_getElem? (i := 533) rfl)
set_option maxRecDepth 100000 in
theorem bx_534 : Cond.instantiable RX10 8 ∈ BX := List.mem_append_left _ (List.mem_of_getElem? (i := 534) rfl)
set_option maxRecDepth 100000 in
theorem bx_535 : Cond.fieldLink RX11 89 "BorrowedStones" "ways" "LBorrowedStones$Ways;" ∈ BX := List.mem_append_left _ (List.mem_of_getElem? (i := 535) rfl)
set_option maxRecDepth 100000 in
theorem bx_536 : Cond.arrayClass .long ∈ BX := List.mem_append_left _ (List.mem_of_getElem? (i := 536) rfl)
set_option maxRecDepth 100000 in
theorem bx_537 : Cond.fieldLink RX11 93 "BorrowedStones" "likely" "[J" ∈ BX := List.mem_append_left _ (List.mem_of_getElem? (i := 537) rfl)
set_option maxRecDepth 100000 in
theorem bx_538 : Cond.instanceMethod yX9_init ∈ BX := List.mem_append_left _ (List.mem_of_getElem? (i := 538) rfl)
set_option maxRecDepth 100000 in
theorem bx_539 : Cond.instanceMethod yX1_init ∈ BX := List.mem_append_left _ (List.mem_of_getElem? (i := 539) rfl)
set_option maxRecDepth 100000 in
theorem bx_540 : Cond.instanceMethod yX2_init ∈ BX := List.mem_append_left _ (List.mem_of_getElem? (i := 540) rfl)
set_option maxRecDepth 100000 in
theorem bx_541 : Cond.instanceMethod yX3_init ∈ BX := List.mem_append_left _ (List.mem_of_getElem? (i := 541) rfl)
set_option maxRecDepth 100000 in
theorem bx_542 : Cond.instanceMethod yX8_init ∈ BX := List.mem_append_left _ (List.mem_of_getElem? (i := 542) rfl)
set_option maxRecDepth 100000 in
theorem bx_543 : Cond.instanceMethod yX0_init ∈ BX := List.mem_append_left _ (List.mem_of_getElem? (i := 543) rfl)
set_option maxRecDepth 100000 in
theorem bx_544 : Cond.methodLink RX11 62 yX7_init ∈ BX := List.mem_append_left _ (List.mem_of_getElem? (i := 544) rfl)
set_option maxRecDepth 100000 in
theorem bx_545 : Cond.instanceMethod yX7_init ∈ BX := List.mem_append_left _ (List.mem_of_getElem? (i := 545) rfl)
set_option maxRecDepth 100000 in
theorem bx_546 : Cond.instanceMethod yX5_init ∈ BX := List.mem_append_left _ (List.mem_of_getElem? (i := 546) rfl)
set_option maxRecDepth 100000 in
theorem bx_547 : Cond.instanceMethod yX4_init ∈ BX := List.mem_append_left _ (List.mem_of_getElem? (i := 547) rfl)
set_option maxRecDepth 100000 in
theorem bx_548 : Cond.instanceMethod yX10_init ∈ BX := List.mem_append_left _ (List.mem_of_getElem? (i := 548) rfl)
set_option maxRecDepth 100000 in
theorem bx_549 : Cond.methodLink RX11 97 yX2_becomePlain ∈ BX := List.mem_append_left _ (List.mem_of_getElem? (i := 549) rfl)
set_option maxRecDepth 100000 in
theorem bx_550 : Cond.instanceMethod yX2_becomePlain ∈ BX := List.mem_append_left _ (List.mem_of_getElem? (i := 550) rfl)
set_option maxRecDepth 100000 in
theorem bx_551 : Cond.selects RX2 yX2_becomePlain yX2_becomePlain ∈ BX := List.mem_append_left _ (List.mem_of_getElem? (i := 551) rfl)
set_option maxRecDepth 100000 in
theorem bx_552 : Cond.methodLink RX11 100 yX7_begin ∈ BX := List.mem_append_left _ (List.mem_of_getElem? (i := 552) rfl)
set_option maxRecDepth 100000 in
theorem bx_553 : Cond.instanceMethod yX7_begin ∈ BX := List.mem_append_left _ (List.mem_of_getElem? (i := 553) rfl)
set_option maxRecDepth 100000 in
theorem bx_554 : Cond.selects RX7 yX7_begin yX7_begin ∈ BX := List.mem_append_left _ (List.mem_of_getElem? (i := 554) rfl)
set_option maxRecDepth 100000 in
theorem bx_555 : Cond.code yX11_init cX11_init 1 none ∈ BX := List.mem_append_left _ (List.mem_of_getElem? (i := 555) rfl)
set_option maxRecDepth 100000 in
theorem bx_556 : Cond.code yX11_feed cX11_feed 6 (some .int) ∈ BX := List.mem_append_left _ (List.mem_of_getElem? (i := 556) rfl)
set_option maxRecDepth 100000 in
theorem bx_557 : Cond.fieldLink RX11 111 "BorrowedStones$Text" "bytes" "I" ∈ BX := List.mem_append_left _ (List.mem_of_getElem? (i := 557) rfl)
set_option maxRecDepth 100000 in
theorem bx_558 : Cond.methodLink RX11 103 yX9_takesTwenty ∈ BX := List.mem_append_left _ (List.mem_of_getElem? (i := 558) rfl)
set_option maxRecDepth 100000 in
theorem bx_559 : Cond.instanceMethod yX9_takesTwenty ∈ BX := List.mem_append_left _ (List.mem_of_getElem? (i := 559) rfl)
set_option maxRecDepth 100000 in
theorem bx_560 : Cond.selects RX9 yX9_takesTwenty yX9_takesTwenty ∈ BX := List.mem_append_left _ (List.mem_of_getElem? (i := 560) rfl)
set_option maxRecDepth 100000 in
theorem bx_561 : Cond.methodLink RX11 107 yX9_takeNumber ∈ BX := List.mem_append_left _ (List.mem_of_getElem? (i := 561) rfl)
set_option maxRecDepth 100000 in
theorem bx_562 : Cond.instanceMethod yX9_takeNumber ∈ BX := List.mem_append_left _ (List.mem_of_getElem? (i := 562) rfl)
set_option maxRecDepth 100000 in
theorem bx_563 : Cond.selects RX9 yX9_takeNumber yX9_takeNumber ∈ BX := List.mem_append_left _ (List.mem_of_getElem? (i := 563) rfl)
set_option maxRecDepth 100000 in
theorem bx_564 : Cond.code yX11_need cX11_need 2 none ∈ BX := List.mem_append_left _ (List.mem_of_getElem? (i := 564) rfl)
set_option maxRecDepth 100000 in
theorem bx_565 : Cond.classLink RX11 380 "java/lang/IllegalArgumentException" ∈ BX := List.mem_append_left _ (List.mem_of_getElem? (i := 565) rfl)
set_option maxRecDepth 100000 in
theorem bx_566 : Cond.initialized "java/lang/IllegalArgumentException" ∈ BX := List.mem_append_left _ (List.mem_of_getElem? (i := 566) rfl)
set_option maxRecDepth 100000 in
theorem bx_567 : Cond.fieldLink RX11 374 "BorrowedStones" "wrongs" "I" ∈ BX := List.mem_append_left _ (List.mem_of_getElem? (i := 567) rfl)
set_option maxRecDepth 100000 in
theorem bx_568 : Cond.fieldLink RX11 140 "BorrowedStones" "refusedSteps" "I" ∈ BX := List.mem_append_left _ (List.mem_of_getElem? (i := 568) rfl)
set_option maxRecDepth 100000 in
theorem bx_569 : Cond.fieldLink RX11 143 "BorrowedStones$Land" "persons" "I" ∈ BX := List.mem_append_left _ (List.mem_of_getElem? (i := 569) rfl)
set_option maxRecDepth 100000 in
theorem bx_570 : Cond.methodLink RX11 115 yX11_need ∈ BX := List.mem_append_left _ (List.mem_of_getElem? (i := 570) rfl)
set_option maxRecDepth 100000 in
theorem bx_571 : Cond.instanceMethod yX11_need ∈ BX := List.mem_append_left _ (List.mem_of_getElem? (i := 571) rfl)
set_option maxRecDepth 100000 in
theorem bx_572 : Cond.selects RX11 yX11_need yX11_need ∈ BX := List.mem_append_left _ (List.mem_of_getElem? (i := 572) rfl)
set_option maxRecDepth 100000 in
theorem bx_573 : Cond.initialized RX11 ∈ BX := List.mem_append_left _ (List.mem_of_getElem? (i := 573) rfl)
set_option maxRecDepth 100000 in
theorem bx_574 : Cond.methodLink RX11 119 yX9_begin ∈ BX := List.mem_append_left _ (List.mem_of_getElem? (i := 574) rfl)
set_option maxRecDepth 100000 in
theorem bx_575 : Cond.instanceMethod yX9_begin ∈ BX := List.mem_append_left _ (List.mem_of_getElem? (i := 575) rfl)
set_option maxRecDepth 100000 in
theorem bx_576 : Cond.selects RX9 yX9_begin yX9_begin ∈ BX := List.mem_append_left _ (List.mem_of_getElem? (i := 576) rfl)
set_option maxRecDepth 100000 in
theorem bx_577 : Cond.methodLink RX11 121 yX1_readFrom ∈ BX := List.mem_append_left _ (List.mem_of_getElem? (i := 577) rfl)
set_option maxRecDepth 100000 in
theorem bx_578 : Cond.instanceMethod yX1_readFrom ∈ BX := List.mem_append_left _ (List.mem_of_getElem? (i := 578) rfl)
set_option maxRecDepth 100000 in
theorem bx_579 : Cond.selects RX1 yX1_readFrom yX1_readFrom ∈ BX := List.mem_append_left _ (List.mem_of_getElem? (i := 579) rfl)
set_option maxRecDepth 100000 in
theorem bx_580 : Cond.methodLink RX11 125 yX9_isSound ∈ BX := List.mem_append_left _ (List.mem_of_getElem? (i := 580) rfl)
set_option maxRecDepth 100000 in
theorem bx_581 : Cond.methodLink RX11 128 yX9_faultLessTen ∈ BX := List.mem_append_left _ (List.mem_of_getElem? (i := 581) rfl)
set_option maxRecDepth 100000 in
theorem bx_582 : Cond.instanceMethod yX9_faultLessTen ∈ BX := List.mem_append_left _ (List.mem_of_getElem? (i := 582) rfl)
set_option maxRecDepth 100000 in
theorem bx_583 : Cond.selects RX9 yX9_faultLessTen yX9_faultLessTen ∈ BX := List.mem_append_left _ (List.mem_of_getElem? (i := 583) rfl)
set_option maxRecDepth 100000 in
theorem bx_584 : Cond.methodLink RX11 132 yX1_take ∈ BX := List.mem_append_left _ (List.mem_of_getElem? (i := 584) rfl)
set_option maxRecDepth 100000 in
theorem bx_585 : Cond.instanceMethod yX1_take ∈ BX := List.mem_append_left _ (List.mem_of_getElem? (i := 585) rfl)
set_option maxRecDepth 100000 in
theorem bx_586 : Cond.selects RX1 yX1_take yX1_take ∈ BX := List.mem_append_left _ (List.mem_of_getElem? (i := 586) rfl)
set_option maxRecDepth 100000 in
theorem bx_587 : Cond.methodLink RX11 136 yX0_clear ∈ BX := List.mem_append_left _ (List.mem_of_getElem? (i := 587) rfl)
set_option maxRecDepth 100000 in
theorem bx_588 : Cond.methodLink RX11 139 yX5_clear ∈ BX := List.mem_append_left _ (List.mem_of_getElem? (i := 588) rfl)
set_option maxRecDepth 100000 in
theorem bx_589 : Cond.instanceMethod yX5_clear ∈ BX := List.mem_append_left _ (List.mem_of_getElem? (i := 589) rfl)
set_option maxRecDepth 100000 in
theorem bx_590 : Cond.selects RX5 yX5_clear yX5_clear ∈ BX := List.mem_append_left _ (List.mem_of_getElem? (i := 590) rfl)
set_option maxRecDepth 100000 in
theorem bx_591 : Cond.code yX11_peninsula cX11_peninsula 2 (some .int) ∈ BX := List.mem_append_left _ (List.mem_of_getElem? (i := 591) rfl)
set_option maxRecDepth 100000 in
theorem bx_592 : Cond.methodLink RX11 146 yX3_readFrom ∈ BX := List.mem_append_left _ (List.mem_of_getElem? (i := 592) rfl)
set_option maxRecDepth 100000 in
theorem bx_593 : Cond.instanceMethod yX3_readFrom ∈ BX := List.mem_append_left _ (List.mem_of_getElem? (i := 593) rfl)
set_option maxRecDepth 100000 in
theorem bx_594 : Cond.selects RX3 yX3_readFrom yX3_readFrom ∈ BX := List.mem_append_left _ (List.mem_of_getElem? (i := 594) rfl)
set_option maxRecDepth 100000 in
theorem bx_595 : Cond.methodLink RX11 149 yX2_take ∈ BX := List.mem_append_left _ (List.mem_of_getElem? (i := 595) rfl)
set_option maxRecDepth 100000 in
theorem bx_596 : Cond.instanceMethod yX2_take ∈ BX := List.mem_append_left _ (List.mem_of_getElem? (i := 596) rfl)
set_option maxRecDepth 100000 in
theorem bx_597 : Cond.selects RX2 yX2_take yX2_take ∈ BX := List.mem_append_left _ (List.mem_of_getElem? (i := 597) rfl)
set_option maxRecDepth 100000 in
theorem bx_598 : Cond.code yX11_law cX11_law 2 (some .int) ∈ BX := List.mem_append_left _ (List.mem_of_getElem? (i := 598) rfl)
set_option maxRecDepth 100000 in
theorem bx_599 : Cond.fieldLink RX11 165 "BorrowedStones$Steps" "refused" "I" ∈ BX := List.mem_append_left _ (List.mem_of_getElem? (i := 599) rfl)
set_option maxRecDepth 100000 in
theorem bx_600 : Cond.fieldLink RX11 168 "BorrowedStones$Steps" "done" "I" ∈ BX := List.mem_append_left _ (List.mem_of_getElem? (i := 600) rfl)
set_option maxRecDepth 100000 in
theorem bx_601 : Cond.methodLink RX11 152 yX5_isFull ∈ BX := List.mem_append_left _ (List.mem_of_getElem? (i := 601) rfl)
set_option maxRecDepth 100000 in
theorem bx_602 : Cond.instanceMethod yX5_isFull ∈ BX := List.mem_append_left _ (List.mem_of_getElem? (i := 602) rfl)
set_option maxRecDepth 100000 in
theorem bx_603 : Cond.selects RX5 yX5_isFull yX5_isFull ∈ BX := List.mem_append_left _ (List.mem_of_getElem? (i := 603) rfl)
set_option maxRecDepth 100000 in
theorem bx_604 : Cond.methodLink RX11 155 yX8_readFrom ∈ BX := List.mem_append_left _ (List.mem_of_getElem? (i := 604) rfl)
set_option maxRecDepth 100000 in
theorem bx_605 : Cond.instanceMethod yX8_readFrom ∈ BX := List.mem_append_left _ (List.mem_of_getElem? (i := 605) rfl)
set_option maxRecDepth 100000 in
theorem bx_606 : Cond.selects RX8 yX8_readFrom yX8_readFrom ∈ BX := List.mem_append_left _ (List.mem_of_getElem? (i := 606) rfl)
set_option maxRecDepth 100000 in
theorem bx_607 : Cond.methodLink RX11 158 yX5_keepWork ∈ BX := List.mem_append_left _ (List.mem_of_getElem? (i := 607) rfl)
set_option maxRecDepth 100000 in
theorem bx_608 : Cond.instanceMethod yX5_keepWork ∈ BX := List.mem_append_left _ (List.mem_of_getElem? (i := 608) rfl)
set_option maxRecDepth 100000 in
theorem bx_609 : Cond.selects RX5 yX5_keepWork yX5_keepWork ∈ BX := List.mem_append_left _ (List.mem_of_getElem? (i := 609) rfl)
set_option maxRecDepth 100000 in
theorem bx_610 : Cond.methodLink RX11 162 yX8_run ∈ BX := List.mem_append_left _ (List.mem_of_getElem? (i := 610) rfl)
set_option maxRecDepth 100000 in
theorem bx_611 : Cond.instanceMethod yX8_run ∈ BX := List.mem_append_left _ (List.mem_of_getElem? (i := 611) rfl)
set_option maxRecDepth 100000 in
theorem bx_612 : Cond.selects RX8 yX8_run yX8_run ∈ BX := List.mem_append_left _ (List.mem_of_getElem? (i := 612) rfl)
set_option maxRecDepth 100000 in
theorem bx_613 : Cond.code yX11_work cX11_work 2 (some .int) ∈ BX := List.mem_append_left _ (List.mem_of_getElem? (i := 613) rfl)
set_option maxRecDepth 100000 in
theorem bx_614 : Cond.fieldLink RX11 175 "BorrowedStones$Book" "lines" "I" ∈ BX := List.mem_append_left _ (List.mem_of_getElem? (i := 614) rfl)
set_option maxRecDepth 100000 in
theorem bx_615 : Cond.methodLink RX11 171 yX0_readFrom ∈ BX := List.mem_append_left _ (List.mem_of_getElem? (i := 615) rfl)
set_option maxRecDepth 100000 in
theorem bx_616 : Cond.instanceMethod yX0_readFrom ∈ BX := List.mem_append_left _ (List.mem_of_getElem? (i := 616) rfl)
set_option maxRecDepth 100000 in
theorem bx_617 : Cond.selects RX0 yX0_readFrom yX0_readFrom ∈ BX := List.mem_append_left _ (List.mem_of_getElem? (i := 617) rfl)
set_option maxRecDepth 100000 in
theorem bx_618 : Cond.methodLink RX11 172 yX0_take ∈ BX := List.mem_append_left _ (List.mem_of_getElem? (i := 618) rfl)
set_option maxRecDepth 100000 in
theorem bx_619 : Cond.instanceMethod yX0_take ∈ BX := List.mem_append_left _ (List.mem_of_getElem? (i := 619) rfl)
set_option maxRecDepth 100000 in
theorem bx_620 : Cond.selects RX0 yX0_take yX0_take ∈ BX := List.mem_append_left _ (List.mem_of_getElem? (i := 620) rfl)
set_option maxRecDepth 100000 in
theorem bx_621 : Cond.code yX11_book cX11_book 2 (some .int) ∈ BX := List.mem_append_left _ (List.mem_of_getElem? (i := 621) rfl)
set_option maxRecDepth 100000 in
theorem bx_622 : Cond.code yX11_fault cX11_fault 1 (some .int) ∈ BX := List.mem_append_left _ (List.mem_of_getElem? (i := 622) rfl)
set_option maxRecDepth 100000 in
theorem bx_623 : Cond.fieldLink RX11 178 "BorrowedStones$Text" "faultPlace" "I" ∈ BX := List.mem_append_left _ (List.mem_of_getElem? (i := 623) rfl)
set_option maxRecDepth 100000 in
theorem bx_624 : Cond.fieldLink RX11 181 "BorrowedStones$Past" "works" "I" ∈ BX := List.mem_append_left _ (List.mem_of_getElem? (i := 624) rfl)
set_option maxRecDepth 100000 in
theorem bx_625 : Cond.methodLink RX11 184 yX5_undoWork ∈ BX := List.mem_append_left _ (List.mem_of_getElem? (i := 625) rfl)
set_option maxRecDepth 100000 in
theorem bx_626 : Cond.instanceMethod yX5_undoWork ∈ BX := List.mem_append_left _ (List.mem_of_getElem? (i := 626) rfl)
set_option maxRecDepth 100000 in
theorem bx_627 : Cond.selects RX5 yX5_undoWork yX5_undoWork ∈ BX := List.mem_append_left _ (List.mem_of_getElem? (i := 627) rfl)
set_option maxRecDepth 100000 in
theorem bx_628 : Cond.code yX11_undo cX11_undo 1 (some .int) ∈ BX := List.mem_append_left _ (List.mem_of_getElem? (i := 628) rfl)
set_option maxRecDepth 100000 in
theorem bx_629 : Cond.fieldLink RX11 193 "BorrowedStones$State" "year" "I" ∈ BX := List.mem_append_left _ (List.mem_of_getElem? (i := 629) rfl)
set_option maxRecDepth 100000 in
theorem bx_630 : Cond.fieldLink RX11 208 "BorrowedStones$Land" "most" "I" ∈ BX := List.mem_append_left _ (List.mem_of_getElem? (i := 630) rfl)
set_option maxRecDepth 100000 in
theorem bx_631 : Cond.methodLink RX11 187 yX7_living ∈ BX := List.mem_append_left _ (List.mem_of_getElem? (i := 631) rfl)
set_option maxRecDepth 100000 in
theorem bx_632 : Cond.methodLink RX11 190 yX7_nameless ∈ BX := List.mem_append_left _ (List.mem_of_getElem? (i := 632) rfl)
set_option maxRecDepth 100000 in
theorem bx_633 : Cond.methodLink RX11 196 yX7_named ∈ BX := List.mem_append_left _ (List.mem_of_getElem? (i := 633) rfl)
set_option maxRecDepth 100000 in
theorem bx_634 : Cond.instanceMethod yX7_named ∈ BX := List.mem_append_left _ (List.mem_of_getElem? (i := 634) rfl)
set_option maxRecDepth 100000 in
theorem bx_635 : Cond.selects RX7 yX7_named yX7_named ∈ BX := List.mem_append_left _ (List.mem_of_getElem? (i := 635) rfl)
set_option maxRecDepth 100000 in
theorem bx_636 : Cond.methodLink RX11 199 yX7_allDebts ∈ BX := List.mem_append_left _ (List.mem_of_getElem? (i := 636) rfl)
set_option maxRecDepth 100000 in
theorem bx_637 : Cond.instanceMethod yX7_allDebts ∈ BX := List.mem_append_left _ (List.mem_of_getElem? (i := 637) rfl)
set_option maxRecDepth 100000 in
theorem bx_638 : Cond.selects RX7 yX7_allDebts yX7_allDebts ∈ BX := List.mem_append_left _ (List.mem_of_getElem? (i := 638) rfl)
set_option maxRecDepth 100000 in
theorem bx_639 : Cond.methodLink RX11 202 yX7_debtsOfDead ∈ BX := List.mem_append_left _ (List.mem_of_getElem? (i := 639) rfl)
set_option maxRecDepth 100000 in
theorem bx_640 : Cond.instanceMethod yX7_debtsOfDead ∈ BX := List.mem_append_left _ (List.mem_of_getElem? (i := 640) rfl)
set_option maxRecDepth 100000 in
theorem bx_641 : Cond.selects RX7 yX7_debtsOfDead yX7_debtsOfDead ∈ BX := List.mem_append_left _ (List.mem_of_getElem? (i := 641) rfl)
set_option maxRecDepth 100000 in
theorem bx_642 : Cond.methodLink RX11 205 yX7_heirs ∈ BX := List.mem_append_left _ (List.mem_of_getElem? (i := 642) rfl)
set_option maxRecDepth 100000 in
theorem bx_643 : Cond.instanceMethod yX7_heirs ∈ BX := List.mem_append_left _ (List.mem_of_getElem? (i := 643) rfl)
set_option maxRecDepth 100000 in
theorem bx_644 : Cond.selects RX7 yX7_heirs yX7_heirs ∈ BX := List.mem_append_left _ (List.mem_of_getElem? (i := 644) rfl)
set_option maxRecDepth 100000 in
theorem bx_645 : Cond.methodLink RX11 211 yX7_longestChain ∈ BX := List.mem_append_left _ (List.mem_of_getElem? (i := 645) rfl)
set_option maxRecDepth 100000 in
theorem bx_646 : Cond.instanceMethod yX7_longestChain ∈ BX := List.mem_append_left _ (List.mem_of_getElem? (i := 646) rfl)
set_option maxRecDepth 100000 in
theorem bx_647 : Cond.selects RX7 yX7_longestChain yX7_longestChain ∈ BX := List.mem_append_left _ (List.mem_of_getElem? (i := 647) rfl)
set_option maxRecDepth 100000 in
theorem bx_648 : Cond.code yX11_told cX11_told 2 (some .int) ∈ BX := List.mem_append_left _ (List.mem_of_getElem? (i := 648) rfl)
set_option maxRecDepth 100000 in
theorem bx_649 : Cond.code yX11_needPerson cX11_needPerson 2 none ∈ BX := List.mem_append_left _ (List.mem_of_getElem? (i := 649) rfl)
set_option maxRecDepth 100000 in
theorem bx_650 : Cond.classLink RX11 377 "java/util/NoSuchElementException" ∈ BX := List.mem_append_left _ (List.mem_of_getElem? (i := 650) rfl)
set_option maxRecDepth 100000 in
theorem bx_651 : Cond.initialized "java/util/NoSuchElementException" ∈ BX := List.mem_append_left _ (List.mem_of_getElem? (i := 651) rfl)
set_option maxRecDepth 100000 in
theorem bx_652 : Cond.fieldLink RX11 371 "BorrowedStones" "strangers" "I" ∈ BX := List.mem_append_left _ (List.mem_of_getElem? (i := 652) rfl)
set_option maxRecDepth 100000 in
theorem bx_653 : Cond.fieldLink RX11 217 "BorrowedStones$Land" "kinds" "[I" ∈ BX := List.mem_append_left _ (List.mem_of_getElem? (i := 653) rfl)
set_option maxRecDepth 100000 in
theorem bx_654 : Cond.fieldLink RX11 227 "BorrowedStones$State" "debts" "[I" ∈ BX := List.mem_append_left _ (List.mem_of_getElem? (i := 654) rfl)
set_option maxRecDepth 100000 in
theorem bx_655 : Cond.fieldLink RX11 234 "BorrowedStones$State" "under" "[I" ∈ BX := List.mem_append_left _ (List.mem_of_getElem? (i := 655) rfl)
set_option maxRecDepth 100000 in
theorem bx_656 : Cond.fieldLink RX11 244 "BorrowedStones$Land" "friends" "[I" ∈ BX := List.mem_append_left _ (List.mem_of_getElem? (i := 656) rfl)
set_option maxRecDepth 100000 in
theorem bx_657 : Cond.fieldLink RX11 247 "BorrowedStones$State" "died" "[I" ∈ BX := List.mem_append_left _ (List.mem_of_getElem? (i := 657) rfl)
set_option maxRecDepth 100000 in
theorem bx_658 : Cond.methodLink RX11 214 yX11_needPerson ∈ BX := List.mem_append_left _ (List.mem_of_getElem? (i := 658) rfl)
set_option maxRecDepth 100000 in
theorem bx_659 : Cond.instanceMethod yX11_needPerson ∈ BX := List.mem_append_left _ (List.mem_of_getElem? (i := 659) rfl)
set_option maxRecDepth 100000 in
theorem bx_660 : Cond.selects RX11 yX11_needPerson yX11_needPerson ∈ BX := List.mem_append_left _ (List.mem_of_getElem? (i := 660) rfl)
set_option maxRecDepth 100000 in
theorem bx_661 : Cond.methodLink RX11 221 yX6_at ∈ BX := List.mem_append_left _ (List.mem_of_getElem? (i := 661) rfl)
set_option maxRecDepth 100000 in
theorem bx_662 : Cond.methodLink RX11 230 yX7_lives ∈ BX := List.mem_append_left _ (List.mem_of_getElem? (i := 662) rfl)
set_option maxRecDepth 100000 in
theorem bx_663 : Cond.methodLink RX11 237 yX7_stonesOf ∈ BX := List.mem_append_left _ (List.mem_of_getElem? (i := 663) rfl)
set_option maxRecDepth 100000 in
theorem bx_664 : Cond.methodLink RX11 241 yX7_directlyUnder ∈ BX := List.mem_append_left _ (List.mem_of_getElem? (i := 664) rfl)
set_option maxRecDepth 100000 in
theorem bx_665 : Cond.instanceMethod yX7_directlyUnder ∈ BX := List.mem_append_left _ (List.mem_of_getElem? (i := 665) rfl)
set_option maxRecDepth 100000 in
theorem bx_666 : Cond.selects RX7 yX7_directlyUnder yX7_directlyUnder ∈ BX := List.mem_append_left _ (List.mem_of_getElem? (i := 666) rfl)
set_option maxRecDepth 100000 in
theorem bx_667 : Cond.code yX11_person cX11_person 3 (some .int) ∈ BX := List.mem_append_left _ (List.mem_of_getElem? (i := 667) rfl)
set_option maxRecDepth 100000 in
theorem bx_668 : Cond.methodLink RX11 250 yX7_willOf ∈ BX := List.mem_append_left _ (List.mem_of_getElem? (i := 668) rfl)
set_option maxRecDepth 100000 in
theorem bx_669 : Cond.code yX11_will cX11_will 3 (some .int) ∈ BX := List.mem_append_left _ (List.mem_of_getElem? (i := 669) rfl)
set_option maxRecDepth 100000 in
theorem bx_670 : Cond.methodLink RX11 254 yX7_lendsTo ∈ BX := List.mem_append_left _ (List.mem_of_getElem? (i := 670) rfl)
set_option maxRecDepth 100000 in
theorem bx_671 : Cond.code yX11_lends cX11_lends 3 (some .boolean) ∈ BX := List.mem_append_left _ (List.mem_of_getElem? (i := 671) rfl)
set_option maxRecDepth 100000 in
theorem bx_672 : Cond.fieldLink RX11 258 "BorrowedStones$Law" "facts" "[I" ∈ BX := List.mem_append_left _ (List.mem_of_getElem? (i := 672) rfl)
set_option maxRecDepth 100000 in
theorem bx_673 : Cond.methodLink RX11 261 yX6_put ∈ BX := List.mem_append_left _ (List.mem_of_getElem? (i := 673) rfl)
set_option maxRecDepth 100000 in
theorem bx_674 : Cond.methodLink RX11 265 yX2_answer ∈ BX := List.mem_append_left _ (List.mem_of_getElem? (i := 674) rfl)
set_option maxRecDepth 100000 in
theorem bx_675 : Cond.code yX11_would cX11_would 9 (some .int) ∈ BX := List.mem_append_left _ (List.mem_of_getElem? (i := 675) rfl)
set_option maxRecDepth 100000 in
theorem bx_676 : Cond.methodLink RX11 268 yX7_heirOf ∈ BX := List.mem_append_left _ (List.mem_of_getElem? (i := 676) rfl)
set_option maxRecDepth 100000 in
theorem bx_677 : Cond.code yX11_lender cX11_lender 2 (some .int) ∈ BX := List.mem_append_left _ (List.mem_of_getElem? (i := 677) rfl)
set_option maxRecDepth 100000 in
theorem bx_678 : Cond.methodLink RX11 271 yX7_take ∈ BX := List.mem_append_left _ (List.mem_of_getElem? (i := 678) rfl)
set_option maxRecDepth 100000 in
theorem bx_679 : Cond.instanceMethod yX7_take ∈ BX := List.mem_append_left _ (List.mem_of_getElem? (i := 679) rfl)
set_option maxRecDepth 100000 in
theorem bx_680 : Cond.selects RX7 yX7_take yX7_take ∈ BX := List.mem_append_left _ (List.mem_of_getElem? (i := 680) rfl)
set_option maxRecDepth 100000 in
theorem bx_681 : Cond.methodLink RX11 273 yX7_passYear ∈ BX := List.mem_append_left _ (List.mem_of_getElem? (i := 681) rfl)
set_option maxRecDepth 100000 in
theorem bx_682 : Cond.methodLink RX11 276 yX7_heired ∈ BX := List.mem_append_left _ (List.mem_of_getElem? (i := 682) rfl)
set_option maxRecDepth 100000 in
theorem bx_683 : Cond.instanceMethod yX7_heired ∈ BX := List.mem_append_left _ (List.mem_of_getElem? (i := 683) rfl)
set_option maxRecDepth 100000 in
theorem bx_684 : Cond.selects RX7 yX7_heired yX7_heired ∈ BX := List.mem_append_left _ (List.mem_of_getElem? (i := 684) rfl)
set_option maxRecDepth 100000 in
theorem bx_685 : Cond.methodLink RX11 279 yX7_mostInDebt ∈ BX := List.mem_append_left _ (List.mem_of_getElem? (i := 685) rfl)
set_option maxRecDepth 100000 in
theorem bx_686 : Cond.instanceMethod yX7_mostInDebt ∈ BX := List.mem_append_left _ (List.mem_of_getElem? (i := 686) rfl)
set_option maxRecDepth 100000 in
theorem bx_687 : Cond.selects RX7 yX7_mostInDebt yX7_mostInDebt ∈ BX := List.mem_append_left _ (List.mem_of_getElem? (i := 687) rfl)
set_option maxRecDepth 100000 in
theorem bx_688 : Cond.code yX11_ahead cX11_ahead 4 (some .int) ∈ BX := List.mem_append_left _ (List.mem_of_getElem? (i := 688) rfl)
set_option maxRecDepth 100000 in
theorem bx_689 : Cond.methodLink RX11 282 yX7_trueName ∈ BX := List.mem_append_left _ (List.mem_of_getElem? (i := 689) rfl)
set_option maxRecDepth 100000 in
theorem bx_690 : Cond.instanceMethod yX7_trueName ∈ BX := List.mem_append_left _ (List.mem_of_getElem? (i := 690) rfl)
set_option maxRecDepth 100000 in
theorem bx_691 : Cond.selects RX7 yX7_trueName yX7_trueName ∈ BX := List.mem_append_left _ (List.mem_of_getElem? (i := 691) rfl)
set_option maxRecDepth 100000 in
theorem bx_692 : Cond.code yX11_truly cX11_truly 2 (some .int) ∈ BX := List.mem_append_left _ (List.mem_of_getElem? (i := 692) rfl)
set_option maxRecDepth 100000 in
theorem bx_693 : Cond.code yX11_chain cX11_chain 2 (some .int) ∈ BX := List.mem_append_left _ (List.mem_of_getElem? (i := 693) rfl)
set_option maxRecDepth 100000 in
theorem bx_694 : Cond.methodLink RX11 285 yX7_chainLength ∈ BX := List.mem_append_left _ (List.mem_of_getElem? (i := 694) rfl)
set_option maxRecDepth 100000 in
theorem bx_695 : Cond.code yX11_areTold cX11_areTold 2 (some .boolean) ∈ BX := List.mem_append_left _ (List.mem_of_getElem? (i := 695) rfl)
set_option maxRecDepth 100000 in
theorem bx_696 : Cond.fieldLink RX11 295 "BorrowedStones$Ways" "bestServed" "I" ∈ BX := List.mem_append_left _ (List.mem_of_getElem? (i := 696) rfl)
set_option maxRecDepth 100000 in
theorem bx_697 : Cond.fieldLink RX11 298 "BorrowedStones$Ways" "bestWills" "I" ∈ BX := List.mem_append_left _ (List.mem_of_getElem? (i := 697) rfl)
set_option maxRecDepth 100000 in
theorem bx_698 : Cond.methodLink RX11 288 yX11_areTold ∈ BX := List.mem_append_left _ (List.mem_of_getElem? (i := 698) rfl)
set_option maxRecDepth 100000 in
theorem bx_699 : Cond.instanceMethod yX11_areTold ∈ BX := List.mem_append_left _ (List.mem_of_getElem? (i := 699) rfl)
set_option maxRecDepth 100000 in
theorem bx_700 : Cond.selects RX11 yX11_areTold yX11_areTold ∈ BX := List.mem_append_left _ (List.mem_of_getElem? (i := 700) rfl)
set_option maxRecDepth 100000 in
theorem bx_701 : Cond.methodLink RX11 291 yX10_search ∈ BX := List.mem_append_left _ (List.mem_of_getElem? (i := 701) rfl)
set_option maxRecDepth 100000 in
theorem bx_702 : Cond.instanceMethod yX10_search ∈ BX := List.mem_append_left _ (List.mem_of_getElem? (i := 702) rfl)
set_option maxRecDepth 100000 in
theorem bx_703 : Cond.selects RX10 yX10_search yX10_search ∈ BX := List.mem_append_left _ (List.mem_of_getElem? (i := 703) rfl)
set_option maxRecDepth 100000 in
theorem bx_704 : Cond.code yX11_served cX11_served 3 (some .int) ∈ BX := List.mem_append_left _ (List.mem_of_getElem? (i := 704) rfl)
set_option maxRecDepth 100000 in
theorem bx_705 : Cond.methodLink RX11 301 yX10_lenderOf ∈ BX := List.mem_append_left _ (List.mem_of_getElem? (i := 705) rfl)
set_option maxRecDepth 100000 in
theorem bx_706 : Cond.instanceMethod yX10_lenderOf ∈ BX := List.mem_append_left _ (List.mem_of_getElem? (i := 706) rfl)
set_option maxRecDepth 100000 in
theorem bx_707 : Cond.selects RX10 yX10_lenderOf yX10_lenderOf ∈ BX := List.mem_append_left _ (List.mem_of_getElem? (i := 707) rfl)
set_option maxRecDepth 100000 in
theorem bx_708 : Cond.code yX11_giver cX11_giver 3 (some .int) ∈ BX := List.mem_append_left _ (List.mem_of_getElem? (i := 708) rfl)
set_option maxRecDepth 100000 in
theorem bx_709 : Cond.methodLink RX11 383 yX4_gather ∈ BX := List.mem_append_left _ (List.mem_of_getElem? (i := 709) rfl)
set_option maxRecDepth 100000 in
theorem bx_710 : Cond.instanceMethod yX4_gather ∈ BX := List.mem_append_left _ (List.mem_of_getElem? (i := 710) rfl)
set_option maxRecDepth 100000 in
theorem bx_711 : Cond.selects RX4 yX4_gather yX4_gather ∈ BX := List.mem_append_left _ (List.mem_of_getElem? (i := 711) rfl)
set_option maxRecDepth 100000 in
theorem bx_712 : Cond.code yX11_needOrders cX11_needOrders 3 none ∈ BX := List.mem_append_left _ (List.mem_of_getElem? (i := 712) rfl)
set_option maxRecDepth 100000 in
theorem bx_713 : Cond.fieldLink RX11 390 "BorrowedStones$Orders" "many" "I" ∈ BX := List.mem_append_left _ (List.mem_of_getElem? (i := 713) rfl)
set_option maxRecDepth 100000 in
theorem bx_714 : Cond.fieldLink RX11 393 "BorrowedStones$Orders" "line" "[I" ∈ BX := List.mem_append_left _ (List.mem_of_getElem? (i := 714) rfl)
set_option maxRecDepth 100000 in
theorem bx_715 : Cond.methodLink RX11 387 yX4_forget ∈ BX := List.mem_append_left _ (List.mem_of_getElem? (i := 715) rfl)
set_option maxRecDepth 100000 in
theorem bx_716 : Cond.instanceMethod yX4_forget ∈ BX := List.mem_append_left _ (List.mem_of_getElem? (i := 716) rfl)
set_option maxRecDepth 100000 in
theorem bx_717 : Cond.selects RX4 yX4_forget yX4_forget ∈ BX := List.mem_append_left _ (List.mem_of_getElem? (i := 717) rfl)
set_option maxRecDepth 100000 in
theorem bx_718 : Cond.methodLink RX11 396 yX7_does ∈ BX := List.mem_append_left _ (List.mem_of_getElem? (i := 718) rfl)
set_option maxRecDepth 100000 in
theorem bx_719 : Cond.methodLink RX11 400 yX0_isRightFor ∈ BX := List.mem_append_left _ (List.mem_of_getElem? (i := 719) rfl)
set_option maxRecDepth 100000 in
theorem bx_720 : Cond.instanceMethod yX0_isRightFor ∈ BX := List.mem_append_left _ (List.mem_of_getElem? (i := 720) rfl)
set_option maxRecDepth 100000 in
theorem bx_721 : Cond.selects RX0 yX0_isRightFor yX0_isRightFor ∈ BX := List.mem_append_left _ (List.mem_of_getElem? (i := 721) rfl)
set_option maxRecDepth 100000 in
theorem bx_722 : Cond.methodLink RX11 404 yX4_note ∈ BX := List.mem_append_left _ (List.mem_of_getElem? (i := 722) rfl)
set_option maxRecDepth 100000 in
theorem bx_723 : Cond.instanceMethod yX4_note ∈ BX := List.mem_append_left _ (List.mem_of_getElem? (i := 723) rfl)
set_option maxRecDepth 100000 in
theorem bx_724 : Cond.selects RX4 yX4_note yX4_note ∈ BX := List.mem_append_left _ (List.mem_of_getElem? (i := 724) rfl)
set_option maxRecDepth 100000 in
theorem bx_725 : Cond.methodLink RX11 408 yX4_step ∈ BX := List.mem_append_left _ (List.mem_of_getElem? (i := 725) rfl)
set_option maxRecDepth 100000 in
theorem bx_726 : Cond.instanceMethod yX4_step ∈ BX := List.mem_append_left _ (List.mem_of_getElem? (i := 726) rfl)
set_option maxRecDepth 100000 in
theorem bx_727 : Cond.selects RX4 yX4_step yX4_step ∈ BX := List.mem_append_left _ (List.mem_of_getElem? (i := 727) rfl)
set_option maxRecDepth 100000 in
theorem bx_728 : Cond.code yX11_tryOrders cX11_tryOrders 4 none ∈ BX := List.mem_append_left _ (List.mem_of_getElem? (i := 728) rfl)
set_option maxRecDepth 100000 in
theorem bx_729 : Cond.fieldLink RX11 311 "BorrowedStones$Orders" "fewest" "I" ∈ BX := List.mem_append_left _ (List.mem_of_getElem? (i := 729) rfl)
set_option maxRecDepth 100000 in
theorem bx_730 : Cond.fieldLink RX11 319 "BorrowedStones$Orders" "firstBest" "I" ∈ BX := List.mem_append_left _ (List.mem_of_getElem? (i := 730) rfl)
set_option maxRecDepth 100000 in
theorem bx_731 : Cond.methodLink RX11 304 yX11_needOrders ∈ BX := List.mem_append_left _ (List.mem_of_getElem? (i := 731) rfl)
set_option maxRecDepth 100000 in
theorem bx_732 : Cond.instanceMethod yX11_needOrders ∈ BX := List.mem_append_left _ (List.mem_of_getElem? (i := 732) rfl)
set_option maxRecDepth 100000 in
theorem bx_733 : Cond.selects RX11 yX11_needOrders yX11_needOrders ∈ BX := List.mem_append_left _ (List.mem_of_getElem? (i := 733) rfl)
set_option maxRecDepth 100000 in
theorem bx_734 : Cond.methodLink RX11 308 yX11_tryOrders ∈ BX := List.mem_append_left _ (List.mem_of_getElem? (i := 734) rfl)
set_option maxRecDepth 100000 in
theorem bx_735 : Cond.instanceMethod yX11_tryOrders ∈ BX := List.mem_append_left _ (List.mem_of_getElem? (i := 735) rfl)
set_option maxRecDepth 100000 in
theorem bx_736 : Cond.selects RX11 yX11_tryOrders yX11_tryOrders ∈ BX := List.mem_append_left _ (List.mem_of_getElem? (i := 736) rfl)
set_option maxRecDepth 100000 in
theorem bx_737 : Cond.methodLink RX11 314 yJ6_bitCount_0f7a4 ∈ BX := List.mem_append_left _ (List.mem_of_getElem? (i := 737) rfl)
set_option maxRecDepth 100000 in
theorem bx_738 : Cond.code yX11_order cX11_order 3 (some .int) ∈ BX := List.mem_append_left _ (List.mem_of_getElem? (i := 738) rfl)
set_option maxRecDepth 100000 in
theorem bx_739 : Cond.fieldLink RX11 322 "BorrowedStones$Orders" "fitting" "I" ∈ BX := List.mem_append_left _ (List.mem_of_getElem? (i := 739) rfl)
set_option maxRecDepth 100000 in
theorem bx_740 : Cond.fieldLink RX11 325 "BorrowedStones$Orders" "firstFitting" "I" ∈ BX := List.mem_append_left _ (List.mem_of_getElem? (i := 740) rfl)
set_option maxRecDepth 100000 in
theorem bx_741 : Cond.code yX11_fits cX11_fits 3 (some .int) ∈ BX := List.mem_append_left _ (List.mem_of_getElem? (i := 741) rfl)
set_option maxRecDepth 100000 in
theorem bx_742 : Cond.methodLink RX11 328 yX0_tellsOf ∈ BX := List.mem_append_left _ (List.mem_of_getElem? (i := 742) rfl)
set_option maxRecDepth 100000 in
theorem bx_743 : Cond.methodLink RX11 331 yX4_mostAlike ∈ BX := List.mem_append_left _ (List.mem_of_getElem? (i := 743) rfl)
set_option maxRecDepth 100000 in
theorem bx_744 : Cond.instanceMethod yX4_mostAlike ∈ BX := List.mem_append_left _ (List.mem_of_getElem? (i := 744) rfl)
set_option maxRecDepth 100000 in
theorem bx_745 : Cond.selects RX4 yX4_mostAlike yX4_mostAlike ∈ BX := List.mem_append_left _ (List.mem_of_getElem? (i := 745) rfl)
set_option maxRecDepth 100000 in
theorem bx_746 : Cond.code yX11_look cX11_look 7 (some .int) ∈ BX := List.mem_append_left _ (List.mem_of_getElem? (i := 746) rfl)
set_option maxRecDepth 100000 in
theorem bx_747 : Cond.code yX11_gain cX11_gain 4 (some .int) ∈ BX := List.mem_append_left _ (List.mem_of_getElem? (i := 747) rfl)
set_option maxRecDepth 100000 in
theorem bx_748 : Cond.code yX11_neighbours cX11_neighbours 12 (some .int) ∈ BX := List.mem_append_left _ (List.mem_of_getElem? (i := 748) rfl)
set_option maxRecDepth 100000 in
theorem bx_749 : Cond.methodLink RX11 334 yX11_gain ∈ BX := List.mem_append_left _ (List.mem_of_getElem? (i := 749) rfl)
set_option maxRecDepth 100000 in
theorem bx_750 : Cond.static yX11_gain ∈ BX := List.mem_append_left _ (List.mem_of_getElem? (i := 750) rfl)
set_option maxRecDepth 100000 in
theorem bx_751 : Cond.code yX11_weighNames cX11_weighNames 7 none ∈ BX := List.mem_append_left _ (List.mem_of_getElem? (i := 751) rfl)
set_option maxRecDepth 100000 in
theorem bx_752 : Cond.code yX11_home cX11_home 10 (some .long) ∈ BX := List.mem_append_left _ (List.mem_of_getElem? (i := 752) rfl)
set_option maxRecDepth 100000 in
theorem bx_753 : Cond.methodLink RX11 338 yX11_weighNames ∈ BX := List.mem_append_left _ (List.mem_of_getElem? (i := 753) rfl)
set_option maxRecDepth 100000 in
theorem bx_754 : Cond.instanceMethod yX11_weighNames ∈ BX := List.mem_append_left _ (List.mem_of_getElem? (i := 754) rfl)
set_option maxRecDepth 100000 in
theorem bx_755 : Cond.selects RX11 yX11_weighNames yX11_weighNames ∈ BX := List.mem_append_left _ (List.mem_of_getElem? (i := 755) rfl)
set_option maxRecDepth 100000 in
theorem bx_756 : Cond.methodLink RX11 344 Lib.Math.min.name ∈ BX := List.mem_append_left _ (List.mem_of_getElem? (i := 756) rfl)
set_option maxRecDepth 100000 in
theorem bx_757 : Cond.methodLink RX11 341 yX7_stonesUpTo ∈ BX := List.mem_append_left _ (List.mem_of_getElem? (i := 757) rfl)
set_option maxRecDepth 100000 in
theorem bx_758 : Cond.instanceMethod yX7_stonesUpTo ∈ BX := List.mem_append_left _ (List.mem_of_getElem? (i := 758) rfl)
set_option maxRecDepth 100000 in
theorem bx_759 : Cond.selects RX7 yX7_stonesUpTo yX7_stonesUpTo ∈ BX := List.mem_append_left _ (List.mem_of_getElem? (i := 759) rfl)
set_option maxRecDepth 100000 in
theorem bx_760 : Cond.code yX11_flowers cX11_flowers 5 (some .int) ∈ BX := List.mem_append_left _ (List.mem_of_getElem? (i := 760) rfl)
set_option maxRecDepth 100000 in
theorem bx_761 : Cond.code yX11_honoured cX11_honoured 6 (some .int) ∈ BX := List.mem_append_left _ (List.mem_of_getElem? (i := 761) rfl)
set_option maxRecDepth 100000 in
theorem bx_762 : Cond.code yX11_sued cX11_sued 4 (some .int) ∈ BX := List.mem_append_left _ (List.mem_of_getElem? (i := 762) rfl)
set_option maxRecDepth 100000 in
theorem bx_763 : Cond.methodLink RX11 349 yX1_areFriends ∈ BX := List.mem_append_left _ (List.mem_of_getElem? (i := 763) rfl)
set_option maxRecDepth 100000 in
theorem bx_764 : Cond.methodLink RX11 352 yX7_hasRoom ∈ BX := List.mem_append_left _ (List.mem_of_getElem? (i := 764) rfl)
set_option maxRecDepth 100000 in
theorem bx_765 : Cond.code yX11_free cX11_free 4 (some .int) ∈ BX := List.mem_append_left _ (List.mem_of_getElem? (i := 765) rfl)
set_option maxRecDepth 100000 in
theorem bx_766 : Cond.code yX11_kin cX11_kin 5 (some .int) ∈ BX := List.mem_append_left _ (List.mem_of_getElem? (i := 766) rfl)
set_option maxRecDepth 100000 in
theorem bx_767 : Cond.code yX11_willing cX11_willing 4 (some .int) ∈ BX := List.mem_append_left _ (List.mem_of_getElem? (i := 767) rfl)
set_option maxRecDepth 100000 in
theorem bx_768 : Cond.code yX11_below cX11_below 5 (some .int) ∈ BX := List.mem_append_left _ (List.mem_of_getElem? (i := 768) rfl)
set_option maxRecDepth 100000 in
theorem bx_769 : Cond.code yX11_debtless cX11_debtless 3 (some .int) ∈ BX := List.mem_append_left _ (List.mem_of_getElem? (i := 769) rfl)
set_option maxRecDepth 100000 in
theorem bx_770 : Cond.code yX11_after cX11_after 4 (some .int) ∈ BX := List.mem_append_left _ (List.mem_of_getElem? (i := 770) rfl)
set_option maxRecDepth 100000 in
theorem bx_771 : Cond.code yX11_latest cX11_latest 5 (some .int) ∈ BX := List.mem_append_left _ (List.mem_of_getElem? (i := 771) rfl)
set_option maxRecDepth 100000 in
theorem bx_772 : Cond.code yX11_drawn cX11_drawn 3 (some .int) ∈ BX := List.mem_append_left _ (List.mem_of_getElem? (i := 772) rfl)
set_option maxRecDepth 100000 in
theorem bx_773 : Cond.fieldLink RX11 411 "BorrowedStones" "drawing" "I" ∈ BX := List.mem_append_left _ (List.mem_of_getElem? (i := 773) rfl)
set_option maxRecDepth 100000 in
theorem bx_774 : Cond.constant RX11 417 (1103515245) ∈ BX := List.mem_append_left _ (List.mem_of_getElem? (i := 774) rfl)
set_option maxRecDepth 100000 in
theorem bx_775 : Cond.methodLink RX11 414 yX11_drawn ∈ BX := List.mem_append_left _ (List.mem_of_getElem? (i := 775) rfl)
set_option maxRecDepth 100000 in
theorem bx_776 : Cond.instanceMethod yX11_drawn ∈ BX := List.mem_append_left _ (List.mem_of_getElem? (i := 776) rfl)
set_option maxRecDepth 100000 in
theorem bx_777 : Cond.selects RX11 yX11_drawn yX11_drawn ∈ BX := List.mem_append_left _ (List.mem_of_getElem? (i := 777) rfl)
set_option maxRecDepth 100000 in
theorem bx_778 : Cond.code yX11_passCentury cX11_passCentury 7 none ∈ BX := List.mem_append_left _ (List.mem_of_getElem? (i := 778) rfl)
set_option maxRecDepth 100000 in
theorem bx_779 : Cond.methodLink RX11 355 yX11_passCentury ∈ BX := List.mem_append_left _ (List.mem_of_getElem? (i := 779) rfl)
set_option maxRecDepth 100000 in
theorem bx_780 : Cond.instanceMethod yX11_passCentury ∈ BX := List.mem_append_left _ (List.mem_of_getElem? (i := 780) rfl)
set_option maxRecDepth 100000 in
theorem bx_781 : Cond.selects RX11 yX11_passCentury yX11_passCentury ∈ BX := List.mem_append_left _ (List.mem_of_getElem? (i := 781) rfl)
set_option maxRecDepth 100000 in
theorem bx_782 : Cond.code yX11_century cX11_century 5 (some .int) ∈ BX := List.mem_append_left _ (List.mem_of_getElem? (i := 782) rfl)
set_option maxRecDepth 100000 in
theorem bx_783 : Cond.methodLink RX11 359 Lib.Math.max.name ∈ BX := List.mem_append_left _ (List.mem_of_getElem? (i := 783) rfl)
set_option maxRecDepth 100000 in
theorem bx_784 : Cond.code yX11_span cX11_span 12 (some .int) ∈ BX := List.mem_append_left _ (List.mem_of_getElem? (i := 784) rfl)
set_option maxRecDepth 100000 in
theorem bx_785 : Cond.fieldLink RX11 362 "BorrowedStones$Past" "images" "I" ∈ BX := List.mem_append_left _ (List.mem_of_getElem? (i := 785) rfl)
set_option maxRecDepth 100000 in
theorem bx_786 : Cond.methodLink RX11 365 yX5_keepImage ∈ BX := List.mem_append_left _ (List.mem_of_getElem? (i := 786) rfl)
set_option maxRecDepth 100000 in
theorem bx_787 : Cond.instanceMethod yX5_keepImage ∈ BX := List.mem_append_left _ (List.mem_of_getElem? (i := 787) rfl)
set_option maxRecDepth 100000 in
theorem bx_788 : Cond.selects RX5 yX5_keepImage yX5_keepImage ∈ BX := List.mem_append_left _ (List.mem_of_getElem? (i := 788) rfl)
set_option maxRecDepth 100000 in
theorem bx_789 : Cond.code yX11_image cX11_image 1 (some .int) ∈ BX := List.mem_append_left _ (List.mem_of_getElem? (i := 789) rfl)
set_option maxRecDepth 100000 in
theorem bx_790 : Cond.methodLink RX11 368 yX5_restoreImage ∈ BX := List.mem_append_left _ (List.mem_of_getElem? (i := 790) rfl)
set_option maxRecDepth 100000 in
theorem bx_791 : Cond.instanceMethod yX5_restoreImage ∈ BX := List.mem_append_left _ (List.mem_of_getElem? (i := 791) rfl)
set_option maxRecDepth 100000 in
theorem bx_792 : Cond.selects RX5 yX5_restoreImage yX5_restoreImage ∈ BX := List.mem_append_left _ (List.mem_of_getElem? (i := 792) rfl)
set_option maxRecDepth 100000 in
theorem bx_793 : Cond.code yX11_restore cX11_restore 1 (some .int) ∈ BX := List.mem_append_left _ (List.mem_of_getElem? (i := 793) rfl)
set_option maxRecDepth 100000 in
theorem bx_794 : Cond.code yX11_status cX11_status 2 (some .int) ∈ BX := List.mem_append_left _ (List.mem_of_getElem? (i := 794) rfl)
set_option maxRecDepth 100000 in
theorem bx_795 : Cond.code yX11_count cX11_count 2 (some .int) ∈ BX := List.mem_append_left _ (List.mem_of_getElem? (i := 795) rfl)
theorem BX_kV {c0 : Cond} {own C0 : String} {idx maxL n : Nat} {y : MethodName} {cy : ByteArray} {ret : Option FieldType} (h1 : Cond.methodLink own idx y ∈ BX) (h2 : Cond.instanceMethod y ∈ BX) (h3 : Cond.selects C0 y y ∈ BX) (h4 : Cond.initialized C0 ∈ BX) (h5 : Cond.code y cy maxL ret ∈ BX) (hd : y.cls = C0 ∧ y.cls ≠ "java/lang/invoke/MethodHandle" ∧ y.cls ≠ "java/lang/invoke/VarHandle" ∧ (parseMethodDescriptor y.desc).map (fun d => d.parameters.length) = some n) : kV (c0 :: BX) own C0 idx y cy maxL n ret (.code y cy maxL ret :: BX) := by
  have hg : ∀ w ∈ BX, w ∈ c0 :: BX ∧ ((w.onTables && w.keeps) = true ∨ ∃ ty, w = .arrayClass ty) := fun w hw => ⟨List.mem_cons_of_mem _ hw, good_of_word (List.all_eq_true.mp BX_good w hw)⟩
  refine ⟨fun w hw => ?_, ⟨_, rfl⟩, hd⟩
  unfold wsV at hw
  rcases List.mem_append.mp hw with hw | hw
  · simp only [List.mem_cons, List.not_mem_nil, or_false] at hw
    rcases hw with rfl | rfl | rfl | rfl
    · exact hg _ h1
    · exact hg _ h2
    · exact hg _ h3
    · exact hg _ h4
  · rcases List.mem_cons.mp hw with rfl | hw
    · exact hg _ h5
    · exact hg _ hw
theorem BX_kS {c0 : Cond} {own : String} {idx maxL n : Nat} {y : MethodName} {cy : ByteArray} {ret : Option FieldType} (h1 : Cond.methodLink own idx y ∈ BX) (h2 : Cond.static y ∈ BX) (h4 : Cond.initialized y.cls ∈ BX) (h5 : Cond.code y cy maxL ret ∈ BX) (hd : y.cls ≠ "java/lang/invoke/MethodHandle" ∧ y.cls ≠ "java/lang/invoke/VarHandle" ∧ (parseMethodDescriptor y.desc).map (fun d => d.parameters.length) = some n) : kS (c0 :: BX) own idx y cy maxL n ret (.code y cy maxL ret :: BX) := by
  have hg : ∀ w ∈ BX, w ∈ c0 :: BX ∧ ((w.onTables && w.keeps) = true ∨ ∃ ty, w = .arrayClass ty) := fun w hw => ⟨List.mem_cons_of_mem _ hw, good_of_word (List.all_eq_true.mp BX_good w hw)⟩
  refine ⟨fun w hw => ?_, ⟨_, rfl⟩, hd⟩
  unfold va_wsS at hw
  rcases List.mem_append.mp hw with hw | hw
  · simp only [List.mem_cons, List.not_mem_nil, or_false] at hw
    rcases hw with rfl | rfl | rfl
    · exact hg _ h1
    · exact hg _ h2
    · exact hg _ h4
  · rcases List.mem_cons.mp hw with rfl | hw
    · exact hg _ h5
    · exact hg _ hw
section FX
variable {l : Launch} {D : va_G} {T : cT} {ad : Nat → Nat} {nL : Nat} {R : Room} {kc ks : Nat} {Γ : Cxt} {Q : State → Prop} {x : Sl} {g : St} {pc : Nat} {lv : List (Nat × Value)} {rest : List Value} {cc : ByteArray} {c0 : Cond} {ret : Option FieldType}
theorem gX_get_X0_9 (C : Cx D T cc nL (c0 :: BX) RX0 ret Γ) {k : Nat} (hk : k < shX.1 ∧ shX.2.1 k = 3 ∧ shX.2.2.1 k = 0) {q : Nat} (hr : shX.2.2.2.1 k 0 = q + 1) (hdg : decode cc pc = .ok (.getfield 9, 3)) (K : Gj l shX D T ad nL R kc ks Γ Q x g (pc + 3) lv (.ref (ad q) :: rest)) : Gj l shX D T ad nL R kc ks Γ Q x g pc lv (.ref (ad k) :: rest) := g_getr (ci := 0) (C0 := RX0) (T0 := TX0) (N0 := 2) (j := 0) C rfl hk BX_X0 (by decide) hr (List.mem_cons_of_mem _ bx_5) hdg K
theorem gX_get_X0_15 (C : Cx D T cc nL (c0 :: BX) RX0 ret Γ) {k : Nat} (hk : k < shX.1 ∧ shX.2.1 k = 3 ∧ shX.2.2.1 k = 0) (hr : shX.2.2.2.1 k 1 = 0) {v : Int32} (hv : g k 1 = v) (hdg : decode cc pc = .ok (.getfield 15, 3)) (K : Gj l shX D T ad nL R kc ks Γ Q x g (pc + 3) lv (.int v :: rest)) : Gj l shX D T ad nL R kc ks Γ Q x g pc lv (.ref (ad k) :: rest) := g_get (ci := 0) (C0 := RX0) (T0 := TX0) (N0 := 2) (j := 1) C rfl hk BX_X0 (by decide) hr (List.mem_cons_of_mem _ bx_7) hv hdg K
theorem gX_put_X0_15 (C : Cx D T cc nL (c0 :: BX) RX0 ret Γ) {k : Nat} (hk : k < shX.1 ∧ shX.2.1 k = 3 ∧ shX.2.2.1 k = 0) (hr : shX.2.2.2.1 k 1 = 0) {v : Int32} (hdg : decode cc pc = .ok (.putfield 15, 3)) (K : Gj l shX D T ad nL R kc ks Γ Q x (st g k 1 v) (pc + 3) lv (rest)) : Gj l shX D T ad nL R kc ks Γ Q x g pc lv (.int v :: .ref (ad k) :: rest) := g_put (ci := 0) (C0 := RX0) (T0 := TX0) (N0 := 2) (j := 1) C rfl hk BX_X0 tyX0 tyX0_ok nmX0 (by decide) hr (List.mem_cons_of_mem _ bx_7) rfl (by decide +kernel) hdg K
theorem gX_get_X7_15 (C : Cx D T cc nL (c0 :: BX) RX7 ret Γ) {k : Nat} (hk : k < shX.1 ∧ shX.2.1 k = 3 ∧ shX.2.2.1 k = 6) {q : Nat} (hr : shX.2.2.2.1 k 3 = q + 1) (hdg : decode cc pc = .ok (.getfield 15, 3)) (K : Gj l shX D T ad nL R kc ks Γ Q x g (pc + 3) lv (.ref (ad q) :: rest)) : Gj l shX D T ad nL R kc ks Γ Q x g pc lv (.ref (ad k) :: rest) := g_getr (ci := 6) (C0 := RX7) (T0 := TX7) (N0 := 6) (j := 3) C rfl hk BX_X7 (by decide) hr (List.mem_cons_of_mem _ bx_31) hdg K
theorem gX_get_X0_55 (C : Cx D T cc nL (c0 :: BX) RX0 ret Γ) {k : Nat} (hk : k < shX.1 ∧ shX.2.1 k = 3 ∧ shX.2.2.1 k = 8) (hr : shX.2.2.2.1 k 5 = 0) {v : Int32} (hv : g k 5 = v) (hdg : decode cc pc = .ok (.getfield 55, 3)) (K : Gj l shX D T ad nL R kc ks Γ Q x g (pc + 3) lv (.int v :: rest)) : Gj l shX D T ad nL R kc ks Γ Q x g pc lv (.ref (ad k) :: rest) := g_get (ci := 8) (C0 := RX9) (T0 := TX9) (N0 := 8) (j := 5) C rfl hk BX_X9 (by decide) hr (List.mem_cons_of_mem _ bx_32) hv hdg K
theorem gX_put_X0_55 (C : Cx D T cc nL (c0 :: BX) RX0 ret Γ) {k : Nat} (hk : k < shX.1 ∧ shX.2.1 k = 3 ∧ shX.2.2.1 k = 8) (hr : shX.2.2.2.1 k 5 = 0) {v : Int32} (hdg : decode cc pc = .ok (.putfield 55, 3)) (K : Gj l shX D T ad nL R kc ks Γ Q x (st g k 5 v) (pc + 3) lv (rest)) : Gj l shX D T ad nL R kc ks Γ Q x g pc lv (.int v :: .ref (ad k) :: rest) := g_put (ci := 8) (C0 := RX9) (T0 := TX9) (N0 := 8) (j := 5) C rfl hk BX_X9 tyX9 tyX9_ok nmX9 (by decide) hr (List.mem_cons_of_mem _ bx_32) rfl (by decide +kernel) hdg K
theorem gX_get_X9_34 (C : Cx D T cc nL (c0 :: BX) RX9 ret Γ) {k : Nat} (hk : k < shX.1 ∧ shX.2.1 k = 3 ∧ shX.2.2.1 k = 8) (hr : shX.2.2.2.1 k 6 = 0) {v : Int32} (hv : g k 6 = v) (hdg : decode cc pc = .ok (.getfield 34, 3)) (K : Gj l shX D T ad nL R kc ks Γ Q x g (pc + 3) lv (.int v :: rest)) : Gj l shX D T ad nL R kc ks Γ Q x g pc lv (.ref (ad k) :: rest) := g_get (ci := 8) (C0 := RX9) (T0 := TX9) (N0 := 8) (j := 6) C rfl hk BX_X9 (by decide) hr (List.mem_cons_of_mem _ bx_41) hv hdg K
theorem gX_put_X9_34 (C : Cx D T cc nL (c0 :: BX) RX9 ret Γ) {k : Nat} (hk : k < shX.1 ∧ shX.2.1 k = 3 ∧ shX.2.2.1 k = 8) (hr : shX.2.2.2.1 k 6 = 0) {v : Int32} (hdg : decode cc pc = .ok (.putfield 34, 3)) (K : Gj l shX D T ad nL R kc ks Γ Q x (st g k 6 v) (pc + 3) lv (rest)) : Gj l shX D T ad nL R kc ks Γ Q x g pc lv (.int v :: .ref (ad k) :: rest) := g_put (ci := 8) (C0 := RX9) (T0 := TX9) (N0 := 8) (j := 6) C rfl hk BX_X9 tyX9 tyX9_ok nmX9 (by decide) hr (List.mem_cons_of_mem _ bx_41) rfl (by decide +kernel) hdg K
theorem gX_get_X9_31 (C : Cx D T cc nL (c0 :: BX) RX9 ret Γ) {k : Nat} (hk : k < shX.1 ∧ shX.2.1 k = 3 ∧ shX.2.2.1 k = 8) (hr : shX.2.2.2.1 k 3 = 0) {v : Int32} (hv : g k 3 = v) (hdg : decode cc pc = .ok (.getfield 31, 3)) (K : Gj l shX D T ad nL R kc ks Γ Q x g (pc + 3) lv (.int v :: rest)) : Gj l shX D T ad nL R kc ks Γ Q x g pc lv (.ref (ad k) :: rest) := g_get (ci := 8) (C0 := RX9) (T0 := TX9) (N0 := 8) (j := 3) C rfl hk BX_X9 (by decide) hr (List.mem_cons_of_mem _ bx_46) hv hdg K
theorem gX_put_X9_31 (C : Cx D T cc nL (c0 :: BX) RX9 ret Γ) {k : Nat} (hk : k < shX.1 ∧ shX.2.1 k = 3 ∧ shX.2.2.1 k = 8) (hr : shX.2.2.2.1 k 3 = 0) {v : Int32} (hdg : decode cc pc = .ok (.putfield 31, 3)) (K : Gj l shX D T ad nL R kc ks Γ Q x (st g k 3 v) (pc + 3) lv (rest)) : Gj l shX D T ad nL R kc ks Γ Q x g pc lv (.int v :: .ref (ad k) :: rest) := g_put (ci := 8) (C0 := RX9) (T0 := TX9) (N0 := 8) (j := 3) C rfl hk BX_X9 tyX9 tyX9_ok nmX9 (by decide) hr (List.mem_cons_of_mem _ bx_46) rfl (by decide +kernel) hdg K
theorem gX_get_X9_28 (C : Cx D T cc nL (c0 :: BX) RX9 ret Γ) {k : Nat} (hk : k < shX.1 ∧ shX.2.1 k = 3 ∧ shX.2.2.1 k = 8) (hr : shX.2.2.2.1 k 2 = 0) {v : Int32} (hv : g k 2 = v) (hdg : decode cc pc = .ok (.getfield 28, 3)) (K : Gj l shX D T ad nL R kc ks Γ Q x g (pc + 3) lv (.int v :: rest)) : Gj l shX D T ad nL R kc ks Γ Q x g pc lv (.ref (ad k) :: rest) := g_get (ci := 8) (C0 := RX9) (T0 := TX9) (N0 := 8) (j := 2) C rfl hk BX_X9 (by decide) hr (List.mem_cons_of_mem _ bx_47) hv hdg K
theorem gX_put_X9_28 (C : Cx D T cc nL (c0 :: BX) RX9 ret Γ) {k : Nat} (hk : k < shX.1 ∧ shX.2.1 k = 3 ∧ shX.2.2.1 k = 8) (hr : shX.2.2.2.1 k 2 = 0) {v : Int32} (hdg : decode cc pc = .ok (.putfield 28, 3)) (K : Gj l shX D T ad nL R kc ks Γ Q x (st g k 2 v) (pc + 3) lv (rest)) : Gj l shX D T ad nL R kc ks Γ Q x g pc lv (.int v :: .ref (ad k) :: rest) := g_put (ci := 8) (C0 := RX9) (T0 := TX9) (N0 := 8) (j := 2) C rfl hk BX_X9 tyX9 tyX9_ok nmX9 (by decide) hr (List.mem_cons_of_mem _ bx_47) rfl (by decide +kernel) hdg K
theorem gX_get_X9_9 (C : Cx D T cc nL (c0 :: BX) RX9 ret Γ) {k : Nat} (hk : k < shX.1 ∧ shX.2.1 k = 3 ∧ shX.2.2.1 k = 8) {q : Nat} (hr : shX.2.2.2.1 k 0 = q + 1) (hdg : decode cc pc = .ok (.getfield 9, 3)) (K : Gj l shX D T ad nL R kc ks Γ Q x g (pc + 3) lv (.ref (ad q) :: rest)) : Gj l shX D T ad nL R kc ks Γ Q x g pc lv (.ref (ad k) :: rest) := g_getr (ci := 8) (C0 := RX9) (T0 := TX9) (N0 := 8) (j := 0) C rfl hk BX_X9 (by decide) hr (List.mem_cons_of_mem _ bx_48) hdg K
theorem gX_get_X9_53 (C : Cx D T cc nL (c0 :: BX) RX9 ret Γ) {k : Nat} (hk : k < shX.1 ∧ shX.2.1 k = 3 ∧ shX.2.2.1 k = 8) (hr : shX.2.2.2.1 k 5 = 0) {v : Int32} (hv : g k 5 = v) (hdg : decode cc pc = .ok (.getfield 53, 3)) (K : Gj l shX D T ad nL R kc ks Γ Q x g (pc + 3) lv (.int v :: rest)) : Gj l shX D T ad nL R kc ks Γ Q x g pc lv (.ref (ad k) :: rest) := g_get (ci := 8) (C0 := RX9) (T0 := TX9) (N0 := 8) (j := 5) C rfl hk BX_X9 (by decide) hr (List.mem_cons_of_mem _ bx_54) hv hdg K
theorem gX_put_X9_53 (C : Cx D T cc nL (c0 :: BX) RX9 ret Γ) {k : Nat} (hk : k < shX.1 ∧ shX.2.1 k = 3 ∧ shX.2.2.1 k = 8) (hr : shX.2.2.2.1 k 5 = 0) {v : Int32} (hdg : decode cc pc = .ok (.putfield 53, 3)) (K : Gj l shX D T ad nL R kc ks Γ Q x (st g k 5 v) (pc + 3) lv (rest)) : Gj l shX D T ad nL R kc ks Γ Q x g pc lv (.int v :: .ref (ad k) :: rest) := g_put (ci := 8) (C0 := RX9) (T0 := TX9) (N0 := 8) (j := 5) C rfl hk BX_X9 tyX9 tyX9_ok nmX9 (by decide) hr (List.mem_cons_of_mem _ bx_54) rfl (by decide +kernel) hdg K
theorem gX_get_X9_15 (C : Cx D T cc nL (c0 :: BX) RX9 ret Γ) {k : Nat} (hk : k < shX.1 ∧ shX.2.1 k = 3 ∧ shX.2.2.1 k = 8) (hr : shX.2.2.2.1 k 7 = 0) {v : Int32} (hv : g k 7 = v) (hdg : decode cc pc = .ok (.getfield 15, 3)) (K : Gj l shX D T ad nL R kc ks Γ Q x g (pc + 3) lv (.int v :: rest)) : Gj l shX D T ad nL R kc ks Γ Q x g pc lv (.ref (ad k) :: rest) := g_get (ci := 8) (C0 := RX9) (T0 := TX9) (N0 := 8) (j := 7) C rfl hk BX_X9 (by decide) hr (List.mem_cons_of_mem _ bx_66) hv hdg K
theorem gX_put_X9_15 (C : Cx D T cc nL (c0 :: BX) RX9 ret Γ) {k : Nat} (hk : k < shX.1 ∧ shX.2.1 k = 3 ∧ shX.2.2.1 k = 8) (hr : shX.2.2.2.1 k 7 = 0) {v : Int32} (hdg : decode cc pc = .ok (.putfield 15, 3)) (K : Gj l shX D T ad nL R kc ks Γ Q x (st g k 7 v) (pc + 3) lv (rest)) : Gj l shX D T ad nL R kc ks Γ Q x g pc lv (.int v :: .ref (ad k) :: rest) := g_put (ci := 8) (C0 := RX9) (T0 := TX9) (N0 := 8) (j := 7) C rfl hk BX_X9 tyX9 tyX9_ok nmX9 (by decide) hr (List.mem_cons_of_mem _ bx_66) rfl (by decide +kernel) hdg K
theorem gX_get_X1_9 (C : Cx D T cc nL (c0 :: BX) RX1 ret Γ) {k : Nat} (hk : k < shX.1 ∧ shX.2.1 k = 3 ∧ shX.2.2.1 k = 1) (hr : shX.2.2.2.1 k 1 = 0) {v : Int32} (hv : g k 1 = v) (hdg : decode cc pc = .ok (.getfield 9, 3)) (K : Gj l shX D T ad nL R kc ks Γ Q x g (pc + 3) lv (.int v :: rest)) : Gj l shX D T ad nL R kc ks Γ Q x g pc lv (.ref (ad k) :: rest) := g_get (ci := 1) (C0 := RX1) (T0 := TX1) (N0 := 5) (j := 1) C rfl hk BX_X1 (by decide) hr (List.mem_cons_of_mem _ bx_80) hv hdg K
theorem gX_put_X1_9 (C : Cx D T cc nL (c0 :: BX) RX1 ret Γ) {k : Nat} (hk : k < shX.1 ∧ shX.2.1 k = 3 ∧ shX.2.2.1 k = 1) (hr : shX.2.2.2.1 k 1 = 0) {v : Int32} (hdg : decode cc pc = .ok (.putfield 9, 3)) (K : Gj l shX D T ad nL R kc ks Γ Q x (st g k 1 v) (pc + 3) lv (rest)) : Gj l shX D T ad nL R kc ks Γ Q x g pc lv (.int v :: .ref (ad k) :: rest) := g_put (ci := 1) (C0 := RX1) (T0 := TX1) (N0 := 5) (j := 1) C rfl hk BX_X1 tyX1 tyX1_ok nmX1 (by decide) hr (List.mem_cons_of_mem _ bx_80) rfl (by decide +kernel) hdg K
theorem gX_get_X1_15 (C : Cx D T cc nL (c0 :: BX) RX1 ret Γ) {k : Nat} (hk : k < shX.1 ∧ shX.2.1 k = 3 ∧ shX.2.2.1 k = 1) {q : Nat} (hr : shX.2.2.2.1 k 2 = q + 1) (hdg : decode cc pc = .ok (.getfield 15, 3)) (K : Gj l shX D T ad nL R kc ks Γ Q x g (pc + 3) lv (.ref (ad q) :: rest)) : Gj l shX D T ad nL R kc ks Γ Q x g pc lv (.ref (ad k) :: rest) := g_getr (ci := 1) (C0 := RX1) (T0 := TX1) (N0 := 5) (j := 2) C rfl hk BX_X1 (by decide) hr (List.mem_cons_of_mem _ bx_81) hdg K
theorem gX_get_X1_19 (C : Cx D T cc nL (c0 :: BX) RX1 ret Γ) {k : Nat} (hk : k < shX.1 ∧ shX.2.1 k = 3 ∧ shX.2.2.1 k = 1) {q : Nat} (hr : shX.2.2.2.1 k 3 = q + 1) (hdg : decode cc pc = .ok (.getfield 19, 3)) (K : Gj l shX D T ad nL R kc ks Γ Q x g (pc + 3) lv (.ref (ad q) :: rest)) : Gj l shX D T ad nL R kc ks Γ Q x g pc lv (.ref (ad k) :: rest) := g_getr (ci := 1) (C0 := RX1) (T0 := TX1) (N0 := 5) (j := 3) C rfl hk BX_X1 (by decide) hr (List.mem_cons_of_mem _ bx_82) hdg K
theorem gX_get_X1_22 (C : Cx D T cc nL (c0 :: BX) RX1 ret Γ) {k : Nat} (hk : k < shX.1 ∧ shX.2.1 k = 3 ∧ shX.2.2.1 k = 1) {q : Nat} (hr : shX.2.2.2.1 k 4 = q + 1) (hdg : decode cc pc = .ok (.getfield 22, 3)) (K : Gj l shX D T ad nL R kc ks Γ Q x g (pc + 3) lv (.ref (ad q) :: rest)) : Gj l shX D T ad nL R kc ks Γ Q x g pc lv (.ref (ad k) :: rest) := g_getr (ci := 1) (C0 := RX1) (T0 := TX1) (N0 := 5) (j := 4) C rfl hk BX_X1 (by decide) hr (List.mem_cons_of_mem _ bx_83) hdg K
theorem gX_get_X1_25 (C : Cx D T cc nL (c0 :: BX) RX1 ret Γ) {k : Nat} (hk : k < shX.1 ∧ shX.2.1 k = 3 ∧ shX.2.2.1 k = 1) (hr : shX.2.2.2.1 k 0 = 0) {v : Int32} (hv : g k 0 = v) (hdg : decode cc pc = .ok (.getfield 25, 3)) (K : Gj l shX D T ad nL R kc ks Γ Q x g (pc + 3) lv (.int v :: rest)) : Gj l shX D T ad nL R kc ks Γ Q x g pc lv (.ref (ad k) :: rest) := g_get (ci := 1) (C0 := RX1) (T0 := TX1) (N0 := 5) (j := 0) C rfl hk BX_X1 (by decide) hr (List.mem_cons_of_mem _ bx_85) hv hdg K
theorem gX_put_X1_25 (C : Cx D T cc nL (c0 :: BX) RX1 ret Γ) {k : Nat} (hk : k < shX.1 ∧ shX.2.1 k = 3 ∧ shX.2.2.1 k = 1) (hr : shX.2.2.2.1 k 0 = 0) {v : Int32} (hdg : decode cc pc = .ok (.putfield 25, 3)) (K : Gj l shX D T ad nL R kc ks Γ Q x (st g k 0 v) (pc + 3) lv (rest)) : Gj l shX D T ad nL R kc ks Γ Q x g pc lv (.int v :: .ref (ad k) :: rest) := g_put (ci := 1) (C0 := RX1) (T0 := TX1) (N0 := 5) (j := 0) C rfl hk BX_X1 tyX1 tyX1_ok nmX1 (by decide) hr (List.mem_cons_of_mem _ bx_85) rfl (by decide +kernel) hdg K
theorem gX_get_X1_86 (C : Cx D T cc nL (c0 :: BX) RX1 ret Γ) {k : Nat} (hk : k < shX.1 ∧ shX.2.1 k = 3 ∧ shX.2.2.1 k = 8) (hr : shX.2.2.2.1 k 5 = 0) {v : Int32} (hv : g k 5 = v) (hdg : decode cc pc = .ok (.getfield 86, 3)) (K : Gj l shX D T ad nL R kc ks Γ Q x g (pc + 3) lv (.int v :: rest)) : Gj l shX D T ad nL R kc ks Γ Q x g pc lv (.ref (ad k) :: rest) := g_get (ci := 8) (C0 := RX9) (T0 := TX9) (N0 := 8) (j := 5) C rfl hk BX_X9 (by decide) hr (List.mem_cons_of_mem _ bx_92) hv hdg K
theorem gX_put_X1_86 (C : Cx D T cc nL (c0 :: BX) RX1 ret Γ) {k : Nat} (hk : k < shX.1 ∧ shX.2.1 k = 3 ∧ shX.2.2.1 k = 8) (hr : shX.2.2.2.1 k 5 = 0) {v : Int32} (hdg : decode cc pc = .ok (.putfield 86, 3)) (K : Gj l shX D T ad nL R kc ks Γ Q x (st g k 5 v) (pc + 3) lv (rest)) : Gj l shX D T ad nL R kc ks Γ Q x g pc lv (.int v :: .ref (ad k) :: rest) := g_put (ci := 8) (C0 := RX9) (T0 := TX9) (N0 := 8) (j := 5) C rfl hk BX_X9 tyX9 tyX9_ok nmX9 (by decide) hr (List.mem_cons_of_mem _ bx_92) rfl (by decide +kernel) hdg K
theorem gX_get_X1_60 (C : Cx D T cc nL (c0 :: BX) RX1 ret Γ) {k : Nat} (hk : k < shX.1 ∧ shX.2.1 k = 3 ∧ shX.2.2.1 k = 8) (hr : shX.2.2.2.1 k 4 = 0) {v : Int32} (hv : g k 4 = v) (hdg : decode cc pc = .ok (.getfield 60, 3)) (K : Gj l shX D T ad nL R kc ks Γ Q x g (pc + 3) lv (.int v :: rest)) : Gj l shX D T ad nL R kc ks Γ Q x g pc lv (.ref (ad k) :: rest) := g_get (ci := 8) (C0 := RX9) (T0 := TX9) (N0 := 8) (j := 4) C rfl hk BX_X9 (by decide) hr (List.mem_cons_of_mem _ bx_96) hv hdg K
theorem gX_put_X1_60 (C : Cx D T cc nL (c0 :: BX) RX1 ret Γ) {k : Nat} (hk : k < shX.1 ∧ shX.2.1 k = 3 ∧ shX.2.2.1 k = 8) (hr : shX.2.2.2.1 k 4 = 0) {v : Int32} (hdg : decode cc pc = .ok (.putfield 60, 3)) (K : Gj l shX D T ad nL R kc ks Γ Q x (st g k 4 v) (pc + 3) lv (rest)) : Gj l shX D T ad nL R kc ks Γ Q x g pc lv (.int v :: .ref (ad k) :: rest) := g_put (ci := 8) (C0 := RX9) (T0 := TX9) (N0 := 8) (j := 4) C rfl hk BX_X9 tyX9 tyX9_ok nmX9 (by decide) hr (List.mem_cons_of_mem _ bx_96) rfl (by decide +kernel) hdg K
theorem gX_get_X9_62 (C : Cx D T cc nL (c0 :: BX) RX9 ret Γ) {k : Nat} (hk : k < shX.1 ∧ shX.2.1 k = 3 ∧ shX.2.2.1 k = 8) (hr : shX.2.2.2.1 k 4 = 0) {v : Int32} (hv : g k 4 = v) (hdg : decode cc pc = .ok (.getfield 62, 3)) (K : Gj l shX D T ad nL R kc ks Γ Q x g (pc + 3) lv (.int v :: rest)) : Gj l shX D T ad nL R kc ks Γ Q x g pc lv (.ref (ad k) :: rest) := g_get (ci := 8) (C0 := RX9) (T0 := TX9) (N0 := 8) (j := 4) C rfl hk BX_X9 (by decide) hr (List.mem_cons_of_mem _ bx_101) hv hdg K
theorem gX_put_X9_62 (C : Cx D T cc nL (c0 :: BX) RX9 ret Γ) {k : Nat} (hk : k < shX.1 ∧ shX.2.1 k = 3 ∧ shX.2.2.1 k = 8) (hr : shX.2.2.2.1 k 4 = 0) {v : Int32} (hdg : decode cc pc = .ok (.putfield 62, 3)) (K : Gj l shX D T ad nL R kc ks Γ Q x (st g k 4 v) (pc + 3) lv (rest)) : Gj l shX D T ad nL R kc ks Γ Q x g pc lv (.int v :: .ref (ad k) :: rest) := g_put (ci := 8) (C0 := RX9) (T0 := TX9) (N0 := 8) (j := 4) C rfl hk BX_X9 tyX9 tyX9_ok nmX9 (by decide) hr (List.mem_cons_of_mem _ bx_101) rfl (by decide +kernel) hdg K
theorem gX_get_X2_9 (C : Cx D T cc nL (c0 :: BX) RX2 ret Γ) {k : Nat} (hk : k < shX.1 ∧ shX.2.1 k = 3 ∧ shX.2.2.1 k = 2) {q : Nat} (hr : shX.2.2.2.1 k 0 = q + 1) (hdg : decode cc pc = .ok (.getfield 9, 3)) (K : Gj l shX D T ad nL R kc ks Γ Q x g (pc + 3) lv (.ref (ad q) :: rest)) : Gj l shX D T ad nL R kc ks Γ Q x g pc lv (.ref (ad k) :: rest) := g_getr (ci := 2) (C0 := RX2) (T0 := TX2) (N0 := 4) (j := 0) C rfl hk BX_X2 (by decide) hr (List.mem_cons_of_mem _ bx_174) hdg K
theorem gX_get_X2_15 (C : Cx D T cc nL (c0 :: BX) RX2 ret Γ) {k : Nat} (hk : k < shX.1 ∧ shX.2.1 k = 3 ∧ shX.2.2.1 k = 2) {q : Nat} (hr : shX.2.2.2.1 k 1 = q + 1) (hdg : decode cc pc = .ok (.getfield 15, 3)) (K : Gj l shX D T ad nL R kc ks Γ Q x g (pc + 3) lv (.ref (ad q) :: rest)) : Gj l shX D T ad nL R kc ks Γ Q x g pc lv (.ref (ad k) :: rest) := g_getr (ci := 2) (C0 := RX2) (T0 := TX2) (N0 := 4) (j := 1) C rfl hk BX_X2 (by decide) hr (List.mem_cons_of_mem _ bx_175) hdg K
theorem gX_get_X2_18 (C : Cx D T cc nL (c0 :: BX) RX2 ret Γ) {k : Nat} (hk : k < shX.1 ∧ shX.2.1 k = 3 ∧ shX.2.2.1 k = 2) {q : Nat} (hr : shX.2.2.2.1 k 2 = q + 1) (hdg : decode cc pc = .ok (.getfield 18, 3)) (K : Gj l shX D T ad nL R kc ks Γ Q x g (pc + 3) lv (.ref (ad q) :: rest)) : Gj l shX D T ad nL R kc ks Γ Q x g pc lv (.ref (ad k) :: rest) := g_getr (ci := 2) (C0 := RX2) (T0 := TX2) (N0 := 4) (j := 2) C rfl hk BX_X2 (by decide) hr (List.mem_cons_of_mem _ bx_176) hdg K
theorem gX_get_X2_21 (C : Cx D T cc nL (c0 :: BX) RX2 ret Γ) {k : Nat} (hk : k < shX.1 ∧ shX.2.1 k = 3 ∧ shX.2.2.1 k = 2) (hr : shX.2.2.2.1 k 3 = 0) {v : Int32} (hv : g k 3 = v) (hdg : decode cc pc = .ok (.getfield 21, 3)) (K : Gj l shX D T ad nL R kc ks Γ Q x g (pc + 3) lv (.int v :: rest)) : Gj l shX D T ad nL R kc ks Γ Q x g pc lv (.ref (ad k) :: rest) := g_get (ci := 2) (C0 := RX2) (T0 := TX2) (N0 := 4) (j := 3) C rfl hk BX_X2 (by decide) hr (List.mem_cons_of_mem _ bx_178) hv hdg K
theorem gX_put_X2_21 (C : Cx D T cc nL (c0 :: BX) RX2 ret Γ) {k : Nat} (hk : k < shX.1 ∧ shX.2.1 k = 3 ∧ shX.2.2.1 k = 2) (hr : shX.2.2.2.1 k 3 = 0) {v : Int32} (hdg : decode cc pc = .ok (.putfield 21, 3)) (K : Gj l shX D T ad nL R kc ks Γ Q x (st g k 3 v) (pc + 3) lv (rest)) : Gj l shX D T ad nL R kc ks Γ Q x g pc lv (.int v :: .ref (ad k) :: rest) := g_put (ci := 2) (C0 := RX2) (T0 := TX2) (N0 := 4) (j := 3) C rfl hk BX_X2 tyX2 tyX2_ok nmX2 (by decide) hr (List.mem_cons_of_mem _ bx_178) rfl (by decide +kernel) hdg K
theorem gX_get_X3_9 (C : Cx D T cc nL (c0 :: BX) RX3 ret Γ) {k : Nat} (hk : k < shX.1 ∧ shX.2.1 k = 3 ∧ shX.2.2.1 k = 3) {q : Nat} (hr : shX.2.2.2.1 k 0 = q + 1) (hdg : decode cc pc = .ok (.getfield 9, 3)) (K : Gj l shX D T ad nL R kc ks Γ Q x g (pc + 3) lv (.ref (ad q) :: rest)) : Gj l shX D T ad nL R kc ks Γ Q x g pc lv (.ref (ad k) :: rest) := g_getr (ci := 3) (C0 := RX3) (T0 := TX3) (N0 := 3) (j := 0) C rfl hk BX_X3 (by decide) hr (List.mem_cons_of_mem _ bx_198) hdg K
theorem gX_get_X3_15 (C : Cx D T cc nL (c0 :: BX) RX3 ret Γ) {k : Nat} (hk : k < shX.1 ∧ shX.2.1 k = 3 ∧ shX.2.2.1 k = 3) (hr : shX.2.2.2.1 k 1 = 0) {v : Int32} (hv : g k 1 = v) (hdg : decode cc pc = .ok (.getfield 15, 3)) (K : Gj l shX D T ad nL R kc ks Γ Q x g (pc + 3) lv (.int v :: rest)) : Gj l shX D T ad nL R kc ks Γ Q x g pc lv (.ref (ad k) :: rest) := g_get (ci := 3) (C0 := RX3) (T0 := TX3) (N0 := 3) (j := 1) C rfl hk BX_X3 (by decide) hr (List.mem_cons_of_mem _ bx_200) hv hdg K
theorem gX_put_X3_15 (C : Cx D T cc nL (c0 :: BX) RX3 ret Γ) {k : Nat} (hk : k < shX.1 ∧ shX.2.1 k = 3 ∧ shX.2.2.1 k = 3) (hr : shX.2.2.2.1 k 1 = 0) {v : Int32} (hdg : decode cc pc = .ok (.putfield 15, 3)) (K : Gj l shX D T ad nL R kc ks Γ Q x (st g k 1 v) (pc + 3) lv (rest)) : Gj l shX D T ad nL R kc ks Γ Q x g pc lv (.int v :: .ref (ad k) :: rest) := g_put (ci := 3) (C0 := RX3) (T0 := TX3) (N0 := 3) (j := 1) C rfl hk BX_X3 tyX3 tyX3_ok nmX3 (by decide) hr (List.mem_cons_of_mem _ bx_200) rfl (by decide +kernel) hdg K
theorem gX_get_X3_19 (C : Cx D T cc nL (c0 :: BX) RX3 ret Γ) {k : Nat} (hk : k < shX.1 ∧ shX.2.1 k = 3 ∧ shX.2.2.1 k = 3) (hr : shX.2.2.2.1 k 2 = 0) {v : Int32} (hv : g k 2 = v) (hdg : decode cc pc = .ok (.getfield 19, 3)) (K : Gj l shX D T ad nL R kc ks Γ Q x g (pc + 3) lv (.int v :: rest)) : Gj l shX D T ad nL R kc ks Γ Q x g pc lv (.ref (ad k) :: rest) := g_get (ci := 3) (C0 := RX3) (T0 := TX3) (N0 := 3) (j := 2) C rfl hk BX_X3 (by decide) hr (List.mem_cons_of_mem _ bx_203) hv hdg K
theorem gX_put_X3_19 (C : Cx D T cc nL (c0 :: BX) RX3 ret Γ) {k : Nat} (hk : k < shX.1 ∧ shX.2.1 k = 3 ∧ shX.2.2.1 k = 3) (hr : shX.2.2.2.1 k 2 = 0) {v : Int32} (hdg : decode cc pc = .ok (.putfield 19, 3)) (K : Gj l shX D T ad nL R kc ks Γ Q x (st g k 2 v) (pc + 3) lv (rest)) : Gj l shX D T ad nL R kc ks Γ Q x g pc lv (.int v :: .ref (ad k) :: rest) := g_put (ci := 3) (C0 := RX3) (T0 := TX3) (N0 := 3) (j := 2) C rfl hk BX_X3 tyX3 tyX3_ok nmX3 (by decide) hr (List.mem_cons_of_mem _ bx_203) rfl (by decide +kernel) hdg K
theorem gX_get_X3_40 (C : Cx D T cc nL (c0 :: BX) RX3 ret Γ) {k : Nat} (hk : k < shX.1 ∧ shX.2.1 k = 3 ∧ shX.2.2.1 k = 8) (hr : shX.2.2.2.1 k 3 = 0) {v : Int32} (hv : g k 3 = v) (hdg : decode cc pc = .ok (.getfield 40, 3)) (K : Gj l shX D T ad nL R kc ks Γ Q x g (pc + 3) lv (.int v :: rest)) : Gj l shX D T ad nL R kc ks Γ Q x g pc lv (.ref (ad k) :: rest) := g_get (ci := 8) (C0 := RX9) (T0 := TX9) (N0 := 8) (j := 3) C rfl hk BX_X9 (by decide) hr (List.mem_cons_of_mem _ bx_211) hv hdg K
theorem gX_put_X3_40 (C : Cx D T cc nL (c0 :: BX) RX3 ret Γ) {k : Nat} (hk : k < shX.1 ∧ shX.2.1 k = 3 ∧ shX.2.2.1 k = 8) (hr : shX.2.2.2.1 k 3 = 0) {v : Int32} (hdg : decode cc pc = .ok (.putfield 40, 3)) (K : Gj l shX D T ad nL R kc ks Γ Q x (st g k 3 v) (pc + 3) lv (rest)) : Gj l shX D T ad nL R kc ks Γ Q x g pc lv (.int v :: .ref (ad k) :: rest) := g_put (ci := 8) (C0 := RX9) (T0 := TX9) (N0 := 8) (j := 3) C rfl hk BX_X9 tyX9 tyX9_ok nmX9 (by decide) hr (List.mem_cons_of_mem _ bx_211) rfl (by decide +kernel) hdg K
theorem gX_get_X3_87 (C : Cx D T cc nL (c0 :: BX) RX3 ret Γ) {k : Nat} (hk : k < shX.1 ∧ shX.2.1 k = 3 ∧ shX.2.2.1 k = 8) (hr : shX.2.2.2.1 k 4 = 0) {v : Int32} (hv : g k 4 = v) (hdg : decode cc pc = .ok (.getfield 87, 3)) (K : Gj l shX D T ad nL R kc ks Γ Q x g (pc + 3) lv (.int v :: rest)) : Gj l shX D T ad nL R kc ks Γ Q x g pc lv (.ref (ad k) :: rest) := g_get (ci := 8) (C0 := RX9) (T0 := TX9) (N0 := 8) (j := 4) C rfl hk BX_X9 (by decide) hr (List.mem_cons_of_mem _ bx_212) hv hdg K
theorem gX_put_X3_87 (C : Cx D T cc nL (c0 :: BX) RX3 ret Γ) {k : Nat} (hk : k < shX.1 ∧ shX.2.1 k = 3 ∧ shX.2.2.1 k = 8) (hr : shX.2.2.2.1 k 4 = 0) {v : Int32} (hdg : decode cc pc = .ok (.putfield 87, 3)) (K : Gj l shX D T ad nL R kc ks Γ Q x (st g k 4 v) (pc + 3) lv (rest)) : Gj l shX D T ad nL R kc ks Γ Q x g pc lv (.int v :: .ref (ad k) :: rest) := g_put (ci := 8) (C0 := RX9) (T0 := TX9) (N0 := 8) (j := 4) C rfl hk BX_X9 tyX9 tyX9_ok nmX9 (by decide) hr (List.mem_cons_of_mem _ bx_212) rfl (by decide +kernel) hdg K
theorem gX_get_X4_9 (C : Cx D T cc nL (c0 :: BX) RX4 ret Γ) {k : Nat} (hk : k < shX.1 ∧ shX.2.1 k = 3 ∧ shX.2.2.1 k = 4) {q : Nat} (hr : shX.2.2.2.1 k 0 = q + 1) (hdg : decode cc pc = .ok (.getfield 9, 3)) (K : Gj l shX D T ad nL R kc ks Γ Q x g (pc + 3) lv (.ref (ad q) :: rest)) : Gj l shX D T ad nL R kc ks Γ Q x g pc lv (.ref (ad k) :: rest) := g_getr (ci := 4) (C0 := RX4) (T0 := TX4) (N0 := 7) (j := 0) C rfl hk BX_X4 (by decide) hr (List.mem_cons_of_mem _ bx_249) hdg K
theorem gX_get_X4_15 (C : Cx D T cc nL (c0 :: BX) RX4 ret Γ) {k : Nat} (hk : k < shX.1 ∧ shX.2.1 k = 3 ∧ shX.2.2.1 k = 4) {q : Nat} (hr : shX.2.2.2.1 k 1 = q + 1) (hdg : decode cc pc = .ok (.getfield 15, 3)) (K : Gj l shX D T ad nL R kc ks Γ Q x g (pc + 3) lv (.ref (ad q) :: rest)) : Gj l shX D T ad nL R kc ks Γ Q x g pc lv (.ref (ad k) :: rest) := g_getr (ci := 4) (C0 := RX4) (T0 := TX4) (N0 := 7) (j := 1) C rfl hk BX_X4 (by decide) hr (List.mem_cons_of_mem _ bx_250) hdg K
theorem gX_get_X4_18 (C : Cx D T cc nL (c0 :: BX) RX4 ret Γ) {k : Nat} (hk : k < shX.1 ∧ shX.2.1 k = 3 ∧ shX.2.2.1 k = 4) (hr : shX.2.2.2.1 k 2 = 0) {v : Int32} (hv : g k 2 = v) (hdg : decode cc pc = .ok (.getfield 18, 3)) (K : Gj l shX D T ad nL R kc ks Γ Q x g (pc + 3) lv (.int v :: rest)) : Gj l shX D T ad nL R kc ks Γ Q x g pc lv (.ref (ad k) :: rest) := g_get (ci := 4) (C0 := RX4) (T0 := TX4) (N0 := 7) (j := 2) C rfl hk BX_X4 (by decide) hr (List.mem_cons_of_mem _ bx_251) hv hdg K
theorem gX_put_X4_18 (C : Cx D T cc nL (c0 :: BX) RX4 ret Γ) {k : Nat} (hk : k < shX.1 ∧ shX.2.1 k = 3 ∧ shX.2.2.1 k = 4) (hr : shX.2.2.2.1 k 2 = 0) {v : Int32} (hdg : decode cc pc = .ok (.putfield 18, 3)) (K : Gj l shX D T ad nL R kc ks Γ Q x (st g k 2 v) (pc + 3) lv (rest)) : Gj l shX D T ad nL R kc ks Γ Q x g pc lv (.int v :: .ref (ad k) :: rest) := g_put (ci := 4) (C0 := RX4) (T0 := TX4) (N0 := 7) (j := 2) C rfl hk BX_X4 tyX4 tyX4_ok nmX4 (by decide) hr (List.mem_cons_of_mem _ bx_251) rfl (by decide +kernel) hdg K
theorem gX_get_X7_21 (C : Cx D T cc nL (c0 :: BX) RX7 ret Γ) {k : Nat} (hk : k < shX.1 ∧ shX.2.1 k = 3 ∧ shX.2.2.1 k = 6) {q : Nat} (hr : shX.2.2.2.1 k 0 = q + 1) (hdg : decode cc pc = .ok (.getfield 21, 3)) (K : Gj l shX D T ad nL R kc ks Γ Q x g (pc + 3) lv (.ref (ad q) :: rest)) : Gj l shX D T ad nL R kc ks Γ Q x g pc lv (.ref (ad k) :: rest) := g_getr (ci := 6) (C0 := RX7) (T0 := TX7) (N0 := 6) (j := 0) C rfl hk BX_X7 (by decide) hr (List.mem_cons_of_mem _ bx_256) hdg K
theorem gX_get_X7_33 (C : Cx D T cc nL (c0 :: BX) RX7 ret Γ) {k : Nat} (hk : k < shX.1 ∧ shX.2.1 k = 3 ∧ shX.2.2.1 k = 1) (hr : shX.2.2.2.1 k 0 = 0) {v : Int32} (hv : g k 0 = v) (hdg : decode cc pc = .ok (.getfield 33, 3)) (K : Gj l shX D T ad nL R kc ks Γ Q x g (pc + 3) lv (.int v :: rest)) : Gj l shX D T ad nL R kc ks Γ Q x g pc lv (.ref (ad k) :: rest) := g_get (ci := 1) (C0 := RX1) (T0 := TX1) (N0 := 5) (j := 0) C rfl hk BX_X1 (by decide) hr (List.mem_cons_of_mem _ bx_257) hv hdg K
theorem gX_put_X7_33 (C : Cx D T cc nL (c0 :: BX) RX7 ret Γ) {k : Nat} (hk : k < shX.1 ∧ shX.2.1 k = 3 ∧ shX.2.2.1 k = 1) (hr : shX.2.2.2.1 k 0 = 0) {v : Int32} (hdg : decode cc pc = .ok (.putfield 33, 3)) (K : Gj l shX D T ad nL R kc ks Γ Q x (st g k 0 v) (pc + 3) lv (rest)) : Gj l shX D T ad nL R kc ks Γ Q x g pc lv (.int v :: .ref (ad k) :: rest) := g_put (ci := 1) (C0 := RX1) (T0 := TX1) (N0 := 5) (j := 0) C rfl hk BX_X1 tyX1 tyX1_ok nmX1 (by decide) hr (List.mem_cons_of_mem _ bx_257) rfl (by decide +kernel) hdg K
theorem gX_get_X7_18 (C : Cx D T cc nL (c0 :: BX) RX7 ret Γ) {k : Nat} (hk : k < shX.1 ∧ shX.2.1 k = 3 ∧ shX.2.2.1 k = 6) {q : Nat} (hr : shX.2.2.2.1 k 4 = q + 1) (hdg : decode cc pc = .ok (.getfield 18, 3)) (K : Gj l shX D T ad nL R kc ks Γ Q x g (pc + 3) lv (.ref (ad q) :: rest)) : Gj l shX D T ad nL R kc ks Γ Q x g pc lv (.ref (ad k) :: rest) := g_getr (ci := 6) (C0 := RX7) (T0 := TX7) (N0 := 6) (j := 4) C rfl hk BX_X7 (by decide) hr (List.mem_cons_of_mem _ bx_262) hdg K
theorem gX_get_X4_48 (C : Cx D T cc nL (c0 :: BX) RX4 ret Γ) {k : Nat} (hk : k < shX.1 ∧ shX.2.1 k = 3 ∧ shX.2.2.1 k = 4) (hr : shX.2.2.2.1 k 3 = 0) {v : Int32} (hv : g k 3 = v) (hdg : decode cc pc = .ok (.getfield 48, 3)) (K : Gj l shX D T ad nL R kc ks Γ Q x g (pc + 3) lv (.int v :: rest)) : Gj l shX D T ad nL R kc ks Γ Q x g pc lv (.ref (ad k) :: rest) := g_get (ci := 4) (C0 := RX4) (T0 := TX4) (N0 := 7) (j := 3) C rfl hk BX_X4 (by decide) hr (List.mem_cons_of_mem _ bx_282) hv hdg K
theorem gX_put_X4_48 (C : Cx D T cc nL (c0 :: BX) RX4 ret Γ) {k : Nat} (hk : k < shX.1 ∧ shX.2.1 k = 3 ∧ shX.2.2.1 k = 4) (hr : shX.2.2.2.1 k 3 = 0) {v : Int32} (hdg : decode cc pc = .ok (.putfield 48, 3)) (K : Gj l shX D T ad nL R kc ks Γ Q x (st g k 3 v) (pc + 3) lv (rest)) : Gj l shX D T ad nL R kc ks Γ Q x g pc lv (.int v :: .ref (ad k) :: rest) := g_put (ci := 4) (C0 := RX4) (T0 := TX4) (N0 := 7) (j := 3) C rfl hk BX_X4 tyX4 tyX4_ok nmX4 (by decide) hr (List.mem_cons_of_mem _ bx_282) rfl (by decide +kernel) hdg K
theorem gX_get_X4_51 (C : Cx D T cc nL (c0 :: BX) RX4 ret Γ) {k : Nat} (hk : k < shX.1 ∧ shX.2.1 k = 3 ∧ shX.2.2.1 k = 4) (hr : shX.2.2.2.1 k 4 = 0) {v : Int32} (hv : g k 4 = v) (hdg : decode cc pc = .ok (.getfield 51, 3)) (K : Gj l shX D T ad nL R kc ks Γ Q x g (pc + 3) lv (.int v :: rest)) : Gj l shX D T ad nL R kc ks Γ Q x g pc lv (.ref (ad k) :: rest) := g_get (ci := 4) (C0 := RX4) (T0 := TX4) (N0 := 7) (j := 4) C rfl hk BX_X4 (by decide) hr (List.mem_cons_of_mem _ bx_283) hv hdg K
theorem gX_put_X4_51 (C : Cx D T cc nL (c0 :: BX) RX4 ret Γ) {k : Nat} (hk : k < shX.1 ∧ shX.2.1 k = 3 ∧ shX.2.2.1 k = 4) (hr : shX.2.2.2.1 k 4 = 0) {v : Int32} (hdg : decode cc pc = .ok (.putfield 51, 3)) (K : Gj l shX D T ad nL R kc ks Γ Q x (st g k 4 v) (pc + 3) lv (rest)) : Gj l shX D T ad nL R kc ks Γ Q x g pc lv (.int v :: .ref (ad k) :: rest) := g_put (ci := 4) (C0 := RX4) (T0 := TX4) (N0 := 7) (j := 4) C rfl hk BX_X4 tyX4 tyX4_ok nmX4 (by decide) hr (List.mem_cons_of_mem _ bx_283) rfl (by decide +kernel) hdg K
theorem gX_get_X4_54 (C : Cx D T cc nL (c0 :: BX) RX4 ret Γ) {k : Nat} (hk : k < shX.1 ∧ shX.2.1 k = 3 ∧ shX.2.2.1 k = 4) (hr : shX.2.2.2.1 k 5 = 0) {v : Int32} (hv : g k 5 = v) (hdg : decode cc pc = .ok (.getfield 54, 3)) (K : Gj l shX D T ad nL R kc ks Γ Q x g (pc + 3) lv (.int v :: rest)) : Gj l shX D T ad nL R kc ks Γ Q x g pc lv (.ref (ad k) :: rest) := g_get (ci := 4) (C0 := RX4) (T0 := TX4) (N0 := 7) (j := 5) C rfl hk BX_X4 (by decide) hr (List.mem_cons_of_mem _ bx_284) hv hdg K
theorem gX_put_X4_54 (C : Cx D T cc nL (c0 :: BX) RX4 ret Γ) {k : Nat} (hk : k < shX.1 ∧ shX.2.1 k = 3 ∧ shX.2.2.1 k = 4) (hr : shX.2.2.2.1 k 5 = 0) {v : Int32} (hdg : decode cc pc = .ok (.putfield 54, 3)) (K : Gj l shX D T ad nL R kc ks Γ Q x (st g k 5 v) (pc + 3) lv (rest)) : Gj l shX D T ad nL R kc ks Γ Q x g pc lv (.int v :: .ref (ad k) :: rest) := g_put (ci := 4) (C0 := RX4) (T0 := TX4) (N0 := 7) (j := 5) C rfl hk BX_X4 tyX4 tyX4_ok nmX4 (by decide) hr (List.mem_cons_of_mem _ bx_284) rfl (by decide +kernel) hdg K
theorem gX_get_X4_57 (C : Cx D T cc nL (c0 :: BX) RX4 ret Γ) {k : Nat} (hk : k < shX.1 ∧ shX.2.1 k = 3 ∧ shX.2.2.1 k = 4) (hr : shX.2.2.2.1 k 6 = 0) {v : Int32} (hv : g k 6 = v) (hdg : decode cc pc = .ok (.getfield 57, 3)) (K : Gj l shX D T ad nL R kc ks Γ Q x g (pc + 3) lv (.int v :: rest)) : Gj l shX D T ad nL R kc ks Γ Q x g pc lv (.ref (ad k) :: rest) := g_get (ci := 4) (C0 := RX4) (T0 := TX4) (N0 := 7) (j := 6) C rfl hk BX_X4 (by decide) hr (List.mem_cons_of_mem _ bx_285) hv hdg K
theorem gX_put_X4_57 (C : Cx D T cc nL (c0 :: BX) RX4 ret Γ) {k : Nat} (hk : k < shX.1 ∧ shX.2.1 k = 3 ∧ shX.2.2.1 k = 4) (hr : shX.2.2.2.1 k 6 = 0) {v : Int32} (hdg : decode cc pc = .ok (.putfield 57, 3)) (K : Gj l shX D T ad nL R kc ks Γ Q x (st g k 6 v) (pc + 3) lv (rest)) : Gj l shX D T ad nL R kc ks Γ Q x g pc lv (.int v :: .ref (ad k) :: rest) := g_put (ci := 4) (C0 := RX4) (T0 := TX4) (N0 := 7) (j := 6) C rfl hk BX_X4 tyX4 tyX4_ok nmX4 (by decide) hr (List.mem_cons_of_mem _ bx_285) rfl (by decide +kernel) hdg K
theorem gX_get_X5_13 (C : Cx D T cc nL (c0 :: BX) RX5 ret Γ) {k : Nat} (hk : k < shX.1 ∧ shX.2.1 k = 3 ∧ shX.2.2.1 k = 5) {q : Nat} (hr : shX.2.2.2.1 k 0 = q + 1) (hdg : decode cc pc = .ok (.getfield 13, 3)) (K : Gj l shX D T ad nL R kc ks Γ Q x g (pc + 3) lv (.ref (ad q) :: rest)) : Gj l shX D T ad nL R kc ks Γ Q x g pc lv (.ref (ad k) :: rest) := g_getr (ci := 5) (C0 := RX5) (T0 := TX5) (N0 := 4) (j := 0) C rfl hk BX_X5 (by decide) hr (List.mem_cons_of_mem _ bx_309) hdg K
theorem gX_get_X5_17 (C : Cx D T cc nL (c0 :: BX) RX5 ret Γ) {k : Nat} (hk : k < shX.1 ∧ shX.2.1 k = 3 ∧ shX.2.2.1 k = 5) {q : Nat} (hr : shX.2.2.2.1 k 1 = q + 1) (hdg : decode cc pc = .ok (.getfield 17, 3)) (K : Gj l shX D T ad nL R kc ks Γ Q x g (pc + 3) lv (.ref (ad q) :: rest)) : Gj l shX D T ad nL R kc ks Γ Q x g pc lv (.ref (ad k) :: rest) := g_getr (ci := 5) (C0 := RX5) (T0 := TX5) (N0 := 4) (j := 1) C rfl hk BX_X5 (by decide) hr (List.mem_cons_of_mem _ bx_310) hdg K
theorem gX_get_X5_20 (C : Cx D T cc nL (c0 :: BX) RX5 ret Γ) {k : Nat} (hk : k < shX.1 ∧ shX.2.1 k = 3 ∧ shX.2.2.1 k = 5) (hr : shX.2.2.2.1 k 2 = 0) {v : Int32} (hv : g k 2 = v) (hdg : decode cc pc = .ok (.getfield 20, 3)) (K : Gj l shX D T ad nL R kc ks Γ Q x g (pc + 3) lv (.int v :: rest)) : Gj l shX D T ad nL R kc ks Γ Q x g pc lv (.ref (ad k) :: rest) := g_get (ci := 5) (C0 := RX5) (T0 := TX5) (N0 := 4) (j := 2) C rfl hk BX_X5 (by decide) hr (List.mem_cons_of_mem _ bx_312) hv hdg K
theorem gX_put_X5_20 (C : Cx D T cc nL (c0 :: BX) RX5 ret Γ) {k : Nat} (hk : k < shX.1 ∧ shX.2.1 k = 3 ∧ shX.2.2.1 k = 5) (hr : shX.2.2.2.1 k 2 = 0) {v : Int32} (hdg : decode cc pc = .ok (.putfield 20, 3)) (K : Gj l shX D T ad nL R kc ks Γ Q x (st g k 2 v) (pc + 3) lv (rest)) : Gj l shX D T ad nL R kc ks Γ Q x g pc lv (.int v :: .ref (ad k) :: rest) := g_put (ci := 5) (C0 := RX5) (T0 := TX5) (N0 := 4) (j := 2) C rfl hk BX_X5 tyX5 tyX5_ok nmX5 (by decide) hr (List.mem_cons_of_mem _ bx_312) rfl (by decide +kernel) hdg K
theorem gX_get_X5_24 (C : Cx D T cc nL (c0 :: BX) RX5 ret Γ) {k : Nat} (hk : k < shX.1 ∧ shX.2.1 k = 3 ∧ shX.2.2.1 k = 5) (hr : shX.2.2.2.1 k 3 = 0) {v : Int32} (hv : g k 3 = v) (hdg : decode cc pc = .ok (.getfield 24, 3)) (K : Gj l shX D T ad nL R kc ks Γ Q x g (pc + 3) lv (.int v :: rest)) : Gj l shX D T ad nL R kc ks Γ Q x g pc lv (.ref (ad k) :: rest) := g_get (ci := 5) (C0 := RX5) (T0 := TX5) (N0 := 4) (j := 3) C rfl hk BX_X5 (by decide) hr (List.mem_cons_of_mem _ bx_313) hv hdg K
theorem gX_put_X5_24 (C : Cx D T cc nL (c0 :: BX) RX5 ret Γ) {k : Nat} (hk : k < shX.1 ∧ shX.2.1 k = 3 ∧ shX.2.2.1 k = 5) (hr : shX.2.2.2.1 k 3 = 0) {v : Int32} (hdg : decode cc pc = .ok (.putfield 24, 3)) (K : Gj l shX D T ad nL R kc ks Γ Q x (st g k 3 v) (pc + 3) lv (rest)) : Gj l shX D T ad nL R kc ks Γ Q x g pc lv (.int v :: .ref (ad k) :: rest) := g_put (ci := 5) (C0 := RX5) (T0 := TX5) (N0 := 4) (j := 3) C rfl hk BX_X5 tyX5 tyX5_ok nmX5 (by decide) hr (List.mem_cons_of_mem _ bx_313) rfl (by decide +kernel) hdg K
theorem gX_get_X7_9 (C : Cx D T cc nL (c0 :: BX) RX7 ret Γ) {k : Nat} (hk : k < shX.1 ∧ shX.2.1 k = 3 ∧ shX.2.2.1 k = 6) {q : Nat} (hr : shX.2.2.2.1 k 2 = q + 1) (hdg : decode cc pc = .ok (.getfield 9, 3)) (K : Gj l shX D T ad nL R kc ks Γ Q x g (pc + 3) lv (.ref (ad q) :: rest)) : Gj l shX D T ad nL R kc ks Γ Q x g pc lv (.ref (ad k) :: rest) := g_getr (ci := 6) (C0 := RX7) (T0 := TX7) (N0 := 6) (j := 2) C rfl hk BX_X7 (by decide) hr (List.mem_cons_of_mem _ bx_320) hdg K
theorem gX_get_X7_29 (C : Cx D T cc nL (c0 :: BX) RX7 ret Γ) {k : Nat} (hk : k < shX.1 ∧ shX.2.1 k = 3 ∧ shX.2.2.1 k = 6) (hr : shX.2.2.2.1 k 5 = 0) {v : Int32} (hv : g k 5 = v) (hdg : decode cc pc = .ok (.getfield 29, 3)) (K : Gj l shX D T ad nL R kc ks Γ Q x g (pc + 3) lv (.int v :: rest)) : Gj l shX D T ad nL R kc ks Γ Q x g pc lv (.ref (ad k) :: rest) := g_get (ci := 6) (C0 := RX7) (T0 := TX7) (N0 := 6) (j := 5) C rfl hk BX_X7 (by decide) hr (List.mem_cons_of_mem _ bx_321) hv hdg K
theorem gX_put_X7_29 (C : Cx D T cc nL (c0 :: BX) RX7 ret Γ) {k : Nat} (hk : k < shX.1 ∧ shX.2.1 k = 3 ∧ shX.2.2.1 k = 6) (hr : shX.2.2.2.1 k 5 = 0) {v : Int32} (hdg : decode cc pc = .ok (.putfield 29, 3)) (K : Gj l shX D T ad nL R kc ks Γ Q x (st g k 5 v) (pc + 3) lv (rest)) : Gj l shX D T ad nL R kc ks Γ Q x g pc lv (.int v :: .ref (ad k) :: rest) := g_put (ci := 6) (C0 := RX7) (T0 := TX7) (N0 := 6) (j := 5) C rfl hk BX_X7 tyX7 tyX7_ok nmX7 (by decide) hr (List.mem_cons_of_mem _ bx_321) rfl (by decide +kernel) hdg K
theorem gX_get_X7_25 (C : Cx D T cc nL (c0 :: BX) RX7 ret Γ) {k : Nat} (hk : k < shX.1 ∧ shX.2.1 k = 3 ∧ shX.2.2.1 k = 6) {q : Nat} (hr : shX.2.2.2.1 k 1 = q + 1) (hdg : decode cc pc = .ok (.getfield 25, 3)) (K : Gj l shX D T ad nL R kc ks Γ Q x g (pc + 3) lv (.ref (ad q) :: rest)) : Gj l shX D T ad nL R kc ks Γ Q x g pc lv (.ref (ad k) :: rest) := g_getr (ci := 6) (C0 := RX7) (T0 := TX7) (N0 := 6) (j := 1) C rfl hk BX_X7 (by decide) hr (List.mem_cons_of_mem _ bx_336) hdg K
theorem gX_get_X7_38 (C : Cx D T cc nL (c0 :: BX) RX7 ret Γ) {k : Nat} (hk : k < shX.1 ∧ shX.2.1 k = 3 ∧ shX.2.2.1 k = 1) {q : Nat} (hr : shX.2.2.2.1 k 3 = q + 1) (hdg : decode cc pc = .ok (.getfield 38, 3)) (K : Gj l shX D T ad nL R kc ks Γ Q x g (pc + 3) lv (.ref (ad q) :: rest)) : Gj l shX D T ad nL R kc ks Γ Q x g pc lv (.ref (ad k) :: rest) := g_getr (ci := 1) (C0 := RX1) (T0 := TX1) (N0 := 5) (j := 3) C rfl hk BX_X1 (by decide) hr (List.mem_cons_of_mem _ bx_338) hdg K
theorem gX_get_X7_72 (C : Cx D T cc nL (c0 :: BX) RX7 ret Γ) {k : Nat} (hk : k < shX.1 ∧ shX.2.1 k = 3 ∧ shX.2.2.1 k = 1) (hr : shX.2.2.2.1 k 1 = 0) {v : Int32} (hv : g k 1 = v) (hdg : decode cc pc = .ok (.getfield 72, 3)) (K : Gj l shX D T ad nL R kc ks Γ Q x g (pc + 3) lv (.int v :: rest)) : Gj l shX D T ad nL R kc ks Γ Q x g pc lv (.ref (ad k) :: rest) := g_get (ci := 1) (C0 := RX1) (T0 := TX1) (N0 := 5) (j := 1) C rfl hk BX_X1 (by decide) hr (List.mem_cons_of_mem _ bx_350) hv hdg K
theorem gX_put_X7_72 (C : Cx D T cc nL (c0 :: BX) RX7 ret Γ) {k : Nat} (hk : k < shX.1 ∧ shX.2.1 k = 3 ∧ shX.2.2.1 k = 1) (hr : shX.2.2.2.1 k 1 = 0) {v : Int32} (hdg : decode cc pc = .ok (.putfield 72, 3)) (K : Gj l shX D T ad nL R kc ks Γ Q x (st g k 1 v) (pc + 3) lv (rest)) : Gj l shX D T ad nL R kc ks Γ Q x g pc lv (.int v :: .ref (ad k) :: rest) := g_put (ci := 1) (C0 := RX1) (T0 := TX1) (N0 := 5) (j := 1) C rfl hk BX_X1 tyX1 tyX1_ok nmX1 (by decide) hr (List.mem_cons_of_mem _ bx_350) rfl (by decide +kernel) hdg K
theorem gX_get_X7_75 (C : Cx D T cc nL (c0 :: BX) RX7 ret Γ) {k : Nat} (hk : k < shX.1 ∧ shX.2.1 k = 3 ∧ shX.2.2.1 k = 2) {q : Nat} (hr : shX.2.2.2.1 k 2 = q + 1) (hdg : decode cc pc = .ok (.getfield 75, 3)) (K : Gj l shX D T ad nL R kc ks Γ Q x g (pc + 3) lv (.ref (ad q) :: rest)) : Gj l shX D T ad nL R kc ks Γ Q x g pc lv (.ref (ad k) :: rest) := g_getr (ci := 2) (C0 := RX2) (T0 := TX2) (N0 := 4) (j := 2) C rfl hk BX_X2 (by decide) hr (List.mem_cons_of_mem _ bx_352) hdg K
theorem gX_get_X7_80 (C : Cx D T cc nL (c0 :: BX) RX7 ret Γ) {k : Nat} (hk : k < shX.1 ∧ shX.2.1 k = 3 ∧ shX.2.2.1 k = 1) {q : Nat} (hr : shX.2.2.2.1 k 2 = q + 1) (hdg : decode cc pc = .ok (.getfield 80, 3)) (K : Gj l shX D T ad nL R kc ks Γ Q x g (pc + 3) lv (.ref (ad q) :: rest)) : Gj l shX D T ad nL R kc ks Γ Q x g pc lv (.ref (ad k) :: rest) := g_getr (ci := 1) (C0 := RX1) (T0 := TX1) (N0 := 5) (j := 2) C rfl hk BX_X1 (by decide) hr (List.mem_cons_of_mem _ bx_353) hdg K
theorem gX_get_X8_9 (C : Cx D T cc nL (c0 :: BX) RX8 ret Γ) {k : Nat} (hk : k < shX.1 ∧ shX.2.1 k = 3 ∧ shX.2.2.1 k = 7) {q : Nat} (hr : shX.2.2.2.1 k 0 = q + 1) (hdg : decode cc pc = .ok (.getfield 9, 3)) (K : Gj l shX D T ad nL R kc ks Γ Q x g (pc + 3) lv (.ref (ad q) :: rest)) : Gj l shX D T ad nL R kc ks Γ Q x g pc lv (.ref (ad k) :: rest) := g_getr (ci := 7) (C0 := RX8) (T0 := TX8) (N0 := 9) (j := 0) C rfl hk BX_X8 (by decide) hr (List.mem_cons_of_mem _ bx_406) hdg K
theorem gX_get_X8_15 (C : Cx D T cc nL (c0 :: BX) RX8 ret Γ) {k : Nat} (hk : k < shX.1 ∧ shX.2.1 k = 3 ∧ shX.2.2.1 k = 7) {q : Nat} (hr : shX.2.2.2.1 k 1 = q + 1) (hdg : decode cc pc = .ok (.getfield 15, 3)) (K : Gj l shX D T ad nL R kc ks Γ Q x g (pc + 3) lv (.ref (ad q) :: rest)) : Gj l shX D T ad nL R kc ks Γ Q x g pc lv (.ref (ad k) :: rest) := g_getr (ci := 7) (C0 := RX8) (T0 := TX8) (N0 := 9) (j := 1) C rfl hk BX_X8 (by decide) hr (List.mem_cons_of_mem _ bx_407) hdg K
theorem gX_get_X8_18 (C : Cx D T cc nL (c0 :: BX) RX8 ret Γ) {k : Nat} (hk : k < shX.1 ∧ shX.2.1 k = 3 ∧ shX.2.2.1 k = 7) {q : Nat} (hr : shX.2.2.2.1 k 2 = q + 1) (hdg : decode cc pc = .ok (.getfield 18, 3)) (K : Gj l shX D T ad nL R kc ks Γ Q x g (pc + 3) lv (.ref (ad q) :: rest)) : Gj l shX D T ad nL R kc ks Γ Q x g pc lv (.ref (ad k) :: rest) := g_getr (ci := 7) (C0 := RX8) (T0 := TX8) (N0 := 9) (j := 2) C rfl hk BX_X8 (by decide) hr (List.mem_cons_of_mem _ bx_408) hdg K
theorem gX_get_X8_21 (C : Cx D T cc nL (c0 :: BX) RX8 ret Γ) {k : Nat} (hk : k < shX.1 ∧ shX.2.1 k = 3 ∧ shX.2.2.1 k = 7) {q : Nat} (hr : shX.2.2.2.1 k 3 = q + 1) (hdg : decode cc pc = .ok (.getfield 21, 3)) (K : Gj l shX D T ad nL R kc ks Γ Q x g (pc + 3) lv (.ref (ad q) :: rest)) : Gj l shX D T ad nL R kc ks Γ Q x g pc lv (.ref (ad k) :: rest) := g_getr (ci := 7) (C0 := RX8) (T0 := TX8) (N0 := 9) (j := 3) C rfl hk BX_X8 (by decide) hr (List.mem_cons_of_mem _ bx_409) hdg K
theorem gX_get_X8_24 (C : Cx D T cc nL (c0 :: BX) RX8 ret Γ) {k : Nat} (hk : k < shX.1 ∧ shX.2.1 k = 3 ∧ shX.2.2.1 k = 7) {q : Nat} (hr : shX.2.2.2.1 k 4 = q + 1) (hdg : decode cc pc = .ok (.getfield 24, 3)) (K : Gj l shX D T ad nL R kc ks Γ Q x g (pc + 3) lv (.ref (ad q) :: rest)) : Gj l shX D T ad nL R kc ks Γ Q x g pc lv (.ref (ad k) :: rest) := g_getr (ci := 7) (C0 := RX8) (T0 := TX8) (N0 := 9) (j := 4) C rfl hk BX_X8 (by decide) hr (List.mem_cons_of_mem _ bx_410) hdg K
theorem gX_get_X8_27 (C : Cx D T cc nL (c0 :: BX) RX8 ret Γ) {k : Nat} (hk : k < shX.1 ∧ shX.2.1 k = 3 ∧ shX.2.2.1 k = 7) (hr : shX.2.2.2.1 k 5 = 0) {v : Int32} (hv : g k 5 = v) (hdg : decode cc pc = .ok (.getfield 27, 3)) (K : Gj l shX D T ad nL R kc ks Γ Q x g (pc + 3) lv (.int v :: rest)) : Gj l shX D T ad nL R kc ks Γ Q x g pc lv (.ref (ad k) :: rest) := g_get (ci := 7) (C0 := RX8) (T0 := TX8) (N0 := 9) (j := 5) C rfl hk BX_X8 (by decide) hr (List.mem_cons_of_mem _ bx_412) hv hdg K
theorem gX_put_X8_27 (C : Cx D T cc nL (c0 :: BX) RX8 ret Γ) {k : Nat} (hk : k < shX.1 ∧ shX.2.1 k = 3 ∧ shX.2.2.1 k = 7) (hr : shX.2.2.2.1 k 5 = 0) {v : Int32} (hdg : decode cc pc = .ok (.putfield 27, 3)) (K : Gj l shX D T ad nL R kc ks Γ Q x (st g k 5 v) (pc + 3) lv (rest)) : Gj l shX D T ad nL R kc ks Γ Q x g pc lv (.int v :: .ref (ad k) :: rest) := g_put (ci := 7) (C0 := RX8) (T0 := TX8) (N0 := 9) (j := 5) C rfl hk BX_X8 tyX8 tyX8_ok nmX8 (by decide) hr (List.mem_cons_of_mem _ bx_412) rfl (by decide +kernel) hdg K
theorem gX_get_X8_31 (C : Cx D T cc nL (c0 :: BX) RX8 ret Γ) {k : Nat} (hk : k < shX.1 ∧ shX.2.1 k = 3 ∧ shX.2.2.1 k = 7) (hr : shX.2.2.2.1 k 6 = 0) {v : Int32} (hv : g k 6 = v) (hdg : decode cc pc = .ok (.getfield 31, 3)) (K : Gj l shX D T ad nL R kc ks Γ Q x g (pc + 3) lv (.int v :: rest)) : Gj l shX D T ad nL R kc ks Γ Q x g pc lv (.ref (ad k) :: rest) := g_get (ci := 7) (C0 := RX8) (T0 := TX8) (N0 := 9) (j := 6) C rfl hk BX_X8 (by decide) hr (List.mem_cons_of_mem _ bx_415) hv hdg K
theorem gX_put_X8_31 (C : Cx D T cc nL (c0 :: BX) RX8 ret Γ) {k : Nat} (hk : k < shX.1 ∧ shX.2.1 k = 3 ∧ shX.2.2.1 k = 7) (hr : shX.2.2.2.1 k 6 = 0) {v : Int32} (hdg : decode cc pc = .ok (.putfield 31, 3)) (K : Gj l shX D T ad nL R kc ks Γ Q x (st g k 6 v) (pc + 3) lv (rest)) : Gj l shX D T ad nL R kc ks Γ Q x g pc lv (.int v :: .ref (ad k) :: rest) := g_put (ci := 7) (C0 := RX8) (T0 := TX8) (N0 := 9) (j := 6) C rfl hk BX_X8 tyX8 tyX8_ok nmX8 (by decide) hr (List.mem_cons_of_mem _ bx_415) rfl (by decide +kernel) hdg K
theorem gX_get_X8_96 (C : Cx D T cc nL (c0 :: BX) RX8 ret Γ) {k : Nat} (hk : k < shX.1 ∧ shX.2.1 k = 3 ∧ shX.2.2.1 k = 8) (hr : shX.2.2.2.1 k 4 = 0) {v : Int32} (hv : g k 4 = v) (hdg : decode cc pc = .ok (.getfield 96, 3)) (K : Gj l shX D T ad nL R kc ks Γ Q x g (pc + 3) lv (.int v :: rest)) : Gj l shX D T ad nL R kc ks Γ Q x g pc lv (.ref (ad k) :: rest) := g_get (ci := 8) (C0 := RX9) (T0 := TX9) (N0 := 8) (j := 4) C rfl hk BX_X9 (by decide) hr (List.mem_cons_of_mem _ bx_421) hv hdg K
theorem gX_put_X8_96 (C : Cx D T cc nL (c0 :: BX) RX8 ret Γ) {k : Nat} (hk : k < shX.1 ∧ shX.2.1 k = 3 ∧ shX.2.2.1 k = 8) (hr : shX.2.2.2.1 k 4 = 0) {v : Int32} (hdg : decode cc pc = .ok (.putfield 96, 3)) (K : Gj l shX D T ad nL R kc ks Γ Q x (st g k 4 v) (pc + 3) lv (rest)) : Gj l shX D T ad nL R kc ks Γ Q x g pc lv (.int v :: .ref (ad k) :: rest) := g_put (ci := 8) (C0 := RX9) (T0 := TX9) (N0 := 8) (j := 4) C rfl hk BX_X9 tyX9 tyX9_ok nmX9 (by decide) hr (List.mem_cons_of_mem _ bx_421) rfl (by decide +kernel) hdg K
theorem gX_get_X8_58 (C : Cx D T cc nL (c0 :: BX) RX8 ret Γ) {k : Nat} (hk : k < shX.1 ∧ shX.2.1 k = 3 ∧ shX.2.2.1 k = 8) (hr : shX.2.2.2.1 k 3 = 0) {v : Int32} (hv : g k 3 = v) (hdg : decode cc pc = .ok (.getfield 58, 3)) (K : Gj l shX D T ad nL R kc ks Γ Q x g (pc + 3) lv (.int v :: rest)) : Gj l shX D T ad nL R kc ks Γ Q x g pc lv (.ref (ad k) :: rest) := g_get (ci := 8) (C0 := RX9) (T0 := TX9) (N0 := 8) (j := 3) C rfl hk BX_X9 (by decide) hr (List.mem_cons_of_mem _ bx_432) hv hdg K
theorem gX_put_X8_58 (C : Cx D T cc nL (c0 :: BX) RX8 ret Γ) {k : Nat} (hk : k < shX.1 ∧ shX.2.1 k = 3 ∧ shX.2.2.1 k = 8) (hr : shX.2.2.2.1 k 3 = 0) {v : Int32} (hdg : decode cc pc = .ok (.putfield 58, 3)) (K : Gj l shX D T ad nL R kc ks Γ Q x (st g k 3 v) (pc + 3) lv (rest)) : Gj l shX D T ad nL R kc ks Γ Q x g pc lv (.int v :: .ref (ad k) :: rest) := g_put (ci := 8) (C0 := RX9) (T0 := TX9) (N0 := 8) (j := 3) C rfl hk BX_X9 tyX9 tyX9_ok nmX9 (by decide) hr (List.mem_cons_of_mem _ bx_432) rfl (by decide +kernel) hdg K
theorem gX_get_X8_109 (C : Cx D T cc nL (c0 :: BX) RX8 ret Γ) {k : Nat} (hk : k < shX.1 ∧ shX.2.1 k = 3 ∧ shX.2.2.1 k = 7) (hr : shX.2.2.2.1 k 7 = 0) {v : Int32} (hv : g k 7 = v) (hdg : decode cc pc = .ok (.getfield 109, 3)) (K : Gj l shX D T ad nL R kc ks Γ Q x g (pc + 3) lv (.int v :: rest)) : Gj l shX D T ad nL R kc ks Γ Q x g pc lv (.ref (ad k) :: rest) := g_get (ci := 7) (C0 := RX8) (T0 := TX8) (N0 := 9) (j := 7) C rfl hk BX_X8 (by decide) hr (List.mem_cons_of_mem _ bx_445) hv hdg K
theorem gX_put_X8_109 (C : Cx D T cc nL (c0 :: BX) RX8 ret Γ) {k : Nat} (hk : k < shX.1 ∧ shX.2.1 k = 3 ∧ shX.2.2.1 k = 7) (hr : shX.2.2.2.1 k 7 = 0) {v : Int32} (hdg : decode cc pc = .ok (.putfield 109, 3)) (K : Gj l shX D T ad nL R kc ks Γ Q x (st g k 7 v) (pc + 3) lv (rest)) : Gj l shX D T ad nL R kc ks Γ Q x g pc lv (.int v :: .ref (ad k) :: rest) := g_put (ci := 7) (C0 := RX8) (T0 := TX8) (N0 := 9) (j := 7) C rfl hk BX_X8 tyX8 tyX8_ok nmX8 (by decide) hr (List.mem_cons_of_mem _ bx_445) rfl (by decide +kernel) hdg K
theorem gX_get_X8_112 (C : Cx D T cc nL (c0 :: BX) RX8 ret Γ) {k : Nat} (hk : k < shX.1 ∧ shX.2.1 k = 3 ∧ shX.2.2.1 k = 7) (hr : shX.2.2.2.1 k 8 = 0) {v : Int32} (hv : g k 8 = v) (hdg : decode cc pc = .ok (.getfield 112, 3)) (K : Gj l shX D T ad nL R kc ks Γ Q x g (pc + 3) lv (.int v :: rest)) : Gj l shX D T ad nL R kc ks Γ Q x g pc lv (.ref (ad k) :: rest) := g_get (ci := 7) (C0 := RX8) (T0 := TX8) (N0 := 9) (j := 8) C rfl hk BX_X8 (by decide) hr (List.mem_cons_of_mem _ bx_446) hv hdg K
theorem gX_put_X8_112 (C : Cx D T cc nL (c0 :: BX) RX8 ret Γ) {k : Nat} (hk : k < shX.1 ∧ shX.2.1 k = 3 ∧ shX.2.2.1 k = 7) (hr : shX.2.2.2.1 k 8 = 0) {v : Int32} (hdg : decode cc pc = .ok (.putfield 112, 3)) (K : Gj l shX D T ad nL R kc ks Γ Q x (st g k 8 v) (pc + 3) lv (rest)) : Gj l shX D T ad nL R kc ks Γ Q x g pc lv (.int v :: .ref (ad k) :: rest) := g_put (ci := 7) (C0 := RX8) (T0 := TX8) (N0 := 9) (j := 8) C rfl hk BX_X8 tyX8 tyX8_ok nmX8 (by decide) hr (List.mem_cons_of_mem _ bx_446) rfl (by decide +kernel) hdg K
theorem gX_get_X9_19 (C : Cx D T cc nL (c0 :: BX) RX9 ret Γ) {k : Nat} (hk : k < shX.1 ∧ shX.2.1 k = 3 ∧ shX.2.2.1 k = 8) (hr : shX.2.2.2.1 k 1 = 0) {v : Int32} (hv : g k 1 = v) (hdg : decode cc pc = .ok (.getfield 19, 3)) (K : Gj l shX D T ad nL R kc ks Γ Q x g (pc + 3) lv (.int v :: rest)) : Gj l shX D T ad nL R kc ks Γ Q x g pc lv (.ref (ad k) :: rest) := g_get (ci := 8) (C0 := RX9) (T0 := TX9) (N0 := 8) (j := 1) C rfl hk BX_X9 (by decide) hr (List.mem_cons_of_mem _ bx_461) hv hdg K
theorem gX_put_X9_19 (C : Cx D T cc nL (c0 :: BX) RX9 ret Γ) {k : Nat} (hk : k < shX.1 ∧ shX.2.1 k = 3 ∧ shX.2.2.1 k = 8) (hr : shX.2.2.2.1 k 1 = 0) {v : Int32} (hdg : decode cc pc = .ok (.putfield 19, 3)) (K : Gj l shX D T ad nL R kc ks Γ Q x (st g k 1 v) (pc + 3) lv (rest)) : Gj l shX D T ad nL R kc ks Γ Q x g pc lv (.int v :: .ref (ad k) :: rest) := g_put (ci := 8) (C0 := RX9) (T0 := TX9) (N0 := 8) (j := 1) C rfl hk BX_X9 tyX9 tyX9_ok nmX9 (by decide) hr (List.mem_cons_of_mem _ bx_461) rfl (by decide +kernel) hdg K
theorem gX_get_X10_9 (C : Cx D T cc nL (c0 :: BX) RX10 ret Γ) {k : Nat} (hk : k < shX.1 ∧ shX.2.1 k = 3 ∧ shX.2.2.1 k = 9) {q : Nat} (hr : shX.2.2.2.1 k 0 = q + 1) (hdg : decode cc pc = .ok (.getfield 9, 3)) (K : Gj l shX D T ad nL R kc ks Γ Q x g (pc + 3) lv (.ref (ad q) :: rest)) : Gj l shX D T ad nL R kc ks Γ Q x g pc lv (.ref (ad k) :: rest) := g_getr (ci := 9) (C0 := RX10) (T0 := TX10) (N0 := 8) (j := 0) C rfl hk BX_X10 (by decide) hr (List.mem_cons_of_mem _ bx_468) hdg K
theorem gX_get_X10_15 (C : Cx D T cc nL (c0 :: BX) RX10 ret Γ) {k : Nat} (hk : k < shX.1 ∧ shX.2.1 k = 3 ∧ shX.2.2.1 k = 9) {q : Nat} (hr : shX.2.2.2.1 k 1 = q + 1) (hdg : decode cc pc = .ok (.getfield 15, 3)) (K : Gj l shX D T ad nL R kc ks Γ Q x g (pc + 3) lv (.ref (ad q) :: rest)) : Gj l shX D T ad nL R kc ks Γ Q x g pc lv (.ref (ad k) :: rest) := g_getr (ci := 9) (C0 := RX10) (T0 := TX10) (N0 := 8) (j := 1) C rfl hk BX_X10 (by decide) hr (List.mem_cons_of_mem _ bx_469) hdg K
theorem gX_get_X10_18 (C : Cx D T cc nL (c0 :: BX) RX10 ret Γ) {k : Nat} (hk : k < shX.1 ∧ shX.2.1 k = 3 ∧ shX.2.2.1 k = 9) {q : Nat} (hr : shX.2.2.2.1 k 2 = q + 1) (hdg : decode cc pc = .ok (.getfield 18, 3)) (K : Gj l shX D T ad nL R kc ks Γ Q x g (pc + 3) lv (.ref (ad q) :: rest)) : Gj l shX D T ad nL R kc ks Γ Q x g pc lv (.ref (ad k) :: rest) := g_getr (ci := 9) (C0 := RX10) (T0 := TX10) (N0 := 8) (j := 2) C rfl hk BX_X10 (by decide) hr (List.mem_cons_of_mem _ bx_470) hdg K
theorem gX_get_X10_21 (C : Cx D T cc nL (c0 :: BX) RX10 ret Γ) {k : Nat} (hk : k < shX.1 ∧ shX.2.1 k = 3 ∧ shX.2.2.1 k = 9) {q : Nat} (hr : shX.2.2.2.1 k 3 = q + 1) (hdg : decode cc pc = .ok (.getfield 21, 3)) (K : Gj l shX D T ad nL R kc ks Γ Q x g (pc + 3) lv (.ref (ad q) :: rest)) : Gj l shX D T ad nL R kc ks Γ Q x g pc lv (.ref (ad k) :: rest) := g_getr (ci := 9) (C0 := RX10) (T0 := TX10) (N0 := 8) (j := 3) C rfl hk BX_X10 (by decide) hr (List.mem_cons_of_mem _ bx_471) hdg K
theorem gX_get_X10_24 (C : Cx D T cc nL (c0 :: BX) RX10 ret Γ) {k : Nat} (hk : k < shX.1 ∧ shX.2.1 k = 3 ∧ shX.2.2.1 k = 9) {q : Nat} (hr : shX.2.2.2.1 k 4 = q + 1) (hdg : decode cc pc = .ok (.getfield 24, 3)) (K : Gj l shX D T ad nL R kc ks Γ Q x g (pc + 3) lv (.ref (ad q) :: rest)) : Gj l shX D T ad nL R kc ks Γ Q x g pc lv (.ref (ad k) :: rest) := g_getr (ci := 9) (C0 := RX10) (T0 := TX10) (N0 := 8) (j := 4) C rfl hk BX_X10 (by decide) hr (List.mem_cons_of_mem _ bx_472) hdg K
theorem gX_get_X10_31 (C : Cx D T cc nL (c0 :: BX) RX10 ret Γ) {k : Nat} (hk : k < shX.1 ∧ shX.2.1 k = 3 ∧ shX.2.2.1 k = 9) (hr : shX.2.2.2.1 k 6 = 0) {v : Int32} (hv : g k 6 = v) (hdg : decode cc pc = .ok (.getfield 31, 3)) (K : Gj l shX D T ad nL R kc ks Γ Q x g (pc + 3) lv (.int v :: rest)) : Gj l shX D T ad nL R kc ks Γ Q x g pc lv (.ref (ad k) :: rest) := g_get (ci := 9) (C0 := RX10) (T0 := TX10) (N0 := 8) (j := 6) C rfl hk BX_X10 (by decide) hr (List.mem_cons_of_mem _ bx_479) hv hdg K
theorem gX_put_X10_31 (C : Cx D T cc nL (c0 :: BX) RX10 ret Γ) {k : Nat} (hk : k < shX.1 ∧ shX.2.1 k = 3 ∧ shX.2.2.1 k = 9) (hr : shX.2.2.2.1 k 6 = 0) {v : Int32} (hdg : decode cc pc = .ok (.putfield 31, 3)) (K : Gj l shX D T ad nL R kc ks Γ Q x (st g k 6 v) (pc + 3) lv (rest)) : Gj l shX D T ad nL R kc ks Γ Q x g pc lv (.int v :: .ref (ad k) :: rest) := g_put (ci := 9) (C0 := RX10) (T0 := TX10) (N0 := 8) (j := 6) C rfl hk BX_X10 tyX10 tyX10_ok nmX10 (by decide) hr (List.mem_cons_of_mem _ bx_479) rfl (by decide +kernel) hdg K
theorem gX_get_X10_34 (C : Cx D T cc nL (c0 :: BX) RX10 ret Γ) {k : Nat} (hk : k < shX.1 ∧ shX.2.1 k = 3 ∧ shX.2.2.1 k = 9) (hr : shX.2.2.2.1 k 7 = 0) {v : Int32} (hv : g k 7 = v) (hdg : decode cc pc = .ok (.getfield 34, 3)) (K : Gj l shX D T ad nL R kc ks Γ Q x g (pc + 3) lv (.int v :: rest)) : Gj l shX D T ad nL R kc ks Γ Q x g pc lv (.ref (ad k) :: rest) := g_get (ci := 9) (C0 := RX10) (T0 := TX10) (N0 := 8) (j := 7) C rfl hk BX_X10 (by decide) hr (List.mem_cons_of_mem _ bx_480) hv hdg K
theorem gX_put_X10_34 (C : Cx D T cc nL (c0 :: BX) RX10 ret Γ) {k : Nat} (hk : k < shX.1 ∧ shX.2.1 k = 3 ∧ shX.2.2.1 k = 9) (hr : shX.2.2.2.1 k 7 = 0) {v : Int32} (hdg : decode cc pc = .ok (.putfield 34, 3)) (K : Gj l shX D T ad nL R kc ks Γ Q x (st g k 7 v) (pc + 3) lv (rest)) : Gj l shX D T ad nL R kc ks Γ Q x g pc lv (.int v :: .ref (ad k) :: rest) := g_put (ci := 9) (C0 := RX10) (T0 := TX10) (N0 := 8) (j := 7) C rfl hk BX_X10 tyX10 tyX10_ok nmX10 (by decide) hr (List.mem_cons_of_mem _ bx_480) rfl (by decide +kernel) hdg K
theorem gX_get_X10_27 (C : Cx D T cc nL (c0 :: BX) RX10 ret Γ) {k : Nat} (hk : k < shX.1 ∧ shX.2.1 k = 3 ∧ shX.2.2.1 k = 9) (hr : shX.2.2.2.1 k 5 = 0) {v : Int32} (hv : g k 5 = v) (hdg : decode cc pc = .ok (.getfield 27, 3)) (K : Gj l shX D T ad nL R kc ks Γ Q x g (pc + 3) lv (.int v :: rest)) : Gj l shX D T ad nL R kc ks Γ Q x g pc lv (.ref (ad k) :: rest) := g_get (ci := 9) (C0 := RX10) (T0 := TX10) (N0 := 8) (j := 5) C rfl hk BX_X10 (by decide) hr (List.mem_cons_of_mem _ bx_481) hv hdg K
theorem gX_put_X10_27 (C : Cx D T cc nL (c0 :: BX) RX10 ret Γ) {k : Nat} (hk : k < shX.1 ∧ shX.2.1 k = 3 ∧ shX.2.2.1 k = 9) (hr : shX.2.2.2.1 k 5 = 0) {v : Int32} (hdg : decode cc pc = .ok (.putfield 27, 3)) (K : Gj l shX D T ad nL R kc ks Γ Q x (st g k 5 v) (pc + 3) lv (rest)) : Gj l shX D T ad nL R kc ks Γ Q x g pc lv (.int v :: .ref (ad k) :: rest) := g_put (ci := 9) (C0 := RX10) (T0 := TX10) (N0 := 8) (j := 5) C rfl hk BX_X10 tyX10 tyX10_ok nmX10 (by decide) hr (List.mem_cons_of_mem _ bx_481) rfl (by decide +kernel) hdg K
theorem gX_get_X11_10 (C : Cx D T cc nL (c0 :: BX) RX11 ret Γ) {k : Nat} (hk : k < shX.1 ∧ shX.2.1 k = 3 ∧ shX.2.2.1 k = 10) {q : Nat} (hr : shX.2.2.2.1 k 0 = q + 1) (hdg : decode cc pc = .ok (.getfield 10, 3)) (K : Gj l shX D T ad nL R kc ks Γ Q x g (pc + 3) lv (.ref (ad q) :: rest)) : Gj l shX D T ad nL R kc ks Γ Q x g pc lv (.ref (ad k) :: rest) := g_getr (ci := 10) (C0 := RX11) (T0 := TX11) (N0 := 19) (j := 0) C rfl hk BX_X11 (by decide) hr (List.mem_cons_of_mem _ bx_503) hdg K
theorem gX_get_X11_19 (C : Cx D T cc nL (c0 :: BX) RX11 ret Γ) {k : Nat} (hk : k < shX.1 ∧ shX.2.1 k = 3 ∧ shX.2.2.1 k = 10) {q : Nat} (hr : shX.2.2.2.1 k 1 = q + 1) (hdg : decode cc pc = .ok (.getfield 19, 3)) (K : Gj l shX D T ad nL R kc ks Γ Q x g (pc + 3) lv (.ref (ad q) :: rest)) : Gj l shX D T ad nL R kc ks Γ Q x g pc lv (.ref (ad k) :: rest) := g_getr (ci := 10) (C0 := RX11) (T0 := TX11) (N0 := 19) (j := 1) C rfl hk BX_X11 (by decide) hr (List.mem_cons_of_mem _ bx_506) hdg K
theorem gX_get_X11_23 (C : Cx D T cc nL (c0 :: BX) RX11 ret Γ) {k : Nat} (hk : k < shX.1 ∧ shX.2.1 k = 3 ∧ shX.2.2.1 k = 10) {q : Nat} (hr : shX.2.2.2.1 k 2 = q + 1) (hdg : decode cc pc = .ok (.getfield 23, 3)) (K : Gj l shX D T ad nL R kc ks Γ Q x g (pc + 3) lv (.ref (ad q) :: rest)) : Gj l shX D T ad nL R kc ks Γ Q x g pc lv (.ref (ad k) :: rest) := g_getr (ci := 10) (C0 := RX11) (T0 := TX11) (N0 := 19) (j := 2) C rfl hk BX_X11 (by decide) hr (List.mem_cons_of_mem _ bx_507) hdg K
theorem gX_get_X11_29 (C : Cx D T cc nL (c0 :: BX) RX11 ret Γ) {k : Nat} (hk : k < shX.1 ∧ shX.2.1 k = 3 ∧ shX.2.2.1 k = 10) {q : Nat} (hr : shX.2.2.2.1 k 3 = q + 1) (hdg : decode cc pc = .ok (.getfield 29, 3)) (K : Gj l shX D T ad nL R kc ks Γ Q x g (pc + 3) lv (.ref (ad q) :: rest)) : Gj l shX D T ad nL R kc ks Γ Q x g pc lv (.ref (ad k) :: rest) := g_getr (ci := 10) (C0 := RX11) (T0 := TX11) (N0 := 19) (j := 3) C rfl hk BX_X11 (by decide) hr (List.mem_cons_of_mem _ bx_510) hdg K
theorem gX_get_X11_33 (C : Cx D T cc nL (c0 :: BX) RX11 ret Γ) {k : Nat} (hk : k < shX.1 ∧ shX.2.1 k = 3 ∧ shX.2.2.1 k = 10) {q : Nat} (hr : shX.2.2.2.1 k 4 = q + 1) (hdg : decode cc pc = .ok (.getfield 33, 3)) (K : Gj l shX D T ad nL R kc ks Γ Q x g (pc + 3) lv (.ref (ad q) :: rest)) : Gj l shX D T ad nL R kc ks Γ Q x g pc lv (.ref (ad k) :: rest) := g_getr (ci := 10) (C0 := RX11) (T0 := TX11) (N0 := 19) (j := 4) C rfl hk BX_X11 (by decide) hr (List.mem_cons_of_mem _ bx_511) hdg K
theorem gX_get_X11_39 (C : Cx D T cc nL (c0 :: BX) RX11 ret Γ) {k : Nat} (hk : k < shX.1 ∧ shX.2.1 k = 3 ∧ shX.2.2.1 k = 10) {q : Nat} (hr : shX.2.2.2.1 k 5 = q + 1) (hdg : decode cc pc = .ok (.getfield 39, 3)) (K : Gj l shX D T ad nL R kc ks Γ Q x g (pc + 3) lv (.ref (ad q) :: rest)) : Gj l shX D T ad nL R kc ks Γ Q x g pc lv (.ref (ad k) :: rest) := g_getr (ci := 10) (C0 := RX11) (T0 := TX11) (N0 := 19) (j := 5) C rfl hk BX_X11 (by decide) hr (List.mem_cons_of_mem _ bx_514) hdg K
theorem gX_get_X11_46 (C : Cx D T cc nL (c0 :: BX) RX11 ret Γ) {k : Nat} (hk : k < shX.1 ∧ shX.2.1 k = 3 ∧ shX.2.2.1 k = 10) {q : Nat} (hr : shX.2.2.2.1 k 6 = q + 1) (hdg : decode cc pc = .ok (.getfield 46, 3)) (K : Gj l shX D T ad nL R kc ks Γ Q x g (pc + 3) lv (.ref (ad q) :: rest)) : Gj l shX D T ad nL R kc ks Γ Q x g pc lv (.ref (ad k) :: rest) := g_getr (ci := 10) (C0 := RX11) (T0 := TX11) (N0 := 19) (j := 6) C rfl hk BX_X11 (by decide) hr (List.mem_cons_of_mem _ bx_517) hdg K
theorem gX_get_X11_53 (C : Cx D T cc nL (c0 :: BX) RX11 ret Γ) {k : Nat} (hk : k < shX.1 ∧ shX.2.1 k = 3 ∧ shX.2.2.1 k = 10) {q : Nat} (hr : shX.2.2.2.1 k 7 = q + 1) (hdg : decode cc pc = .ok (.getfield 53, 3)) (K : Gj l shX D T ad nL R kc ks Γ Q x g (pc + 3) lv (.ref (ad q) :: rest)) : Gj l shX D T ad nL R kc ks Γ Q x g pc lv (.ref (ad k) :: rest) := g_getr (ci := 10) (C0 := RX11) (T0 := TX11) (N0 := 19) (j := 7) C rfl hk BX_X11 (by decide) hr (List.mem_cons_of_mem _ bx_520) hdg K
theorem gX_get_X11_57 (C : Cx D T cc nL (c0 :: BX) RX11 ret Γ) {k : Nat} (hk : k < shX.1 ∧ shX.2.1 k = 3 ∧ shX.2.2.1 k = 10) {q : Nat} (hr : shX.2.2.2.1 k 8 = q + 1) (hdg : decode cc pc = .ok (.getfield 57, 3)) (K : Gj l shX D T ad nL R kc ks Γ Q x g (pc + 3) lv (.ref (ad q) :: rest)) : Gj l shX D T ad nL R kc ks Γ Q x g pc lv (.ref (ad k) :: rest) := g_getr (ci := 10) (C0 := RX11) (T0 := TX11) (N0 := 19) (j := 8) C rfl hk BX_X11 (by decide) hr (List.mem_cons_of_mem _ bx_521) hdg K
theorem gX_get_X11_65 (C : Cx D T cc nL (c0 :: BX) RX11 ret Γ) {k : Nat} (hk : k < shX.1 ∧ shX.2.1 k = 3 ∧ shX.2.2.1 k = 10) {q : Nat} (hr : shX.2.2.2.1 k 9 = q + 1) (hdg : decode cc pc = .ok (.getfield 65, 3)) (K : Gj l shX D T ad nL R kc ks Γ Q x g (pc + 3) lv (.ref (ad q) :: rest)) : Gj l shX D T ad nL R kc ks Γ Q x g pc lv (.ref (ad k) :: rest) := g_getr (ci := 10) (C0 := RX11) (T0 := TX11) (N0 := 19) (j := 9) C rfl hk BX_X11 (by decide) hr (List.mem_cons_of_mem _ bx_524) hdg K
theorem gX_get_X11_69 (C : Cx D T cc nL (c0 :: BX) RX11 ret Γ) {k : Nat} (hk : k < shX.1 ∧ shX.2.1 k = 3 ∧ shX.2.2.1 k = 10) {q : Nat} (hr : shX.2.2.2.1 k 10 = q + 1) (hdg : decode cc pc = .ok (.getfield 69, 3)) (K : Gj l shX D T ad nL R kc ks Γ Q x g (pc + 3) lv (.ref (ad q) :: rest)) : Gj l shX D T ad nL R kc ks Γ Q x g pc lv (.ref (ad k) :: rest) := g_getr (ci := 10) (C0 := RX11) (T0 := TX11) (N0 := 19) (j := 10) C rfl hk BX_X11 (by decide) hr (List.mem_cons_of_mem _ bx_525) hdg K
theorem gX_get_X11_75 (C : Cx D T cc nL (c0 :: BX) RX11 ret Γ) {k : Nat} (hk : k < shX.1 ∧ shX.2.1 k = 3 ∧ shX.2.2.1 k = 10) {q : Nat} (hr : shX.2.2.2.1 k 11 = q + 1) (hdg : decode cc pc = .ok (.getfield 75, 3)) (K : Gj l shX D T ad nL R kc ks Γ Q x g (pc + 3) lv (.ref (ad q) :: rest)) : Gj l shX D T ad nL R kc ks Γ Q x g pc lv (.ref (ad k) :: rest) := g_getr (ci := 10) (C0 := RX11) (T0 := TX11) (N0 := 19) (j := 11) C rfl hk BX_X11 (by decide) hr (List.mem_cons_of_mem _ bx_529) hdg K
theorem gX_get_X11_82 (C : Cx D T cc nL (c0 :: BX) RX11 ret Γ) {k : Nat} (hk : k < shX.1 ∧ shX.2.1 k = 3 ∧ shX.2.2.1 k = 10) {q : Nat} (hr : shX.2.2.2.1 k 12 = q + 1) (hdg : decode cc pc = .ok (.getfield 82, 3)) (K : Gj l shX D T ad nL R kc ks Γ Q x g (pc + 3) lv (.ref (ad q) :: rest)) : Gj l shX D T ad nL R kc ks Γ Q x g pc lv (.ref (ad k) :: rest) := g_getr (ci := 10) (C0 := RX11) (T0 := TX11) (N0 := 19) (j := 12) C rfl hk BX_X11 (by decide) hr (List.mem_cons_of_mem _ bx_532) hdg K
theorem gX_get_X11_89 (C : Cx D T cc nL (c0 :: BX) RX11 ret Γ) {k : Nat} (hk : k < shX.1 ∧ shX.2.1 k = 3 ∧ shX.2.2.1 k = 10) {q : Nat} (hr : shX.2.2.2.1 k 13 = q + 1) (hdg : decode cc pc = .ok (.getfield 89, 3)) (K : Gj l shX D T ad nL R kc ks Γ Q x g (pc + 3) lv (.ref (ad q) :: rest)) : Gj l shX D T ad nL R kc ks Γ Q x g pc lv (.ref (ad k) :: rest) := g_getr (ci := 10) (C0 := RX11) (T0 := TX11) (N0 := 19) (j := 13) C rfl hk BX_X11 (by decide) hr (List.mem_cons_of_mem _ bx_535) hdg K
theorem gX_get_X11_93 (C : Cx D T cc nL (c0 :: BX) RX11 ret Γ) {k : Nat} (hk : k < shX.1 ∧ shX.2.1 k = 3 ∧ shX.2.2.1 k = 10) {q : Nat} (hr : shX.2.2.2.1 k 14 = q + 1) (hdg : decode cc pc = .ok (.getfield 93, 3)) (K : Gj l shX D T ad nL R kc ks Γ Q x g (pc + 3) lv (.ref (ad q) :: rest)) : Gj l shX D T ad nL R kc ks Γ Q x g pc lv (.ref (ad k) :: rest) := g_getr (ci := 10) (C0 := RX11) (T0 := TX11) (N0 := 19) (j := 14) C rfl hk BX_X11 (by decide) hr (List.mem_cons_of_mem _ bx_537) hdg K
theorem gX_get_X11_111 (C : Cx D T cc nL (c0 :: BX) RX11 ret Γ) {k : Nat} (hk : k < shX.1 ∧ shX.2.1 k = 3 ∧ shX.2.2.1 k = 8) (hr : shX.2.2.2.1 k 1 = 0) {v : Int32} (hv : g k 1 = v) (hdg : decode cc pc = .ok (.getfield 111, 3)) (K : Gj l shX D T ad nL R kc ks Γ Q x g (pc + 3) lv (.int v :: rest)) : Gj l shX D T ad nL R kc ks Γ Q x g pc lv (.ref (ad k) :: rest) := g_get (ci := 8) (C0 := RX9) (T0 := TX9) (N0 := 8) (j := 1) C rfl hk BX_X9 (by decide) hr (List.mem_cons_of_mem _ bx_557) hv hdg K
theorem gX_put_X11_111 (C : Cx D T cc nL (c0 :: BX) RX11 ret Γ) {k : Nat} (hk : k < shX.1 ∧ shX.2.1 k = 3 ∧ shX.2.2.1 k = 8) (hr : shX.2.2.2.1 k 1 = 0) {v : Int32} (hdg : decode cc pc = .ok (.putfield 111, 3)) (K : Gj l shX D T ad nL R kc ks Γ Q x (st g k 1 v) (pc + 3) lv (rest)) : Gj l shX D T ad nL R kc ks Γ Q x g pc lv (.int v :: .ref (ad k) :: rest) := g_put (ci := 8) (C0 := RX9) (T0 := TX9) (N0 := 8) (j := 1) C rfl hk BX_X9 tyX9 tyX9_ok nmX9 (by decide) hr (List.mem_cons_of_mem _ bx_557) rfl (by decide +kernel) hdg K
theorem gX_get_X11_374 (C : Cx D T cc nL (c0 :: BX) RX11 ret Γ) {k : Nat} (hk : k < shX.1 ∧ shX.2.1 k = 3 ∧ shX.2.2.1 k = 10) (hr : shX.2.2.2.1 k 18 = 0) {v : Int32} (hv : g k 18 = v) (hdg : decode cc pc = .ok (.getfield 374, 3)) (K : Gj l shX D T ad nL R kc ks Γ Q x g (pc + 3) lv (.int v :: rest)) : Gj l shX D T ad nL R kc ks Γ Q x g pc lv (.ref (ad k) :: rest) := g_get (ci := 10) (C0 := RX11) (T0 := TX11) (N0 := 19) (j := 18) C rfl hk BX_X11 (by decide) hr (List.mem_cons_of_mem _ bx_567) hv hdg K
theorem gX_put_X11_374 (C : Cx D T cc nL (c0 :: BX) RX11 ret Γ) {k : Nat} (hk : k < shX.1 ∧ shX.2.1 k = 3 ∧ shX.2.2.1 k = 10) (hr : shX.2.2.2.1 k 18 = 0) {v : Int32} (hdg : decode cc pc = .ok (.putfield 374, 3)) (K : Gj l shX D T ad nL R kc ks Γ Q x (st g k 18 v) (pc + 3) lv (rest)) : Gj l shX D T ad nL R kc ks Γ Q x g pc lv (.int v :: .ref (ad k) :: rest) := g_put (ci := 10) (C0 := RX11) (T0 := TX11) (N0 := 19) (j := 18) C rfl hk BX_X11 tyX11 tyX11_ok nmX11 (by decide) hr (List.mem_cons_of_mem _ bx_567) rfl (by decide +kernel) hdg K
theorem gX_get_X11_140 (C : Cx D T cc nL (c0 :: BX) RX11 ret Γ) {k : Nat} (hk : k < shX.1 ∧ shX.2.1 k = 3 ∧ shX.2.2.1 k = 10) (hr : shX.2.2.2.1 k 16 = 0) {v : Int32} (hv : g k 16 = v) (hdg : decode cc pc = .ok (.getfield 140, 3)) (K : Gj l shX D T ad nL R kc ks Γ Q x g (pc + 3) lv (.int v :: rest)) : Gj l shX D T ad nL R kc ks Γ Q x g pc lv (.ref (ad k) :: rest) := g_get (ci := 10) (C0 := RX11) (T0 := TX11) (N0 := 19) (j := 16) C rfl hk BX_X11 (by decide) hr (List.mem_cons_of_mem _ bx_568) hv hdg K
theorem gX_put_X11_140 (C : Cx D T cc nL (c0 :: BX) RX11 ret Γ) {k : Nat} (hk : k < shX.1 ∧ shX.2.1 k = 3 ∧ shX.2.2.1 k = 10) (hr : shX.2.2.2.1 k 16 = 0) {v : Int32} (hdg : decode cc pc = .ok (.putfield 140, 3)) (K : Gj l shX D T ad nL R kc ks Γ Q x (st g k 16 v) (pc + 3) lv (rest)) : Gj l shX D T ad nL R kc ks Γ Q x g pc lv (.int v :: .ref (ad k) :: rest) := g_put (ci := 10) (C0 := RX11) (T0 := TX11) (N0 := 19) (j := 16) C rfl hk BX_X11 tyX11 tyX11_ok nmX11 (by decide) hr (List.mem_cons_of_mem _ bx_568) rfl (by decide +kernel) hdg K
theorem gX_get_X11_143 (C : Cx D T cc nL (c0 :: BX) RX11 ret Γ) {k : Nat} (hk : k < shX.1 ∧ shX.2.1 k = 3 ∧ shX.2.2.1 k = 1) (hr : shX.2.2.2.1 k 0 = 0) {v : Int32} (hv : g k 0 = v) (hdg : decode cc pc = .ok (.getfield 143, 3)) (K : Gj l shX D T ad nL R kc ks Γ Q x g (pc + 3) lv (.int v :: rest)) : Gj l shX D T ad nL R kc ks Γ Q x g pc lv (.ref (ad k) :: rest) := g_get (ci := 1) (C0 := RX1) (T0 := TX1) (N0 := 5) (j := 0) C rfl hk BX_X1 (by decide) hr (List.mem_cons_of_mem _ bx_569) hv hdg K
theorem gX_put_X11_143 (C : Cx D T cc nL (c0 :: BX) RX11 ret Γ) {k : Nat} (hk : k < shX.1 ∧ shX.2.1 k = 3 ∧ shX.2.2.1 k = 1) (hr : shX.2.2.2.1 k 0 = 0) {v : Int32} (hdg : decode cc pc = .ok (.putfield 143, 3)) (K : Gj l shX D T ad nL R kc ks Γ Q x (st g k 0 v) (pc + 3) lv (rest)) : Gj l shX D T ad nL R kc ks Γ Q x g pc lv (.int v :: .ref (ad k) :: rest) := g_put (ci := 1) (C0 := RX1) (T0 := TX1) (N0 := 5) (j := 0) C rfl hk BX_X1 tyX1 tyX1_ok nmX1 (by decide) hr (List.mem_cons_of_mem _ bx_569) rfl (by decide +kernel) hdg K
theorem gX_get_X11_165 (C : Cx D T cc nL (c0 :: BX) RX11 ret Γ) {k : Nat} (hk : k < shX.1 ∧ shX.2.1 k = 3 ∧ shX.2.2.1 k = 7) (hr : shX.2.2.2.1 k 8 = 0) {v : Int32} (hv : g k 8 = v) (hdg : decode cc pc = .ok (.getfield 165, 3)) (K : Gj l shX D T ad nL R kc ks Γ Q x g (pc + 3) lv (.int v :: rest)) : Gj l shX D T ad nL R kc ks Γ Q x g pc lv (.ref (ad k) :: rest) := g_get (ci := 7) (C0 := RX8) (T0 := TX8) (N0 := 9) (j := 8) C rfl hk BX_X8 (by decide) hr (List.mem_cons_of_mem _ bx_599) hv hdg K
theorem gX_put_X11_165 (C : Cx D T cc nL (c0 :: BX) RX11 ret Γ) {k : Nat} (hk : k < shX.1 ∧ shX.2.1 k = 3 ∧ shX.2.2.1 k = 7) (hr : shX.2.2.2.1 k 8 = 0) {v : Int32} (hdg : decode cc pc = .ok (.putfield 165, 3)) (K : Gj l shX D T ad nL R kc ks Γ Q x (st g k 8 v) (pc + 3) lv (rest)) : Gj l shX D T ad nL R kc ks Γ Q x g pc lv (.int v :: .ref (ad k) :: rest) := g_put (ci := 7) (C0 := RX8) (T0 := TX8) (N0 := 9) (j := 8) C rfl hk BX_X8 tyX8 tyX8_ok nmX8 (by decide) hr (List.mem_cons_of_mem _ bx_599) rfl (by decide +kernel) hdg K
theorem gX_get_X11_168 (C : Cx D T cc nL (c0 :: BX) RX11 ret Γ) {k : Nat} (hk : k < shX.1 ∧ shX.2.1 k = 3 ∧ shX.2.2.1 k = 7) (hr : shX.2.2.2.1 k 7 = 0) {v : Int32} (hv : g k 7 = v) (hdg : decode cc pc = .ok (.getfield 168, 3)) (K : Gj l shX D T ad nL R kc ks Γ Q x g (pc + 3) lv (.int v :: rest)) : Gj l shX D T ad nL R kc ks Γ Q x g pc lv (.ref (ad k) :: rest) := g_get (ci := 7) (C0 := RX8) (T0 := TX8) (N0 := 9) (j := 7) C rfl hk BX_X8 (by decide) hr (List.mem_cons_of_mem _ bx_600) hv hdg K
theorem gX_put_X11_168 (C : Cx D T cc nL (c0 :: BX) RX11 ret Γ) {k : Nat} (hk : k < shX.1 ∧ shX.2.1 k = 3 ∧ shX.2.2.1 k = 7) (hr : shX.2.2.2.1 k 7 = 0) {v : Int32} (hdg : decode cc pc = .ok (.putfield 168, 3)) (K : Gj l shX D T ad nL R kc ks Γ Q x (st g k 7 v) (pc + 3) lv (rest)) : Gj l shX D T ad nL R kc ks Γ Q x g pc lv (.int v :: .ref (ad k) :: rest) := g_put (ci := 7) (C0 := RX8) (T0 := TX8) (N0 := 9) (j := 7) C rfl hk BX_X8 tyX8 tyX8_ok nmX8 (by decide) hr (List.mem_cons_of_mem _ bx_600) rfl (by decide +kernel) hdg K
theorem gX_get_X11_175 (C : Cx D T cc nL (c0 :: BX) RX11 ret Γ) {k : Nat} (hk : k < shX.1 ∧ shX.2.1 k = 3 ∧ shX.2.2.1 k = 0) (hr : shX.2.2.2.1 k 1 = 0) {v : Int32} (hv : g k 1 = v) (hdg : decode cc pc = .ok (.getfield 175, 3)) (K : Gj l shX D T ad nL R kc ks Γ Q x g (pc + 3) lv (.int v :: rest)) : Gj l shX D T ad nL R kc ks Γ Q x g pc lv (.ref (ad k) :: rest) := g_get (ci := 0) (C0 := RX0) (T0 := TX0) (N0 := 2) (j := 1) C rfl hk BX_X0 (by decide) hr (List.mem_cons_of_mem _ bx_614) hv hdg K
theorem gX_put_X11_175 (C : Cx D T cc nL (c0 :: BX) RX11 ret Γ) {k : Nat} (hk : k < shX.1 ∧ shX.2.1 k = 3 ∧ shX.2.2.1 k = 0) (hr : shX.2.2.2.1 k 1 = 0) {v : Int32} (hdg : decode cc pc = .ok (.putfield 175, 3)) (K : Gj l shX D T ad nL R kc ks Γ Q x (st g k 1 v) (pc + 3) lv (rest)) : Gj l shX D T ad nL R kc ks Γ Q x g pc lv (.int v :: .ref (ad k) :: rest) := g_put (ci := 0) (C0 := RX0) (T0 := TX0) (N0 := 2) (j := 1) C rfl hk BX_X0 tyX0 tyX0_ok nmX0 (by decide) hr (List.mem_cons_of_mem _ bx_614) rfl (by decide +kernel) hdg K
theorem gX_get_X11_178 (C : Cx D T cc nL (c0 :: BX) RX11 ret Γ) {k : Nat} (hk : k < shX.1 ∧ shX.2.1 k = 3 ∧ shX.2.2.1 k = 8) (hr : shX.2.2.2.1 k 7 = 0) {v : Int32} (hv : g k 7 = v) (hdg : decode cc pc = .ok (.getfield 178, 3)) (K : Gj l shX D T ad nL R kc ks Γ Q x g (pc + 3) lv (.int v :: rest)) : Gj l shX D T ad nL R kc ks Γ Q x g pc lv (.ref (ad k) :: rest) := g_get (ci := 8) (C0 := RX9) (T0 := TX9) (N0 := 8) (j := 7) C rfl hk BX_X9 (by decide) hr (List.mem_cons_of_mem _ bx_623) hv hdg K
theorem gX_put_X11_178 (C : Cx D T cc nL (c0 :: BX) RX11 ret Γ) {k : Nat} (hk : k < shX.1 ∧ shX.2.1 k = 3 ∧ shX.2.2.1 k = 8) (hr : shX.2.2.2.1 k 7 = 0) {v : Int32} (hdg : decode cc pc = .ok (.putfield 178, 3)) (K : Gj l shX D T ad nL R kc ks Γ Q x (st g k 7 v) (pc + 3) lv (rest)) : Gj l shX D T ad nL R kc ks Γ Q x g pc lv (.int v :: .ref (ad k) :: rest) := g_put (ci := 8) (C0 := RX9) (T0 := TX9) (N0 := 8) (j := 7) C rfl hk BX_X9 tyX9 tyX9_ok nmX9 (by decide) hr (List.mem_cons_of_mem _ bx_623) rfl (by decide +kernel) hdg K
theorem gX_get_X11_181 (C : Cx D T cc nL (c0 :: BX) RX11 ret Γ) {k : Nat} (hk : k < shX.1 ∧ shX.2.1 k = 3 ∧ shX.2.2.1 k = 5) (hr : shX.2.2.2.1 k 2 = 0) {v : Int32} (hv : g k 2 = v) (hdg : decode cc pc = .ok (.getfield 181, 3)) (K : Gj l shX D T ad nL R kc ks Γ Q x g (pc + 3) lv (.int v :: rest)) : Gj l shX D T ad nL R kc ks Γ Q x g pc lv (.ref (ad k) :: rest) := g_get (ci := 5) (C0 := RX5) (T0 := TX5) (N0 := 4) (j := 2) C rfl hk BX_X5 (by decide) hr (List.mem_cons_of_mem _ bx_624) hv hdg K
theorem gX_put_X11_181 (C : Cx D T cc nL (c0 :: BX) RX11 ret Γ) {k : Nat} (hk : k < shX.1 ∧ shX.2.1 k = 3 ∧ shX.2.2.1 k = 5) (hr : shX.2.2.2.1 k 2 = 0) {v : Int32} (hdg : decode cc pc = .ok (.putfield 181, 3)) (K : Gj l shX D T ad nL R kc ks Γ Q x (st g k 2 v) (pc + 3) lv (rest)) : Gj l shX D T ad nL R kc ks Γ Q x g pc lv (.int v :: .ref (ad k) :: rest) := g_put (ci := 5) (C0 := RX5) (T0 := TX5) (N0 := 4) (j := 2) C rfl hk BX_X5 tyX5 tyX5_ok nmX5 (by decide) hr (List.mem_cons_of_mem _ bx_624) rfl (by decide +kernel) hdg K
theorem gX_get_X11_193 (C : Cx D T cc nL (c0 :: BX) RX11 ret Γ) {k : Nat} (hk : k < shX.1 ∧ shX.2.1 k = 3 ∧ shX.2.2.1 k = 6) (hr : shX.2.2.2.1 k 5 = 0) {v : Int32} (hv : g k 5 = v) (hdg : decode cc pc = .ok (.getfield 193, 3)) (K : Gj l shX D T ad nL R kc ks Γ Q x g (pc + 3) lv (.int v :: rest)) : Gj l shX D T ad nL R kc ks Γ Q x g pc lv (.ref (ad k) :: rest) := g_get (ci := 6) (C0 := RX7) (T0 := TX7) (N0 := 6) (j := 5) C rfl hk BX_X7 (by decide) hr (List.mem_cons_of_mem _ bx_629) hv hdg K
theorem gX_put_X11_193 (C : Cx D T cc nL (c0 :: BX) RX11 ret Γ) {k : Nat} (hk : k < shX.1 ∧ shX.2.1 k = 3 ∧ shX.2.2.1 k = 6) (hr : shX.2.2.2.1 k 5 = 0) {v : Int32} (hdg : decode cc pc = .ok (.putfield 193, 3)) (K : Gj l shX D T ad nL R kc ks Γ Q x (st g k 5 v) (pc + 3) lv (rest)) : Gj l shX D T ad nL R kc ks Γ Q x g pc lv (.int v :: .ref (ad k) :: rest) := g_put (ci := 6) (C0 := RX7) (T0 := TX7) (N0 := 6) (j := 5) C rfl hk BX_X7 tyX7 tyX7_ok nmX7 (by decide) hr (List.mem_cons_of_mem _ bx_629) rfl (by decide +kernel) hdg K
theorem gX_get_X11_208 (C : Cx D T cc nL (c0 :: BX) RX11 ret Γ) {k : Nat} (hk : k < shX.1 ∧ shX.2.1 k = 3 ∧ shX.2.2.1 k = 1) (hr : shX.2.2.2.1 k 1 = 0) {v : Int32} (hv : g k 1 = v) (hdg : decode cc pc = .ok (.getfield 208, 3)) (K : Gj l shX D T ad nL R kc ks Γ Q x g (pc + 3) lv (.int v :: rest)) : Gj l shX D T ad nL R kc ks Γ Q x g pc lv (.ref (ad k) :: rest) := g_get (ci := 1) (C0 := RX1) (T0 := TX1) (N0 := 5) (j := 1) C rfl hk BX_X1 (by decide) hr (List.mem_cons_of_mem _ bx_630) hv hdg K
theorem gX_put_X11_208 (C : Cx D T cc nL (c0 :: BX) RX11 ret Γ) {k : Nat} (hk : k < shX.1 ∧ shX.2.1 k = 3 ∧ shX.2.2.1 k = 1) (hr : shX.2.2.2.1 k 1 = 0) {v : Int32} (hdg : decode cc pc = .ok (.putfield 208, 3)) (K : Gj l shX D T ad nL R kc ks Γ Q x (st g k 1 v) (pc + 3) lv (rest)) : Gj l shX D T ad nL R kc ks Γ Q x g pc lv (.int v :: .ref (ad k) :: rest) := g_put (ci := 1) (C0 := RX1) (T0 := TX1) (N0 := 5) (j := 1) C rfl hk BX_X1 tyX1 tyX1_ok nmX1 (by decide) hr (List.mem_cons_of_mem _ bx_630) rfl (by decide +kernel) hdg K
theorem gX_get_X11_371 (C : Cx D T cc nL (c0 :: BX) RX11 ret Γ) {k : Nat} (hk : k < shX.1 ∧ shX.2.1 k = 3 ∧ shX.2.2.1 k = 10) (hr : shX.2.2.2.1 k 17 = 0) {v : Int32} (hv : g k 17 = v) (hdg : decode cc pc = .ok (.getfield 371, 3)) (K : Gj l shX D T ad nL R kc ks Γ Q x g (pc + 3) lv (.int v :: rest)) : Gj l shX D T ad nL R kc ks Γ Q x g pc lv (.ref (ad k) :: rest) := g_get (ci := 10) (C0 := RX11) (T0 := TX11) (N0 := 19) (j := 17) C rfl hk BX_X11 (by decide) hr (List.mem_cons_of_mem _ bx_652) hv hdg K
theorem gX_put_X11_371 (C : Cx D T cc nL (c0 :: BX) RX11 ret Γ) {k : Nat} (hk : k < shX.1 ∧ shX.2.1 k = 3 ∧ shX.2.2.1 k = 10) (hr : shX.2.2.2.1 k 17 = 0) {v : Int32} (hdg : decode cc pc = .ok (.putfield 371, 3)) (K : Gj l shX D T ad nL R kc ks Γ Q x (st g k 17 v) (pc + 3) lv (rest)) : Gj l shX D T ad nL R kc ks Γ Q x g pc lv (.int v :: .ref (ad k) :: rest) := g_put (ci := 10) (C0 := RX11) (T0 := TX11) (N0 := 19) (j := 17) C rfl hk BX_X11 tyX11 tyX11_ok nmX11 (by decide) hr (List.mem_cons_of_mem _ bx_652) rfl (by decide +kernel) hdg K
theorem gX_get_X11_217 (C : Cx D T cc nL (c0 :: BX) RX11 ret Γ) {k : Nat} (hk : k < shX.1 ∧ shX.2.1 k = 3 ∧ shX.2.2.1 k = 1) {q : Nat} (hr : shX.2.2.2.1 k 2 = q + 1) (hdg : decode cc pc = .ok (.getfield 217, 3)) (K : Gj l shX D T ad nL R kc ks Γ Q x g (pc + 3) lv (.ref (ad q) :: rest)) : Gj l shX D T ad nL R kc ks Γ Q x g pc lv (.ref (ad k) :: rest) := g_getr (ci := 1) (C0 := RX1) (T0 := TX1) (N0 := 5) (j := 2) C rfl hk BX_X1 (by decide) hr (List.mem_cons_of_mem _ bx_653) hdg K
theorem gX_get_X11_227 (C : Cx D T cc nL (c0 :: BX) RX11 ret Γ) {k : Nat} (hk : k < shX.1 ∧ shX.2.1 k = 3 ∧ shX.2.2.1 k = 6) {q : Nat} (hr : shX.2.2.2.1 k 2 = q + 1) (hdg : decode cc pc = .ok (.getfield 227, 3)) (K : Gj l shX D T ad nL R kc ks Γ Q x g (pc + 3) lv (.ref (ad q) :: rest)) : Gj l shX D T ad nL R kc ks Γ Q x g pc lv (.ref (ad k) :: rest) := g_getr (ci := 6) (C0 := RX7) (T0 := TX7) (N0 := 6) (j := 2) C rfl hk BX_X7 (by decide) hr (List.mem_cons_of_mem _ bx_654) hdg K
theorem gX_get_X11_234 (C : Cx D T cc nL (c0 :: BX) RX11 ret Γ) {k : Nat} (hk : k < shX.1 ∧ shX.2.1 k = 3 ∧ shX.2.2.1 k = 6) {q : Nat} (hr : shX.2.2.2.1 k 3 = q + 1) (hdg : decode cc pc = .ok (.getfield 234, 3)) (K : Gj l shX D T ad nL R kc ks Γ Q x g (pc + 3) lv (.ref (ad q) :: rest)) : Gj l shX D T ad nL R kc ks Γ Q x g pc lv (.ref (ad k) :: rest) := g_getr (ci := 6) (C0 := RX7) (T0 := TX7) (N0 := 6) (j := 3) C rfl hk BX_X7 (by decide) hr (List.mem_cons_of_mem _ bx_655) hdg K
theorem gX_get_X11_244 (C : Cx D T cc nL (c0 :: BX) RX11 ret Γ) {k : Nat} (hk : k < shX.1 ∧ shX.2.1 k = 3 ∧ shX.2.2.1 k = 1) {q : Nat} (hr : shX.2.2.2.1 k 4 = q + 1) (hdg : decode cc pc = .ok (.getfield 244, 3)) (K : Gj l shX D T ad nL R kc ks Γ Q x g (pc + 3) lv (.ref (ad q) :: rest)) : Gj l shX D T ad nL R kc ks Γ Q x g pc lv (.ref (ad k) :: rest) := g_getr (ci := 1) (C0 := RX1) (T0 := TX1) (N0 := 5) (j := 4) C rfl hk BX_X1 (by decide) hr (List.mem_cons_of_mem _ bx_656) hdg K
theorem gX_get_X11_247 (C : Cx D T cc nL (c0 :: BX) RX11 ret Γ) {k : Nat} (hk : k < shX.1 ∧ shX.2.1 k = 3 ∧ shX.2.2.1 k = 6) {q : Nat} (hr : shX.2.2.2.1 k 4 = q + 1) (hdg : decode cc pc = .ok (.getfield 247, 3)) (K : Gj l shX D T ad nL R kc ks Γ Q x g (pc + 3) lv (.ref (ad q) :: rest)) : Gj l shX D T ad nL R kc ks Γ Q x g pc lv (.ref (ad k) :: rest) := g_getr (ci := 6) (C0 := RX7) (T0 := TX7) (N0 := 6) (j := 4) C rfl hk BX_X7 (by decide) hr (List.mem_cons_of_mem _ bx_657) hdg K
theorem gX_get_X11_258 (C : Cx D T cc nL (c0 :: BX) RX11 ret Γ) {k : Nat} (hk : k < shX.1 ∧ shX.2.1 k = 3 ∧ shX.2.2.1 k = 2) {q : Nat} (hr : shX.2.2.2.1 k 2 = q + 1) (hdg : decode cc pc = .ok (.getfield 258, 3)) (K : Gj l shX D T ad nL R kc ks Γ Q x g (pc + 3) lv (.ref (ad q) :: rest)) : Gj l shX D T ad nL R kc ks Γ Q x g pc lv (.ref (ad k) :: rest) := g_getr (ci := 2) (C0 := RX2) (T0 := TX2) (N0 := 4) (j := 2) C rfl hk BX_X2 (by decide) hr (List.mem_cons_of_mem _ bx_672) hdg K
theorem gX_get_X11_295 (C : Cx D T cc nL (c0 :: BX) RX11 ret Γ) {k : Nat} (hk : k < shX.1 ∧ shX.2.1 k = 3 ∧ shX.2.2.1 k = 9) (hr : shX.2.2.2.1 k 6 = 0) {v : Int32} (hv : g k 6 = v) (hdg : decode cc pc = .ok (.getfield 295, 3)) (K : Gj l shX D T ad nL R kc ks Γ Q x g (pc + 3) lv (.int v :: rest)) : Gj l shX D T ad nL R kc ks Γ Q x g pc lv (.ref (ad k) :: rest) := g_get (ci := 9) (C0 := RX10) (T0 := TX10) (N0 := 8) (j := 6) C rfl hk BX_X10 (by decide) hr (List.mem_cons_of_mem _ bx_696) hv hdg K
theorem gX_put_X11_295 (C : Cx D T cc nL (c0 :: BX) RX11 ret Γ) {k : Nat} (hk : k < shX.1 ∧ shX.2.1 k = 3 ∧ shX.2.2.1 k = 9) (hr : shX.2.2.2.1 k 6 = 0) {v : Int32} (hdg : decode cc pc = .ok (.putfield 295, 3)) (K : Gj l shX D T ad nL R kc ks Γ Q x (st g k 6 v) (pc + 3) lv (rest)) : Gj l shX D T ad nL R kc ks Γ Q x g pc lv (.int v :: .ref (ad k) :: rest) := g_put (ci := 9) (C0 := RX10) (T0 := TX10) (N0 := 8) (j := 6) C rfl hk BX_X10 tyX10 tyX10_ok nmX10 (by decide) hr (List.mem_cons_of_mem _ bx_696) rfl (by decide +kernel) hdg K
theorem gX_get_X11_298 (C : Cx D T cc nL (c0 :: BX) RX11 ret Γ) {k : Nat} (hk : k < shX.1 ∧ shX.2.1 k = 3 ∧ shX.2.2.1 k = 9) (hr : shX.2.2.2.1 k 7 = 0) {v : Int32} (hv : g k 7 = v) (hdg : decode cc pc = .ok (.getfield 298, 3)) (K : Gj l shX D T ad nL R kc ks Γ Q x g (pc + 3) lv (.int v :: rest)) : Gj l shX D T ad nL R kc ks Γ Q x g pc lv (.ref (ad k) :: rest) := g_get (ci := 9) (C0 := RX10) (T0 := TX10) (N0 := 8) (j := 7) C rfl hk BX_X10 (by decide) hr (List.mem_cons_of_mem _ bx_697) hv hdg K
theorem gX_put_X11_298 (C : Cx D T cc nL (c0 :: BX) RX11 ret Γ) {k : Nat} (hk : k < shX.1 ∧ shX.2.1 k = 3 ∧ shX.2.2.1 k = 9) (hr : shX.2.2.2.1 k 7 = 0) {v : Int32} (hdg : decode cc pc = .ok (.putfield 298, 3)) (K : Gj l shX D T ad nL R kc ks Γ Q x (st g k 7 v) (pc + 3) lv (rest)) : Gj l shX D T ad nL R kc ks Γ Q x g pc lv (.int v :: .ref (ad k) :: rest) := g_put (ci := 9) (C0 := RX10) (T0 := TX10) (N0 := 8) (j := 7) C rfl hk BX_X10 tyX10 tyX10_ok nmX10 (by decide) hr (List.mem_cons_of_mem _ bx_697) rfl (by decide +kernel) hdg K
theorem gX_get_X11_390 (C : Cx D T cc nL (c0 :: BX) RX11 ret Γ) {k : Nat} (hk : k < shX.1 ∧ shX.2.1 k = 3 ∧ shX.2.2.1 k = 4) (hr : shX.2.2.2.1 k 2 = 0) {v : Int32} (hv : g k 2 = v) (hdg : decode cc pc = .ok (.getfield 390, 3)) (K : Gj l shX D T ad nL R kc ks Γ Q x g (pc + 3) lv (.int v :: rest)) : Gj l shX D T ad nL R kc ks Γ Q x g pc lv (.ref (ad k) :: rest) := g_get (ci := 4) (C0 := RX4) (T0 := TX4) (N0 := 7) (j := 2) C rfl hk BX_X4 (by decide) hr (List.mem_cons_of_mem _ bx_713) hv hdg K
theorem gX_put_X11_390 (C : Cx D T cc nL (c0 :: BX) RX11 ret Γ) {k : Nat} (hk : k < shX.1 ∧ shX.2.1 k = 3 ∧ shX.2.2.1 k = 4) (hr : shX.2.2.2.1 k 2 = 0) {v : Int32} (hdg : decode cc pc = .ok (.putfield 390, 3)) (K : Gj l shX D T ad nL R kc ks Γ Q x (st g k 2 v) (pc + 3) lv (rest)) : Gj l shX D T ad nL R kc ks Γ Q x g pc lv (.int v :: .ref (ad k) :: rest) := g_put (ci := 4) (C0 := RX4) (T0 := TX4) (N0 := 7) (j := 2) C rfl hk BX_X4 tyX4 tyX4_ok nmX4 (by decide) hr (List.mem_cons_of_mem _ bx_713) rfl (by decide +kernel) hdg K
theorem gX_get_X11_393 (C : Cx D T cc nL (c0 :: BX) RX11 ret Γ) {k : Nat} (hk : k < shX.1 ∧ shX.2.1 k = 3 ∧ shX.2.2.1 k = 4) {q : Nat} (hr : shX.2.2.2.1 k 0 = q + 1) (hdg : decode cc pc = .ok (.getfield 393, 3)) (K : Gj l shX D T ad nL R kc ks Γ Q x g (pc + 3) lv (.ref (ad q) :: rest)) : Gj l shX D T ad nL R kc ks Γ Q x g pc lv (.ref (ad k) :: rest) := g_getr (ci := 4) (C0 := RX4) (T0 := TX4) (N0 := 7) (j := 0) C rfl hk BX_X4 (by decide) hr (List.mem_cons_of_mem _ bx_714) hdg K
theorem gX_get_X11_311 (C : Cx D T cc nL (c0 :: BX) RX11 ret Γ) {k : Nat} (hk : k < shX.1 ∧ shX.2.1 k = 3 ∧ shX.2.2.1 k = 4) (hr : shX.2.2.2.1 k 3 = 0) {v : Int32} (hv : g k 3 = v) (hdg : decode cc pc = .ok (.getfield 311, 3)) (K : Gj l shX D T ad nL R kc ks Γ Q x g (pc + 3) lv (.int v :: rest)) : Gj l shX D T ad nL R kc ks Γ Q x g pc lv (.ref (ad k) :: rest) := g_get (ci := 4) (C0 := RX4) (T0 := TX4) (N0 := 7) (j := 3) C rfl hk BX_X4 (by decide) hr (List.mem_cons_of_mem _ bx_729) hv hdg K
theorem gX_put_X11_311 (C : Cx D T cc nL (c0 :: BX) RX11 ret Γ) {k : Nat} (hk : k < shX.1 ∧ shX.2.1 k = 3 ∧ shX.2.2.1 k = 4) (hr : shX.2.2.2.1 k 3 = 0) {v : Int32} (hdg : decode cc pc = .ok (.putfield 311, 3)) (K : Gj l shX D T ad nL R kc ks Γ Q x (st g k 3 v) (pc + 3) lv (rest)) : Gj l shX D T ad nL R kc ks Γ Q x g pc lv (.int v :: .ref (ad k) :: rest) := g_put (ci := 4) (C0 := RX4) (T0 := TX4) (N0 := 7) (j := 3) C rfl hk BX_X4 tyX4 tyX4_ok nmX4 (by decide) hr (List.mem_cons_of_mem _ bx_729) rfl (by decide +kernel) hdg K
theorem gX_get_X11_319 (C : Cx D T cc nL (c0 :: BX) RX11 ret Γ) {k : Nat} (hk : k < shX.1 ∧ shX.2.1 k = 3 ∧ shX.2.2.1 k = 4) (hr : shX.2.2.2.1 k 4 = 0) {v : Int32} (hv : g k 4 = v) (hdg : decode cc pc = .ok (.getfield 319, 3)) (K : Gj l shX D T ad nL R kc ks Γ Q x g (pc + 3) lv (.int v :: rest)) : Gj l shX D T ad nL R kc ks Γ Q x g pc lv (.ref (ad k) :: rest) := g_get (ci := 4) (C0 := RX4) (T0 := TX4) (N0 := 7) (j := 4) C rfl hk BX_X4 (by decide) hr (List.mem_cons_of_mem _ bx_730) hv hdg K
theorem gX_put_X11_319 (C : Cx D T cc nL (c0 :: BX) RX11 ret Γ) {k : Nat} (hk : k < shX.1 ∧ shX.2.1 k = 3 ∧ shX.2.2.1 k = 4) (hr : shX.2.2.2.1 k 4 = 0) {v : Int32} (hdg : decode cc pc = .ok (.putfield 319, 3)) (K : Gj l shX D T ad nL R kc ks Γ Q x (st g k 4 v) (pc + 3) lv (rest)) : Gj l shX D T ad nL R kc ks Γ Q x g pc lv (.int v :: .ref (ad k) :: rest) := g_put (ci := 4) (C0 := RX4) (T0 := TX4) (N0 := 7) (j := 4) C rfl hk BX_X4 tyX4 tyX4_ok nmX4 (by decide) hr (List.mem_cons_of_mem _ bx_730) rfl (by decide +kernel) hdg K
theorem gX_get_X11_322 (C : Cx D T cc nL (c0 :: BX) RX11 ret Γ) {k : Nat} (hk : k < shX.1 ∧ shX.2.1 k = 3 ∧ shX.2.2.1 k = 4) (hr : shX.2.2.2.1 k 5 = 0) {v : Int32} (hv : g k 5 = v) (hdg : decode cc pc = .ok (.getfield 322, 3)) (K : Gj l shX D T ad nL R kc ks Γ Q x g (pc + 3) lv (.int v :: rest)) : Gj l shX D T ad nL R kc ks Γ Q x g pc lv (.ref (ad k) :: rest) := g_get (ci := 4) (C0 := RX4) (T0 := TX4) (N0 := 7) (j := 5) C rfl hk BX_X4 (by decide) hr (List.mem_cons_of_mem _ bx_739) hv hdg K
theorem gX_put_X11_322 (C : Cx D T cc nL (c0 :: BX) RX11 ret Γ) {k : Nat} (hk : k < shX.1 ∧ shX.2.1 k = 3 ∧ shX.2.2.1 k = 4) (hr : shX.2.2.2.1 k 5 = 0) {v : Int32} (hdg : decode cc pc = .ok (.putfield 322, 3)) (K : Gj l shX D T ad nL R kc ks Γ Q x (st g k 5 v) (pc + 3) lv (rest)) : Gj l shX D T ad nL R kc ks Γ Q x g pc lv (.int v :: .ref (ad k) :: rest) := g_put (ci := 4) (C0 := RX4) (T0 := TX4) (N0 := 7) (j := 5) C rfl hk BX_X4 tyX4 tyX4_ok nmX4 (by decide) hr (List.mem_cons_of_mem _ bx_739) rfl (by decide +kernel) hdg K
theorem gX_get_X11_325 (C : Cx D T cc nL (c0 :: BX) RX11 ret Γ) {k : Nat} (hk : k < shX.1 ∧ shX.2.1 k = 3 ∧ shX.2.2.1 k = 4) (hr : shX.2.2.2.1 k 6 = 0) {v : Int32} (hv : g k 6 = v) (hdg : decode cc pc = .ok (.getfield 325, 3)) (K : Gj l shX D T ad nL R kc ks Γ Q x g (pc + 3) lv (.int v :: rest)) : Gj l shX D T ad nL R kc ks Γ Q x g pc lv (.ref (ad k) :: rest) := g_get (ci := 4) (C0 := RX4) (T0 := TX4) (N0 := 7) (j := 6) C rfl hk BX_X4 (by decide) hr (List.mem_cons_of_mem _ bx_740) hv hdg K
theorem gX_put_X11_325 (C : Cx D T cc nL (c0 :: BX) RX11 ret Γ) {k : Nat} (hk : k < shX.1 ∧ shX.2.1 k = 3 ∧ shX.2.2.1 k = 4) (hr : shX.2.2.2.1 k 6 = 0) {v : Int32} (hdg : decode cc pc = .ok (.putfield 325, 3)) (K : Gj l shX D T ad nL R kc ks Γ Q x (st g k 6 v) (pc + 3) lv (rest)) : Gj l shX D T ad nL R kc ks Γ Q x g pc lv (.int v :: .ref (ad k) :: rest) := g_put (ci := 4) (C0 := RX4) (T0 := TX4) (N0 := 7) (j := 6) C rfl hk BX_X4 tyX4 tyX4_ok nmX4 (by decide) hr (List.mem_cons_of_mem _ bx_740) rfl (by decide +kernel) hdg K
theorem gX_get_X11_411 (C : Cx D T cc nL (c0 :: BX) RX11 ret Γ) {k : Nat} (hk : k < shX.1 ∧ shX.2.1 k = 3 ∧ shX.2.2.1 k = 10) (hr : shX.2.2.2.1 k 15 = 0) {v : Int32} (hv : g k 15 = v) (hdg : decode cc pc = .ok (.getfield 411, 3)) (K : Gj l shX D T ad nL R kc ks Γ Q x g (pc + 3) lv (.int v :: rest)) : Gj l shX D T ad nL R kc ks Γ Q x g pc lv (.ref (ad k) :: rest) := g_get (ci := 10) (C0 := RX11) (T0 := TX11) (N0 := 19) (j := 15) C rfl hk BX_X11 (by decide) hr (List.mem_cons_of_mem _ bx_773) hv hdg K
theorem gX_put_X11_411 (C : Cx D T cc nL (c0 :: BX) RX11 ret Γ) {k : Nat} (hk : k < shX.1 ∧ shX.2.1 k = 3 ∧ shX.2.2.1 k = 10) (hr : shX.2.2.2.1 k 15 = 0) {v : Int32} (hdg : decode cc pc = .ok (.putfield 411, 3)) (K : Gj l shX D T ad nL R kc ks Γ Q x (st g k 15 v) (pc + 3) lv (rest)) : Gj l shX D T ad nL R kc ks Γ Q x g pc lv (.int v :: .ref (ad k) :: rest) := g_put (ci := 10) (C0 := RX11) (T0 := TX11) (N0 := 19) (j := 15) C rfl hk BX_X11 tyX11 tyX11_ok nmX11 (by decide) hr (List.mem_cons_of_mem _ bx_773) rfl (by decide +kernel) hdg K
theorem gX_get_X11_362 (C : Cx D T cc nL (c0 :: BX) RX11 ret Γ) {k : Nat} (hk : k < shX.1 ∧ shX.2.1 k = 3 ∧ shX.2.2.1 k = 5) (hr : shX.2.2.2.1 k 3 = 0) {v : Int32} (hv : g k 3 = v) (hdg : decode cc pc = .ok (.getfield 362, 3)) (K : Gj l shX D T ad nL R kc ks Γ Q x g (pc + 3) lv (.int v :: rest)) : Gj l shX D T ad nL R kc ks Γ Q x g pc lv (.ref (ad k) :: rest) := g_get (ci := 5) (C0 := RX5) (T0 := TX5) (N0 := 4) (j := 3) C rfl hk BX_X5 (by decide) hr (List.mem_cons_of_mem _ bx_785) hv hdg K
theorem gX_put_X11_362 (C : Cx D T cc nL (c0 :: BX) RX11 ret Γ) {k : Nat} (hk : k < shX.1 ∧ shX.2.1 k = 3 ∧ shX.2.2.1 k = 5) (hr : shX.2.2.2.1 k 3 = 0) {v : Int32} (hdg : decode cc pc = .ok (.putfield 362, 3)) (K : Gj l shX D T ad nL R kc ks Γ Q x (st g k 3 v) (pc + 3) lv (rest)) : Gj l shX D T ad nL R kc ks Γ Q x g pc lv (.int v :: .ref (ad k) :: rest) := g_put (ci := 5) (C0 := RX5) (T0 := TX5) (N0 := 4) (j := 3) C rfl hk BX_X5 tyX5 tyX5_ok nmX5 (by decide) hr (List.mem_cons_of_mem _ bx_785) rfl (by decide +kernel) hdg K
end FX
def wX_Book_init : List Cond := .code yX0_init cX0_init 1 none :: BX
def wX_Book_clear : List Cond := .code yX0_clear cX0_clear 2 none :: BX
theorem kX_RX0_39_Book_clear {c0 : Cond} : kV (c0 :: BX) RX0 RX0 39 yX0_clear cX0_clear 2 0 none wX_Book_clear := BX_kV bx_33 bx_34 bx_35 bx_25 bx_6 (by decide +kernel)
theorem kX_RX11_136_Book_clear {c0 : Cond} : kV (c0 :: BX) RX11 RX0 136 yX0_clear cX0_clear 2 0 none wX_Book_clear := BX_kV bx_587 bx_34 bx_35 bx_25 bx_6 (by decide +kernel)
def wX_Book_take : List Cond := .code yX0_take cX0_take 2 none :: BX
theorem kX_RX11_172_Book_take {c0 : Cond} : kV (c0 :: BX) RX11 RX0 172 yX0_take cX0_take 2 1 none wX_Book_take := BX_kV bx_618 bx_619 bx_620 bx_25 bx_8 (by decide +kernel)
def wX_Book_tellsOf : List Cond := .code yX0_tellsOf cX0_tellsOf 2 (some .boolean) :: BX
theorem kX_RX0_29_Book_tellsOf {c0 : Cond} : kV (c0 :: BX) RX0 RX0 29 yX0_tellsOf cX0_tellsOf 2 1 (some .boolean) wX_Book_tellsOf := BX_kV bx_22 bx_23 bx_24 bx_25 bx_19 (by decide +kernel)
theorem kX_RX11_328_Book_tellsOf {c0 : Cond} : kV (c0 :: BX) RX11 RX0 328 yX0_tellsOf cX0_tellsOf 2 1 (some .boolean) wX_Book_tellsOf := BX_kV bx_742 bx_23 bx_24 bx_25 bx_19 (by decide +kernel)
def wX_Book_isRightFor : List Cond := .code yX0_isRightFor cX0_isRightFor 3 (some .boolean) :: BX
theorem kX_RX11_400_Book_isRightFor {c0 : Cond} : kV (c0 :: BX) RX11 RX0 400 yX0_isRightFor cX0_isRightFor 3 1 (some .boolean) wX_Book_isRightFor := BX_kV bx_719 bx_720 bx_721 bx_25 bx_21 (by decide +kernel)
def wX_Book_readFrom : List Cond := .code yX0_readFrom cX0_readFrom 5 none :: BX
theorem kX_RX11_171_Book_readFrom {c0 : Cond} : kV (c0 :: BX) RX11 RX0 171 yX0_readFrom cX0_readFrom 5 2 none wX_Book_readFrom := BX_kV bx_615 bx_616 bx_617 bx_25 bx_77 (by decide +kernel)
def wX_Land_init : List Cond := .code yX1_init cX1_init 1 none :: BX
def wX_Land_take : List Cond := .code yX1_take cX1_take 2 none :: BX
theorem kX_RX11_132_Land_take {c0 : Cond} : kV (c0 :: BX) RX11 RX1 132 yX1_take cX1_take 2 1 none wX_Land_take := BX_kV bx_584 bx_585 bx_586 bx_161 bx_84 (by decide +kernel)
def wX_Land_areFriends : List Cond := .code yX1_areFriends cX1_areFriends 3 (some .boolean) :: BX
theorem kX_RX7_83_Land_areFriends {c0 : Cond} : kV (c0 :: BX) RX7 RX1 83 yX1_areFriends cX1_areFriends 3 2 (some .boolean) wX_Land_areFriends := BX_kV bx_354 bx_355 bx_356 bx_161 bx_87 (by decide +kernel)
theorem kX_RX11_349_Land_areFriends {c0 : Cond} : kV (c0 :: BX) RX11 RX1 349 yX1_areFriends cX1_areFriends 3 2 (some .boolean) wX_Land_areFriends := BX_kV bx_763 bx_355 bx_356 bx_161 bx_87 (by decide +kernel)
def wX_Land_readFrom : List Cond := .code yX1_readFrom cX1_readFrom 3 none :: BX
theorem kX_RX11_121_Land_readFrom {c0 : Cond} : kV (c0 :: BX) RX11 RX1 121 yX1_readFrom cX1_readFrom 3 1 none wX_Land_readFrom := BX_kV bx_577 bx_578 bx_579 bx_161 bx_171 (by decide +kernel)
def wX_Land_readClause : List Cond := .code yX1_readClause cX1_readClause 5 none :: BX
theorem kX_RX1_44_Land_readClause {c0 : Cond} : kV (c0 :: BX) RX1 RX1 44 yX1_readClause cX1_readClause 5 2 none wX_Land_readClause := BX_kV bx_168 bx_169 bx_170 bx_161 bx_166 (by decide +kernel)
def wX_Land_readPerson : List Cond := .code yX1_readPerson cX1_readPerson 2 none :: BX
theorem kX_RX1_67_Land_readPerson {c0 : Cond} : kV (c0 :: BX) RX1 RX1 67 yX1_readPerson cX1_readPerson 2 1 none wX_Land_readPerson := BX_kV bx_158 bx_159 bx_160 bx_161 bx_91 (by decide +kernel)
def wX_Land_readFriends : List Cond := .code yX1_readFriends cX1_readFriends 4 none :: BX
theorem kX_RX1_71_Land_readFriends {c0 : Cond} : kV (c0 :: BX) RX1 RX1 71 yX1_readFriends cX1_readFriends 4 1 none wX_Land_readFriends := BX_kV bx_162 bx_163 bx_164 bx_161 bx_95 (by decide +kernel)
def wX_Law_init : List Cond := .code yX2_init cX2_init 1 none :: BX
def wX_Law_clear : List Cond := .code yX2_clear cX2_clear 1 none :: BX
theorem kX_RX2_35_Law_clear {c0 : Cond} : kV (c0 :: BX) RX2 RX2 35 yX2_clear cX2_clear 1 0 none wX_Law_clear := BX_kV bx_184 bx_185 bx_186 bx_187 bx_177 (by decide +kernel)
theorem kX_RX3_22_Law_clear {c0 : Cond} : kV (c0 :: BX) RX3 RX2 22 yX2_clear cX2_clear 1 0 none wX_Law_clear := BX_kV bx_238 bx_185 bx_186 bx_187 bx_177 (by decide +kernel)
def wX_Law_add : List Cond := .code yX2_add cX2_add 2 none :: BX
theorem kX_RX2_38_Law_add {c0 : Cond} : kV (c0 :: BX) RX2 RX2 38 yX2_add cX2_add 2 1 none wX_Law_add := BX_kV bx_188 bx_189 bx_190 bx_187 bx_179 (by decide +kernel)
theorem kX_RX3_63_Law_add {c0 : Cond} : kV (c0 :: BX) RX3 RX2 63 yX2_add cX2_add 2 1 none wX_Law_add := BX_kV bx_216 bx_189 bx_190 bx_187 bx_179 (by decide +kernel)
def wX_Law_take : List Cond := .code yX2_take cX2_take 2 none :: BX
theorem kX_RX11_149_Law_take {c0 : Cond} : kV (c0 :: BX) RX11 RX2 149 yX2_take cX2_take 2 1 none wX_Law_take := BX_kV bx_595 bx_596 bx_597 bx_187 bx_181 (by decide +kernel)
def wX_Law_becomePlain : List Cond := .code yX2_becomePlain cX2_becomePlain 1 none :: BX
theorem kX_RX11_97_Law_becomePlain {c0 : Cond} : kV (c0 :: BX) RX11 RX2 97 yX2_becomePlain cX2_becomePlain 1 0 none wX_Law_becomePlain := BX_kV bx_549 bx_550 bx_551 bx_187 bx_183 (by decide +kernel)
def wX_Law_answer : List Cond := .code yX2_answer cX2_answer 5 (some .int) :: BX
theorem kX_RX7_91_Law_answer {c0 : Cond} : kV (c0 :: BX) RX7 RX2 91 yX2_answer cX2_answer 5 0 (some .int) wX_Law_answer := BX_kV bx_360 bx_361 bx_362 bx_187 bx_192 (by decide +kernel)
theorem kX_RX11_265_Law_answer {c0 : Cond} : kV (c0 :: BX) RX11 RX2 265 yX2_answer cX2_answer 5 0 (some .int) wX_Law_answer := BX_kV bx_674 bx_361 bx_362 bx_187 bx_192 (by decide +kernel)
def wX_Law_joined : List Cond := .code yX2_joined cX2_joined 3 (some .int) :: BX
theorem kX_RX2_46_Law_joined {c0 : Cond} : kS (c0 :: BX) RX2 46 yX2_joined cX2_joined 3 3 (some .int) wX_Law_joined := BX_kS bx_194 bx_195 bx_187 bx_191 (by decide +kernel)
def wX_LawReader_init : List Cond := .code yX3_init cX3_init 1 none :: BX
def wX_LawReader_readFrom : List Cond := .code yX3_readFrom cX3_readFrom 5 none :: BX
theorem kX_RX11_146_LawReader_readFrom {c0 : Cond} : kV (c0 :: BX) RX11 RX3 146 yX3_readFrom cX3_readFrom 5 2 none wX_LawReader_readFrom := BX_kV bx_592 bx_593 bx_594 bx_208 bx_246 (by decide +kernel)
def wX_LawReader_readUnit : List Cond := .code yX3_readUnit cX3_readUnit 5 (some .boolean) :: BX
theorem kX_RX3_33_LawReader_readUnit {c0 : Cond} : kV (c0 :: BX) RX3 RX3 33 yX3_readUnit cX3_readUnit 5 2 (some .boolean) wX_LawReader_readUnit := BX_kV bx_240 bx_241 bx_242 bx_208 bx_228 (by decide +kernel)
def wX_LawReader_push : List Cond := .code yX3_push cX3_push 4 none :: BX
theorem kX_RX3_67_LawReader_push {c0 : Cond} : kV (c0 :: BX) RX3 RX3 67 yX3_push cX3_push 4 3 none wX_LawReader_push := BX_kV bx_217 bx_218 bx_219 bx_208 bx_202 (by decide +kernel)
def wX_LawReader_hold : List Cond := .code yX3_hold cX3_hold 2 none :: BX
theorem kX_RX3_96_LawReader_hold {c0 : Cond} : kV (c0 :: BX) RX3 RX3 96 yX3_hold cX3_hold 2 1 none wX_LawReader_hold := BX_kV bx_205 bx_206 bx_207 bx_208 bx_199 (by decide +kernel)
def wX_LawReader_factOf : List Cond := .code yX3_factOf cX3_factOf 1 (some .int) :: BX
theorem kX_RX3_77_LawReader_factOf {c0 : Cond} : kS (c0 :: BX) RX3 77 yX3_factOf cX3_factOf 1 1 (some .int) wX_LawReader_factOf := BX_kS bx_225 bx_226 bx_208 bx_210 (by decide +kernel)
def wX_LawReader_readSign : List Cond := .code yX3_readSign cX3_readSign 6 (some .boolean) :: BX
theorem kX_RX3_37_LawReader_readSign {c0 : Cond} : kV (c0 :: BX) RX3 RX3 37 yX3_readSign cX3_readSign 6 2 (some .boolean) wX_LawReader_readSign := BX_kV bx_243 bx_244 bx_245 bx_208 bx_237 (by decide +kernel)
def wX_LawReader_rankOf : List Cond := .code yX3_rankOf cX3_rankOf 1 (some .int) :: BX
theorem kX_RX3_121_LawReader_rankOf {c0 : Cond} : kS (c0 :: BX) RX3 121 yX3_rankOf cX3_rankOf 1 1 (some .int) wX_LawReader_rankOf := BX_kS bx_232 bx_233 bx_208 bx_229 (by decide +kernel)
def wX_LawReader_settle : List Cond := .code yX3_settle cX3_settle 3 none :: BX
theorem kX_RX3_47_LawReader_settle {c0 : Cond} : kV (c0 :: BX) RX3 RX3 47 yX3_settle cX3_settle 3 2 none wX_LawReader_settle := BX_kV bx_234 bx_235 bx_236 bx_208 bx_230 (by decide +kernel)
def wX_Orders_init : List Cond := .code yX4_init cX4_init 1 none :: BX
def wX_Orders_gather : List Cond := .code yX4_gather cX4_gather 5 (some .boolean) :: BX
theorem kX_RX11_383_Orders_gather {c0 : Cond} : kV (c0 :: BX) RX11 RX4 383 yX4_gather cX4_gather 5 2 (some .boolean) wX_Orders_gather := BX_kV bx_709 bx_710 bx_711 bx_279 bx_272 (by decide +kernel)
def wX_Orders_step : List Cond := .code yX4_step cX4_step 5 (some .boolean) :: BX
theorem kX_RX11_408_Orders_step {c0 : Cond} : kV (c0 :: BX) RX11 RX4 408 yX4_step cX4_step 5 0 (some .boolean) wX_Orders_step := BX_kV bx_725 bx_726 bx_727 bx_279 bx_275 (by decide +kernel)
def wX_Orders_swap : List Cond := .code yX4_swap cX4_swap 4 none :: BX
theorem kX_RX4_44_Orders_swap {c0 : Cond} : kV (c0 :: BX) RX4 RX4 44 yX4_swap cX4_swap 4 2 none wX_Orders_swap := BX_kV bx_276 bx_277 bx_278 bx_279 bx_273 (by decide +kernel)
def wX_Orders_digits : List Cond := .code yX4_digits cX4_digits 3 (some .int) :: BX
theorem kX_RX4_63_Orders_digits {c0 : Cond} : kV (c0 :: BX) RX4 RX4 63 yX4_digits cX4_digits 3 0 (some .int) wX_Orders_digits := BX_kV bx_296 bx_297 bx_298 bx_279 bx_280 (by decide +kernel)
def wX_Orders_forget : List Cond := .code yX4_forget cX4_forget 2 none :: BX
theorem kX_RX11_387_Orders_forget {c0 : Cond} : kV (c0 :: BX) RX11 RX4 387 yX4_forget cX4_forget 2 0 none wX_Orders_forget := BX_kV bx_715 bx_716 bx_717 bx_279 bx_281 (by decide +kernel)
def wX_Orders_note : List Cond := .code yX4_note cX4_note 4 none :: BX
theorem kX_RX11_404_Orders_note {c0 : Cond} : kV (c0 :: BX) RX11 RX4 404 yX4_note cX4_note 4 2 none wX_Orders_note := BX_kV bx_722 bx_723 bx_724 bx_279 bx_302 (by decide +kernel)
def wX_Orders_countStones : List Cond := .code yX4_countStones cX4_countStones 4 none :: BX
theorem kX_RX4_66_Orders_countStones {c0 : Cond} : kV (c0 :: BX) RX4 RX4 66 yX4_countStones cX4_countStones 4 1 none wX_Orders_countStones := BX_kV bx_299 bx_300 bx_301 bx_279 bx_286 (by decide +kernel)
def wX_Orders_mostAlike : List Cond := .code yX4_mostAlike cX4_mostAlike 4 (some .int) :: BX
theorem kX_RX11_331_Orders_mostAlike {c0 : Cond} : kV (c0 :: BX) RX11 RX4 331 yX4_mostAlike cX4_mostAlike 4 1 (some .int) wX_Orders_mostAlike := BX_kV bx_743 bx_744 bx_745 bx_279 bx_303 (by decide +kernel)
def wX_Past_init : List Cond := .code yX5_init cX5_init 1 none :: BX
def wX_Past_clear : List Cond := .code yX5_clear cX5_clear 1 none :: BX
theorem kX_RX11_139_Past_clear {c0 : Cond} : kV (c0 :: BX) RX11 RX5 139 yX5_clear cX5_clear 1 0 none wX_Past_clear := BX_kV bx_588 bx_589 bx_590 bx_528 bx_311 (by decide +kernel)
def wX_Past_isFull : List Cond := .code yX5_isFull cX5_isFull 1 (some .boolean) :: BX
theorem kX_RX11_152_Past_isFull {c0 : Cond} : kV (c0 :: BX) RX11 RX5 152 yX5_isFull cX5_isFull 1 0 (some .boolean) wX_Past_isFull := BX_kV bx_601 bx_602 bx_603 bx_528 bx_314 (by decide +kernel)
def wX_Past_keepWork : List Cond := .code yX5_keepWork cX5_keepWork 2 none :: BX
theorem kX_RX11_158_Past_keepWork {c0 : Cond} : kV (c0 :: BX) RX11 RX5 158 yX5_keepWork cX5_keepWork 2 1 none wX_Past_keepWork := BX_kV bx_607 bx_608 bx_609 bx_528 bx_315 (by decide +kernel)
def wX_Past_undoWork : List Cond := .code yX5_undoWork cX5_undoWork 2 none :: BX
theorem kX_RX11_184_Past_undoWork {c0 : Cond} : kV (c0 :: BX) RX11 RX5 184 yX5_undoWork cX5_undoWork 2 1 none wX_Past_undoWork := BX_kV bx_625 bx_626 bx_627 bx_528 bx_324 (by decide +kernel)
def wX_Past_keepImage : List Cond := .code yX5_keepImage cX5_keepImage 3 none :: BX
theorem kX_RX11_365_Past_keepImage {c0 : Cond} : kV (c0 :: BX) RX11 RX5 365 yX5_keepImage cX5_keepImage 3 1 none wX_Past_keepImage := BX_kV bx_786 bx_787 bx_788 bx_528 bx_331 (by decide +kernel)
def wX_Past_restoreImage : List Cond := .code yX5_restoreImage cX5_restoreImage 3 none :: BX
theorem kX_RX11_368_Past_restoreImage {c0 : Cond} : kV (c0 :: BX) RX11 RX5 368 yX5_restoreImage cX5_restoreImage 3 1 none wX_Past_restoreImage := BX_kV bx_790 bx_791 bx_792 bx_528 bx_333 (by decide +kernel)
def wX_Rows_at : List Cond := .code yX6_at cX6_at 2 (some .int) :: BX
theorem kX_RX6_7_Rows_at {c0 : Cond} : kS (c0 :: BX) RX6 7 yX6_at cX6_at 2 2 (some .int) wX_Rows_at := BX_kS bx_13 bx_14 bx_11 bx_15 (by decide +kernel)
theorem kX_RX0_25_Rows_at {c0 : Cond} : kS (c0 :: BX) RX0 25 yX6_at cX6_at 2 2 (some .int) wX_Rows_at := BX_kS bx_20 bx_14 bx_11 bx_15 (by decide +kernel)
theorem kX_RX9_37_Rows_at {c0 : Cond} : kS (c0 :: BX) RX9 37 yX6_at cX6_at 2 2 (some .int) wX_Rows_at := BX_kS bx_49 bx_14 bx_11 bx_15 (by decide +kernel)
theorem kX_RX1_34_Rows_at {c0 : Cond} : kS (c0 :: BX) RX1 34 yX6_at cX6_at 2 2 (some .int) wX_Rows_at := BX_kS bx_88 bx_14 bx_11 bx_15 (by decide +kernel)
theorem kX_RX2_42_Rows_at {c0 : Cond} : kS (c0 :: BX) RX2 42 yX6_at cX6_at 2 2 (some .int) wX_Rows_at := BX_kS bx_193 bx_14 bx_11 bx_15 (by decide +kernel)
theorem kX_RX3_125_Rows_at {c0 : Cond} : kS (c0 :: BX) RX3 125 yX6_at cX6_at 2 2 (some .int) wX_Rows_at := BX_kS bx_231 bx_14 bx_11 bx_15 (by decide +kernel)
theorem kX_RX7_41_Rows_at {c0 : Cond} : kS (c0 :: BX) RX7 41 yX6_at cX6_at 2 2 (some .int) wX_Rows_at := BX_kS bx_263 bx_14 bx_11 bx_15 (by decide +kernel)
theorem kX_RX4_40_Rows_at {c0 : Cond} : kS (c0 :: BX) RX4 40 yX6_at cX6_at 2 2 (some .int) wX_Rows_at := BX_kS bx_274 bx_14 bx_11 bx_15 (by decide +kernel)
theorem kX_RX5_44_Rows_at {c0 : Cond} : kS (c0 :: BX) RX5 44 yX6_at cX6_at 2 2 (some .int) wX_Rows_at := BX_kS bx_332 bx_14 bx_11 bx_15 (by decide +kernel)
theorem kX_RX8_105_Rows_at {c0 : Cond} : kS (c0 :: BX) RX8 105 yX6_at cX6_at 2 2 (some .int) wX_Rows_at := BX_kS bx_416 bx_14 bx_11 bx_15 (by decide +kernel)
theorem kX_RX10_61_Rows_at {c0 : Cond} : kS (c0 :: BX) RX10 61 yX6_at cX6_at 2 2 (some .int) wX_Rows_at := BX_kS bx_473 bx_14 bx_11 bx_15 (by decide +kernel)
theorem kX_RX11_221_Rows_at {c0 : Cond} : kS (c0 :: BX) RX11 221 yX6_at cX6_at 2 2 (some .int) wX_Rows_at := BX_kS bx_661 bx_14 bx_11 bx_15 (by decide +kernel)
def wX_Rows_put : List Cond := .code yX6_put cX6_put 3 none :: BX
theorem kX_RX6_13_Rows_put {c0 : Cond} : kS (c0 :: BX) RX6 13 yX6_put cX6_put 3 3 none wX_Rows_put := BX_kS bx_16 bx_17 bx_11 bx_18 (by decide +kernel)
theorem kX_RX0_62_Rows_put {c0 : Cond} : kS (c0 :: BX) RX0 62 yX6_put cX6_put 3 3 none wX_Rows_put := BX_kS bx_72 bx_17 bx_11 bx_18 (by decide +kernel)
theorem kX_RX1_82_Rows_put {c0 : Cond} : kS (c0 :: BX) RX1 82 yX6_put cX6_put 3 3 none wX_Rows_put := BX_kS bx_90 bx_17 bx_11 bx_18 (by decide +kernel)
theorem kX_RX2_25_Rows_put {c0 : Cond} : kS (c0 :: BX) RX2 25 yX6_put cX6_put 3 3 none wX_Rows_put := BX_kS bx_180 bx_17 bx_11 bx_18 (by decide +kernel)
theorem kX_RX3_99_Rows_put {c0 : Cond} : kS (c0 :: BX) RX3 99 yX6_put cX6_put 3 3 none wX_Rows_put := BX_kS bx_201 bx_17 bx_11 bx_18 (by decide +kernel)
theorem kX_RX4_34_Rows_put {c0 : Cond} : kS (c0 :: BX) RX4 34 yX6_put cX6_put 3 3 none wX_Rows_put := BX_kS bx_271 bx_17 bx_11 bx_18 (by decide +kernel)
theorem kX_RX7_47_Rows_put {c0 : Cond} : kS (c0 :: BX) RX7 47 yX6_put cX6_put 3 3 none wX_Rows_put := BX_kS bx_323 bx_17 bx_11 bx_18 (by decide +kernel)
theorem kX_RX5_34_Rows_put {c0 : Cond} : kS (c0 :: BX) RX5 34 yX6_put cX6_put 3 3 none wX_Rows_put := BX_kS bx_329 bx_17 bx_11 bx_18 (by decide +kernel)
theorem kX_RX8_99_Rows_put {c0 : Cond} : kS (c0 :: BX) RX8 99 yX6_put cX6_put 3 3 none wX_Rows_put := BX_kS bx_413 bx_17 bx_11 bx_18 (by decide +kernel)
theorem kX_RX9_22_Rows_put {c0 : Cond} : kS (c0 :: BX) RX9 22 yX6_put cX6_put 3 3 none wX_Rows_put := BX_kS bx_463 bx_17 bx_11 bx_18 (by decide +kernel)
theorem kX_RX10_43_Rows_put {c0 : Cond} : kS (c0 :: BX) RX10 43 yX6_put cX6_put 3 3 none wX_Rows_put := BX_kS bx_476 bx_17 bx_11 bx_18 (by decide +kernel)
theorem kX_RX11_261_Rows_put {c0 : Cond} : kS (c0 :: BX) RX11 261 yX6_put cX6_put 3 3 none wX_Rows_put := BX_kS bx_673 bx_17 bx_11 bx_18 (by decide +kernel)
def wX_Rows_copy : List Cond := .code yX6_copy cX6_copy 6 none :: BX
theorem kX_RX0_19_Rows_copy {c0 : Cond} : kS (c0 :: BX) RX0 19 yX6_copy cX6_copy 6 5 none wX_Rows_copy := BX_kS bx_9 bx_10 bx_11 bx_12 (by decide +kernel)
theorem kX_RX1_28_Rows_copy {c0 : Cond} : kS (c0 :: BX) RX1 28 yX6_copy cX6_copy 6 5 none wX_Rows_copy := BX_kS bx_86 bx_10 bx_11 bx_12 (by decide +kernel)
theorem kX_RX2_31_Rows_copy {c0 : Cond} : kS (c0 :: BX) RX2 31 yX6_copy cX6_copy 6 5 none wX_Rows_copy := BX_kS bx_182 bx_10 bx_11 bx_12 (by decide +kernel)
theorem kX_RX7_51_Rows_copy {c0 : Cond} : kS (c0 :: BX) RX7 51 yX6_copy cX6_copy 6 5 none wX_Rows_copy := BX_kS bx_322 bx_10 bx_11 bx_12 (by decide +kernel)
theorem kX_RX5_40_Rows_copy {c0 : Cond} : kS (c0 :: BX) RX5 40 yX6_copy cX6_copy 6 5 none wX_Rows_copy := BX_kS bx_330 bx_10 bx_11 bx_12 (by decide +kernel)
theorem kX_RX10_77_Rows_copy {c0 : Cond} : kS (c0 :: BX) RX10 77 yX6_copy cX6_copy 6 5 none wX_Rows_copy := BX_kS bx_482 bx_10 bx_11 bx_12 (by decide +kernel)
def wX_State_init : List Cond := .code yX7_init cX7_init 3 none :: BX
def wX_State_begin : List Cond := .code yX7_begin cX7_begin 2 none :: BX
theorem kX_RX11_100_State_begin {c0 : Cond} : kV (c0 :: BX) RX11 RX7 100 yX7_begin cX7_begin 2 0 none wX_State_begin := BX_kV bx_552 bx_553 bx_554 bx_29 bx_337 (by decide +kernel)
def wX_State_take : List Cond := .code yX7_take cX7_take 2 none :: BX
theorem kX_RX11_271_State_take {c0 : Cond} : kV (c0 :: BX) RX11 RX7 271 yX7_take cX7_take 2 1 none wX_State_take := BX_kV bx_678 bx_679 bx_680 bx_29 bx_339 (by decide +kernel)
def wX_State_writeTo : List Cond := .code yX7_writeTo cX7_writeTo 3 none :: BX
theorem kX_RX5_27_State_writeTo {c0 : Cond} : kV (c0 :: BX) RX5 RX7 27 yX7_writeTo cX7_writeTo 3 2 none wX_State_writeTo := BX_kV bx_316 bx_317 bx_318 bx_29 bx_319 (by decide +kernel)
def wX_State_readFrom : List Cond := .code yX7_readFrom cX7_readFrom 3 none :: BX
theorem kX_RX5_31_State_readFrom {c0 : Cond} : kV (c0 :: BX) RX5 RX7 31 yX7_readFrom cX7_readFrom 3 2 none wX_State_readFrom := BX_kV bx_325 bx_326 bx_327 bx_29 bx_328 (by decide +kernel)
def wX_State_lives : List Cond := .code yX7_lives cX7_lives 2 (some .boolean) :: BX
theorem kX_RX7_55_State_lives {c0 : Cond} : kV (c0 :: BX) RX7 RX7 55 yX7_lives cX7_lives 2 1 (some .boolean) wX_State_lives := BX_kV bx_258 bx_259 bx_260 bx_29 bx_261 (by decide +kernel)
theorem kX_RX10_49_State_lives {c0 : Cond} : kV (c0 :: BX) RX10 RX7 49 yX7_lives cX7_lives 2 1 (some .boolean) wX_State_lives := BX_kV bx_494 bx_259 bx_260 bx_29 bx_261 (by decide +kernel)
theorem kX_RX11_230_State_lives {c0 : Cond} : kV (c0 :: BX) RX11 RX7 230 yX7_lives cX7_lives 2 1 (some .boolean) wX_State_lives := BX_kV bx_662 bx_259 bx_260 bx_29 bx_261 (by decide +kernel)
def wX_State_isDead : List Cond := .code yX7_isDead cX7_isDead 2 (some .boolean) :: BX
theorem kX_RX7_59_State_isDead {c0 : Cond} : kV (c0 :: BX) RX7 RX7 59 yX7_isDead cX7_isDead 2 1 (some .boolean) wX_State_isDead := BX_kV bx_292 bx_293 bx_294 bx_29 bx_295 (by decide +kernel)
def wX_State_living : List Cond := .code yX7_living cX7_living 3 (some .int) :: BX
theorem kX_RX4_22_State_living {c0 : Cond} : kV (c0 :: BX) RX4 RX7 22 yX7_living cX7_living 3 0 (some .int) wX_State_living := BX_kV bx_252 bx_253 bx_254 bx_29 bx_255 (by decide +kernel)
theorem kX_RX11_187_State_living {c0 : Cond} : kV (c0 :: BX) RX11 RX7 187 yX7_living cX7_living 3 0 (some .int) wX_State_living := BX_kV bx_631 bx_253 bx_254 bx_29 bx_255 (by decide +kernel)
def wX_State_nameless : List Cond := .code yX7_nameless cX7_nameless 3 (some .int) :: BX
theorem kX_RX4_60_State_nameless {c0 : Cond} : kV (c0 :: BX) RX4 RX7 60 yX7_nameless cX7_nameless 3 0 (some .int) wX_State_nameless := BX_kV bx_288 bx_289 bx_290 bx_29 bx_291 (by decide +kernel)
theorem kX_RX11_190_State_nameless {c0 : Cond} : kV (c0 :: BX) RX11 RX7 190 yX7_nameless cX7_nameless 3 0 (some .int) wX_State_nameless := BX_kV bx_632 bx_289 bx_290 bx_29 bx_291 (by decide +kernel)
def wX_State_named : List Cond := .code yX7_named cX7_named 3 (some .int) :: BX
theorem kX_RX11_196_State_named {c0 : Cond} : kV (c0 :: BX) RX11 RX7 196 yX7_named cX7_named 3 0 (some .int) wX_State_named := BX_kV bx_633 bx_634 bx_635 bx_29 bx_340 (by decide +kernel)
def wX_State_howManyDead : List Cond := .code yX7_howManyDead cX7_howManyDead 3 (some .int) :: BX
theorem kX_RX7_87_State_howManyDead {c0 : Cond} : kV (c0 :: BX) RX7 RX7 87 yX7_howManyDead cX7_howManyDead 3 0 (some .int) wX_State_howManyDead := BX_kV bx_357 bx_358 bx_359 bx_29 bx_341 (by decide +kernel)
def wX_State_stonesOf : List Cond := .code yX7_stonesOf cX7_stonesOf 4 (some .int) :: BX
theorem kX_RX0_33_State_stonesOf {c0 : Cond} : kV (c0 :: BX) RX0 RX7 33 yX7_stonesOf cX7_stonesOf 4 1 (some .int) wX_State_stonesOf := BX_kV bx_26 bx_27 bx_28 bx_29 bx_30 (by decide +kernel)
theorem kX_RX4_70_State_stonesOf {c0 : Cond} : kV (c0 :: BX) RX4 RX7 70 yX7_stonesOf cX7_stonesOf 4 1 (some .int) wX_State_stonesOf := BX_kV bx_287 bx_27 bx_28 bx_29 bx_30 (by decide +kernel)
theorem kX_RX7_62_State_stonesOf {c0 : Cond} : kV (c0 :: BX) RX7 RX7 62 yX7_stonesOf cX7_stonesOf 4 1 (some .int) wX_State_stonesOf := BX_kV bx_344 bx_27 bx_28 bx_29 bx_30 (by decide +kernel)
theorem kX_RX11_237_State_stonesOf {c0 : Cond} : kV (c0 :: BX) RX11 RX7 237 yX7_stonesOf cX7_stonesOf 4 1 (some .int) wX_State_stonesOf := BX_kV bx_663 bx_27 bx_28 bx_29 bx_30 (by decide +kernel)
def wX_State_stonesUpTo : List Cond := .code yX7_stonesUpTo cX7_stonesUpTo 5 (some .int) :: BX
theorem kX_RX11_341_State_stonesUpTo {c0 : Cond} : kV (c0 :: BX) RX11 RX7 341 yX7_stonesUpTo cX7_stonesUpTo 5 2 (some .int) wX_State_stonesUpTo := BX_kV bx_757 bx_758 bx_759 bx_29 bx_342 (by decide +kernel)
def wX_State_directlyUnder : List Cond := .code yX7_directlyUnder cX7_directlyUnder 4 (some .int) :: BX
theorem kX_RX11_241_State_directlyUnder {c0 : Cond} : kV (c0 :: BX) RX11 RX7 241 yX7_directlyUnder cX7_directlyUnder 4 1 (some .int) wX_State_directlyUnder := BX_kV bx_664 bx_665 bx_666 bx_29 bx_345 (by decide +kernel)
def wX_State_allDebts : List Cond := .code yX7_allDebts cX7_allDebts 3 (some .int) :: BX
theorem kX_RX11_199_State_allDebts {c0 : Cond} : kV (c0 :: BX) RX11 RX7 199 yX7_allDebts cX7_allDebts 3 0 (some .int) wX_State_allDebts := BX_kV bx_636 bx_637 bx_638 bx_29 bx_346 (by decide +kernel)
def wX_State_debtsOfDead : List Cond := .code yX7_debtsOfDead cX7_debtsOfDead 3 (some .int) :: BX
theorem kX_RX11_202_State_debtsOfDead {c0 : Cond} : kV (c0 :: BX) RX11 RX7 202 yX7_debtsOfDead cX7_debtsOfDead 3 0 (some .int) wX_State_debtsOfDead := BX_kV bx_639 bx_640 bx_641 bx_29 bx_347 (by decide +kernel)
def wX_State_mostInDebt : List Cond := .code yX7_mostInDebt cX7_mostInDebt 3 (some .int) :: BX
theorem kX_RX11_279_State_mostInDebt {c0 : Cond} : kV (c0 :: BX) RX11 RX7 279 yX7_mostInDebt cX7_mostInDebt 3 0 (some .int) wX_State_mostInDebt := BX_kV bx_685 bx_686 bx_687 bx_29 bx_348 (by decide +kernel)
def wX_State_roomOf : List Cond := .code yX7_roomOf cX7_roomOf 2 (some .int) :: BX
theorem kX_RX10_37_State_roomOf {c0 : Cond} : kV (c0 :: BX) RX10 RX7 37 yX7_roomOf cX7_roomOf 2 1 (some .int) wX_State_roomOf := BX_kV bx_491 bx_492 bx_493 bx_29 bx_349 (by decide +kernel)
def wX_State_hasRoom : List Cond := .code yX7_hasRoom cX7_hasRoom 2 (some .boolean) :: BX
theorem kX_RX7_94_State_hasRoom {c0 : Cond} : kV (c0 :: BX) RX7 RX7 94 yX7_hasRoom cX7_hasRoom 2 1 (some .boolean) wX_State_hasRoom := BX_kV bx_365 bx_366 bx_367 bx_29 bx_351 (by decide +kernel)
theorem kX_RX11_352_State_hasRoom {c0 : Cond} : kV (c0 :: BX) RX11 RX7 352 yX7_hasRoom cX7_hasRoom 2 1 (some .boolean) wX_State_hasRoom := BX_kV bx_764 bx_366 bx_367 bx_29 bx_351 (by decide +kernel)
def wX_State_willOf : List Cond := .code yX7_willOf cX7_willOf 4 (some .int) :: BX
theorem kX_RX7_100_State_willOf {c0 : Cond} : kV (c0 :: BX) RX7 RX7 100 yX7_willOf cX7_willOf 4 2 (some .int) wX_State_willOf := BX_kV bx_371 bx_372 bx_373 bx_29 bx_363 (by decide +kernel)
theorem kX_RX10_69_State_willOf {c0 : Cond} : kV (c0 :: BX) RX10 RX7 69 yX7_willOf cX7_willOf 4 2 (some .int) wX_State_willOf := BX_kV bx_475 bx_372 bx_373 bx_29 bx_363 (by decide +kernel)
theorem kX_RX11_250_State_willOf {c0 : Cond} : kV (c0 :: BX) RX11 RX7 250 yX7_willOf cX7_willOf 4 2 (some .int) wX_State_willOf := BX_kV bx_668 bx_372 bx_373 bx_29 bx_363 (by decide +kernel)
def wX_State_couldLend : List Cond := .code yX7_couldLend cX7_couldLend 3 (some .boolean) :: BX
theorem kX_RX7_97_State_couldLend {c0 : Cond} : kV (c0 :: BX) RX7 RX7 97 yX7_couldLend cX7_couldLend 3 2 (some .boolean) wX_State_couldLend := BX_kV bx_368 bx_369 bx_370 bx_29 bx_364 (by decide +kernel)
def wX_State_lendsTo : List Cond := .code yX7_lendsTo cX7_lendsTo 3 (some .boolean) :: BX
theorem kX_RX7_110_State_lendsTo {c0 : Cond} : kV (c0 :: BX) RX7 RX7 110 yX7_lendsTo cX7_lendsTo 3 2 (some .boolean) wX_State_lendsTo := BX_kV bx_391 bx_392 bx_393 bx_29 bx_374 (by decide +kernel)
theorem kX_RX10_65_State_lendsTo {c0 : Cond} : kV (c0 :: BX) RX10 RX7 65 yX7_lendsTo cX7_lendsTo 3 2 (some .boolean) wX_State_lendsTo := BX_kV bx_474 bx_392 bx_393 bx_29 bx_374 (by decide +kernel)
theorem kX_RX11_254_State_lendsTo {c0 : Cond} : kV (c0 :: BX) RX11 RX7 254 yX7_lendsTo cX7_lendsTo 3 2 (some .boolean) wX_State_lendsTo := BX_kV bx_670 bx_392 bx_393 bx_29 bx_374 (by decide +kernel)
def wX_State_heirOf : List Cond := .code yX7_heirOf cX7_heirOf 7 (some .int) :: BX
theorem kX_RX7_103_State_heirOf {c0 : Cond} : kV (c0 :: BX) RX7 RX7 103 yX7_heirOf cX7_heirOf 7 1 (some .int) wX_State_heirOf := BX_kV bx_376 bx_377 bx_378 bx_29 bx_375 (by decide +kernel)
theorem kX_RX11_268_State_heirOf {c0 : Cond} : kV (c0 :: BX) RX11 RX7 268 yX7_heirOf cX7_heirOf 7 1 (some .int) wX_State_heirOf := BX_kV bx_676 bx_377 bx_378 bx_29 bx_375 (by decide +kernel)
def wX_State_heirs : List Cond := .code yX7_heirs cX7_heirs 4 (some .int) :: BX
theorem kX_RX11_205_State_heirs {c0 : Cond} : kV (c0 :: BX) RX11 RX7 205 yX7_heirs cX7_heirs 4 0 (some .int) wX_State_heirs := BX_kV bx_642 bx_643 bx_644 bx_29 bx_379 (by decide +kernel)
def wX_State_heired : List Cond := .code yX7_heired cX7_heired 3 (some .int) :: BX
theorem kX_RX11_276_State_heired {c0 : Cond} : kV (c0 :: BX) RX11 RX7 276 yX7_heired cX7_heired 3 0 (some .int) wX_State_heired := BX_kV bx_682 bx_683 bx_684 bx_29 bx_380 (by decide +kernel)
def wX_State_does : List Cond := .code yX7_does cX7_does 5 (some .boolean) :: BX
theorem kX_RX8_123_State_does {c0 : Cond} : kV (c0 :: BX) RX8 RX7 123 yX7_does cX7_does 5 3 (some .boolean) wX_State_does := BX_kV bx_454 bx_455 bx_456 bx_29 bx_397 (by decide +kernel)
theorem kX_RX11_396_State_does {c0 : Cond} : kV (c0 :: BX) RX11 RX7 396 yX7_does cX7_does 5 3 (some .boolean) wX_State_does := BX_kV bx_718 bx_455 bx_456 bx_29 bx_397 (by decide +kernel)
def wX_State_owes : List Cond := .code yX7_owes cX7_owes 3 none :: BX
theorem kX_RX7_116_State_owes {c0 : Cond} : kV (c0 :: BX) RX7 RX7 116 yX7_owes cX7_owes 3 2 none wX_State_owes := BX_kV bx_383 bx_384 bx_385 bx_29 bx_381 (by decide +kernel)
def wX_State_takeName : List Cond := .code yX7_takeName cX7_takeName 3 none :: BX
theorem kX_RX7_106_State_takeName {c0 : Cond} : kV (c0 :: BX) RX7 RX7 106 yX7_takeName cX7_takeName 3 2 none wX_State_takeName := BX_kV bx_388 bx_389 bx_390 bx_29 bx_382 (by decide +kernel)
def wX_State_passYear : List Cond := .code yX7_passYear cX7_passYear 2 none :: BX
theorem kX_RX7_119_State_passYear {c0 : Cond} : kV (c0 :: BX) RX7 RX7 119 yX7_passYear cX7_passYear 2 0 none wX_State_passYear := BX_kV bx_394 bx_395 bx_396 bx_29 bx_386 (by decide +kernel)
theorem kX_RX11_273_State_passYear {c0 : Cond} : kV (c0 :: BX) RX11 RX7 273 yX7_passYear cX7_passYear 2 0 none wX_State_passYear := BX_kV bx_681 bx_395 bx_396 bx_29 bx_386 (by decide +kernel)
def wX_State_trueName : List Cond := .code yX7_trueName cX7_trueName 4 (some .int) :: BX
theorem kX_RX11_282_State_trueName {c0 : Cond} : kV (c0 :: BX) RX11 RX7 282 yX7_trueName cX7_trueName 4 1 (some .int) wX_State_trueName := BX_kV bx_689 bx_690 bx_691 bx_29 bx_398 (by decide +kernel)
def wX_State_chainLength : List Cond := .code yX7_chainLength cX7_chainLength 5 (some .int) :: BX
theorem kX_RX7_122_State_chainLength {c0 : Cond} : kV (c0 :: BX) RX7 RX7 122 yX7_chainLength cX7_chainLength 5 1 (some .int) wX_State_chainLength := BX_kV bx_401 bx_402 bx_403 bx_29 bx_399 (by decide +kernel)
theorem kX_RX11_285_State_chainLength {c0 : Cond} : kV (c0 :: BX) RX11 RX7 285 yX7_chainLength cX7_chainLength 5 1 (some .int) wX_State_chainLength := BX_kV bx_694 bx_402 bx_403 bx_29 bx_399 (by decide +kernel)
def wX_State_longestChain : List Cond := .code yX7_longestChain cX7_longestChain 3 (some .int) :: BX
theorem kX_RX11_211_State_longestChain {c0 : Cond} : kV (c0 :: BX) RX11 RX7 211 yX7_longestChain cX7_longestChain 3 0 (some .int) wX_State_longestChain := BX_kV bx_645 bx_646 bx_647 bx_29 bx_400 (by decide +kernel)
def wX_Steps_init : List Cond := .code yX8_init cX8_init 1 none :: BX
def wX_Steps_readFrom : List Cond := .code yX8_readFrom cX8_readFrom 4 none :: BX
theorem kX_RX11_155_Steps_readFrom {c0 : Cond} : kV (c0 :: BX) RX11 RX8 155 yX8_readFrom cX8_readFrom 4 2 none wX_Steps_readFrom := BX_kV bx_604 bx_605 bx_606 bx_420 bx_442 (by decide +kernel)
def wX_Steps_readStep : List Cond := .code yX8_readStep cX8_readStep 4 none :: BX
theorem kX_RX8_54_Steps_readStep {c0 : Cond} : kV (c0 :: BX) RX8 RX8 54 yX8_readStep cX8_readStep 4 2 none wX_Steps_readStep := BX_kV bx_439 bx_440 bx_441 bx_420 bx_431 (by decide +kernel)
def wX_Steps_openAgain : List Cond := .code yX8_openAgain cX8_openAgain 3 none :: BX
theorem kX_RX8_74_Steps_openAgain {c0 : Cond} : kV (c0 :: BX) RX8 RX8 74 yX8_openAgain cX8_openAgain 3 1 none wX_Steps_openAgain := BX_kV bx_428 bx_429 bx_430 bx_420 bx_425 (by decide +kernel)
def wX_Steps_closeAgain : List Cond := .code yX8_closeAgain cX8_closeAgain 2 none :: BX
theorem kX_RX8_47_Steps_closeAgain {c0 : Cond} : kV (c0 :: BX) RX8 RX8 47 yX8_closeAgain cX8_closeAgain 2 0 none wX_Steps_closeAgain := BX_kV bx_436 bx_437 bx_438 bx_420 bx_414 (by decide +kernel)
def wX_Steps_add : List Cond := .code yX8_add cX8_add 4 none :: BX
theorem kX_RX8_84_Steps_add {c0 : Cond} : kV (c0 :: BX) RX8 RX8 84 yX8_add cX8_add 4 3 none wX_Steps_add := BX_kV bx_417 bx_418 bx_419 bx_420 bx_411 (by decide +kernel)
def wX_Steps_run : List Cond := .code yX8_run cX8_run 6 none :: BX
theorem kX_RX11_162_Steps_run {c0 : Cond} : kV (c0 :: BX) RX11 RX8 162 yX8_run cX8_run 6 1 none wX_Steps_run := BX_kV bx_610 bx_611 bx_612 bx_420 bx_457 (by decide +kernel)
def wX_Steps_behindAgain : List Cond := .code yX8_behindAgain cX8_behindAgain 3 (some .int) :: BX
theorem kX_RX8_120_Steps_behindAgain {c0 : Cond} : kV (c0 :: BX) RX8 RX8 120 yX8_behindAgain cX8_behindAgain 3 1 (some .int) wX_Steps_behindAgain := BX_kV bx_451 bx_452 bx_453 bx_420 bx_444 (by decide +kernel)
def wX_Steps_behindEnd : List Cond := .code yX8_behindEnd cX8_behindEnd 3 (some .int) :: BX
theorem kX_RX8_116_Steps_behindEnd {c0 : Cond} : kV (c0 :: BX) RX8 RX8 116 yX8_behindEnd cX8_behindEnd 3 1 (some .int) wX_Steps_behindEnd := BX_kV bx_448 bx_449 bx_450 bx_420 bx_443 (by decide +kernel)
def wX_Text_init : List Cond := .code yX9_init cX9_init 1 none :: BX
def wX_Text_takesTwenty : List Cond := .code yX9_takesTwenty cX9_takesTwenty 1 (some .boolean) :: BX
theorem kX_RX11_103_Text_takesTwenty {c0 : Cond} : kV (c0 :: BX) RX11 RX9 103 yX9_takesTwenty cX9_takesTwenty 1 0 (some .boolean) wX_Text_takesTwenty := BX_kV bx_558 bx_559 bx_560 bx_39 bx_460 (by decide +kernel)
def wX_Text_takeNumber : List Cond := .code yX9_takeNumber cX9_takeNumber 3 none :: BX
theorem kX_RX11_107_Text_takeNumber {c0 : Cond} : kV (c0 :: BX) RX11 RX9 107 yX9_takeNumber cX9_takeNumber 3 1 none wX_Text_takeNumber := BX_kV bx_561 bx_562 bx_563 bx_39 bx_462 (by decide +kernel)
def wX_Text_begin : List Cond := .code yX9_begin cX9_begin 2 none :: BX
theorem kX_RX11_119_Text_begin {c0 : Cond} : kV (c0 :: BX) RX11 RX9 119 yX9_begin cX9_begin 2 1 none wX_Text_begin := BX_kV bx_574 bx_575 bx_576 bx_39 bx_464 (by decide +kernel)
def wX_Text_isSound : List Cond := .code yX9_isSound cX9_isSound 1 (some .boolean) :: BX
theorem kX_RX0_52_Text_isSound {c0 : Cond} : kV (c0 :: BX) RX0 RX9 52 yX9_isSound cX9_isSound 1 0 (some .boolean) wX_Text_isSound := BX_kV bx_67 bx_68 bx_69 bx_39 bx_70 (by decide +kernel)
theorem kX_RX1_89_Text_isSound {c0 : Cond} : kV (c0 :: BX) RX1 RX9 89 yX9_isSound cX9_isSound 1 0 (some .boolean) wX_Text_isSound := BX_kV bx_94 bx_68 bx_69 bx_39 bx_70 (by decide +kernel)
theorem kX_RX11_125_Text_isSound {c0 : Cond} : kV (c0 :: BX) RX11 RX9 125 yX9_isSound cX9_isSound 1 0 (some .boolean) wX_Text_isSound := BX_kV bx_580 bx_68 bx_69 bx_39 bx_70 (by decide +kernel)
def wX_Text_faultLessTen : List Cond := .code yX9_faultLessTen cX9_faultLessTen 1 (some .int) :: BX
theorem kX_RX11_128_Text_faultLessTen {c0 : Cond} : kV (c0 :: BX) RX11 RX9 128 yX9_faultLessTen cX9_faultLessTen 1 0 (some .int) wX_Text_faultLessTen := BX_kV bx_581 bx_582 bx_583 bx_39 bx_465 (by decide +kernel)
def wX_Text_blame : List Cond := .code yX9_blame cX9_blame 3 none :: BX
theorem kX_RX9_45_Text_blame {c0 : Cond} : kV (c0 :: BX) RX9 RX9 45 yX9_blame cX9_blame 3 2 none wX_Text_blame := BX_kV bx_62 bx_63 bx_64 bx_39 bx_65 (by decide +kernel)
theorem kX_RX0_58_Text_blame {c0 : Cond} : kV (c0 :: BX) RX0 RX9 58 yX9_blame cX9_blame 3 2 none wX_Text_blame := BX_kV bx_71 bx_63 bx_64 bx_39 bx_65 (by decide +kernel)
theorem kX_RX1_63_Text_blame {c0 : Cond} : kV (c0 :: BX) RX1 RX9 63 yX9_blame cX9_blame 3 2 none wX_Text_blame := BX_kV bx_93 bx_63 bx_64 bx_39 bx_65 (by decide +kernel)
theorem kX_RX3_43_Text_blame {c0 : Cond} : kV (c0 :: BX) RX3 RX9 43 yX9_blame cX9_blame 3 2 none wX_Text_blame := BX_kV bx_204 bx_63 bx_64 bx_39 bx_65 (by decide +kernel)
theorem kX_RX8_61_Text_blame {c0 : Cond} : kV (c0 :: BX) RX8 RX9 61 yX9_blame cX9_blame 3 2 none wX_Text_blame := BX_kV bx_422 bx_63 bx_64 bx_39 bx_65 (by decide +kernel)
def wX_Text_nextByte : List Cond := .code yX9_nextByte cX9_nextByte 1 (some .int) :: BX
theorem kX_RX9_41_Text_nextByte {c0 : Cond} : kV (c0 :: BX) RX9 RX9 41 yX9_nextByte cX9_nextByte 1 0 (some .int) wX_Text_nextByte := BX_kV bx_42 bx_43 bx_44 bx_39 bx_45 (by decide +kernel)
theorem kX_RX3_51_Text_nextByte {c0 : Cond} : kV (c0 :: BX) RX3 RX9 51 yX9_nextByte cX9_nextByte 1 0 (some .int) wX_Text_nextByte := BX_kV bx_213 bx_43 bx_44 bx_39 bx_45 (by decide +kernel)
theorem kX_RX8_40_Text_nextByte {c0 : Cond} : kV (c0 :: BX) RX8 RX9 40 yX9_nextByte cX9_nextByte 1 0 (some .int) wX_Text_nextByte := BX_kV bx_434 bx_43 bx_44 bx_39 bx_45 (by decide +kernel)
def wX_Text_hasMore : List Cond := .code yX9_hasMore cX9_hasMore 1 (some .boolean) :: BX
theorem kX_RX0_42_Text_hasMore {c0 : Cond} : kV (c0 :: BX) RX0 RX9 42 yX9_hasMore cX9_hasMore 1 0 (some .boolean) wX_Text_hasMore := BX_kV bx_36 bx_37 bx_38 bx_39 bx_40 (by decide +kernel)
theorem kX_RX1_38_Text_hasMore {c0 : Cond} : kV (c0 :: BX) RX1 RX9 38 yX9_hasMore cX9_hasMore 1 0 (some .boolean) wX_Text_hasMore := BX_kV bx_167 bx_37 bx_38 bx_39 bx_40 (by decide +kernel)
theorem kX_RX3_27_Text_hasMore {c0 : Cond} : kV (c0 :: BX) RX3 RX9 27 yX9_hasMore cX9_hasMore 1 0 (some .boolean) wX_Text_hasMore := BX_kV bx_239 bx_37 bx_38 bx_39 bx_40 (by decide +kernel)
theorem kX_RX8_34_Text_hasMore {c0 : Cond} : kV (c0 :: BX) RX8 RX9 34 yX9_hasMore cX9_hasMore 1 0 (some .boolean) wX_Text_hasMore := BX_kV bx_433 bx_37 bx_38 bx_39 bx_40 (by decide +kernel)
def wX_Text_pass : List Cond := .code yX9_pass cX9_pass 1 none :: BX
theorem kX_RX3_71_Text_pass {c0 : Cond} : kV (c0 :: BX) RX3 RX9 71 yX9_pass cX9_pass 1 0 none wX_Text_pass := BX_kV bx_220 bx_221 bx_222 bx_39 bx_223 (by decide +kernel)
theorem kX_RX8_44_Text_pass {c0 : Cond} : kV (c0 :: BX) RX8 RX9 44 yX9_pass cX9_pass 1 0 none wX_Text_pass := BX_kV bx_435 bx_221 bx_222 bx_39 bx_223 (by decide +kernel)
def wX_Text_expect : List Cond := .code yX9_expect cX9_expect 2 none :: BX
theorem kX_RX0_66_Text_expect {c0 : Cond} : kV (c0 :: BX) RX0 RX9 66 yX9_expect cX9_expect 2 1 none wX_Text_expect := BX_kV bx_73 bx_74 bx_75 bx_39 bx_76 (by decide +kernel)
theorem kX_RX1_78_Text_expect {c0 : Cond} : kV (c0 :: BX) RX1 RX9 78 yX9_expect cX9_expect 2 1 none wX_Text_expect := BX_kV bx_165 bx_74 bx_75 bx_39 bx_76 (by decide +kernel)
theorem kX_RX3_92_Text_expect {c0 : Cond} : kV (c0 :: BX) RX3 RX9 92 yX9_expect cX9_expect 2 1 none wX_Text_expect := BX_kV bx_227 bx_74 bx_75 bx_39 bx_76 (by decide +kernel)
theorem kX_RX8_50_Text_expect {c0 : Cond} : kV (c0 :: BX) RX8 RX9 50 yX9_expect cX9_expect 2 1 none wX_Text_expect := BX_kV bx_424 bx_74 bx_75 bx_39 bx_76 (by decide +kernel)
def wX_Text_isDigit : List Cond := .code yX9_isDigit cX9_isDigit 1 (some .boolean) :: BX
theorem kX_RX9_49_Text_isDigit {c0 : Cond} : kS (c0 :: BX) RX9 49 yX9_isDigit cX9_isDigit 1 1 (some .boolean) wX_Text_isDigit := BX_kS bx_59 bx_60 bx_39 bx_61 (by decide +kernel)
theorem kX_RX3_55_Text_isDigit {c0 : Cond} : kS (c0 :: BX) RX3 55 yX9_isDigit cX9_isDigit 1 1 (some .boolean) wX_Text_isDigit := BX_kS bx_214 bx_60 bx_39 bx_61 (by decide +kernel)
def wX_Text_isLetter : List Cond := .code yX9_isLetter cX9_isLetter 1 (some .boolean) :: BX
theorem kX_RX9_65_Text_isLetter {c0 : Cond} : kS (c0 :: BX) RX9 65 yX9_isLetter cX9_isLetter 1 1 (some .boolean) wX_Text_isLetter := BX_kS bx_102 bx_103 bx_39 bx_104 (by decide +kernel)
def wX_Text_number : List Cond := .code yX9_number cX9_number 4 (some .int) :: BX
theorem kX_RX0_48_Text_number {c0 : Cond} : kV (c0 :: BX) RX0 RX9 48 yX9_number cX9_number 4 2 (some .int) wX_Text_number := BX_kV bx_50 bx_51 bx_52 bx_39 bx_53 (by decide +kernel)
theorem kX_RX1_74_Text_number {c0 : Cond} : kV (c0 :: BX) RX1 RX9 74 yX9_number cX9_number 4 2 (some .int) wX_Text_number := BX_kV bx_89 bx_51 bx_52 bx_39 bx_53 (by decide +kernel)
theorem kX_RX3_59_Text_number {c0 : Cond} : kV (c0 :: BX) RX3 RX9 59 yX9_number cX9_number 4 2 (some .int) wX_Text_number := BX_kV bx_215 bx_51 bx_52 bx_39 bx_53 (by decide +kernel)
theorem kX_RX8_80_Text_number {c0 : Cond} : kV (c0 :: BX) RX8 RX9 80 yX9_number cX9_number 4 2 (some .int) wX_Text_number := BX_kV bx_423 bx_51 bx_52 bx_39 bx_53 (by decide +kernel)
def wX_Text_word : List Cond := .code yX9_word cX9_word 1 none :: BX
theorem kX_RX1_48_Text_word {c0 : Cond} : kV (c0 :: BX) RX1 RX9 48 yX9_word cX9_word 1 0 none wX_Text_word := BX_kV bx_97 bx_98 bx_99 bx_39 bx_100 (by decide +kernel)
theorem kX_RX3_74_Text_word {c0 : Cond} : kV (c0 :: BX) RX3 RX9 74 yX9_word cX9_word 1 0 none wX_Text_word := BX_kV bx_224 bx_98 bx_99 bx_39 bx_100 (by decide +kernel)
theorem kX_RX8_65_Text_word {c0 : Cond} : kV (c0 :: BX) RX8 RX9 65 yX9_word cX9_word 1 0 none wX_Text_word := BX_kV bx_426 bx_98 bx_99 bx_39 bx_100 (by decide +kernel)
def wX_Text_isWord : List Cond := .code yX9_isWord cX9_isWord 3 (some .boolean) :: BX
theorem kX_RX1_53_Text_isWord {c0 : Cond} : kV (c0 :: BX) RX1 RX9 53 yX9_isWord cX9_isWord 3 1 (some .boolean) wX_Text_isWord := BX_kV bx_105 bx_106 bx_107 bx_39 bx_108 (by decide +kernel)
theorem kX_RX3_83_Text_isWord {c0 : Cond} : kV (c0 :: BX) RX3 RX9 83 yX9_isWord cX9_isWord 3 1 (some .boolean) wX_Text_isWord := BX_kV bx_209 bx_106 bx_107 bx_39 bx_108 (by decide +kernel)
theorem kX_RX8_70_Text_isWord {c0 : Cond} : kV (c0 :: BX) RX8 RX9 70 yX9_isWord cX9_isWord 3 1 (some .boolean) wX_Text_isWord := BX_kV bx_427 bx_106 bx_107 bx_39 bx_108 (by decide +kernel)
def wX_Ways_init : List Cond := .code yX10_init cX10_init 1 none :: BX
def wX_Ways_search : List Cond := .code yX10_search cX10_search 4 none :: BX
theorem kX_RX11_291_Ways_search {c0 : Cond} : kV (c0 :: BX) RX11 RX10 291 yX10_search cX10_search 4 2 none wX_Ways_search := BX_kV bx_701 bx_702 bx_703 bx_486 bx_498 (by decide +kernel)
def wX_Ways_takeOffers : List Cond := .code yX10_takeOffers cX10_takeOffers 7 none :: BX
theorem kX_RX10_53_Ways_takeOffers {c0 : Cond} : kV (c0 :: BX) RX10 RX10 53 yX10_takeOffers cX10_takeOffers 7 3 none wX_Ways_takeOffers := BX_kV bx_495 bx_496 bx_497 bx_486 bx_477 (by decide +kernel)
def wX_Ways_give : List Cond := .code yX10_give cX10_give 7 none :: BX
theorem kX_RX10_57_Ways_give {c0 : Cond} : kV (c0 :: BX) RX10 RX10 57 yX10_give cX10_give 7 3 none wX_Ways_give := BX_kV bx_487 bx_488 bx_489 bx_486 bx_490 (by decide +kernel)
def wX_Ways_keepIfBetter : List Cond := .code yX10_keepIfBetter cX10_keepIfBetter 3 none :: BX
theorem kX_RX10_73_Ways_keepIfBetter {c0 : Cond} : kV (c0 :: BX) RX10 RX10 73 yX10_keepIfBetter cX10_keepIfBetter 3 2 none wX_Ways_keepIfBetter := BX_kV bx_483 bx_484 bx_485 bx_486 bx_478 (by decide +kernel)
def wX_Ways_lenderOf : List Cond := .code yX10_lenderOf cX10_lenderOf 3 (some .int) :: BX
theorem kX_RX11_301_Ways_lenderOf {c0 : Cond} : kV (c0 :: BX) RX11 RX10 301 yX10_lenderOf cX10_lenderOf 3 1 (some .int) wX_Ways_lenderOf := BX_kV bx_705 bx_706 bx_707 bx_486 bx_499 (by decide +kernel)
def wX_init : List Cond := .code yX11_init cX11_init 1 none :: BX
def wX_feed : List Cond := .code yX11_feed cX11_feed 6 (some .int) :: BX
def wX_peninsula : List Cond := .code yX11_peninsula cX11_peninsula 2 (some .int) :: BX
def wX_law : List Cond := .code yX11_law cX11_law 2 (some .int) :: BX
def wX_work : List Cond := .code yX11_work cX11_work 2 (some .int) :: BX
def wX_book : List Cond := .code yX11_book cX11_book 2 (some .int) :: BX
def wX_fault : List Cond := .code yX11_fault cX11_fault 1 (some .int) :: BX
def wX_undo : List Cond := .code yX11_undo cX11_undo 1 (some .int) :: BX
def wX_told : List Cond := .code yX11_told cX11_told 2 (some .int) :: BX
def wX_person : List Cond := .code yX11_person cX11_person 3 (some .int) :: BX
def wX_will : List Cond := .code yX11_will cX11_will 3 (some .int) :: BX
def wX_lends : List Cond := .code yX11_lends cX11_lends 3 (some .boolean) :: BX
def wX_would : List Cond := .code yX11_would cX11_would 9 (some .int) :: BX
def wX_lender : List Cond := .code yX11_lender cX11_lender 2 (some .int) :: BX
def wX_ahead : List Cond := .code yX11_ahead cX11_ahead 4 (some .int) :: BX
def wX_truly : List Cond := .code yX11_truly cX11_truly 2 (some .int) :: BX
def wX_chain : List Cond := .code yX11_chain cX11_chain 2 (some .int) :: BX
def wX_served : List Cond := .code yX11_served cX11_served 3 (some .int) :: BX
def wX_giver : List Cond := .code yX11_giver cX11_giver 3 (some .int) :: BX
def wX_order : List Cond := .code yX11_order cX11_order 3 (some .int) :: BX
def wX_fits : List Cond := .code yX11_fits cX11_fits 3 (some .int) :: BX
def wX_look : List Cond := .code yX11_look cX11_look 7 (some .int) :: BX
def wX_neighbours : List Cond := .code yX11_neighbours cX11_neighbours 12 (some .int) :: BX
def wX_home : List Cond := .code yX11_home cX11_home 10 (some .long) :: BX
def wX_flowers : List Cond := .code yX11_flowers cX11_flowers 5 (some .int) :: BX
def wX_honoured : List Cond := .code yX11_honoured cX11_honoured 6 (some .int) :: BX
def wX_sued : List Cond := .code yX11_sued cX11_sued 4 (some .int) :: BX
def wX_free : List Cond := .code yX11_free cX11_free 4 (some .int) :: BX
def wX_kin : List Cond := .code yX11_kin cX11_kin 5 (some .int) :: BX
def wX_willing : List Cond := .code yX11_willing cX11_willing 4 (some .int) :: BX
def wX_below : List Cond := .code yX11_below cX11_below 5 (some .int) :: BX
def wX_debtless : List Cond := .code yX11_debtless cX11_debtless 3 (some .int) :: BX
def wX_after : List Cond := .code yX11_after cX11_after 4 (some .int) :: BX
def wX_latest : List Cond := .code yX11_latest cX11_latest 5 (some .int) :: BX
def wX_century : List Cond := .code yX11_century cX11_century 5 (some .int) :: BX
def wX_span : List Cond := .code yX11_span cX11_span 12 (some .int) :: BX
def wX_image : List Cond := .code yX11_image cX11_image 1 (some .int) :: BX
def wX_restore : List Cond := .code yX11_restore cX11_restore 1 (some .int) :: BX
def wX_status : List Cond := .code yX11_status cX11_status 2 (some .int) :: BX
def wX_count : List Cond := .code yX11_count cX11_count 2 (some .int) :: BX
def wX_needPerson : List Cond := .code yX11_needPerson cX11_needPerson 2 none :: BX
theorem kX_RX11_214_needPerson {c0 : Cond} : kV (c0 :: BX) RX11 RX11 214 yX11_needPerson cX11_needPerson 2 1 none wX_needPerson := BX_kV bx_658 bx_659 bx_660 bx_573 bx_649 (by decide +kernel)
def wX_need : List Cond := .code yX11_need cX11_need 2 none :: BX
theorem kX_RX11_115_need {c0 : Cond} : kV (c0 :: BX) RX11 RX11 115 yX11_need cX11_need 2 1 none wX_need := BX_kV bx_570 bx_571 bx_572 bx_573 bx_564 (by decide +kernel)
def wX_needOrders : List Cond := .code yX11_needOrders cX11_needOrders 3 none :: BX
theorem kX_RX11_304_needOrders {c0 : Cond} : kV (c0 :: BX) RX11 RX11 304 yX11_needOrders cX11_needOrders 3 2 none wX_needOrders := BX_kV bx_731 bx_732 bx_733 bx_573 bx_712 (by decide +kernel)
def wX_areTold : List Cond := .code yX11_areTold cX11_areTold 2 (some .boolean) :: BX
theorem kX_RX11_288_areTold {c0 : Cond} : kV (c0 :: BX) RX11 RX11 288 yX11_areTold cX11_areTold 2 1 (some .boolean) wX_areTold := BX_kV bx_698 bx_699 bx_700 bx_573 bx_695 (by decide +kernel)
def wX_tryOrders : List Cond := .code yX11_tryOrders cX11_tryOrders 4 none :: BX
theorem kX_RX11_308_tryOrders {c0 : Cond} : kV (c0 :: BX) RX11 RX11 308 yX11_tryOrders cX11_tryOrders 4 0 none wX_tryOrders := BX_kV bx_734 bx_735 bx_736 bx_573 bx_728 (by decide +kernel)
def wX_gain : List Cond := .code yX11_gain cX11_gain 4 (some .int) :: BX
theorem kX_RX11_334_gain {c0 : Cond} : kS (c0 :: BX) RX11 334 yX11_gain cX11_gain 4 4 (some .int) wX_gain := BX_kS bx_749 bx_750 bx_573 bx_747 (by decide +kernel)
def wX_weighNames : List Cond := .code yX11_weighNames cX11_weighNames 7 none :: BX
theorem kX_RX11_338_weighNames {c0 : Cond} : kV (c0 :: BX) RX11 RX11 338 yX11_weighNames cX11_weighNames 7 2 none wX_weighNames := BX_kV bx_753 bx_754 bx_755 bx_573 bx_751 (by decide +kernel)
def wX_passCentury : List Cond := .code yX11_passCentury cX11_passCentury 7 none :: BX
theorem kX_RX11_355_passCentury {c0 : Cond} : kV (c0 :: BX) RX11 RX11 355 yX11_passCentury cX11_passCentury 7 3 none wX_passCentury := BX_kV bx_779 bx_780 bx_781 bx_573 bx_778 (by decide +kernel)
def wX_drawn : List Cond := .code yX11_drawn cX11_drawn 3 (some .int) :: BX
theorem kX_RX11_414_drawn {c0 : Cond} : kV (c0 :: BX) RX11 RX11 414 yX11_drawn cX11_drawn 3 1 (some .int) wX_drawn := BX_kV bx_775 bx_776 bx_777 bx_573 bx_772 (by decide +kernel)
def wX_J_bitCount : List Cond := .code yJ6_bitCount_0f7a4 cJ6_bitCount_0f7a4 1 (some .int) :: BX
theorem kX_RX4_28_J_bitCount {c0 : Cond} : kS (c0 :: BX) RX4 28 yJ6_bitCount_0f7a4 cJ6_bitCount_0f7a4 1 1 (some .int) wX_J_bitCount := BX_kS bx_264 bx_265 bx_266 bx_267 (by decide +kernel)
theorem kX_RX11_314_J_bitCount {c0 : Cond} : kS (c0 :: BX) RX11 314 yJ6_bitCount_0f7a4 cJ6_bitCount_0f7a4 1 1 (some .int) wX_J_bitCount := BX_kS bx_737 bx_265 bx_266 bx_267 (by decide +kernel)
def wX_J_length : List Cond := .code yJ0_length_8abf5 cJ0_length_8abf5 1 (some .int) :: BX
theorem kX_RX9_68_J_length {c0 : Cond} : kV (c0 :: BX) RX9 RJ0 68 yJ0_length_8abf5 cJ0_length_8abf5 1 0 (some .int) wX_J_length := BX_kV bx_109 bx_110 bx_111 bx_112 bx_113 (by decide +kernel)
def wX_J_charAt : List Cond := .code yJ0_charAt_5068e cJ0_charAt_5068e 2 (some .char) :: BX
theorem kX_RX9_73_J_charAt {c0 : Cond} : kV (c0 :: BX) RX9 RJ0 73 yJ0_charAt_5068e cJ0_charAt_5068e 2 1 (some .char) wX_J_charAt := BX_kV bx_121 bx_122 bx_123 bx_112 bx_124 (by decide +kernel)
