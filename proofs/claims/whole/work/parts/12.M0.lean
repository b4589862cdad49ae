/-! the reference: its shape (477 places: 0 the object, then its arrays by their fields, then the rows of its grids) -/
def kdM (k : Nat) : Nat := if k < 26 then [3, 0, 0, 0, 0, 2, 2, 0, 0, 2, 2, 2, 2, 0, 0, 2, 0, 0, 2, 2, 0, 0, 0, 0, 0, 1].getD k 0 else 0
def lnM (k : Nat) : Nat := if k < 26 then [11, 600, 2, 2, 2, 8, 8, 8, 8, 160, 160, 8, 8, 160, 8, 80, 26, 26, 16, 3, 8, 8, 8, 8, 9, 14].getD k 0 else if k < 378 then 2 else if k < 458 then 4 else if k < 474 then 26 else 443
def rfM (_ : Nat) (j : Nat) : Nat := [0, 0, 0, 0, 0, 0, 0, 0, 0, 2, 3, 4, 5, 6, 7, 8, 9, 0, 0, 10, 11, 12, 13, 14, 15, 16, 0, 17, 18, 19, 20, 0, 0, 0, 0, 0, 0, 0, 21, 22, 23, 0, 0, 24, 25, 0, 26, 0].getD j 0
def bsM (k : Nat) : Nat := [0, 0, 0, 0, 0, 26, 34, 0, 0, 42, 202, 362, 370, 0, 0, 378, 0, 0, 458, 474, 0, 0, 0, 0, 0, 0].getD k 0
def shM : Sh := (477, kdM, lnM, rfM, bsM)
theorem kM0 : 0 < shM.1 ∧ shM.2.1 0 = 3 ∧ shM.2.2.1 0 = 11 := by decide
theorem lenM_readPerson {i : Int32} (hi : ¬ (i < 0 ∨ 8 ≤ i.toNatClampNeg)) : lenW shM (26 + i.toNatClampNeg) = 2 := by
  have h0 : i.toNatClampNeg < 8 := Nat.not_le.mp (fun q => hi (Or.inr q))
  generalize i.toNatClampNeg = j at h0
  have h1 : kdM (26 + j) = 0 := by unfold kdM; rw [if_neg (by omega)]
  have h2 : lnM (26 + j) = 2 := by unfold lnM; repeat (first | rw [if_pos (by omega)] | rw [if_neg (by omega)])
  unfold lenW shM
  show (if 26 + j < 477 ∧ kdM (26 + j) = 0 then lnM (26 + j) else 0) = 2
  rw [if_pos ⟨by omega, h1⟩, h2]
theorem lenM_person {i : Int32} (hi : ¬ (i < 0 ∨ 8 ≤ i.toNatClampNeg)) : lenW shM (34 + i.toNatClampNeg) = 2 := by
  have h0 : i.toNatClampNeg < 8 := Nat.not_le.mp (fun q => hi (Or.inr q))
  generalize i.toNatClampNeg = j at h0
  have h1 : kdM (34 + j) = 0 := by unfold kdM; rw [if_neg (by omega)]
  have h2 : lnM (34 + j) = 2 := by unfold lnM; repeat (first | rw [if_pos (by omega)] | rw [if_neg (by omega)])
  unfold lenW shM
  show (if 34 + j < 477 ∧ kdM (34 + j) = 0 then lnM (34 + j) else 0) = 2
  rw [if_pos ⟨by omega, h1⟩, h2]
theorem lenM_law {i : Int32} (hi : ¬ (i < 0 ∨ 160 ≤ i.toNatClampNeg)) : lenW shM (42 + i.toNatClampNeg) = 2 := by
  have h0 : i.toNatClampNeg < 160 := Nat.not_le.mp (fun q => hi (Or.inr q))
  generalize i.toNatClampNeg = j at h0
  have h1 : kdM (42 + j) = 0 := by unfold kdM; rw [if_neg (by omega)]
  have h2 : lnM (42 + j) = 2 := by unfold lnM; repeat (first | rw [if_pos (by omega)] | rw [if_neg (by omega)])
  unfold lenW shM
  show (if 42 + j < 477 ∧ kdM (42 + j) = 0 then lnM (42 + j) else 0) = 2
  rw [if_pos ⟨by omega, h1⟩, h2]
theorem lenM_readLaw {i : Int32} (hi : ¬ (i < 0 ∨ 160 ≤ i.toNatClampNeg)) : lenW shM (202 + i.toNatClampNeg) = 2 := by
  have h0 : i.toNatClampNeg < 160 := Nat.not_le.mp (fun q => hi (Or.inr q))
  generalize i.toNatClampNeg = j at h0
  have h1 : kdM (202 + j) = 0 := by unfold kdM; rw [if_neg (by omega)]
  have h2 : lnM (202 + j) = 2 := by unfold lnM; repeat (first | rw [if_pos (by omega)] | rw [if_neg (by omega)])
  unfold lenW shM
  show (if 202 + j < 477 ∧ kdM (202 + j) = 0 then lnM (202 + j) else 0) = 2
  rw [if_pos ⟨by omega, h1⟩, h2]
theorem lenM_line {i : Int32} (hi : ¬ (i < 0 ∨ 8 ≤ i.toNatClampNeg)) : lenW shM (362 + i.toNatClampNeg) = 2 := by
  have h0 : i.toNatClampNeg < 8 := Nat.not_le.mp (fun q => hi (Or.inr q))
  generalize i.toNatClampNeg = j at h0
  have h1 : kdM (362 + j) = 0 := by unfold kdM; rw [if_neg (by omega)]
  have h2 : lnM (362 + j) = 2 := by unfold lnM; repeat (first | rw [if_pos (by omega)] | rw [if_neg (by omega)])
  unfold lenW shM
  show (if 362 + j < 477 ∧ kdM (362 + j) = 0 then lnM (362 + j) else 0) = 2
  rw [if_pos ⟨by omega, h1⟩, h2]
theorem lenM_readLine {i : Int32} (hi : ¬ (i < 0 ∨ 8 ≤ i.toNatClampNeg)) : lenW shM (370 + i.toNatClampNeg) = 2 := by
  have h0 : i.toNatClampNeg < 8 := Nat.not_le.mp (fun q => hi (Or.inr q))
  generalize i.toNatClampNeg = j at h0
  have h1 : kdM (370 + j) = 0 := by unfold kdM; rw [if_neg (by omega)]
  have h2 : lnM (370 + j) = 2 := by unfold lnM; repeat (first | rw [if_pos (by omega)] | rw [if_neg (by omega)])
  unfold lenW shM
  show (if 370 + j < 477 ∧ kdM (370 + j) = 0 then lnM (370 + j) else 0) = 2
  rw [if_pos ⟨by omega, h1⟩, h2]
theorem lenM_step {i : Int32} (hi : ¬ (i < 0 ∨ 80 ≤ i.toNatClampNeg)) : lenW shM (378 + i.toNatClampNeg) = 4 := by
  have h0 : i.toNatClampNeg < 80 := Nat.not_le.mp (fun q => hi (Or.inr q))
  generalize i.toNatClampNeg = j at h0
  have h1 : kdM (378 + j) = 0 := by unfold kdM; rw [if_neg (by omega)]
  have h2 : lnM (378 + j) = 4 := by unfold lnM; repeat (first | rw [if_pos (by omega)] | rw [if_neg (by omega)])
  unfold lenW shM
  show (if 378 + j < 477 ∧ kdM (378 + j) = 0 then lnM (378 + j) else 0) = 4
  rw [if_pos ⟨by omega, h1⟩, h2]
theorem lenM_before {i : Int32} (hi : ¬ (i < 0 ∨ 16 ≤ i.toNatClampNeg)) : lenW shM (458 + i.toNatClampNeg) = 26 := by
  have h0 : i.toNatClampNeg < 16 := Nat.not_le.mp (fun q => hi (Or.inr q))
  generalize i.toNatClampNeg = j at h0
  have h1 : kdM (458 + j) = 0 := by unfold kdM; rw [if_neg (by omega)]
  have h2 : lnM (458 + j) = 26 := by unfold lnM; repeat (first | rw [if_pos (by omega)] | rw [if_neg (by omega)])
  unfold lenW shM
  show (if 458 + j < 477 ∧ kdM (458 + j) = 0 then lnM (458 + j) else 0) = 26
  rw [if_pos ⟨by omega, h1⟩, h2]
theorem lenM_kept {i : Int32} (hi : ¬ (i < 0 ∨ 3 ≤ i.toNatClampNeg)) : lenW shM (474 + i.toNatClampNeg) = 443 := by
  have h0 : i.toNatClampNeg < 3 := Nat.not_le.mp (fun q => hi (Or.inr q))
  generalize i.toNatClampNeg = j at h0
  have h1 : kdM (474 + j) = 0 := by unfold kdM; rw [if_neg (by omega)]
  have h2 : lnM (474 + j) = 443 := by unfold lnM; repeat (first | rw [if_pos (by omega)] | rw [if_neg (by omega)])
  unfold lenW shM
  show (if 474 + j < 477 ∧ kdM (474 + j) = 0 then lnM (474 + j) else 0) = 443
  rw [if_pos ⟨by omega, h1⟩, h2]
def BMw : List Cond := [Cond.code yX12_tellsNothing cX12_tellsNothing 2 none, Cond.fieldLink RX12 20 "BorrowedStonesModel" "readTold" "[I", Cond.fieldLink RX12 34 "BorrowedStonesModel" "readFriend" "[I", Cond.code yX12_lays cX12_lays 5 none, Cond.code yX12_beginsAnew cX12_beginsAnew 2 none, Cond.fieldLink RX12 23 "BorrowedStonesModel" "told" "[I", Cond.fieldLink RX12 28 "BorrowedStonesModel" "readPerson" "[[I", Cond.fieldLink RX12 31 "BorrowedStonesModel" "person" "[[I", Cond.fieldLink RX12 37 "BorrowedStonesModel" "friend" "[I", Cond.fieldLink RX12 61 "BorrowedStonesModel" "now" "[I", Cond.fieldLink RX12 191 "BorrowedStonesModel" "lawMany" "I", Cond.fieldLink RX12 194 "BorrowedStonesModel" "lines" "I", Cond.fieldLink RX12 197 "BorrowedStonesModel" "works" "I", Cond.fieldLink RX12 200 "BorrowedStonesModel" "refusedSteps" "I", Cond.fieldLink RX12 203 "BorrowedStonesModel" "images" "I", Cond.methodLink RX12 187 yX12_lays, Cond.static yX12_lays, Cond.initialized RX12, Cond.methodLink RX12 1 objectInit, Cond.instanceMethod objectInit, Cond.code objectInit ⟨#[0xb1]⟩ 1 none, Cond.fieldLink RX12 9 "BorrowedStonesModel" "place" "I", Cond.arrayClass .int, Cond.fieldLink RX12 13 "BorrowedStonesModel" "fed" "[I", Cond.fieldLink RX12 17 "BorrowedStonesModel" "refused" "[I", Cond.classLink RX12 26 "[[I", Cond.fieldLink RX12 40 "BorrowedStonesModel" "law" "[[I", Cond.fieldLink RX12 43 "BorrowedStonesModel" "readLaw" "[[I", Cond.fieldLink RX12 46 "BorrowedStonesModel" "line" "[[I", Cond.fieldLink RX12 49 "BorrowedStonesModel" "readLine" "[[I", Cond.fieldLink RX12 52 "BorrowedStonesModel" "stack" "[I", Cond.fieldLink RX12 55 "BorrowedStonesModel" "known" "[I", Cond.fieldLink RX12 58 "BorrowedStonesModel" "step" "[[I", Cond.fieldLink RX12 64 "BorrowedStonesModel" "trial" "[I", Cond.fieldLink RX12 67 "BorrowedStonesModel" "before" "[[I", Cond.fieldLink RX12 70 "BorrowedStonesModel" "kept" "[[I", Cond.fieldLink RX12 73 "BorrowedStonesModel" "gives" "[I", Cond.fieldLink RX12 76 "BorrowedStonesModel" "bestGives" "[I", Cond.fieldLink RX12 79 "BorrowedStonesModel" "times" "[I", Cond.fieldLink RX12 82 "BorrowedStonesModel" "order" "[I", Cond.fieldLink RX12 85 "BorrowedStonesModel" "seen" "[I", Cond.arrayClass .long, Cond.fieldLink RX12 88 "BorrowedStonesModel" "exact" "[J", Cond.methodLink RX12 92 yX12_tellsNothing, Cond.instanceMethod yX12_tellsNothing, Cond.selects RX12 yX12_tellsNothing yX12_tellsNothing, Cond.methodLink RX12 95 yX12_beginsAnew, Cond.instanceMethod yX12_beginsAnew, Cond.selects RX12 yX12_beginsAnew yX12_beginsAnew, Cond.code yX12_init cX12_init 1 none, Cond.code yX12_thrown cX12_thrown 1 (some .int), Cond.fieldLink RX12 98 "BorrowedStonesModel" "thrown" "I", Cond.code yX12_bad cX12_bad 4 (some .boolean), Cond.code yX12_in cX12_in 3 (some .boolean), Cond.code yX12_less cX12_less 2 (some .int), Cond.code yX12_more cX12_more 2 (some .int), Cond.code yX12_has cX12_has 2 (some .boolean), Cond.code yX12_feed cX12_feed 8 (some .int), Cond.fieldLink RX12 101 "BorrowedStonesModel" "tape" "I", Cond.code yX12_byteAt cX12_byteAt 2 (some .int), Cond.fieldLink RX12 104 "BorrowedStonesModel" "size" "I", Cond.code yX12_blanks cX12_blanks 1 none, Cond.fieldLink RX12 107 "BorrowedStonesModel" "at" "I", Cond.methodLink RX12 110 yX12_byteAt, Cond.instanceMethod yX12_byteAt, Cond.selects RX12 yX12_byteAt yX12_byteAt, Cond.code yX12_wrong cX12_wrong 3 none, Cond.fieldLink RX12 114 "BorrowedStonesModel" "fault" "I", Cond.fieldLink RX12 117 "BorrowedStonesModel" "faultAt" "I", Cond.code yX12_isDigit cX12_isDigit 1 (some .boolean), Cond.code yX12_isSmall cX12_isSmall 1 (some .boolean), Cond.constant RX12 131 (100000), Cond.methodLink RX12 120 yX12_blanks, Cond.instanceMethod yX12_blanks, Cond.selects RX12 yX12_blanks yX12_blanks, Cond.methodLink RX12 123 yX12_isDigit, Cond.static yX12_isDigit, Cond.methodLink RX12 127 yX12_wrong, Cond.instanceMethod yX12_wrong, Cond.selects RX12 yX12_wrong yX12_wrong, Cond.methodLink RX12 132 yX12_in, Cond.static yX12_in, Cond.code yX12_number cX12_number 5 (some .int), Cond.code yX12_wordHere cX12_wordHere 3 (some .int), Cond.methodLink RX12 136 yX12_isSmall, Cond.static yX12_isSmall, Cond.code yX12_six cX12_six 7 (some .int), Cond.code yX12_isWord cX12_isWord 7 (some .boolean), Cond.methodLink RX12 139 yX12_wordHere, Cond.instanceMethod yX12_wordHere, Cond.selects RX12 yX12_wordHere yX12_wordHere, Cond.methodLink RX12 143 yX12_six, Cond.static yX12_six, Cond.code yX12_skipWord cX12_skipWord 1 none, Cond.methodLink RX12 147 yX12_isWord, Cond.instanceMethod yX12_isWord, Cond.selects RX12 yX12_isWord yX12_isWord, Cond.methodLink RX12 151 yX12_skipWord, Cond.instanceMethod yX12_skipWord, Cond.selects RX12 yX12_skipWord yX12_skipWord, Cond.code yX12_takes cX12_takes 8 (some .boolean), Cond.code yX12_sign cX12_sign 2 none, Cond.code yX12_takesSign cX12_takesSign 3 (some .boolean), Cond.code yX12_starts cX12_starts 2 none, Cond.fieldLink RX12 154 "BorrowedStonesModel" "clauses" "I", Cond.fieldLink RX12 157 "BorrowedStonesModel" "open" "I", Cond.code yX12_ends cX12_ends 1 (some .int), Cond.code yX12_kindHere cX12_kindHere 1 (some .int), Cond.methodLink RX12 160 yX12_number, Cond.instanceMethod yX12_number, Cond.selects RX12 yX12_number yX12_number, Cond.code yX12_friends cX12_friends 4 none, Cond.methodLink RX12 164 yX12_kindHere, Cond.instanceMethod yX12_kindHere, Cond.selects RX12 yX12_kindHere yX12_kindHere, Cond.methodLink RX12 167 yX12_friends, Cond.instanceMethod yX12_friends, Cond.selects RX12 yX12_friends yX12_friends, Cond.methodLink RX12 170 yX12_sign, Cond.instanceMethod yX12_sign, Cond.selects RX12 yX12_sign yX12_sign, Cond.code yX12_clause cX12_clause 2 none, Cond.methodLink RX12 174 yX12_bad, Cond.instanceMethod yX12_bad, Cond.selects RX12 yX12_bad yX12_bad, Cond.methodLink RX12 178 yX12_starts, Cond.instanceMethod yX12_starts, Cond.selects RX12 yX12_starts yX12_starts, Cond.methodLink RX12 181 yX12_clause, Cond.instanceMethod yX12_clause, Cond.selects RX12 yX12_clause yX12_clause, Cond.methodLink RX12 184 yX12_ends, Cond.instanceMethod yX12_ends, Cond.selects RX12 yX12_ends yX12_ends, Cond.code yX12_peninsula cX12_peninsula 2 (some .int), Cond.code yX12_copies cX12_copies 3 none, Cond.code yX12_notes cX12_notes 3 none, Cond.fieldLink RX12 206 "BorrowedStonesModel" "readLawMany" "I", Cond.code yX12_opensOne cX12_opensOne 1 (some .boolean), Cond.methodLink RX12 221 yX12_takes, Cond.instanceMethod yX12_takes, Cond.selects RX12 yX12_takes yX12_takes, Cond.code yX12_knownHere cX12_knownHere 1 (some .int), Cond.methodLink RX12 224 yX12_opensOne, Cond.instanceMethod yX12_opensOne, Cond.selects RX12 yX12_opensOne yX12_opensOne, Cond.methodLink RX12 228 yX12_sum, Cond.instanceMethod yX12_sum, Cond.selects RX12 yX12_sum yX12_sum, Cond.methodLink RX12 215 yX12_notes, Cond.instanceMethod yX12_notes, Cond.selects RX12 yX12_notes yX12_notes, Cond.methodLink RX12 231 yX12_knownHere, Cond.instanceMethod yX12_knownHere, Cond.selects RX12 yX12_knownHere yX12_knownHere, Cond.code yX12_product cX12_product 2 none, Cond.methodLink RX12 218 yX12_one, Cond.instanceMethod yX12_one, Cond.selects RX12 yX12_one yX12_one, Cond.methodLink RX12 212 yX12_takesSign, Cond.instanceMethod yX12_takesSign, Cond.selects RX12 yX12_takesSign yX12_takesSign, Cond.code yX12_sum cX12_sum 2 none, Cond.methodLink RX12 209 yX12_product, Cond.instanceMethod yX12_product, Cond.selects RX12 yX12_product yX12_product, Cond.code yX12_one cX12_one 3 none, Cond.code yX12_law cX12_law 2 (some .int), Cond.code yX12_by cX12_by 3 (some .int), Cond.methodLink RX12 234 yX12_less, Cond.static yX12_less, Cond.methodLink RX12 237 yX12_more, Cond.static yX12_more, Cond.code yX12_byLaw cX12_byLaw 3 (some .int), Cond.methodLink RX12 240 yX12_by, Cond.static yX12_by, Cond.code yX12_stepHere cX12_stepHere 1 (some .int), Cond.fieldLink RX12 247 "BorrowedStonesModel" "steps" "I", Cond.methodLink RX12 244 yX12_stepHere, Cond.instanceMethod yX12_stepHere, Cond.selects RX12 yX12_stepHere yX12_stepHere, Cond.methodLink RX12 250 yX12_readsStep, Cond.instanceMethod yX12_readsStep, Cond.selects RX12 yX12_readsStep yX12_readsStep, Cond.code yX12_readsStep cX12_readsStep 3 none, Cond.methodLink RX12 253 yX12_has, Cond.static yX12_has, Cond.code yX12_book cX12_book 7 (some .int), Cond.code yX12_fault cX12_fault 1 (some .int), Cond.code yX12_willBy cX12_willBy 9 (some .int), Cond.methodLink RX12 257 yX12_byLaw, Cond.instanceMethod yX12_byLaw, Cond.selects RX12 yX12_byLaw yX12_byLaw, Cond.code yX12_ones cX12_ones 3 (some .int), Cond.code yX12_stonesOf cX12_stonesOf 5 (some .int), Cond.code yX12_stones cX12_stones 3 (some .int), Cond.methodLink RX12 260 yX12_stonesOf, Cond.instanceMethod yX12_stonesOf, Cond.selects RX12 yX12_stonesOf yX12_stonesOf, Cond.methodLink RX12 264 yX12_ones, Cond.static yX12_ones, Cond.code yX12_everybody cX12_everybody 1 (some .int), Cond.methodLink RX12 267 yX12_stones, Cond.instanceMethod yX12_stones, Cond.selects RX12 yX12_stones yX12_stones, Cond.methodLink RX12 270 yX12_willBy, Cond.instanceMethod yX12_willBy, Cond.selects RX12 yX12_willBy yX12_willBy, Cond.code yX12_willOf cX12_willOf 4 (some .int), Cond.methodLink RX12 274 yX12_willOf, Cond.instanceMethod yX12_willOf, Cond.selects RX12 yX12_willOf yX12_willOf, Cond.code yX12_isLent cX12_isLent 4 (some .boolean), Cond.methodLink RX12 278 yX12_isLent, Cond.instanceMethod yX12_isLent, Cond.selects RX12 yX12_isLent yX12_isLent, Cond.code yX12_lenderOf cX12_lenderOf 6 (some .int), Cond.code yX12_lies cX12_lies 3 none, Cond.methodLink RX12 282 yX12_lenderOf, Cond.instanceMethod yX12_lenderOf, Cond.selects RX12 yX12_lenderOf yX12_lenderOf, Cond.methodLink RX12 285 yX12_lies, Cond.static yX12_lies, Cond.code yX12_dies cX12_dies 4 (some .boolean), Cond.code yX12_lendsLate cX12_lendsLate 4 (some .boolean), Cond.code yX12_becomes cX12_becomes 3 (some .boolean), Cond.code yX12_yearEnds cX12_yearEnds 3 none, Cond.methodLink RX12 289 yX12_dies, Cond.instanceMethod yX12_dies, Cond.selects RX12 yX12_dies yX12_dies, Cond.methodLink RX12 293 yX12_lendsLate, Cond.instanceMethod yX12_lendsLate, Cond.selects RX12 yX12_lendsLate yX12_lendsLate, Cond.methodLink RX12 296 yX12_becomes, Cond.static yX12_becomes, Cond.methodLink RX12 299 yX12_yearEnds, Cond.instanceMethod yX12_yearEnds, Cond.selects RX12 yX12_yearEnds yX12_yearEnds, Cond.code yX12_does cX12_does 4 (some .boolean), Cond.fieldLink RX12 303 "BorrowedStonesModel" "begun" "I", Cond.fieldLink RX12 313 "BorrowedStonesModel" "doneSteps" "I", Cond.methodLink RX12 306 yX12_goes, Cond.instanceMethod yX12_goes, Cond.selects RX12 yX12_goes yX12_goes, Cond.methodLink RX12 309 yX12_does, Cond.instanceMethod yX12_does, Cond.selects RX12 yX12_does yX12_does, Cond.code yX12_goes cX12_goes 5 none, Cond.methodLink RX12 316 yX12_copies, Cond.static yX12_copies, Cond.code yX12_work cX12_work 2 (some .int), Cond.code yX12_undo cX12_undo 1 (some .int), Cond.code yX12_debts cX12_debts 5 (some .int), Cond.code yX12_nameless cX12_nameless 4 (some .int), Cond.code yX12_follows cX12_follows 5 (some .int), Cond.code yX12_longest cX12_longest 4 (some .int), Cond.methodLink RX12 320 yX12_follows, Cond.static yX12_follows, Cond.code yX12_lenderIf cX12_lenderIf 4 (some .int), Cond.methodLink RX12 324 yX12_lenderIf, Cond.instanceMethod yX12_lenderIf, Cond.selects RX12 yX12_lenderIf yX12_lenderIf, Cond.methodLink RX12 327 yX12_nameless, Cond.instanceMethod yX12_nameless, Cond.selects RX12 yX12_nameless yX12_nameless, Cond.methodLink RX12 331 yX12_debts, Cond.instanceMethod yX12_debts, Cond.selects RX12 yX12_debts yX12_debts, Cond.methodLink RX12 335 yX12_longest, Cond.instanceMethod yX12_longest, Cond.selects RX12 yX12_longest yX12_longest, Cond.code yX12_told cX12_told 6 (some .int), Cond.code yX12_isPerson cX12_isPerson 2 (some .boolean), Cond.methodLink RX12 338 yX12_isPerson, Cond.instanceMethod yX12_isPerson, Cond.selects RX12 yX12_isPerson yX12_isPerson, Cond.code yX12_person cX12_person 3 (some .int), Cond.code yX12_will cX12_will 3 (some .int), Cond.code yX12_lends cX12_lends 3 (some .boolean), Cond.code yX12_would cX12_would 9 (some .int), Cond.code yX12_lender cX12_lender 2 (some .int), Cond.code yX12_deepest cX12_deepest 4 (some .int), Cond.methodLink RX12 341 yX12_deepest, Cond.instanceMethod yX12_deepest, Cond.selects RX12 yX12_deepest yX12_deepest, Cond.code yX12_ahead cX12_ahead 5 (some .int), Cond.code yX12_truly cX12_truly 2 (some .int), Cond.code yX12_chain cX12_chain 2 (some .int), Cond.fieldLink RX12 344 "BorrowedStonesModel" "mostServed" "I", Cond.fieldLink RX12 347 "BorrowedStonesModel" "mostWill" "I", Cond.methodLink RX12 350 yX12_serves, Cond.instanceMethod yX12_serves, Cond.selects RX12 yX12_serves yX12_serves, Cond.code yX12_serves cX12_serves 6 none, Cond.code yX12_laysGifts cX12_laysGifts 3 none, Cond.methodLink RX12 354 yX12_everybody, Cond.instanceMethod yX12_everybody, Cond.selects RX12 yX12_everybody yX12_everybody, Cond.methodLink RX12 357 yX12_laysGifts, Cond.instanceMethod yX12_laysGifts, Cond.selects RX12 yX12_laysGifts yX12_laysGifts, Cond.code yX12_served cX12_served 3 (some .int), Cond.code yX12_giver cX12_giver 3 (some .int), Cond.code yX12_isOrder cX12_isOrder 2 (some .boolean), Cond.code yX12_firstOrder cX12_firstOrder 3 none, Cond.fieldLink RX12 360 "BorrowedStonesModel" "dying" "I", Cond.code yX12_swaps cX12_swaps 4 none, Cond.code yX12_nextOrder cX12_nextOrder 5 (some .boolean), Cond.methodLink RX12 363 yX12_swaps, Cond.instanceMethod yX12_swaps, Cond.selects RX12 yX12_swaps yX12_swaps, Cond.code yX12_dieSo cX12_dieSo 2 none, Cond.code yX12_digits cX12_digits 3 (some .int), Cond.methodLink RX12 366 yX12_isOrder, Cond.instanceMethod yX12_isOrder, Cond.selects RX12 yX12_isOrder yX12_isOrder, Cond.methodLink RX12 369 yX12_firstOrder, Cond.instanceMethod yX12_firstOrder, Cond.selects RX12 yX12_firstOrder yX12_firstOrder, Cond.methodLink RX12 372 yX12_dieSo, Cond.instanceMethod yX12_dieSo, Cond.selects RX12 yX12_dieSo yX12_dieSo, Cond.methodLink RX12 375 yX12_digits, Cond.instanceMethod yX12_digits, Cond.selects RX12 yX12_digits yX12_digits, Cond.methodLink RX12 378 yX12_nextOrder, Cond.instanceMethod yX12_nextOrder, Cond.selects RX12 yX12_nextOrder yX12_nextOrder, Cond.code yX12_order cX12_order 6 (some .int), Cond.code yX12_isSo cX12_isSo 2 (some .boolean), Cond.methodLink RX12 381 yX12_isSo, Cond.instanceMethod yX12_isSo, Cond.selects RX12 yX12_isSo yX12_isSo, Cond.code yX12_fits cX12_fits 5 (some .int), Cond.code yX12_isTold cX12_isTold 3 (some .boolean), Cond.code yX12_worstAt cX12_worstAt 5 (some .int), Cond.methodLink RX12 384 yX12_isTold, Cond.instanceMethod yX12_isTold, Cond.selects RX12 yX12_isTold yX12_isTold, Cond.methodLink RX12 387 yX12_worstAt, Cond.instanceMethod yX12_worstAt, Cond.selects RX12 yX12_worstAt yX12_worstAt, Cond.code yX12_look cX12_look 7 (some .int), Cond.code yX12_hasBy cX12_hasBy 4 (some .int), Cond.code yX12_isBest cX12_isBest 4 (some .boolean), Cond.methodLink RX12 390 yX12_hasBy, Cond.static yX12_hasBy, Cond.code yX12_neighbours cX12_neighbours 9 (some .int), Cond.methodLink RX12 394 yX12_isBest, Cond.static yX12_isBest, Cond.code yX12_home cX12_home 15 (some .long), Cond.code yX12_givenBy cX12_givenBy 5 (some .int), Cond.methodLink RX12 398 yX12_givenBy, Cond.instanceMethod yX12_givenBy, Cond.selects RX12 yX12_givenBy yX12_givenBy, Cond.code yX12_flowers cX12_flowers 5 (some .int), Cond.code yX12_honoured cX12_honoured 5 (some .int), Cond.code yX12_sued cX12_sued 3 (some .int), Cond.code yX12_free cX12_free 4 (some .int), Cond.code yX12_kin cX12_kin 5 (some .int), Cond.code yX12_willing cX12_willing 4 (some .int), Cond.code yX12_below cX12_below 5 (some .int), Cond.code yX12_debtless cX12_debtless 3 (some .int), Cond.code yX12_after cX12_after 4 (some .int), Cond.code yX12_latest cX12_latest 4 (some .int), Cond.code yX12_draw cX12_draw 2 (some .int), Cond.fieldLink RX12 401 "BorrowedStonesModel" "lots" "I", Cond.constant RX12 404 (1103515245), Cond.methodLink RX12 405 yX12_draw, Cond.instanceMethod yX12_draw, Cond.selects RX12 yX12_draw yX12_draw, Cond.code yX12_centuryBy cX12_centuryBy 6 none, Cond.code yX12_isCentury cX12_isCentury 2 (some .boolean), Cond.methodLink RX12 408 yX12_isCentury, Cond.static yX12_isCentury, Cond.methodLink RX12 411 yX12_centuryBy, Cond.instanceMethod yX12_centuryBy, Cond.selects RX12 yX12_centuryBy yX12_centuryBy, Cond.code yX12_century cX12_century 5 (some .int), Cond.code yX12_span cX12_span 12 (some .int), Cond.code yX12_puts cX12_puts 4 (some .int), Cond.fieldLink RX12 415 "BorrowedStonesModel" "spot" "I", Cond.code yX12_putsAll cX12_putsAll 5 none, Cond.methodLink RX12 418 yX12_puts, Cond.instanceMethod yX12_puts, Cond.selects RX12 yX12_puts yX12_puts, Cond.code yX12_image cX12_image 1 (some .int), Cond.methodLink RX12 421 yX12_putsAll, Cond.instanceMethod yX12_putsAll, Cond.selects RX12 yX12_putsAll yX12_putsAll, Cond.code yX12_restore cX12_restore 1 (some .int), Cond.code yX12_status cX12_status 2 (some .int), Cond.code yX12_count cX12_count 2 (some .int)]
def BM : List Cond := BMw ++ wsX120
set_option maxRecDepth 20000 in
theorem BM_good : BM.all goodWord = true := by decide +kernel
theorem BM_X12 {c0 : Cond} : ∀ w ∈ wsX120, w ∈ c0 :: BM := fun w h => List.mem_cons_of_mem _ (List.mem_append_right _ h)
theorem bm_0 : Cond.code yX12_tellsNothing cX12_tellsNothing 2 none ∈ BM := List.mem_append_left _ (List.mem_of_getElem? (i := 0) rfl)
theorem bm_1 : Cond.fieldLink RX12 20 "BorrowedStonesModel" "readTold" "[I" ∈ BM := List.mem_append_left _ (List.mem_of_getElem? (i := 1) rfl)
theorem bm_2 : Cond.fieldLink RX12 34 "BorrowedStonesModel" "readFriend" "[I" ∈ BM := List.mem_append_left _ (List.mem_of_getElem? (i := 2) rfl)
theorem bm_3 : Cond.code yX12_lays cX12_lays 5 none ∈ BM := List.mem_append_left _ (List.mem_of_getElem? (i := 3) rfl)
theorem bm_4 : Cond.code yX12_beginsAnew cX12_beginsAnew 2 none ∈ BM := List.mem_append_left _ (List.mem_of_getElem? (i := 4) rfl)
theorem bm_5 : Cond.fieldLink RX12 23 "BorrowedStonesModel" "told" "[I" ∈ BM := List.mem_append_left _ (List.mem_of_getElem? (i := 5) rfl)
theorem bm_6 : Cond.fieldLink RX12 28 "BorrowedStonesModel" "readPerson" "[[I" ∈ BM := List.mem_append_left _ (List.mem_of_getElem? (i := 6) rfl)
theorem bm_7 : Cond.fieldLink RX12 31 "BorrowedStonesModel" "person" "[[I" ∈ BM := List.mem_append_left _ (List.mem_of_getElem? (i := 7) rfl)
theorem bm_8 : Cond.fieldLink RX12 37 "BorrowedStonesModel" "friend" "[I" ∈ BM := List.mem_append_left _ (List.mem_of_getElem? (i := 8) rfl)
theorem bm_9 : Cond.fieldLink RX12 61 "BorrowedStonesModel" "now" "[I" ∈ BM := List.mem_append_left _ (List.mem_of_getElem? (i := 9) rfl)
theorem bm_10 : Cond.fieldLink RX12 191 "BorrowedStonesModel" "lawMany" "I" ∈ BM := List.mem_append_left _ (List.mem_of_getElem? (i := 10) rfl)
theorem bm_11 : Cond.fieldLink RX12 194 "BorrowedStonesModel" "lines" "I" ∈ BM := List.mem_append_left _ (List.mem_of_getElem? (i := 11) rfl)
theorem bm_12 : Cond.fieldLink RX12 197 "BorrowedStonesModel" "works" "I" ∈ BM := List.mem_append_left _ (List.mem_of_getElem? (i := 12) rfl)
theorem bm_13 : Cond.fieldLink RX12 200 "BorrowedStonesModel" "refusedSteps" "I" ∈ BM := List.mem_append_left _ (List.mem_of_getElem? (i := 13) rfl)
theorem bm_14 : Cond.fieldLink RX12 203 "BorrowedStonesModel" "images" "I" ∈ BM := List.mem_append_left _ (List.mem_of_getElem? (i := 14) rfl)
theorem bm_15 : Cond.methodLink RX12 187 yX12_lays ∈ BM := List.mem_append_left _ (List.mem_of_getElem? (i := 15) rfl)
theorem bm_16 : Cond.static yX12_lays ∈ BM := List.mem_append_left _ (List.mem_of_getElem? (i := 16) rfl)
theorem bm_17 : Cond.initialized RX12 ∈ BM := List.mem_append_left _ (List.mem_of_getElem? (i := 17) rfl)
theorem bm_18 : Cond.methodLink RX12 1 objectInit ∈ BM := List.mem_append_left _ (List.mem_of_getElem? (i := 18) rfl)
theorem bm_19 : Cond.instanceMethod objectInit ∈ BM := List.mem_append_left _ (List.mem_of_getElem? (i := 19) rfl)
theorem bm_20 : Cond.code objectInit ⟨#[0xb1]⟩ 1 none ∈ BM := List.mem_append_left _ (List.mem_of_getElem? (i := 20) rfl)
theorem bm_21 : Cond.fieldLink RX12 9 "BorrowedStonesModel" "place" "I" ∈ BM := List.mem_append_left _ (List.mem_of_getElem? (i := 21) rfl)
theorem bm_22 : Cond.arrayClass .int ∈ BM := List.mem_append_left _ (List.mem_of_getElem? (i := 22) rfl)
theorem bm_23 : Cond.fieldLink RX12 13 "BorrowedStonesModel" "fed" "[I" ∈ BM := List.mem_append_left _ (List.mem_of_getElem? (i := 23) rfl)
theorem bm_24 : Cond.fieldLink RX12 17 "BorrowedStonesModel" "refused" "[I" ∈ BM := List.mem_append_left _ (List.mem_of_getElem? (i := 24) rfl)
theorem bm_25 : Cond.classLink RX12 26 "[[I" ∈ BM := List.mem_append_left _ (List.mem_of_getElem? (i := 25) rfl)
theorem bm_26 : Cond.fieldLink RX12 40 "BorrowedStonesModel" "law" "[[I" ∈ BM := List.mem_append_left _ (List.mem_of_getElem? (i := 26) rfl)
theorem bm_27 : Cond.fieldLink RX12 43 "BorrowedStonesModel" "readLaw" "[[I" ∈ BM := List.mem_append_left _ (List.mem_of_getElem? (i := 27) rfl)
theorem bm_28 : Cond.fieldLink RX12 46 "BorrowedStonesModel" "line" "[[I" ∈ BM := List.mem_append_left _ (List.mem_of_getElem? (i := 28) rfl)
theorem bm_29 : Cond.fieldLink RX12 49 "BorrowedStonesModel" "readLine" "[[I" ∈ BM := List.mem_append_left _ (List.mem_of_getElem? (i := 29) rfl)
theorem bm_30 : Cond.fieldLink RX12 52 "BorrowedStonesModel" "stack" "[I" ∈ BM := List.mem_append_left _ (List.mem_of_getElem? (i := 30) rfl)
theorem bm_31 : Cond.fieldLink RX12 55 "BorrowedStonesModel" "known" "[I" ∈ BM := List.mem_append_left _ (List.mem_of_getElem? (i := 31) rfl)
theorem bm_32 : Cond.fieldLink RX12 58 "BorrowedStonesModel" "step" "[[I" ∈ BM := List.mem_append_left _ (List.mem_of_getElem? (i := 32) rfl)
theorem bm_33 : Cond.fieldLink RX12 64 "BorrowedStonesModel" "trial" "[I" ∈ BM := List.mem_append_left _ (List.mem_of_getElem? (i := 33) rfl)
theorem bm_34 : Cond.fieldLink RX12 67 "BorrowedStonesModel" "before" "[[I" ∈ BM := List.mem_append_left _ (List.mem_of_getElem? (i := 34) rfl)
theorem bm_35 : Cond.fieldLink RX12 70 "BorrowedStonesModel" "kept" "[[I" ∈ BM := List.mem_append_left _ (List.mem_of_getElem? (i := 35) rfl)
theorem bm_36 : Cond.fieldLink RX12 73 "BorrowedStonesModel" "gives" "[I" ∈ BM := List.mem_append_left _ (List.mem_of_getElem? (i := 36) rfl)
theorem bm_37 : Cond.fieldLink RX12 76 "BorrowedStonesModel" "bestGives" "[I" ∈ BM := List.mem_append_left _ (List.mem_of_getElem? (i := 37) rfl)
theorem bm_38 : Cond.fieldLink RX12 79 "BorrowedStonesModel" "times" "[I" ∈ BM := List.mem_append_left _ (List.mem_of_getElem? (i := 38) rfl)
theorem bm_39 : Cond.fieldLink RX12 82 "BorrowedStonesModel" "order" "[I" ∈ BM := List.mem_append_left _ (List.mem_of_getElem? (i := 39) rfl)
theorem bm_40 : Cond.fieldLink RX12 85 "BorrowedStonesModel" "seen" "[I" ∈ BM := List.mem_append_left _ (List.mem_of_getElem? (i := 40) rfl)
theorem bm_41 : Cond.arrayClass .long ∈ BM := List.mem_append_left _ (List.mem_of_getElem? (i := 41) rfl)
theorem bm_42 : Cond.fieldLink RX12 88 "BorrowedStonesModel" "exact" "[J" ∈ BM := List.mem_append_left _ (List.mem_of_getElem? (i := 42) rfl)
theorem bm_43 : Cond.methodLink RX12 92 yX12_tellsNothing ∈ BM := List.mem_append_left _ (List.mem_of_getElem? (i := 43) rfl)
theorem bm_44 : Cond.instanceMethod yX12_tellsNothing ∈ BM := List.mem_append_left _ (List.mem_of_getElem? (i := 44) rfl)
theorem bm_45 : Cond.selects RX12 yX12_tellsNothing yX12_tellsNothing ∈ BM := List.mem_append_left _ (List.mem_of_getElem? (i := 45) rfl)
theorem bm_46 : Cond.methodLink RX12 95 yX12_beginsAnew ∈ BM := List.mem_append_left _ (List.mem_of_getElem? (i := 46) rfl)
theorem bm_47 : Cond.instanceMethod yX12_beginsAnew ∈ BM := List.mem_append_left _ (List.mem_of_getElem? (i := 47) rfl)
theorem bm_48 : Cond.selects RX12 yX12_beginsAnew yX12_beginsAnew ∈ BM := List.mem_append_left _ (List.mem_of_getElem? (i := 48) rfl)
theorem bm_49 : Cond.code yX12_init cX12_init 1 none ∈ BM := List.mem_append_left _ (List.mem_of_getElem? (i := 49) rfl)
theorem bm_50 : Cond.code yX12_thrown cX12_thrown 1 (some .int) ∈ BM := List.mem_append_left _ (List.mem_of_getElem? (i := 50) rfl)
theorem bm_51 : Cond.fieldLink RX12 98 "BorrowedStonesModel" "thrown" "I" ∈ BM := List.mem_append_left _ (List.mem_of_getElem? (i := 51) rfl)
theorem bm_52 : Cond.code yX12_bad cX12_bad 4 (some .boolean) ∈ BM := List.mem_append_left _ (List.mem_of_getElem? (i := 52) rfl)
theorem bm_53 : Cond.code yX12_in cX12_in 3 (some .boolean) ∈ BM := List.mem_append_left _ (List.mem_of_getElem? (i := 53) rfl)
theorem bm_54 : Cond.code yX12_less cX12_less 2 (some .int) ∈ BM := List.mem_append_left _ (List.mem_of_getElem? (i := 54) rfl)
theorem bm_55 : Cond.code yX12_more cX12_more 2 (some .int) ∈ BM := List.mem_append_left _ (List.mem_of_getElem? (i := 55) rfl)
theorem bm_56 : Cond.code yX12_has cX12_has 2 (some .boolean) ∈ BM := List.mem_append_left _ (List.mem_of_getElem? (i := 56) rfl)
theorem bm_57 : Cond.code yX12_feed cX12_feed 8 (some .int) ∈ BM := List.mem_append_left _ (List.mem_of_getElem? (i := 57) rfl)
theorem bm_58 : Cond.fieldLink RX12 101 "BorrowedStonesModel" "tape" "I" ∈ BM := List.mem_append_left _ (List.mem_of_getElem? (i := 58) rfl)
theorem bm_59 : Cond.code yX12_byteAt cX12_byteAt 2 (some .int) ∈ BM := List.mem_append_left _ (List.mem_of_getElem? (i := 59) rfl)
theorem bm_60 : Cond.fieldLink RX12 104 "BorrowedStonesModel" "size" "I" ∈ BM := List.mem_append_left _ (List.mem_of_getElem? (i := 60) rfl)
theorem bm_61 : Cond.code yX12_blanks cX12_blanks 1 none ∈ BM := List.mem_append_left _ (List.mem_of_getElem? (i := 61) rfl)
theorem bm_62 : Cond.fieldLink RX12 107 "BorrowedStonesModel" "at" "I" ∈ BM := List.mem_append_left _ (List.mem_of_getElem? (i := 62) rfl)
theorem bm_63 : Cond.methodLink RX12 110 yX12_byteAt ∈ BM := List.mem_append_left _ (List.mem_of_getElem? (i := 63) rfl)
theorem bm_64 : Cond.instanceMethod yX12_byteAt ∈ BM := List.mem_append_left _ (List.mem_of_getElem? (i := 64) rfl)
theorem bm_65 : Cond.selects RX12 yX12_byteAt yX12_byteAt ∈ BM := List.mem_append_left _ (List.mem_of_getElem? (i := 65) rfl)
theorem bm_66 : Cond.code yX12_wrong cX12_wrong 3 none ∈ BM := List.mem_append_left _ (List.mem_of_getElem? (i := 66) rfl)
theorem bm_67 : Cond.fieldLink RX12 114 "BorrowedStonesModel" "fault" "I" ∈ BM := List.mem_append_left _ (List.mem_of_getElem? (i := 67) rfl)
theorem bm_68 : Cond.fieldLink RX12 117 "BorrowedStonesModel" "faultAt" "I" ∈ BM := List.mem_append_left _ (List.mem_of_getElem? (i := 68) rfl)
theorem bm_69 : Cond.code yX12_isDigit cX12_isDigit 1 (some .boolean) ∈ BM := List.mem_append_left _ (List.mem_of_getElem? (i := 69) rfl)
theorem bm_70 : Cond.code yX12_isSmall cX12_isSmall 1 (some .boolean) ∈ BM := List.mem_append_left _ (List.mem_of_getElem? (i := 70) rfl)
theorem bm_71 : Cond.constant RX12 131 (100000) ∈ BM := List.mem_append_left _ (List.mem_of_getElem? (i := 71) rfl)
theorem bm_72 : Cond.methodLink RX12 120 yX12_blanks ∈ BM := List.mem_append_left _ (List.mem_of_getElem? (i := 72) rfl)
theorem bm_73 : Cond.instanceMethod yX12_blanks ∈ BM := List.mem_append_left _ (List.mem_of_getElem? (i := 73) rfl)
theorem bm_74 : Cond.selects RX12 yX12_blanks yX12_blanks ∈ BM := List.mem_append_left _ (List.mem_of_getElem? (i := 74) rfl)
theorem bm_75 : Cond.methodLink RX12 123 yX12_isDigit ∈ BM := List.mem_append_left _ (List.mem_of_getElem? (i := 75) rfl)
theorem bm_76 : Cond.static yX12_isDigit ∈ BM := List.mem_append_left _ (List.mem_of_getElem? (i := 76) rfl)
theorem bm_77 : Cond.methodLink RX12 127 yX12_wrong ∈ BM := List.mem_append_left _ (List.mem_of_getElem? (i := 77) rfl)
theorem bm_78 : Cond.instanceMethod yX12_wrong ∈ BM := List.mem_append_left _ (List.mem_of_getElem? (i := 78) rfl)
theorem bm_79 : Cond.selects RX12 yX12_wrong yX12_wrong ∈ BM := List.mem_append_left _ (List.mem_of_getElem? (i := 79) rfl)
theorem bm_80 : Cond.methodLink RX12 132 yX12_in ∈ BM := List.mem_append_left _ (List.mem_of_getElem? (i := 80) rfl)
theorem bm_81 : Cond.static yX12_in ∈ BM := List.mem_append_left _ (List.mem_of_getElem? (i := 81) rfl)
theorem bm_82 : Cond.code yX12_number cX12_number 5 (some .int) ∈ BM := List.mem_append_left _ (List.mem_of_getElem? (i := 82) rfl)
theorem bm_83 : Cond.code yX12_wordHere cX12_wordHere 3 (some .int) ∈ BM := List.mem_append_left _ (List.mem_of_getElem? (i := 83) rfl)
theorem bm_84 : Cond.methodLink RX12 136 yX12_isSmall ∈ BM := List.mem_append_left _ (List.mem_of_getElem? (i := 84) rfl)
theorem bm_85 : Cond.static yX12_isSmall ∈ BM := List.mem_append_left _ (List.mem_of_getElem? (i := 85) rfl)
theorem bm_86 : Cond.code yX12_six cX12_six 7 (some .int) ∈ BM := List.mem_append_left _ (List.mem_of_getElem? (i := 86) rfl)
theorem bm_87 : Cond.code yX12_isWord cX12_isWord 7 (some .boolean) ∈ BM := List.mem_append_left _ (List.mem_of_getElem? (i := 87) rfl)
theorem bm_88 : Cond.methodLink RX12 139 yX12_wordHere ∈ BM := List.mem_append_left _ (List.mem_of_getElem? (i := 88) rfl)
theorem bm_89 : Cond.instanceMethod yX12_wordHere ∈ BM := List.mem_append_left _ (List.mem_of_getElem? (i := 89) rfl)
theorem bm_90 : Cond.selects RX12 yX12_wordHere yX12_wordHere ∈ BM := List.mem_append_left _ (List.mem_of_getElem? (i := 90) rfl)
theorem bm_91 : Cond.methodLink RX12 143 yX12_six ∈ BM := List.mem_append_left _ (List.mem_of_getElem? (i := 91) rfl)
theorem bm_92 : Cond.static yX12_six ∈ BM := List.mem_append_left _ (List.mem_of_getElem? (i := 92) rfl)
theorem bm_93 : Cond.code yX12_skipWord cX12_skipWord 1 none ∈ BM := List.mem_append_left _ (List.mem_of_getElem? (i := 93) rfl)
theorem bm_94 : Cond.methodLink RX12 147 yX12_isWord ∈ BM := List.mem_append_left _ (List.mem_of_getElem? (i := 94) rfl)
theorem bm_95 : Cond.instanceMethod yX12_isWord ∈ BM := List.mem_append_left _ (List.mem_of_getElem? (i := 95) rfl)
theorem bm_96 : Cond.selects RX12 yX12_isWord yX12_isWord ∈ BM := List.mem_append_left _ (List.mem_of_getElem? (i := 96) rfl)
theorem bm_97 : Cond.methodLink RX12 151 yX12_skipWord ∈ BM := List.mem_append_left _ (List.mem_of_getElem? (i := 97) rfl)
theorem bm_98 : Cond.instanceMethod yX12_skipWord ∈ BM := List.mem_append_left _ (List.mem_of_getElem? (i := 98) rfl)
theorem bm_99 : Cond.selects RX12 yX12_skipWord yX12_skipWord ∈ BM := List.mem_append_left _ (List.mem_of_getElem? (i := 99) rfl)
theorem bm_100 : Cond.code yX12_takes cX12_takes 8 (some .boolean) ∈ BM := List.mem_append_left _ (List.mem_of_getElem? (i := 100) rfl)
theorem bm_101 : Cond.code yX12_sign cX12_sign 2 none ∈ BM := List.mem_append_left _ (List.mem_of_getElem? (i := 101) rfl)
theorem bm_102 : Cond.code yX12_takesSign cX12_takesSign 3 (some .boolean) ∈ BM := List.mem_append_left _ (List.mem_of_getElem? (i := 102) rfl)
theorem bm_103 : Cond.code yX12_starts cX12_starts 2 none ∈ BM := List.mem_append_left _ (List.mem_of_getElem? (i := 103) rfl)
theorem bm_104 : Cond.fieldLink RX12 154 "BorrowedStonesModel" "clauses" "I" ∈ BM := List.mem_append_left _ (List.mem_of_getElem? (i := 104) rfl)
theorem bm_105 : Cond.fieldLink RX12 157 "BorrowedStonesModel" "open" "I" ∈ BM := List.mem_append_left _ (List.mem_of_getElem? (i := 105) rfl)
theorem bm_106 : Cond.code yX12_ends cX12_ends 1 (some .int) ∈ BM := List.mem_append_left _ (List.mem_of_getElem? (i := 106) rfl)
theorem bm_107 : Cond.code yX12_kindHere cX12_kindHere 1 (some .int) ∈ BM := List.mem_append_left _ (List.mem_of_getElem? (i := 107) rfl)
theorem bm_108 : Cond.methodLink RX12 160 yX12_number ∈ BM := List.mem_append_left _ (List.mem_of_getElem? (i := 108) rfl)
theorem bm_109 : Cond.instanceMethod yX12_number ∈ BM := List.mem_append_left _ (List.mem_of_getElem? (i := 109) rfl)
theorem bm_110 : Cond.selects RX12 yX12_number yX12_number ∈ BM := List.mem_append_left _ (List.mem_of_getElem? (i := 110) rfl)
theorem bm_111 : Cond.code yX12_friends cX12_friends 4 none ∈ BM := List.mem_append_left _ (List.mem_of_getElem? (i := 111) rfl)
theorem bm_112 : Cond.methodLink RX12 164 yX12_kindHere ∈ BM := List.mem_append_left _ (List.mem_of_getElem? (i := 112) rfl)
theorem bm_113 : Cond.instanceMethod yX12_kindHere ∈ BM := List.mem_append_left _ (List.mem_of_getElem? (i := 113) rfl)
theorem bm_114 : Cond.selects RX12 yX12_kindHere yX12_kindHere ∈ BM := List.mem_append_left _ (List.mem_of_getElem? (i := 114) rfl)
theorem bm_115 : Cond.methodLink RX12 167 yX12_friends ∈ BM := List.mem_append_left _ (List.mem_of_getElem? (i := 115) rfl)
theorem bm_116 : Cond.instanceMethod yX12_friends ∈ BM := List.mem_append_left _ (List.mem_of_getElem? (i := 116) rfl)
theorem bm_117 : Cond.selects RX12 yX12_friends yX12_friends ∈ BM := List.mem_append_left _ (List.mem_of_getElem? (i := 117) rfl)
theorem bm_118 : Cond.methodLink RX12 170 yX12_sign ∈ BM := List.mem_append_left _ (List.mem_of_getElem? (i := 118) rfl)
theorem bm_119 : Cond.instanceMethod yX12_sign ∈ BM := List.mem_append_left _ (List.mem_of_getElem? (i := 119) rfl)
theorem bm_120 : Cond.selects RX12 yX12_sign yX12_sign ∈ BM := List.mem_append_left _ (List.mem_of_getElem? (i := 120) rfl)
theorem bm_121 : Cond.code yX12_clause cX12_clause 2 none ∈ BM := List.mem_append_left _ (List.mem_of_getElem? (i := 121) rfl)
theorem bm_122 : Cond.methodLink RX12 174 yX12_bad ∈ BM := List.mem_append_left _ (List.mem_of_getElem? (i := 122) rfl)
theorem bm_123 : Cond.instanceMethod yX12_bad ∈ BM := List.mem_append_left _ (List.mem_of_getElem? (i := 123) rfl)
theorem bm_124 : Cond.selects RX12 yX12_bad yX12_bad ∈ BM := List.mem_append_left _ (List.mem_of_getElem? (i := 124) rfl)
theorem bm_125 : Cond.methodLink RX12 178 yX12_starts ∈ BM := List.mem_append_left _ (List.mem_of_getElem? (i := 125) rfl)
theorem bm_126 : Cond.instanceMethod yX12_starts ∈ BM := List.mem_append_left _ (List.mem_of_getElem? (i := 126) rfl)
theorem bm_127 : Cond.selects RX12 yX12_starts yX12_starts ∈ BM := List.mem_append_left _ (List.mem_of_getElem? (i := 127) rfl)
theorem bm_128 : Cond.methodLink RX12 181 yX12_clause ∈ BM := List.mem_append_left _ (List.mem_of_getElem? (i := 128) rfl)
theorem bm_129 : Cond.instanceMethod yX12_clause ∈ BM := List.mem_append_left _ (List.mem_of_getElem? (i := 129) rfl)
theorem bm_130 : Cond.selects RX12 yX12_clause yX12_clause ∈ BM := List.mem_append_left _ (List.mem_of_getElem? (i := 130) rfl)
theorem bm_131 : Cond.methodLink RX12 184 yX12_ends ∈ BM := List.mem_append_left _ (List.mem_of_getElem? (i := 131) rfl)
theorem bm_132 : Cond.instanceMethod yX12_ends ∈ BM := List.mem_append_left _ (List.mem_of_getElem? (i := 132) rfl)
theorem bm_133 : Cond.selects RX12 yX12_ends yX12_ends ∈ BM := List.mem_append_left _ (List.mem_of_getElem? (i := 133) rfl)
theorem bm_134 : Cond.code yX12_peninsula cX12_peninsula 2 (some .int) ∈ BM := List.mem_append_left _ (List.mem_of_getElem? (i := 134) rfl)
theorem bm_135 : Cond.code yX12_copies cX12_copies 3 none ∈ BM := List.mem_append_left _ (List.mem_of_getElem? (i := 135) rfl)
theorem bm_136 : Cond.code yX12_notes cX12_notes 3 none ∈ BM := List.mem_append_left _ (List.mem_of_getElem? (i := 136) rfl)
theorem bm_137 : Cond.fieldLink RX12 206 "BorrowedStonesModel" "readLawMany" "I" ∈ BM := List.mem_append_left _ (List.mem_of_getElem? (i := 137) rfl)
theorem bm_138 : Cond.code yX12_opensOne cX12_opensOne 1 (some .boolean) ∈ BM := List.mem_append_left _ (List.mem_of_getElem? (i := 138) rfl)
theorem bm_139 : Cond.methodLink RX12 221 yX12_takes ∈ BM := List.mem_append_left _ (List.mem_of_getElem? (i := 139) rfl)
theorem bm_140 : Cond.instanceMethod yX12_takes ∈ BM := List.mem_append_left _ (List.mem_of_getElem? (i := 140) rfl)
theorem bm_141 : Cond.selects RX12 yX12_takes yX12_takes ∈ BM := List.mem_append_left _ (List.mem_of_getElem? (i := 141) rfl)
theorem bm_142 : Cond.code yX12_knownHere cX12_knownHere 1 (some .int) ∈ BM := List.mem_append_left _ (List.mem_of_getElem? (i := 142) rfl)
theorem bm_143 : Cond.methodLink RX12 224 yX12_opensOne ∈ BM := List.mem_append_left _ (List.mem_of_getElem? (i := 143) rfl)
theorem bm_144 : Cond.instanceMethod yX12_opensOne ∈ BM := List.mem_append_left _ (List.mem_of_getElem? (i := 144) rfl)
theorem bm_145 : Cond.selects RX12 yX12_opensOne yX12_opensOne ∈ BM := List.mem_append_left _ (List.mem_of_getElem? (i := 145) rfl)
theorem bm_146 : Cond.methodLink RX12 228 yX12_sum ∈ BM := List.mem_append_left _ (List.mem_of_getElem? (i := 146) rfl)
theorem bm_147 : Cond.instanceMethod yX12_sum ∈ BM := List.mem_append_left _ (List.mem_of_getElem? (i := 147) rfl)
theorem bm_148 : Cond.selects RX12 yX12_sum yX12_sum ∈ BM := List.mem_append_left _ (List.mem_of_getElem? (i := 148) rfl)
theorem bm_149 : Cond.methodLink RX12 215 yX12_notes ∈ BM := List.mem_append_left _ (List.mem_of_getElem? (i := 149) rfl)
theorem bm_150 : Cond.instanceMethod yX12_notes ∈ BM := List.mem_append_left _ (List.mem_of_getElem? (i := 150) rfl)
theorem bm_151 : Cond.selects RX12 yX12_notes yX12_notes ∈ BM := List.mem_append_left _ (List.mem_of_getElem? (i := 151) rfl)
theorem bm_152 : Cond.methodLink RX12 231 yX12_knownHere ∈ BM := List.mem_append_left _ (List.mem_of_getElem? (i := 152) rfl)
theorem bm_153 : Cond.instanceMethod yX12_knownHere ∈ BM := List.mem_append_left _ (List.mem_of_getElem? (i := 153) rfl)
theorem bm_154 : Cond.selects RX12 yX12_knownHere yX12_knownHere ∈ BM := List.mem_append_left _ (List.mem_of_getElem? (i := 154) rfl)
theorem bm_155 : Cond.code yX12_product cX12_product 2 none ∈ BM := List.mem_append_left _ (List.mem_of_getElem? (i := 155) rfl)
theorem bm_156 : Cond.methodLink RX12 218 yX12_one ∈ BM := List.mem_append_left _ (List.mem_of_getElem? (i := 156) rfl)
theorem bm_157 : Cond.instanceMethod yX12_one ∈ BM := List.mem_append_left _ (List.mem_of_getElem? (i := 157) rfl)
theorem bm_158 : Cond.selects RX12 yX12_one yX12_one ∈ BM := List.mem_append_left _ (List.mem_of_getElem? (i := 158) rfl)
theorem bm_159 : Cond.methodLink RX12 212 yX12_takesSign ∈ BM := List.mem_append_left _ (List.mem_of_getElem? (i := 159) rfl)
theorem bm_160 : Cond.instanceMethod yX12_takesSign ∈ BM := List.mem_append_left _ (List.mem_of_getElem? (i := 160) rfl)
theorem bm_161 : Cond.selects RX12 yX12_takesSign yX12_takesSign ∈ BM := List.mem_append_left _ (List.mem_of_getElem? (i := 161) rfl)
theorem bm_162 : Cond.code yX12_sum cX12_sum 2 none ∈ BM := List.mem_append_left _ (List.mem_of_getElem? (i := 162) rfl)
theorem bm_163 : Cond.methodLink RX12 209 yX12_product ∈ BM := List.mem_append_left _ (List.mem_of_getElem? (i := 163) rfl)
theorem bm_164 : Cond.instanceMethod yX12_product ∈ BM := List.mem_append_left _ (List.mem_of_getElem? (i := 164) rfl)
theorem bm_165 : Cond.selects RX12 yX12_product yX12_product ∈ BM := List.mem_append_left _ (List.mem_of_getElem? (i := 165) rfl)
theorem bm_166 : Cond.code yX12_one cX12_one 3 none ∈ BM := List.mem_append_left _ (List.mem_of_getElem? (i := 166) rfl)
theorem bm_167 : Cond.code yX12_law cX12_law 2 (some .int) ∈ BM := List.mem_append_left _ (List.mem_of_getElem? (i := 167) rfl)
theorem bm_168 : Cond.code yX12_by cX12_by 3 (some .int) ∈ BM := List.mem_append_left _ (List.mem_of_getElem? (i := 168) rfl)
theorem bm_169 : Cond.methodLink RX12 234 yX12_less ∈ BM := List.mem_append_left _ (List.mem_of_getElem? (i := 169) rfl)
theorem bm_170 : Cond.static yX12_less ∈ BM := List.mem_append_left _ (List.mem_of_getElem? (i := 170) rfl)
theorem bm_171 : Cond.methodLink RX12 237 yX12_more ∈ BM := List.mem_append_left _ (List.mem_of_getElem? (i := 171) rfl)
theorem bm_172 : Cond.static yX12_more ∈ BM := List.mem_append_left _ (List.mem_of_getElem? (i := 172) rfl)
theorem bm_173 : Cond.code yX12_byLaw cX12_byLaw 3 (some .int) ∈ BM := List.mem_append_left _ (List.mem_of_getElem? (i := 173) rfl)
theorem bm_174 : Cond.methodLink RX12 240 yX12_by ∈ BM := List.mem_append_left _ (List.mem_of_getElem? (i := 174) rfl)
theorem bm_175 : Cond.static yX12_by ∈ BM := List.mem_append_left _ (List.mem_of_getElem? (i := 175) rfl)
theorem bm_176 : Cond.code yX12_stepHere cX12_stepHere 1 (some .int) ∈ BM := List.mem_append_left _ (List.mem_of_getElem? (i := 176) rfl)
theorem bm_177 : Cond.fieldLink RX12 247 "BorrowedStonesModel" "steps" "I" ∈ BM := List.mem_append_left _ (List.mem_of_getElem? (i := 177) rfl)
theorem bm_178 : Cond.methodLink RX12 244 yX12_stepHere ∈ BM := List.mem_append_left _ (List.mem_of_getElem? (i := 178) rfl)
theorem bm_179 : Cond.instanceMethod yX12_stepHere ∈ BM := List.mem_append_left _ (List.mem_of_getElem? (i := 179) rfl)
theorem bm_180 : Cond.selects RX12 yX12_stepHere yX12_stepHere ∈ BM := List.mem_append_left _ (List.mem_of_getElem? (i := 180) rfl)
theorem bm_181 : Cond.methodLink RX12 250 yX12_readsStep ∈ BM := List.mem_append_left _ (List.mem_of_getElem? (i := 181) rfl)
theorem bm_182 : Cond.instanceMethod yX12_readsStep ∈ BM := List.mem_append_left _ (List.mem_of_getElem? (i := 182) rfl)
theorem bm_183 : Cond.selects RX12 yX12_readsStep yX12_readsStep ∈ BM := List.mem_append_left _ (List.mem_of_getElem? (i := 183) rfl)
theorem bm_184 : Cond.code yX12_readsStep cX12_readsStep 3 none ∈ BM := List.mem_append_left _ (List.mem_of_getElem? (i := 184) rfl)
theorem bm_185 : Cond.methodLink RX12 253 yX12_has ∈ BM := List.mem_append_left _ (List.mem_of_getElem? (i := 185) rfl)
theorem bm_186 : Cond.static yX12_has ∈ BM := List.mem_append_left _ (List.mem_of_getElem? (i := 186) rfl)
theorem bm_187 : Cond.code yX12_book cX12_book 7 (some .int) ∈ BM := List.mem_append_left _ (List.mem_of_getElem? (i := 187) rfl)
theorem bm_188 : Cond.code yX12_fault cX12_fault 1 (some .int) ∈ BM := List.mem_append_left _ (List.mem_of_getElem? (i := 188) rfl)
theorem bm_189 : Cond.code yX12_willBy cX12_willBy 9 (some .int) ∈ BM := List.mem_append_left _ (List.mem_of_getElem? (i := 189) rfl)
theorem bm_190 : Cond.methodLink RX12 257 yX12_byLaw ∈ BM := List.mem_append_left _ (List.mem_of_getElem? (i := 190) rfl)
theorem bm_191 : Cond.instanceMethod yX12_byLaw ∈ BM := List.mem_append_left _ (List.mem_of_getElem? (i := 191) rfl)
theorem bm_192 : Cond.selects RX12 yX12_byLaw yX12_byLaw ∈ BM := List.mem_append_left _ (List.mem_of_getElem? (i := 192) rfl)
theorem bm_193 : Cond.code yX12_ones cX12_ones 3 (some .int) ∈ BM := List.mem_append_left _ (List.mem_of_getElem? (i := 193) rfl)
theorem bm_194 : Cond.code yX12_stonesOf cX12_stonesOf 5 (some .int) ∈ BM := List.mem_append_left _ (List.mem_of_getElem? (i := 194) rfl)
theorem bm_195 : Cond.code yX12_stones cX12_stones 3 (some .int) ∈ BM := List.mem_append_left _ (List.mem_of_getElem? (i := 195) rfl)
theorem bm_196 : Cond.methodLink RX12 260 yX12_stonesOf ∈ BM := List.mem_append_left _ (List.mem_of_getElem? (i := 196) rfl)
theorem bm_197 : Cond.instanceMethod yX12_stonesOf ∈ BM := List.mem_append_left _ (List.mem_of_getElem? (i := 197) rfl)
theorem bm_198 : Cond.selects RX12 yX12_stonesOf yX12_stonesOf ∈ BM := List.mem_append_left _ (List.mem_of_getElem? (i := 198) rfl)
theorem bm_199 : Cond.methodLink RX12 264 yX12_ones ∈ BM := List.mem_append_left _ (List.mem_of_getElem? (i := 199) rfl)
theorem bm_200 : Cond.static yX12_ones ∈ BM := List.mem_append_left _ (List.mem_of_getElem? (i := 200) rfl)
theorem bm_201 : Cond.code yX12_everybody cX12_everybody 1 (some .int) ∈ BM := List.mem_append_left _ (List.mem_of_getElem? (i := 201) rfl)
theorem bm_202 : Cond.methodLink RX12 267 yX12_stones ∈ BM := List.mem_append_left _ (List.mem_of_getElem? (i := 202) rfl)
theorem bm_203 : Cond.instanceMethod yX12_stones ∈ BM := List.mem_append_left _ (List.mem_of_getElem? (i := 203) rfl)
theorem bm_204 : Cond.selects RX12 yX12_stones yX12_stones ∈ BM := List.mem_append_left _ (List.mem_of_getElem? (i := 204) rfl)
theorem bm_205 : Cond.methodLink RX12 270 yX12_willBy ∈ BM := List.mem_append_left _ (List.mem_of_getElem? (i := 205) rfl)
theorem bm_206 : Cond.instanceMethod yX12_willBy ∈ BM := List.mem_append_left _ (List.mem_of_getElem? (i := 206) rfl)
theorem bm_207 : Cond.selects RX12 yX12_willBy yX12_willBy ∈ BM := List.mem_append_left _ (List.mem_of_getElem? (i := 207) rfl)
theorem bm_208 : Cond.code yX12_willOf cX12_willOf 4 (some .int) ∈ BM := List.mem_append_left _ (List.mem_of_getElem? (i := 208) rfl)
theorem bm_209 : Cond.methodLink RX12 274 yX12_willOf ∈ BM := List.mem_append_left _ (List.mem_of_getElem? (i := 209) rfl)
theorem bm_210 : Cond.instanceMethod yX12_willOf ∈ BM := List.mem_append_left _ (List.mem_of_getElem? (i := 210) rfl)
theorem bm_211 : Cond.selects RX12 yX12_willOf yX12_willOf ∈ BM := List.mem_append_left _ (List.mem_of_getElem? (i := 211) rfl)
theorem bm_212 : Cond.code yX12_isLent cX12_isLent 4 (some .boolean) ∈ BM := List.mem_append_left _ (List.mem_of_getElem? (i := 212) rfl)
theorem bm_213 : Cond.methodLink RX12 278 yX12_isLent ∈ BM := List.mem_append_left _ (List.mem_of_getElem? (i := 213) rfl)
theorem bm_214 : Cond.instanceMethod yX12_isLent ∈ BM := List.mem_append_left _ (List.mem_of_getElem? (i := 214) rfl)
theorem bm_215 : Cond.selects RX12 yX12_isLent yX12_isLent ∈ BM := List.mem_append_left _ (List.mem_of_getElem? (i := 215) rfl)
theorem bm_216 : Cond.code yX12_lenderOf cX12_lenderOf 6 (some .int) ∈ BM := List.mem_append_left _ (List.mem_of_getElem? (i := 216) rfl)
theorem bm_217 : Cond.code yX12_lies cX12_lies 3 none ∈ BM := List.mem_append_left _ (List.mem_of_getElem? (i := 217) rfl)
theorem bm_218 : Cond.methodLink RX12 282 yX12_lenderOf ∈ BM := List.mem_append_left _ (List.mem_of_getElem? (i := 218) rfl)
theorem bm_219 : Cond.instanceMethod yX12_lenderOf ∈ BM := List.mem_append_left _ (List.mem_of_getElem? (i := 219) rfl)
theorem bm_220 : Cond.selects RX12 yX12_lenderOf yX12_lenderOf ∈ BM := List.mem_append_left _ (List.mem_of_getElem? (i := 220) rfl)
theorem bm_221 : Cond.methodLink RX12 285 yX12_lies ∈ BM := List.mem_append_left _ (List.mem_of_getElem? (i := 221) rfl)
theorem bm_222 : Cond.static yX12_lies ∈ BM := List.mem_append_left _ (List.mem_of_getElem? (i := 222) rfl)
theorem bm_223 : Cond.code yX12_dies cX12_dies 4 (some .boolean) ∈ BM := List.mem_append_left _ (List.mem_of_getElem? (i := 223) rfl)
theorem bm_224 : Cond.code yX12_lendsLate cX12_lendsLate 4 (some .boolean) ∈ BM := List.mem_append_left _ (List.mem_of_getElem? (i := 224) rfl)
theorem bm_225 : Cond.code yX12_becomes cX12_becomes 3 (some .boolean) ∈ BM := List.mem_append_left _ (List.mem_of_getElem? (i := 225) rfl)
theorem bm_226 : Cond.code yX12_yearEnds cX12_yearEnds 3 none ∈ BM := List.mem_append_left _ (List.mem_of_getElem? (i := 226) rfl)
theorem bm_227 : Cond.methodLink RX12 289 yX12_dies ∈ BM := List.mem_append_left _ (List.mem_of_getElem? (i := 227) rfl)
theorem bm_228 : Cond.instanceMethod yX12_dies ∈ BM := List.mem_append_left _ (List.mem_of_getElem? (i := 228) rfl)
theorem bm_229 : Cond.selects RX12 yX12_dies yX12_dies ∈ BM := List.mem_append_left _ (List.mem_of_getElem? (i := 229) rfl)
theorem bm_230 : Cond.methodLink RX12 293 yX12_lendsLate ∈ BM := List.mem_append_left _ (List.mem_of_getElem? (i := 230) rfl)
theorem bm_231 : Cond.instanceMethod yX12_lendsLate ∈ BM := List.mem_append_left _ (List.mem_of_getElem? (i := 231) rfl)
theorem bm_232 : Cond.selects RX12 yX12_lendsLate yX12_lendsLate ∈ BM := List.mem_append_left _ (List.mem_of_getElem? (i := 232) rfl)
theorem bm_233 : Cond.methodLink RX12 296 yX12_becomes ∈ BM := List.mem_append_left _ (List.mem_of_getElem? (i := 233) rfl)
theorem bm_234 : Cond.static yX12_becomes ∈ BM := List.mem_append_left _ (List.mem_of_getElem? (i := 234) rfl)
theorem bm_235 : Cond.methodLink RX12 299 yX12_yearEnds ∈ BM := List.mem_append_left _ (List.mem_of_getElem? (i := 235) rfl)
theorem bm_236 : Cond.instanceMethod yX12_yearEnds ∈ BM := List.mem_append_left _ (List.mem_of_getElem? (i := 236) rfl)
theorem bm_237 : Cond.selects RX12 yX12_yearEnds yX12_yearEnds ∈ BM := List.mem_append_left _ (List.mem_of_getElem? (i := 237) rfl)
theorem bm_238 : Cond.code yX12_does cX12_does 4 (some .boolean) ∈ BM := List.mem_append_left _ (List.mem_of_getElem? (i := 238) rfl)
theorem bm_239 : Cond.fieldLink RX12 303 "BorrowedStonesModel" "begun" "I" ∈ BM := List.mem_append_left _ (List.mem_of_getElem? (i := 239) rfl)
theorem bm_240 : Cond.fieldLink RX12 313 "BorrowedStonesModel" "doneSteps" "I" ∈ BM := List.mem_append_left _ (List.mem_of_getElem? (i := 240) rfl)
theorem bm_241 : Cond.methodLink RX12 306 yX12_goes ∈ BM := List.mem_append_left _ (List.mem_of_getElem? (i := 241) rfl)
theorem bm_242 : Cond.instanceMethod yX12_goes ∈ BM := List.mem_append_left _ (List.mem_of_getElem? (i := 242) rfl)
theorem bm_243 : Cond.selects RX12 yX12_goes yX12_goes ∈ BM := List.mem_append_left _ (List.mem_of_getElem? (i := 243) rfl)
theorem bm_244 : Cond.methodLink RX12 309 yX12_does ∈ BM := List.mem_append_left _ (List.mem_of_getElem? (i := 244) rfl)
theorem bm_245 : Cond.instanceMethod yX12_does ∈ BM := List.mem_append_left _ (List.mem_of_getElem? (i := 245) rfl)
theorem bm_246 : Cond.selects RX12 yX12_does yX12_does ∈ BM := List.mem_append_left _ (List.mem_of_getElem? (i := 246) rfl)
theorem bm_247 : Cond.code yX12_goes cX12_goes 5 none ∈ BM := List.mem_append_left _ (List.mem_of_getElem? (i := 247) rfl)
theorem bm_248 : Cond.methodLink RX12 316 yX12_copies ∈ BM := List.mem_append_left _ (List.mem_of_getElem? (i := 248) rfl)
theorem bm_249 : Cond.static yX12_copies ∈ BM := List.mem_append_left _ (List.mem_of_getElem? (i := 249) rfl)
theorem bm_250 : Cond.code yX12_work cX12_work 2 (some .int) ∈ BM := List.mem_append_left _ (List.mem_of_getElem? (i := 250) rfl)
theorem bm_251 : Cond.code yX12_undo cX12_undo 1 (some .int) ∈ BM := List.mem_append_left _ (List.mem_of_getElem? (i := 251) rfl)
theorem bm_252 : Cond.code yX12_debts cX12_debts 5 (some .int) ∈ BM := List.mem_append_left _ (List.mem_of_getElem? (i := 252) rfl)
theorem bm_253 : Cond.code yX12_nameless cX12_nameless 4 (some .int) ∈ BM := List.mem_append_left _ (List.mem_of_getElem? (i := 253) rfl)
theorem bm_254 : Cond.code yX12_follows cX12_follows 5 (some .int) ∈ BM := List.mem_append_left _ (List.mem_of_getElem? (i := 254) rfl)
theorem bm_255 : Cond.code yX12_longest cX12_longest 4 (some .int) ∈ BM := List.mem_append_left _ (List.mem_of_getElem? (i := 255) rfl)
theorem bm_256 : Cond.methodLink RX12 320 yX12_follows ∈ BM := List.mem_append_left _ (List.mem_of_getElem? (i := 256) rfl)
theorem bm_257 : Cond.static yX12_follows ∈ BM := List.mem_append_left _ (List.mem_of_getElem? (i := 257) rfl)
theorem bm_258 : Cond.code yX12_lenderIf cX12_lenderIf 4 (some .int) ∈ BM := List.mem_append_left _ (List.mem_of_getElem? (i := 258) rfl)
theorem bm_259 : Cond.methodLink RX12 324 yX12_lenderIf ∈ BM := List.mem_append_left _ (List.mem_of_getElem? (i := 259) rfl)
theorem bm_260 : Cond.instanceMethod yX12_lenderIf ∈ BM := List.mem_append_left _ (List.mem_of_getElem? (i := 260) rfl)
theorem bm_261 : Cond.selects RX12 yX12_lenderIf yX12_lenderIf ∈ BM := List.mem_append_left _ (List.mem_of_getElem? (i := 261) rfl)
theorem bm_262 : Cond.methodLink RX12 327 yX12_nameless ∈ BM := List.mem_append_left _ (List.mem_of_getElem? (i := 262) rfl)
theorem bm_263 : Cond.instanceMethod yX12_nameless ∈ BM := List.mem_append_left _ (List.mem_of_getElem? (i := 263) rfl)
theorem bm_264 : Cond.selects RX12 yX12_nameless yX12_nameless ∈ BM := List.mem_append_left _ (List.mem_of_getElem? (i := 264) rfl)
theorem bm_265 : Cond.methodLink RX12 331 yX12_debts ∈ BM := List.mem_append_left _ (List.mem_of_getElem? (i := 265) rfl)
theorem bm_266 : Cond.instanceMethod yX12_debts ∈ BM := List.mem_append_left _ (List.mem_of_getElem? (i := 266) rfl)
theorem bm_267 : Cond.selects RX12 yX12_debts yX12_debts ∈ BM := List.mem_append_left _ (List.mem_of_getElem? (i := 267) rfl)
theorem bm_268 : Cond.methodLink RX12 335 yX12_longest ∈ BM := List.mem_append_left _ (List.mem_of_getElem? (i := 268) rfl)
theorem bm_269 : Cond.instanceMethod yX12_longest ∈ BM := List.mem_append_left _ (List.mem_of_getElem? (i := 269) rfl)
theorem bm_270 : Cond.selects RX12 yX12_longest yX12_longest ∈ BM := List.mem_append_left _ (List.mem_of_getElem? (i := 270) rfl)
theorem bm_271 : Cond.code yX12_told cX12_told 6 (some .int) ∈ BM := List.mem_append_left _ (List.mem_of_getElem? (i := 271) rfl)
theorem bm_272 : Cond.code yX12_isPerson cX12_isPerson 2 (some .boolean) ∈ BM := List.mem_append_left _ (List.mem_of_getElem? (i := 272) rfl)
theorem bm_273 : Cond.methodLink RX12 338 yX12_isPerson ∈ BM := List.mem_append_left _ (List.mem_of_getElem? (i := 273) rfl)
theorem bm_274 : Cond.instanceMethod yX12_isPerson ∈ BM := List.mem_append_left _ (List.mem_of_getElem? (i := 274) rfl)
theorem bm_275 : Cond.selects RX12 yX12_isPerson yX12_isPerson ∈ BM := List.mem_append_left _ (List.mem_of_getElem? (i := 275) rfl)
theorem bm_276 : Cond.code yX12_person cX12_person 3 (some .int) ∈ BM := List.mem_append_left _ (List.mem_of_getElem? (i := 276) rfl)
theorem bm_277 : Cond.code yX12_will cX12_will 3 (some .int) ∈ BM := List.mem_append_left _ (List.mem_of_getElem? (i := 277) rfl)
theorem bm_278 : Cond.code yX12_lends cX12_lends 3 (some .boolean) ∈ BM := List.mem_append_left _ (List.mem_of_getElem? (i := 278) rfl)
theorem bm_279 : Cond.code yX12_would cX12_would 9 (some .int) ∈ BM := List.mem_append_left _ (List.mem_of_getElem? (i := 279) rfl)
theorem bm_280 : Cond.code yX12_lender cX12_lender 2 (some .int) ∈ BM := List.mem_append_left _ (List.mem_of_getElem? (i := 280) rfl)
theorem bm_281 : Cond.code yX12_deepest cX12_deepest 4 (some .int) ∈ BM := List.mem_append_left _ (List.mem_of_getElem? (i := 281) rfl)
theorem bm_282 : Cond.methodLink RX12 341 yX12_deepest ∈ BM := List.mem_append_left _ (List.mem_of_getElem? (i := 282) rfl)
theorem bm_283 : Cond.instanceMethod yX12_deepest ∈ BM := List.mem_append_left _ (List.mem_of_getElem? (i := 283) rfl)
theorem bm_284 : Cond.selects RX12 yX12_deepest yX12_deepest ∈ BM := List.mem_append_left _ (List.mem_of_getElem? (i := 284) rfl)
theorem bm_285 : Cond.code yX12_ahead cX12_ahead 5 (some .int) ∈ BM := List.mem_append_left _ (List.mem_of_getElem? (i := 285) rfl)
theorem bm_286 : Cond.code yX12_truly cX12_truly 2 (some .int) ∈ BM := List.mem_append_left _ (List.mem_of_getElem? (i := 286) rfl)
theorem bm_287 : Cond.code yX12_chain cX12_chain 2 (some .int) ∈ BM := List.mem_append_left _ (List.mem_of_getElem? (i := 287) rfl)
theorem bm_288 : Cond.fieldLink RX12 344 "BorrowedStonesModel" "mostServed" "I" ∈ BM := List.mem_append_left _ (List.mem_of_getElem? (i := 288) rfl)
theorem bm_289 : Cond.fieldLink RX12 347 "BorrowedStonesModel" "mostWill" "I" ∈ BM := List.mem_append_left _ (List.mem_of_getElem? (i := 289) rfl)
theorem bm_290 : Cond.methodLink RX12 350 yX12_serves ∈ BM := List.mem_append_left _ (List.mem_of_getElem? (i := 290) rfl)
theorem bm_291 : Cond.instanceMethod yX12_serves ∈ BM := List.mem_append_left _ (List.mem_of_getElem? (i := 291) rfl)
theorem bm_292 : Cond.selects RX12 yX12_serves yX12_serves ∈ BM := List.mem_append_left _ (List.mem_of_getElem? (i := 292) rfl)
theorem bm_293 : Cond.code yX12_serves cX12_serves 6 none ∈ BM := List.mem_append_left _ (List.mem_of_getElem? (i := 293) rfl)
theorem bm_294 : Cond.code yX12_laysGifts cX12_laysGifts 3 none ∈ BM := List.mem_append_left _ (List.mem_of_getElem? (i := 294) rfl)
theorem bm_295 : Cond.methodLink RX12 354 yX12_everybody ∈ BM := List.mem_append_left _ (List.mem_of_getElem? (i := 295) rfl)
theorem bm_296 : Cond.instanceMethod yX12_everybody ∈ BM := List.mem_append_left _ (List.mem_of_getElem? (i := 296) rfl)
theorem bm_297 : Cond.selects RX12 yX12_everybody yX12_everybody ∈ BM := List.mem_append_left _ (List.mem_of_getElem? (i := 297) rfl)
theorem bm_298 : Cond.methodLink RX12 357 yX12_laysGifts ∈ BM := List.mem_append_left _ (List.mem_of_getElem? (i := 298) rfl)
theorem bm_299 : Cond.instanceMethod yX12_laysGifts ∈ BM := List.mem_append_left _ (List.mem_of_getElem? (i := 299) rfl)
theorem bm_300 : Cond.selects RX12 yX12_laysGifts yX12_laysGifts ∈ BM := List.mem_append_left _ (List.mem_of_getElem? (i := 300) rfl)
theorem bm_301 : Cond.code yX12_served cX12_served 3 (some .int) ∈ BM := List.mem_append_left _ (List.mem_of_getElem? (i := 301) rfl)
theorem bm_302 : Cond.code yX12_giver cX12_giver 3 (some .int) ∈ BM := List.mem_append_left _ (List.mem_of_getElem? (i := 302) rfl)
theorem bm_303 : Cond.code yX12_isOrder cX12_isOrder 2 (some .boolean) ∈ BM := List.mem_append_left _ (List.mem_of_getElem? (i := 303) rfl)
theorem bm_304 : Cond.code yX12_firstOrder cX12_firstOrder 3 none ∈ BM := List.mem_append_left _ (List.mem_of_getElem? (i := 304) rfl)
theorem bm_305 : Cond.fieldLink RX12 360 "BorrowedStonesModel" "dying" "I" ∈ BM := List.mem_append_left _ (List.mem_of_getElem? (i := 305) rfl)
theorem bm_306 : Cond.code yX12_swaps cX12_swaps 4 none ∈ BM := List.mem_append_left _ (List.mem_of_getElem? (i := 306) rfl)
theorem bm_307 : Cond.code yX12_nextOrder cX12_nextOrder 5 (some .boolean) ∈ BM := List.mem_append_left _ (List.mem_of_getElem? (i := 307) rfl)
theorem bm_308 : Cond.methodLink RX12 363 yX12_swaps ∈ BM := List.mem_append_left _ (List.mem_of_getElem? (i := 308) rfl)
theorem bm_309 : Cond.instanceMethod yX12_swaps ∈ BM := List.mem_append_left _ (List.mem_of_getElem? (i := 309) rfl)
theorem bm_310 : Cond.selects RX12 yX12_swaps yX12_swaps ∈ BM := List.mem_append_left _ (List.mem_of_getElem? (i := 310) rfl)
theorem bm_311 : Cond.code yX12_dieSo cX12_dieSo 2 none ∈ BM := List.mem_append_left _ (List.mem_of_getElem? (i := 311) rfl)
theorem bm_312 : Cond.code yX12_digits cX12_digits 3 (some .int) ∈ BM := List.mem_append_left _ (List.mem_of_getElem? (i := 312) rfl)
theorem bm_313 : Cond.methodLink RX12 366 yX12_isOrder ∈ BM := List.mem_append_left _ (List.mem_of_getElem? (i := 313) rfl)
theorem bm_314 : Cond.instanceMethod yX12_isOrder ∈ BM := List.mem_append_left _ (List.mem_of_getElem? (i := 314) rfl)
theorem bm_315 : Cond.selects RX12 yX12_isOrder yX12_isOrder ∈ BM := List.mem_append_left _ (List.mem_of_getElem? (i := 315) rfl)
theorem bm_316 : Cond.methodLink RX12 369 yX12_firstOrder ∈ BM := List.mem_append_left _ (List.mem_of_getElem? (i := 316) rfl)
theorem bm_317 : Cond.instanceMethod yX12_firstOrder ∈ BM := List.mem_append_left _ (List.mem_of_getElem? (i := 317) rfl)
theorem bm_318 : Cond.selects RX12 yX12_firstOrder yX12_firstOrder ∈ BM := List.mem_append_left _ (List.mem_of_getElem? (i := 318) rfl)
theorem bm_319 : Cond.methodLink RX12 372 yX12_dieSo ∈ BM := List.mem_append_left _ (List.mem_of_getElem? (i := 319) rfl)
theorem bm_320 : Cond.instanceMethod yX12_dieSo ∈ BM := List.mem_append_left _ (List.mem_of_getElem? (i := 320) rfl)
theorem bm_321 : Cond.selects RX12 yX12_dieSo yX12_dieSo ∈ BM := List.mem_append_left _ (List.mem_of_getElem? (i := 321) rfl)
theorem bm_322 : Cond.methodLink RX12 375 yX12_digits ∈ BM := List.mem_append_left _ (List.mem_of_getElem? (i := 322) rfl)
theorem bm_323 : Cond.instanceMethod yX12_digits ∈ BM := List.mem_append_left _ (List.mem_of_getElem? (i := 323) rfl)
theorem bm_324 : Cond.selects RX12 yX12_digits yX12_digits ∈ BM := List.mem_append_left _ (List.mem_of_getElem? (i := 324) rfl)
theorem bm_325 : Cond.methodLink RX12 378 yX12_nextOrder ∈ BM := List.mem_append_left _ (List.mem_of_getElem? (i := 325) rfl)
theorem bm_326 : Cond.instanceMethod yX12_nextOrder ∈ BM := List.mem_append_left _ (List.mem_of_getElem? (i := 326) rfl)
theorem bm_327 : Cond.selects RX12 yX12_nextOrder yX12_nextOrder ∈ BM := List.mem_append_left _ (List.mem_of_getElem? (i := 327) rfl)
theorem bm_328 : Cond.code yX12_order cX12_order 6 (some .int) ∈ BM := List.mem_append_left _ (List.mem_of_getElem? (i := 328) rfl)
theorem bm_329 : Cond.code yX12_isSo cX12_isSo 2 (some .boolean) ∈ BM := List.mem_append_left _ (List.mem_of_getElem? (i := 329) rfl)
theorem bm_330 : Cond.methodLink RX12 381 yX12_isSo ∈ BM := List.mem_append_left _ (List.mem_of_getElem? (i := 330) rfl)
theorem bm_331 : Cond.instanceMethod yX12_isSo ∈ BM := List.mem_append_left _ (List.mem_of_getElem? (i := 331) rfl)
theorem bm_332 : Cond.selects RX12 yX12_isSo yX12_isSo ∈ BM := List.mem_append_left _ (List.mem_of_getElem? (i := 332) rfl)
theorem bm_333 : Cond.code yX12_fits cX12_fits 5 (some .int) ∈ BM := List.mem_append_left _ (List.mem_of_getElem? (i := 333) rfl)
theorem bm_334 : Cond.code yX12_isTold cX12_isTold 3 (some .boolean) ∈ BM := List.mem_append_left _ (List.mem_of_getElem? (i := 334) rfl)
theorem bm_335 : Cond.code yX12_worstAt cX12_worstAt 5 (some .int) ∈ BM := List.mem_append_left _ (List.mem_of_getElem? (i := 335) rfl)
theorem bm_336 : Cond.methodLink RX12 384 yX12_isTold ∈ BM := List.mem_append_left _ (List.mem_of_getElem? (i := 336) rfl)
theorem bm_337 : Cond.instanceMethod yX12_isTold ∈ BM := List.mem_append_left _ (List.mem_of_getElem? (i := 337) rfl)
theorem bm_338 : Cond.selects RX12 yX12_isTold yX12_isTold ∈ BM := List.mem_append_left _ (List.mem_of_getElem? (i := 338) rfl)
theorem bm_339 : Cond.methodLink RX12 387 yX12_worstAt ∈ BM := List.mem_append_left _ (List.mem_of_getElem? (i := 339) rfl)
theorem bm_340 : Cond.instanceMethod yX12_worstAt ∈ BM := List.mem_append_left _ (List.mem_of_getElem? (i := 340) rfl)
theorem bm_341 : Cond.selects RX12 yX12_worstAt yX12_worstAt ∈ BM := List.mem_append_left _ (List.mem_of_getElem? (i := 341) rfl)
theorem bm_342 : Cond.code yX12_look cX12_look 7 (some .int) ∈ BM := List.mem_append_left _ (List.mem_of_getElem? (i := 342) rfl)
theorem bm_343 : Cond.code yX12_hasBy cX12_hasBy 4 (some .int) ∈ BM := List.mem_append_left _ (List.mem_of_getElem? (i := 343) rfl)
theorem bm_344 : Cond.code yX12_isBest cX12_isBest 4 (some .boolean) ∈ BM := List.mem_append_left _ (List.mem_of_getElem? (i := 344) rfl)
theorem bm_345 : Cond.methodLink RX12 390 yX12_hasBy ∈ BM := List.mem_append_left _ (List.mem_of_getElem? (i := 345) rfl)
theorem bm_346 : Cond.static yX12_hasBy ∈ BM := List.mem_append_left _ (List.mem_of_getElem? (i := 346) rfl)
theorem bm_347 : Cond.code yX12_neighbours cX12_neighbours 9 (some .int) ∈ BM := List.mem_append_left _ (List.mem_of_getElem? (i := 347) rfl)
theorem bm_348 : Cond.methodLink RX12 394 yX12_isBest ∈ BM := List.mem_append_left _ (List.mem_of_getElem? (i := 348) rfl)
theorem bm_349 : Cond.static yX12_isBest ∈ BM := List.mem_append_left _ (List.mem_of_getElem? (i := 349) rfl)
theorem bm_350 : Cond.code yX12_home cX12_home 15 (some .long) ∈ BM := List.mem_append_left _ (List.mem_of_getElem? (i := 350) rfl)
theorem bm_351 : Cond.code yX12_givenBy cX12_givenBy 5 (some .int) ∈ BM := List.mem_append_left _ (List.mem_of_getElem? (i := 351) rfl)
theorem bm_352 : Cond.methodLink RX12 398 yX12_givenBy ∈ BM := List.mem_append_left _ (List.mem_of_getElem? (i := 352) rfl)
theorem bm_353 : Cond.instanceMethod yX12_givenBy ∈ BM := List.mem_append_left _ (List.mem_of_getElem? (i := 353) rfl)
theorem bm_354 : Cond.selects RX12 yX12_givenBy yX12_givenBy ∈ BM := List.mem_append_left _ (List.mem_of_getElem? (i := 354) rfl)
theorem bm_355 : Cond.code yX12_flowers cX12_flowers 5 (some .int) ∈ BM := List.mem_append_left _ (List.mem_of_getElem? (i := 355) rfl)
theorem bm_356 : Cond.code yX12_honoured cX12_honoured 5 (some .int) ∈ BM := List.mem_append_left _ (List.mem_of_getElem? (i := 356) rfl)
theorem bm_357 : Cond.code yX12_sued cX12_sued 3 (some .int) ∈ BM := List.mem_append_left _ (List.mem_of_getElem? (i := 357) rfl)
theorem bm_358 : Cond.code yX12_free cX12_free 4 (some .int) ∈ BM := List.mem_append_left _ (List.mem_of_getElem? (i := 358) rfl)
theorem bm_359 : Cond.code yX12_kin cX12_kin 5 (some .int) ∈ BM := List.mem_append_left _ (List.mem_of_getElem? (i := 359) rfl)
theorem bm_360 : Cond.code yX12_willing cX12_willing 4 (some .int) ∈ BM := List.mem_append_left _ (List.mem_of_getElem? (i := 360) rfl)
theorem bm_361 : Cond.code yX12_below cX12_below 5 (some .int) ∈ BM := List.mem_append_left _ (List.mem_of_getElem? (i := 361) rfl)
theorem bm_362 : Cond.code yX12_debtless cX12_debtless 3 (some .int) ∈ BM := List.mem_append_left _ (List.mem_of_getElem? (i := 362) rfl)
theorem bm_363 : Cond.code yX12_after cX12_after 4 (some .int) ∈ BM := List.mem_append_left _ (List.mem_of_getElem? (i := 363) rfl)
theorem bm_364 : Cond.code yX12_latest cX12_latest 4 (some .int) ∈ BM := List.mem_append_left _ (List.mem_of_getElem? (i := 364) rfl)
theorem bm_365 : Cond.code yX12_draw cX12_draw 2 (some .int) ∈ BM := List.mem_append_left _ (List.mem_of_getElem? (i := 365) rfl)
theorem bm_366 : Cond.fieldLink RX12 401 "BorrowedStonesModel" "lots" "I" ∈ BM := List.mem_append_left _ (List.mem_of_getElem? (i := 366) rfl)
theorem bm_367 : Cond.constant RX12 404 (1103515245) ∈ BM := List.mem_append_left _ (List.mem_of_getElem? (i := 367) rfl)
theorem bm_368 : Cond.methodLink RX12 405 yX12_draw ∈ BM := List.mem_append_left _ (List.mem_of_getElem? (i := 368) rfl)
theorem bm_369 : Cond.instanceMethod yX12_draw ∈ BM := List.mem_append_left _ (List.mem_of_getElem? (i := 369) rfl)
theorem bm_370 : Cond.selects RX12 yX12_draw yX12_draw ∈ BM := List.mem_append_left _ (List.mem_of_getElem? (i := 370) rfl)
theorem bm_371 : Cond.code yX12_centuryBy cX12_centuryBy 6 none ∈ BM := List.mem_append_left _ (List.mem_of_getElem? (i := 371) rfl)
theorem bm_372 : Cond.code yX12_isCentury cX12_isCentury 2 (some .boolean) ∈ BM := List.mem_append_left _ (List.mem_of_getElem? (i := 372) rfl)
theorem bm_373 : Cond.methodLink RX12 408 yX12_isCentury ∈ BM := List.mem_append_left _ (List.mem_of_getElem? (i := 373) rfl)
theorem bm_374 : Cond.static yX12_isCentury ∈ BM := List.mem_append_left _ (List.mem_of_getElem? (i := 374) rfl)
theorem bm_375 : Cond.methodLink RX12 411 yX12_centuryBy ∈ BM := List.mem_append_left _ (List.mem_of_getElem? (i := 375) rfl)
theorem bm_376 : Cond.instanceMethod yX12_centuryBy ∈ BM := List.mem_append_left _ (List.mem_of_getElem? (i := 376) rfl)
theorem bm_377 : Cond.selects RX12 yX12_centuryBy yX12_centuryBy ∈ BM := List.mem_append_left _ (List.mem_of_getElem? (i := 377) rfl)
theorem bm_378 : Cond.code yX12_century cX12_century 5 (some .int) ∈ BM := List.mem_append_left _ (List.mem_of_getElem? (i := 378) rfl)
theorem bm_379 : Cond.code yX12_span cX12_span 12 (some .int) ∈ BM := List.mem_append_left _ (List.mem_of_getElem? (i := 379) rfl)
theorem bm_380 : Cond.code yX12_puts cX12_puts 4 (some .int) ∈ BM := List.mem_append_left _ (List.mem_of_getElem? (i := 380) rfl)
theorem bm_381 : Cond.fieldLink RX12 415 "BorrowedStonesModel" "spot" "I" ∈ BM := List.mem_append_left _ (List.mem_of_getElem? (i := 381) rfl)
theorem bm_382 : Cond.code yX12_putsAll cX12_putsAll 5 none ∈ BM := List.mem_append_left _ (List.mem_of_getElem? (i := 382) rfl)
theorem bm_383 : Cond.methodLink RX12 418 yX12_puts ∈ BM := List.mem_append_left _ (List.mem_of_getElem? (i := 383) rfl)
theorem bm_384 : Cond.instanceMethod yX12_puts ∈ BM := List.mem_append_left _ (List.mem_of_getElem? (i := 384) rfl)
theorem bm_385 : Cond.selects RX12 yX12_puts yX12_puts ∈ BM := List.mem_append_left _ (List.mem_of_getElem? (i := 385) rfl)
theorem bm_386 : Cond.code yX12_image cX12_image 1 (some .int) ∈ BM := List.mem_append_left _ (List.mem_of_getElem? (i := 386) rfl)
theorem bm_387 : Cond.methodLink RX12 421 yX12_putsAll ∈ BM := List.mem_append_left _ (List.mem_of_getElem? (i := 387) rfl)
theorem bm_388 : Cond.instanceMethod yX12_putsAll ∈ BM := List.mem_append_left _ (List.mem_of_getElem? (i := 388) rfl)
theorem bm_389 : Cond.selects RX12 yX12_putsAll yX12_putsAll ∈ BM := List.mem_append_left _ (List.mem_of_getElem? (i := 389) rfl)
theorem bm_390 : Cond.code yX12_restore cX12_restore 1 (some .int) ∈ BM := List.mem_append_left _ (List.mem_of_getElem? (i := 390) rfl)
theorem bm_391 : Cond.code yX12_status cX12_status 2 (some .int) ∈ BM := List.mem_append_left _ (List.mem_of_getElem? (i := 391) rfl)
theorem bm_392 : Cond.code yX12_count cX12_count 2 (some .int) ∈ BM := List.mem_append_left _ (List.mem_of_getElem? (i := 392) rfl)
theorem BM_kV {c0 : Cond} {own C0 : String} {idx maxL n : Nat} {y : MethodName} {cy : ByteArray} {ret : Option FieldType} (h1 : Cond.methodLink own idx y ∈ BM) (h2 : Cond.instanceMethod y ∈ BM) (h3 : Cond.selects C0 y y ∈ BM) (h4 : Cond.initialized C0 ∈ BM) (h5 : Cond.code y cy maxL ret ∈ BM) (hd : y.cls = C0 ∧ y.cls ≠ "java/lang/invoke/MethodHandle" ∧ y.cls ≠ "java/lang/invoke/VarHandle" ∧ (parseMethodDescriptor y.desc).map (fun d => d.parameters.length) = some n) : kV (c0 :: BM) own C0 idx y cy maxL n ret (.code y cy maxL ret :: BM) := by
  have hg : ∀ w ∈ BM, w ∈ c0 :: BM ∧ ((w.onTables && w.keeps) = true ∨ ∃ ty, w = .arrayClass ty) := fun w hw => ⟨List.mem_cons_of_mem _ hw, good_of_word (List.all_eq_true.mp BM_good w hw)⟩
  refine ⟨fun w hw => ?_, ⟨_, rfl⟩, hd⟩
  unfold wsV at hw
  rcases List.mem_append.mp hw with hw | hw
  · simp only [List.mem_cons, List.not_mem_nil, or_false] at hw
    rcases hw with rfl | rfl | rfl | rfl
    · exact hg _ h1
    · exact hg _ h2
    · exact hg _ h3
    · exact hg _ h4
  · rcases List.mem_cons.mp hw with rfl | hw
    · exact hg _ h5
    · exact hg _ hw
theorem BM_kS {c0 : Cond} {own : String} {idx maxL n : Nat} {y : MethodName} {cy : ByteArray} {ret : Option FieldType} (h1 : Cond.methodLink own idx y ∈ BM) (h2 : Cond.static y ∈ BM) (h4 : Cond.initialized y.cls ∈ BM) (h5 : Cond.code y cy maxL ret ∈ BM) (hd : y.cls ≠ "java/lang/invoke/MethodHandle" ∧ y.cls ≠ "java/lang/invoke/VarHandle" ∧ (parseMethodDescriptor y.desc).map (fun d => d.parameters.length) = some n) : kS (c0 :: BM) own idx y cy maxL n ret (.code y cy maxL ret :: BM) := by
  have hg : ∀ w ∈ BM, w ∈ c0 :: BM ∧ ((w.onTables && w.keeps) = true ∨ ∃ ty, w = .arrayClass ty) := fun w hw => ⟨List.mem_cons_of_mem _ hw, good_of_word (List.all_eq_true.mp BM_good w hw)⟩
  refine ⟨fun w hw => ?_, ⟨_, rfl⟩, hd⟩
  unfold va_wsS at hw
  rcases List.mem_append.mp hw with hw | hw
  · simp only [List.mem_cons, List.not_mem_nil, or_false] at hw
    rcases hw with rfl | rfl | rfl
    · exact hg _ h1
    · exact hg _ h2
    · exact hg _ h4
  · rcases List.mem_cons.mp hw with rfl | hw
    · exact hg _ h5
    · exact hg _ hw
def wM_init : List Cond := .code yX12_init cX12_init 1 none :: BM
def wM_tellsNothing : List Cond := .code yX12_tellsNothing cX12_tellsNothing 2 none :: BM
theorem kM_tellsNothing {c0 : Cond} : kV (c0 :: BM) RX12 RX12 92 yX12_tellsNothing cX12_tellsNothing 2 0 none wM_tellsNothing := BM_kV bm_43 bm_44 bm_45 bm_17 bm_0 (by decide +kernel)
def wM_thrown : List Cond := .code yX12_thrown cX12_thrown 1 (some .int) :: BM
def wM_bad : List Cond := .code yX12_bad cX12_bad 4 (some .boolean) :: BM
theorem kM_bad {c0 : Cond} : kV (c0 :: BM) RX12 RX12 174 yX12_bad cX12_bad 4 3 (some .boolean) wM_bad := BM_kV bm_122 bm_123 bm_124 bm_17 bm_52 (by decide +kernel)
def wM_in : List Cond := .code yX12_in cX12_in 3 (some .boolean) :: BM
theorem kM_in {c0 : Cond} : kS (c0 :: BM) RX12 132 yX12_in cX12_in 3 3 (some .boolean) wM_in := BM_kS bm_80 bm_81 bm_17 bm_53 (by decide +kernel)
def wM_less : List Cond := .code yX12_less cX12_less 2 (some .int) :: BM
theorem kM_less {c0 : Cond} : kS (c0 :: BM) RX12 234 yX12_less cX12_less 2 2 (some .int) wM_less := BM_kS bm_169 bm_170 bm_17 bm_54 (by decide +kernel)
def wM_more : List Cond := .code yX12_more cX12_more 2 (some .int) :: BM
theorem kM_more {c0 : Cond} : kS (c0 :: BM) RX12 237 yX12_more cX12_more 2 2 (some .int) wM_more := BM_kS bm_171 bm_172 bm_17 bm_55 (by decide +kernel)
def wM_has : List Cond := .code yX12_has cX12_has 2 (some .boolean) :: BM
theorem kM_has {c0 : Cond} : kS (c0 :: BM) RX12 253 yX12_has cX12_has 2 2 (some .boolean) wM_has := BM_kS bm_185 bm_186 bm_17 bm_56 (by decide +kernel)
def wM_feed : List Cond := .code yX12_feed cX12_feed 8 (some .int) :: BM
def wM_byteAt : List Cond := .code yX12_byteAt cX12_byteAt 2 (some .int) :: BM
theorem kM_byteAt {c0 : Cond} : kV (c0 :: BM) RX12 RX12 110 yX12_byteAt cX12_byteAt 2 1 (some .int) wM_byteAt := BM_kV bm_63 bm_64 bm_65 bm_17 bm_59 (by decide +kernel)
def wM_blanks : List Cond := .code yX12_blanks cX12_blanks 1 none :: BM
theorem kM_blanks {c0 : Cond} : kV (c0 :: BM) RX12 RX12 120 yX12_blanks cX12_blanks 1 0 none wM_blanks := BM_kV bm_72 bm_73 bm_74 bm_17 bm_61 (by decide +kernel)
def wM_wrong : List Cond := .code yX12_wrong cX12_wrong 3 none :: BM
theorem kM_wrong {c0 : Cond} : kV (c0 :: BM) RX12 RX12 127 yX12_wrong cX12_wrong 3 2 none wM_wrong := BM_kV bm_77 bm_78 bm_79 bm_17 bm_66 (by decide +kernel)
def wM_isDigit : List Cond := .code yX12_isDigit cX12_isDigit 1 (some .boolean) :: BM
theorem kM_isDigit {c0 : Cond} : kS (c0 :: BM) RX12 123 yX12_isDigit cX12_isDigit 1 1 (some .boolean) wM_isDigit := BM_kS bm_75 bm_76 bm_17 bm_69 (by decide +kernel)
def wM_isSmall : List Cond := .code yX12_isSmall cX12_isSmall 1 (some .boolean) :: BM
theorem kM_isSmall {c0 : Cond} : kS (c0 :: BM) RX12 136 yX12_isSmall cX12_isSmall 1 1 (some .boolean) wM_isSmall := BM_kS bm_84 bm_85 bm_17 bm_70 (by decide +kernel)
def wM_number : List Cond := .code yX12_number cX12_number 5 (some .int) :: BM
theorem kM_number {c0 : Cond} : kV (c0 :: BM) RX12 RX12 160 yX12_number cX12_number 5 2 (some .int) wM_number := BM_kV bm_108 bm_109 bm_110 bm_17 bm_82 (by decide +kernel)
def wM_wordHere : List Cond := .code yX12_wordHere cX12_wordHere 3 (some .int) :: BM
theorem kM_wordHere {c0 : Cond} : kV (c0 :: BM) RX12 RX12 139 yX12_wordHere cX12_wordHere 3 0 (some .int) wM_wordHere := BM_kV bm_88 bm_89 bm_90 bm_17 bm_83 (by decide +kernel)
def wM_six : List Cond := .code yX12_six cX12_six 7 (some .int) :: BM
theorem kM_six {c0 : Cond} : kS (c0 :: BM) RX12 143 yX12_six cX12_six 7 6 (some .int) wM_six := BM_kS bm_91 bm_92 bm_17 bm_86 (by decide +kernel)
def wM_isWord : List Cond := .code yX12_isWord cX12_isWord 7 (some .boolean) :: BM
theorem kM_isWord {c0 : Cond} : kV (c0 :: BM) RX12 RX12 147 yX12_isWord cX12_isWord 7 6 (some .boolean) wM_isWord := BM_kV bm_94 bm_95 bm_96 bm_17 bm_87 (by decide +kernel)
def wM_skipWord : List Cond := .code yX12_skipWord cX12_skipWord 1 none :: BM
theorem kM_skipWord {c0 : Cond} : kV (c0 :: BM) RX12 RX12 151 yX12_skipWord cX12_skipWord 1 0 none wM_skipWord := BM_kV bm_97 bm_98 bm_99 bm_17 bm_93 (by decide +kernel)
def wM_takes : List Cond := .code yX12_takes cX12_takes 8 (some .boolean) :: BM
theorem kM_takes {c0 : Cond} : kV (c0 :: BM) RX12 RX12 221 yX12_takes cX12_takes 8 6 (some .boolean) wM_takes := BM_kV bm_139 bm_140 bm_141 bm_17 bm_100 (by decide +kernel)
def wM_sign : List Cond := .code yX12_sign cX12_sign 2 none :: BM
theorem kM_sign {c0 : Cond} : kV (c0 :: BM) RX12 RX12 170 yX12_sign cX12_sign 2 1 none wM_sign := BM_kV bm_118 bm_119 bm_120 bm_17 bm_101 (by decide +kernel)
def wM_takesSign : List Cond := .code yX12_takesSign cX12_takesSign 3 (some .boolean) :: BM
theorem kM_takesSign {c0 : Cond} : kV (c0 :: BM) RX12 RX12 212 yX12_takesSign cX12_takesSign 3 1 (some .boolean) wM_takesSign := BM_kV bm_159 bm_160 bm_161 bm_17 bm_102 (by decide +kernel)
def wM_starts : List Cond := .code yX12_starts cX12_starts 2 none :: BM
theorem kM_starts {c0 : Cond} : kV (c0 :: BM) RX12 RX12 178 yX12_starts cX12_starts 2 1 none wM_starts := BM_kV bm_125 bm_126 bm_127 bm_17 bm_103 (by decide +kernel)
def wM_ends : List Cond := .code yX12_ends cX12_ends 1 (some .int) :: BM
theorem kM_ends {c0 : Cond} : kV (c0 :: BM) RX12 RX12 184 yX12_ends cX12_ends 1 0 (some .int) wM_ends := BM_kV bm_131 bm_132 bm_133 bm_17 bm_106 (by decide +kernel)
def wM_kindHere : List Cond := .code yX12_kindHere cX12_kindHere 1 (some .int) :: BM
theorem kM_kindHere {c0 : Cond} : kV (c0 :: BM) RX12 RX12 164 yX12_kindHere cX12_kindHere 1 0 (some .int) wM_kindHere := BM_kV bm_112 bm_113 bm_114 bm_17 bm_107 (by decide +kernel)
def wM_friends : List Cond := .code yX12_friends cX12_friends 4 none :: BM
theorem kM_friends {c0 : Cond} : kV (c0 :: BM) RX12 RX12 167 yX12_friends cX12_friends 4 0 none wM_friends := BM_kV bm_115 bm_116 bm_117 bm_17 bm_111 (by decide +kernel)
def wM_clause : List Cond := .code yX12_clause cX12_clause 2 none :: BM
theorem kM_clause {c0 : Cond} : kV (c0 :: BM) RX12 RX12 181 yX12_clause cX12_clause 2 0 none wM_clause := BM_kV bm_128 bm_129 bm_130 bm_17 bm_121 (by decide +kernel)
def wM_peninsula : List Cond := .code yX12_peninsula cX12_peninsula 2 (some .int) :: BM
def wM_lays : List Cond := .code yX12_lays cX12_lays 5 none :: BM
theorem kM_lays {c0 : Cond} : kS (c0 :: BM) RX12 187 yX12_lays cX12_lays 5 3 none wM_lays := BM_kS bm_15 bm_16 bm_17 bm_3 (by decide +kernel)
def wM_copies : List Cond := .code yX12_copies cX12_copies 3 none :: BM
theorem kM_copies {c0 : Cond} : kS (c0 :: BM) RX12 316 yX12_copies cX12_copies 3 2 none wM_copies := BM_kS bm_248 bm_249 bm_17 bm_135 (by decide +kernel)
def wM_beginsAnew : List Cond := .code yX12_beginsAnew cX12_beginsAnew 2 none :: BM
theorem kM_beginsAnew {c0 : Cond} : kV (c0 :: BM) RX12 RX12 95 yX12_beginsAnew cX12_beginsAnew 2 0 none wM_beginsAnew := BM_kV bm_46 bm_47 bm_48 bm_17 bm_4 (by decide +kernel)
def wM_notes : List Cond := .code yX12_notes cX12_notes 3 none :: BM
theorem kM_notes {c0 : Cond} : kV (c0 :: BM) RX12 RX12 215 yX12_notes cX12_notes 3 2 none wM_notes := BM_kV bm_149 bm_150 bm_151 bm_17 bm_136 (by decide +kernel)
def wM_opensOne : List Cond := .code yX12_opensOne cX12_opensOne 1 (some .boolean) :: BM
theorem kM_opensOne {c0 : Cond} : kV (c0 :: BM) RX12 RX12 224 yX12_opensOne cX12_opensOne 1 0 (some .boolean) wM_opensOne := BM_kV bm_143 bm_144 bm_145 bm_17 bm_138 (by decide +kernel)
def wM_sum : List Cond := .code yX12_sum cX12_sum 2 none :: BM
theorem kM_sum {c0 : Cond} : kV (c0 :: BM) RX12 RX12 228 yX12_sum cX12_sum 2 0 none wM_sum := BM_kV bm_146 bm_147 bm_148 bm_17 bm_162 (by decide +kernel)
def wM_product : List Cond := .code yX12_product cX12_product 2 none :: BM
theorem kM_product {c0 : Cond} : kV (c0 :: BM) RX12 RX12 209 yX12_product cX12_product 2 0 none wM_product := BM_kV bm_163 bm_164 bm_165 bm_17 bm_155 (by decide +kernel)
def wM_knownHere : List Cond := .code yX12_knownHere cX12_knownHere 1 (some .int) :: BM
theorem kM_knownHere {c0 : Cond} : kV (c0 :: BM) RX12 RX12 231 yX12_knownHere cX12_knownHere 1 0 (some .int) wM_knownHere := BM_kV bm_152 bm_153 bm_154 bm_17 bm_142 (by decide +kernel)
def wM_one : List Cond := .code yX12_one cX12_one 3 none :: BM
theorem kM_one {c0 : Cond} : kV (c0 :: BM) RX12 RX12 218 yX12_one cX12_one 3 0 none wM_one := BM_kV bm_156 bm_157 bm_158 bm_17 bm_166 (by decide +kernel)
def wM_law : List Cond := .code yX12_law cX12_law 2 (some .int) :: BM
def wM_by : List Cond := .code yX12_by cX12_by 3 (some .int) :: BM
theorem kM_by {c0 : Cond} : kS (c0 :: BM) RX12 240 yX12_by cX12_by 3 3 (some .int) wM_by := BM_kS bm_174 bm_175 bm_17 bm_168 (by decide +kernel)
def wM_byLaw : List Cond := .code yX12_byLaw cX12_byLaw 3 (some .int) :: BM
theorem kM_byLaw {c0 : Cond} : kV (c0 :: BM) RX12 RX12 257 yX12_byLaw cX12_byLaw 3 0 (some .int) wM_byLaw := BM_kV bm_190 bm_191 bm_192 bm_17 bm_173 (by decide +kernel)
def wM_stepHere : List Cond := .code yX12_stepHere cX12_stepHere 1 (some .int) :: BM
theorem kM_stepHere {c0 : Cond} : kV (c0 :: BM) RX12 RX12 244 yX12_stepHere cX12_stepHere 1 0 (some .int) wM_stepHere := BM_kV bm_178 bm_179 bm_180 bm_17 bm_176 (by decide +kernel)
def wM_readsStep : List Cond := .code yX12_readsStep cX12_readsStep 3 none :: BM
theorem kM_readsStep {c0 : Cond} : kV (c0 :: BM) RX12 RX12 250 yX12_readsStep cX12_readsStep 3 0 none wM_readsStep := BM_kV bm_181 bm_182 bm_183 bm_17 bm_184 (by decide +kernel)
def wM_book : List Cond := .code yX12_book cX12_book 7 (some .int) :: BM
def wM_fault : List Cond := .code yX12_fault cX12_fault 1 (some .int) :: BM
def wM_willBy : List Cond := .code yX12_willBy cX12_willBy 9 (some .int) :: BM
theorem kM_willBy {c0 : Cond} : kV (c0 :: BM) RX12 RX12 270 yX12_willBy cX12_willBy 9 8 (some .int) wM_willBy := BM_kV bm_205 bm_206 bm_207 bm_17 bm_189 (by decide +kernel)
def wM_ones : List Cond := .code yX12_ones cX12_ones 3 (some .int) :: BM
theorem kM_ones {c0 : Cond} : kS (c0 :: BM) RX12 264 yX12_ones cX12_ones 3 1 (some .int) wM_ones := BM_kS bm_199 bm_200 bm_17 bm_193 (by decide +kernel)
def wM_stonesOf : List Cond := .code yX12_stonesOf cX12_stonesOf 5 (some .int) :: BM
theorem kM_stonesOf {c0 : Cond} : kV (c0 :: BM) RX12 RX12 260 yX12_stonesOf cX12_stonesOf 5 2 (some .int) wM_stonesOf := BM_kV bm_196 bm_197 bm_198 bm_17 bm_194 (by decide +kernel)
def wM_stones : List Cond := .code yX12_stones cX12_stones 3 (some .int) :: BM
theorem kM_stones {c0 : Cond} : kV (c0 :: BM) RX12 RX12 267 yX12_stones cX12_stones 3 2 (some .int) wM_stones := BM_kV bm_202 bm_203 bm_204 bm_17 bm_195 (by decide +kernel)
def wM_everybody : List Cond := .code yX12_everybody cX12_everybody 1 (some .int) :: BM
theorem kM_everybody {c0 : Cond} : kV (c0 :: BM) RX12 RX12 354 yX12_everybody cX12_everybody 1 0 (some .int) wM_everybody := BM_kV bm_295 bm_296 bm_297 bm_17 bm_201 (by decide +kernel)
def wM_willOf : List Cond := .code yX12_willOf cX12_willOf 4 (some .int) :: BM
theorem kM_willOf {c0 : Cond} : kV (c0 :: BM) RX12 RX12 274 yX12_willOf cX12_willOf 4 3 (some .int) wM_willOf := BM_kV bm_209 bm_210 bm_211 bm_17 bm_208 (by decide +kernel)
def wM_isLent : List Cond := .code yX12_isLent cX12_isLent 4 (some .boolean) :: BM
theorem kM_isLent {c0 : Cond} : kV (c0 :: BM) RX12 RX12 278 yX12_isLent cX12_isLent 4 3 (some .boolean) wM_isLent := BM_kV bm_213 bm_214 bm_215 bm_17 bm_212 (by decide +kernel)
def wM_lenderOf : List Cond := .code yX12_lenderOf cX12_lenderOf 6 (some .int) :: BM
theorem kM_lenderOf {c0 : Cond} : kV (c0 :: BM) RX12 RX12 282 yX12_lenderOf cX12_lenderOf 6 2 (some .int) wM_lenderOf := BM_kV bm_218 bm_219 bm_220 bm_17 bm_216 (by decide +kernel)
def wM_lies : List Cond := .code yX12_lies cX12_lies 3 none :: BM
theorem kM_lies {c0 : Cond} : kS (c0 :: BM) RX12 285 yX12_lies cX12_lies 3 3 none wM_lies := BM_kS bm_221 bm_222 bm_17 bm_217 (by decide +kernel)
def wM_dies : List Cond := .code yX12_dies cX12_dies 4 (some .boolean) :: BM
theorem kM_dies {c0 : Cond} : kV (c0 :: BM) RX12 RX12 289 yX12_dies cX12_dies 4 2 (some .boolean) wM_dies := BM_kV bm_227 bm_228 bm_229 bm_17 bm_223 (by decide +kernel)
def wM_lendsLate : List Cond := .code yX12_lendsLate cX12_lendsLate 4 (some .boolean) :: BM
theorem kM_lendsLate {c0 : Cond} : kV (c0 :: BM) RX12 RX12 293 yX12_lendsLate cX12_lendsLate 4 3 (some .boolean) wM_lendsLate := BM_kV bm_230 bm_231 bm_232 bm_17 bm_224 (by decide +kernel)
def wM_becomes : List Cond := .code yX12_becomes cX12_becomes 3 (some .boolean) :: BM
theorem kM_becomes {c0 : Cond} : kS (c0 :: BM) RX12 296 yX12_becomes cX12_becomes 3 3 (some .boolean) wM_becomes := BM_kS bm_233 bm_234 bm_17 bm_225 (by decide +kernel)
def wM_yearEnds : List Cond := .code yX12_yearEnds cX12_yearEnds 3 none :: BM
theorem kM_yearEnds {c0 : Cond} : kV (c0 :: BM) RX12 RX12 299 yX12_yearEnds cX12_yearEnds 3 1 none wM_yearEnds := BM_kV bm_235 bm_236 bm_237 bm_17 bm_226 (by decide +kernel)
def wM_does : List Cond := .code yX12_does cX12_does 4 (some .boolean) :: BM
theorem kM_does {c0 : Cond} : kV (c0 :: BM) RX12 RX12 309 yX12_does cX12_does 4 2 (some .boolean) wM_does := BM_kV bm_244 bm_245 bm_246 bm_17 bm_238 (by decide +kernel)
def wM_goes : List Cond := .code yX12_goes cX12_goes 5 none :: BM
theorem kM_goes {c0 : Cond} : kV (c0 :: BM) RX12 RX12 306 yX12_goes cX12_goes 5 2 none wM_goes := BM_kV bm_241 bm_242 bm_243 bm_17 bm_247 (by decide +kernel)
def wM_work : List Cond := .code yX12_work cX12_work 2 (some .int) :: BM
def wM_undo : List Cond := .code yX12_undo cX12_undo 1 (some .int) :: BM
def wM_debts : List Cond := .code yX12_debts cX12_debts 5 (some .int) :: BM
theorem kM_debts {c0 : Cond} : kV (c0 :: BM) RX12 RX12 331 yX12_debts cX12_debts 5 2 (some .int) wM_debts := BM_kV bm_265 bm_266 bm_267 bm_17 bm_252 (by decide +kernel)
def wM_nameless : List Cond := .code yX12_nameless cX12_nameless 4 (some .int) :: BM
theorem kM_nameless {c0 : Cond} : kV (c0 :: BM) RX12 RX12 327 yX12_nameless cX12_nameless 4 1 (some .int) wM_nameless := BM_kV bm_262 bm_263 bm_264 bm_17 bm_253 (by decide +kernel)
def wM_follows : List Cond := .code yX12_follows cX12_follows 5 (some .int) :: BM
theorem kM_follows {c0 : Cond} : kS (c0 :: BM) RX12 320 yX12_follows cX12_follows 5 3 (some .int) wM_follows := BM_kS bm_256 bm_257 bm_17 bm_254 (by decide +kernel)
def wM_longest : List Cond := .code yX12_longest cX12_longest 4 (some .int) :: BM
theorem kM_longest {c0 : Cond} : kV (c0 :: BM) RX12 RX12 335 yX12_longest cX12_longest 4 1 (some .int) wM_longest := BM_kV bm_268 bm_269 bm_270 bm_17 bm_255 (by decide +kernel)
def wM_lenderIf : List Cond := .code yX12_lenderIf cX12_lenderIf 4 (some .int) :: BM
theorem kM_lenderIf {c0 : Cond} : kV (c0 :: BM) RX12 RX12 324 yX12_lenderIf cX12_lenderIf 4 2 (some .int) wM_lenderIf := BM_kV bm_259 bm_260 bm_261 bm_17 bm_258 (by decide +kernel)
def wM_told : List Cond := .code yX12_told cX12_told 6 (some .int) :: BM
def wM_isPerson : List Cond := .code yX12_isPerson cX12_isPerson 2 (some .boolean) :: BM
theorem kM_isPerson {c0 : Cond} : kV (c0 :: BM) RX12 RX12 338 yX12_isPerson cX12_isPerson 2 1 (some .boolean) wM_isPerson := BM_kV bm_273 bm_274 bm_275 bm_17 bm_272 (by decide +kernel)
def wM_person : List Cond := .code yX12_person cX12_person 3 (some .int) :: BM
def wM_will : List Cond := .code yX12_will cX12_will 3 (some .int) :: BM
def wM_lends : List Cond := .code yX12_lends cX12_lends 3 (some .boolean) :: BM
def wM_would : List Cond := .code yX12_would cX12_would 9 (some .int) :: BM
def wM_lender : List Cond := .code yX12_lender cX12_lender 2 (some .int) :: BM
def wM_deepest : List Cond := .code yX12_deepest cX12_deepest 4 (some .int) :: BM
theorem kM_deepest {c0 : Cond} : kV (c0 :: BM) RX12 RX12 341 yX12_deepest cX12_deepest 4 1 (some .int) wM_deepest := BM_kV bm_282 bm_283 bm_284 bm_17 bm_281 (by decide +kernel)
def wM_ahead : List Cond := .code yX12_ahead cX12_ahead 5 (some .int) :: BM
def wM_truly : List Cond := .code yX12_truly cX12_truly 2 (some .int) :: BM
def wM_chain : List Cond := .code yX12_chain cX12_chain 2 (some .int) :: BM
def wM_serves : List Cond := .code yX12_serves cX12_serves 6 none :: BM
theorem kM_serves {c0 : Cond} : kV (c0 :: BM) RX12 RX12 350 yX12_serves cX12_serves 6 4 none wM_serves := BM_kV bm_290 bm_291 bm_292 bm_17 bm_293 (by decide +kernel)
def wM_laysGifts : List Cond := .code yX12_laysGifts cX12_laysGifts 3 none :: BM
theorem kM_laysGifts {c0 : Cond} : kV (c0 :: BM) RX12 RX12 357 yX12_laysGifts cX12_laysGifts 3 1 none wM_laysGifts := BM_kV bm_298 bm_299 bm_300 bm_17 bm_294 (by decide +kernel)
def wM_served : List Cond := .code yX12_served cX12_served 3 (some .int) :: BM
def wM_giver : List Cond := .code yX12_giver cX12_giver 3 (some .int) :: BM
def wM_isOrder : List Cond := .code yX12_isOrder cX12_isOrder 2 (some .boolean) :: BM
theorem kM_isOrder {c0 : Cond} : kV (c0 :: BM) RX12 RX12 366 yX12_isOrder cX12_isOrder 2 1 (some .boolean) wM_isOrder := BM_kV bm_313 bm_314 bm_315 bm_17 bm_303 (by decide +kernel)
def wM_firstOrder : List Cond := .code yX12_firstOrder cX12_firstOrder 3 none :: BM
theorem kM_firstOrder {c0 : Cond} : kV (c0 :: BM) RX12 RX12 369 yX12_firstOrder cX12_firstOrder 3 1 none wM_firstOrder := BM_kV bm_316 bm_317 bm_318 bm_17 bm_304 (by decide +kernel)
def wM_swaps : List Cond := .code yX12_swaps cX12_swaps 4 none :: BM
theorem kM_swaps {c0 : Cond} : kV (c0 :: BM) RX12 RX12 363 yX12_swaps cX12_swaps 4 2 none wM_swaps := BM_kV bm_308 bm_309 bm_310 bm_17 bm_306 (by decide +kernel)
def wM_nextOrder : List Cond := .code yX12_nextOrder cX12_nextOrder 5 (some .boolean) :: BM
theorem kM_nextOrder {c0 : Cond} : kV (c0 :: BM) RX12 RX12 378 yX12_nextOrder cX12_nextOrder 5 0 (some .boolean) wM_nextOrder := BM_kV bm_325 bm_326 bm_327 bm_17 bm_307 (by decide +kernel)
def wM_dieSo : List Cond := .code yX12_dieSo cX12_dieSo 2 none :: BM
theorem kM_dieSo {c0 : Cond} : kV (c0 :: BM) RX12 RX12 372 yX12_dieSo cX12_dieSo 2 0 none wM_dieSo := BM_kV bm_319 bm_320 bm_321 bm_17 bm_311 (by decide +kernel)
def wM_digits : List Cond := .code yX12_digits cX12_digits 3 (some .int) :: BM
theorem kM_digits {c0 : Cond} : kV (c0 :: BM) RX12 RX12 375 yX12_digits cX12_digits 3 0 (some .int) wM_digits := BM_kV bm_322 bm_323 bm_324 bm_17 bm_312 (by decide +kernel)
def wM_order : List Cond := .code yX12_order cX12_order 6 (some .int) :: BM
def wM_isSo : List Cond := .code yX12_isSo cX12_isSo 2 (some .boolean) :: BM
theorem kM_isSo {c0 : Cond} : kV (c0 :: BM) RX12 RX12 381 yX12_isSo cX12_isSo 2 0 (some .boolean) wM_isSo := BM_kV bm_330 bm_331 bm_332 bm_17 bm_329 (by decide +kernel)
def wM_fits : List Cond := .code yX12_fits cX12_fits 5 (some .int) :: BM
def wM_isTold : List Cond := .code yX12_isTold cX12_isTold 3 (some .boolean) :: BM
theorem kM_isTold {c0 : Cond} : kV (c0 :: BM) RX12 RX12 384 yX12_isTold cX12_isTold 3 1 (some .boolean) wM_isTold := BM_kV bm_336 bm_337 bm_338 bm_17 bm_334 (by decide +kernel)
def wM_worstAt : List Cond := .code yX12_worstAt cX12_worstAt 5 (some .int) :: BM
theorem kM_worstAt {c0 : Cond} : kV (c0 :: BM) RX12 RX12 387 yX12_worstAt cX12_worstAt 5 2 (some .int) wM_worstAt := BM_kV bm_339 bm_340 bm_341 bm_17 bm_335 (by decide +kernel)
def wM_look : List Cond := .code yX12_look cX12_look 7 (some .int) :: BM
def wM_hasBy : List Cond := .code yX12_hasBy cX12_hasBy 4 (some .int) :: BM
theorem kM_hasBy {c0 : Cond} : kS (c0 :: BM) RX12 390 yX12_hasBy cX12_hasBy 4 4 (some .int) wM_hasBy := BM_kS bm_345 bm_346 bm_17 bm_343 (by decide +kernel)
def wM_isBest : List Cond := .code yX12_isBest cX12_isBest 4 (some .boolean) :: BM
theorem kM_isBest {c0 : Cond} : kS (c0 :: BM) RX12 394 yX12_isBest cX12_isBest 4 4 (some .boolean) wM_isBest := BM_kS bm_348 bm_349 bm_17 bm_344 (by decide +kernel)
def wM_neighbours : List Cond := .code yX12_neighbours cX12_neighbours 9 (some .int) :: BM
def wM_home : List Cond := .code yX12_home cX12_home 15 (some .long) :: BM
def wM_givenBy : List Cond := .code yX12_givenBy cX12_givenBy 5 (some .int) :: BM
theorem kM_givenBy {c0 : Cond} : kV (c0 :: BM) RX12 RX12 398 yX12_givenBy cX12_givenBy 5 2 (some .int) wM_givenBy := BM_kV bm_352 bm_353 bm_354 bm_17 bm_351 (by decide +kernel)
def wM_flowers : List Cond := .code yX12_flowers cX12_flowers 5 (some .int) :: BM
def wM_honoured : List Cond := .code yX12_honoured cX12_honoured 5 (some .int) :: BM
def wM_sued : List Cond := .code yX12_sued cX12_sued 3 (some .int) :: BM
def wM_free : List Cond := .code yX12_free cX12_free 4 (some .int) :: BM
def wM_kin : List Cond := .code yX12_kin cX12_kin 5 (some .int) :: BM
def wM_willing : List Cond := .code yX12_willing cX12_willing 4 (some .int) :: BM
def wM_below : List Cond := .code yX12_below cX12_below 5 (some .int) :: BM
def wM_debtless : List Cond := .code yX12_debtless cX12_debtless 3 (some .int) :: BM
def wM_after : List Cond := .code yX12_after cX12_after 4 (some .int) :: BM
def wM_latest : List Cond := .code yX12_latest cX12_latest 4 (some .int) :: BM
def wM_draw : List Cond := .code yX12_draw cX12_draw 2 (some .int) :: BM
theorem kM_draw {c0 : Cond} : kV (c0 :: BM) RX12 RX12 405 yX12_draw cX12_draw 2 1 (some .int) wM_draw := BM_kV bm_368 bm_369 bm_370 bm_17 bm_365 (by decide +kernel)
def wM_centuryBy : List Cond := .code yX12_centuryBy cX12_centuryBy 6 none :: BM
theorem kM_centuryBy {c0 : Cond} : kV (c0 :: BM) RX12 RX12 411 yX12_centuryBy cX12_centuryBy 6 3 none wM_centuryBy := BM_kV bm_375 bm_376 bm_377 bm_17 bm_371 (by decide +kernel)
def wM_isCentury : List Cond := .code yX12_isCentury cX12_isCentury 2 (some .boolean) :: BM
theorem kM_isCentury {c0 : Cond} : kS (c0 :: BM) RX12 408 yX12_isCentury cX12_isCentury 2 2 (some .boolean) wM_isCentury := BM_kS bm_373 bm_374 bm_17 bm_372 (by decide +kernel)
def wM_century : List Cond := .code yX12_century cX12_century 5 (some .int) :: BM
def wM_span : List Cond := .code yX12_span cX12_span 12 (some .int) :: BM
def wM_puts : List Cond := .code yX12_puts cX12_puts 4 (some .int) :: BM
theorem kM_puts {c0 : Cond} : kV (c0 :: BM) RX12 RX12 418 yX12_puts cX12_puts 4 3 (some .int) wM_puts := BM_kV bm_383 bm_384 bm_385 bm_17 bm_380 (by decide +kernel)
def wM_putsAll : List Cond := .code yX12_putsAll cX12_putsAll 5 none :: BM
theorem kM_putsAll {c0 : Cond} : kV (c0 :: BM) RX12 RX12 421 yX12_putsAll cX12_putsAll 5 2 none wM_putsAll := BM_kV bm_387 bm_388 bm_389 bm_17 bm_382 (by decide +kernel)
def wM_image : List Cond := .code yX12_image cX12_image 1 (some .int) :: BM
def wM_restore : List Cond := .code yX12_restore cX12_restore 1 (some .int) :: BM
def wM_status : List Cond := .code yX12_status cX12_status 2 (some .int) :: BM
def wM_count : List Cond := .code yX12_count cX12_count 2 (some .int) :: BM
section FM
variable {l : Launch} {D : va_G} {T : cT} {ad : Nat → Nat} {nL : Nat} {R : Room} {kc ks : Nat} {Γ : Cxt} {Q : State → Prop} {x : Sl} {g : St} {pc : Nat} {lv : List (Nat × Value)} {rest : List Value} {cc : ByteArray} {c0 : Cond} {ret : Option FieldType}
theorem gM_get_thrown (C : Cx D T cc nL (c0 :: BM) RX12 ret Γ) {v : Int32} (hv : g 0 0 = v) (hdg : decode cc pc = .ok (.getfield 98, 3)) (K : Gj l shM D T ad nL R kc ks Γ Q x g (pc + 3) lv (.int v :: rest)) : Gj l shM D T ad nL R kc ks Γ Q x g pc lv (.ref (ad 0) :: rest) := g_get (ci := 11) (C0 := RX12) (T0 := TX12) (N0 := 48) (j := 0) C rfl kM0 BM_X12 (by decide) rfl (List.mem_cons_of_mem _ bm_51) hv hdg K
theorem gM_put_thrown (C : Cx D T cc nL (c0 :: BM) RX12 ret Γ) {v : Int32} (hdg : decode cc pc = .ok (.putfield 98, 3)) (K : Gj l shM D T ad nL R kc ks Γ Q x (st g 0 0 v) (pc + 3) lv (rest)) : Gj l shM D T ad nL R kc ks Γ Q x g pc lv (.int v :: .ref (ad 0) :: rest) := g_put (ci := 11) (C0 := RX12) (T0 := TX12) (N0 := 48) (j := 0) C rfl kM0 BM_X12 tyX12 tyX12_ok nmX12 (by decide) rfl (List.mem_cons_of_mem _ bm_51) rfl (by decide +kernel) hdg K
theorem gM_get_tape (C : Cx D T cc nL (c0 :: BM) RX12 ret Γ) {v : Int32} (hv : g 0 1 = v) (hdg : decode cc pc = .ok (.getfield 101, 3)) (K : Gj l shM D T ad nL R kc ks Γ Q x g (pc + 3) lv (.int v :: rest)) : Gj l shM D T ad nL R kc ks Γ Q x g pc lv (.ref (ad 0) :: rest) := g_get (ci := 11) (C0 := RX12) (T0 := TX12) (N0 := 48) (j := 1) C rfl kM0 BM_X12 (by decide) rfl (List.mem_cons_of_mem _ bm_58) hv hdg K
theorem gM_put_tape (C : Cx D T cc nL (c0 :: BM) RX12 ret Γ) {v : Int32} (hdg : decode cc pc = .ok (.putfield 101, 3)) (K : Gj l shM D T ad nL R kc ks Γ Q x (st g 0 1 v) (pc + 3) lv (rest)) : Gj l shM D T ad nL R kc ks Γ Q x g pc lv (.int v :: .ref (ad 0) :: rest) := g_put (ci := 11) (C0 := RX12) (T0 := TX12) (N0 := 48) (j := 1) C rfl kM0 BM_X12 tyX12 tyX12_ok nmX12 (by decide) rfl (List.mem_cons_of_mem _ bm_58) rfl (by decide +kernel) hdg K
theorem gM_get_size (C : Cx D T cc nL (c0 :: BM) RX12 ret Γ) {v : Int32} (hv : g 0 2 = v) (hdg : decode cc pc = .ok (.getfield 104, 3)) (K : Gj l shM D T ad nL R kc ks Γ Q x g (pc + 3) lv (.int v :: rest)) : Gj l shM D T ad nL R kc ks Γ Q x g pc lv (.ref (ad 0) :: rest) := g_get (ci := 11) (C0 := RX12) (T0 := TX12) (N0 := 48) (j := 2) C rfl kM0 BM_X12 (by decide) rfl (List.mem_cons_of_mem _ bm_60) hv hdg K
theorem gM_put_size (C : Cx D T cc nL (c0 :: BM) RX12 ret Γ) {v : Int32} (hdg : decode cc pc = .ok (.putfield 104, 3)) (K : Gj l shM D T ad nL R kc ks Γ Q x (st g 0 2 v) (pc + 3) lv (rest)) : Gj l shM D T ad nL R kc ks Γ Q x g pc lv (.int v :: .ref (ad 0) :: rest) := g_put (ci := 11) (C0 := RX12) (T0 := TX12) (N0 := 48) (j := 2) C rfl kM0 BM_X12 tyX12 tyX12_ok nmX12 (by decide) rfl (List.mem_cons_of_mem _ bm_60) rfl (by decide +kernel) hdg K
theorem gM_get_place (C : Cx D T cc nL (c0 :: BM) RX12 ret Γ) {v : Int32} (hv : g 0 3 = v) (hdg : decode cc pc = .ok (.getfield 9, 3)) (K : Gj l shM D T ad nL R kc ks Γ Q x g (pc + 3) lv (.int v :: rest)) : Gj l shM D T ad nL R kc ks Γ Q x g pc lv (.ref (ad 0) :: rest) := g_get (ci := 11) (C0 := RX12) (T0 := TX12) (N0 := 48) (j := 3) C rfl kM0 BM_X12 (by decide) rfl (List.mem_cons_of_mem _ bm_21) hv hdg K
theorem gM_put_place (C : Cx D T cc nL (c0 :: BM) RX12 ret Γ) {v : Int32} (hdg : decode cc pc = .ok (.putfield 9, 3)) (K : Gj l shM D T ad nL R kc ks Γ Q x (st g 0 3 v) (pc + 3) lv (rest)) : Gj l shM D T ad nL R kc ks Γ Q x g pc lv (.int v :: .ref (ad 0) :: rest) := g_put (ci := 11) (C0 := RX12) (T0 := TX12) (N0 := 48) (j := 3) C rfl kM0 BM_X12 tyX12 tyX12_ok nmX12 (by decide) rfl (List.mem_cons_of_mem _ bm_21) rfl (by decide +kernel) hdg K
theorem gM_get_at (C : Cx D T cc nL (c0 :: BM) RX12 ret Γ) {v : Int32} (hv : g 0 4 = v) (hdg : decode cc pc = .ok (.getfield 107, 3)) (K : Gj l shM D T ad nL R kc ks Γ Q x g (pc + 3) lv (.int v :: rest)) : Gj l shM D T ad nL R kc ks Γ Q x g pc lv (.ref (ad 0) :: rest) := g_get (ci := 11) (C0 := RX12) (T0 := TX12) (N0 := 48) (j := 4) C rfl kM0 BM_X12 (by decide) rfl (List.mem_cons_of_mem _ bm_62) hv hdg K
theorem gM_put_at (C : Cx D T cc nL (c0 :: BM) RX12 ret Γ) {v : Int32} (hdg : decode cc pc = .ok (.putfield 107, 3)) (K : Gj l shM D T ad nL R kc ks Γ Q x (st g 0 4 v) (pc + 3) lv (rest)) : Gj l shM D T ad nL R kc ks Γ Q x g pc lv (.int v :: .ref (ad 0) :: rest) := g_put (ci := 11) (C0 := RX12) (T0 := TX12) (N0 := 48) (j := 4) C rfl kM0 BM_X12 tyX12 tyX12_ok nmX12 (by decide) rfl (List.mem_cons_of_mem _ bm_62) rfl (by decide +kernel) hdg K
theorem gM_get_fault (C : Cx D T cc nL (c0 :: BM) RX12 ret Γ) {v : Int32} (hv : g 0 5 = v) (hdg : decode cc pc = .ok (.getfield 114, 3)) (K : Gj l shM D T ad nL R kc ks Γ Q x g (pc + 3) lv (.int v :: rest)) : Gj l shM D T ad nL R kc ks Γ Q x g pc lv (.ref (ad 0) :: rest) := g_get (ci := 11) (C0 := RX12) (T0 := TX12) (N0 := 48) (j := 5) C rfl kM0 BM_X12 (by decide) rfl (List.mem_cons_of_mem _ bm_67) hv hdg K
theorem gM_put_fault (C : Cx D T cc nL (c0 :: BM) RX12 ret Γ) {v : Int32} (hdg : decode cc pc = .ok (.putfield 114, 3)) (K : Gj l shM D T ad nL R kc ks Γ Q x (st g 0 5 v) (pc + 3) lv (rest)) : Gj l shM D T ad nL R kc ks Γ Q x g pc lv (.int v :: .ref (ad 0) :: rest) := g_put (ci := 11) (C0 := RX12) (T0 := TX12) (N0 := 48) (j := 5) C rfl kM0 BM_X12 tyX12 tyX12_ok nmX12 (by decide) rfl (List.mem_cons_of_mem _ bm_67) rfl (by decide +kernel) hdg K
theorem gM_get_faultAt (C : Cx D T cc nL (c0 :: BM) RX12 ret Γ) {v : Int32} (hv : g 0 6 = v) (hdg : decode cc pc = .ok (.getfield 117, 3)) (K : Gj l shM D T ad nL R kc ks Γ Q x g (pc + 3) lv (.int v :: rest)) : Gj l shM D T ad nL R kc ks Γ Q x g pc lv (.ref (ad 0) :: rest) := g_get (ci := 11) (C0 := RX12) (T0 := TX12) (N0 := 48) (j := 6) C rfl kM0 BM_X12 (by decide) rfl (List.mem_cons_of_mem _ bm_68) hv hdg K
theorem gM_put_faultAt (C : Cx D T cc nL (c0 :: BM) RX12 ret Γ) {v : Int32} (hdg : decode cc pc = .ok (.putfield 117, 3)) (K : Gj l shM D T ad nL R kc ks Γ Q x (st g 0 6 v) (pc + 3) lv (rest)) : Gj l shM D T ad nL R kc ks Γ Q x g pc lv (.int v :: .ref (ad 0) :: rest) := g_put (ci := 11) (C0 := RX12) (T0 := TX12) (N0 := 48) (j := 6) C rfl kM0 BM_X12 tyX12 tyX12_ok nmX12 (by decide) rfl (List.mem_cons_of_mem _ bm_68) rfl (by decide +kernel) hdg K
theorem gM_get_clauses (C : Cx D T cc nL (c0 :: BM) RX12 ret Γ) {v : Int32} (hv : g 0 7 = v) (hdg : decode cc pc = .ok (.getfield 154, 3)) (K : Gj l shM D T ad nL R kc ks Γ Q x g (pc + 3) lv (.int v :: rest)) : Gj l shM D T ad nL R kc ks Γ Q x g pc lv (.ref (ad 0) :: rest) := g_get (ci := 11) (C0 := RX12) (T0 := TX12) (N0 := 48) (j := 7) C rfl kM0 BM_X12 (by decide) rfl (List.mem_cons_of_mem _ bm_104) hv hdg K
theorem gM_put_clauses (C : Cx D T cc nL (c0 :: BM) RX12 ret Γ) {v : Int32} (hdg : decode cc pc = .ok (.putfield 154, 3)) (K : Gj l shM D T ad nL R kc ks Γ Q x (st g 0 7 v) (pc + 3) lv (rest)) : Gj l shM D T ad nL R kc ks Γ Q x g pc lv (.int v :: .ref (ad 0) :: rest) := g_put (ci := 11) (C0 := RX12) (T0 := TX12) (N0 := 48) (j := 7) C rfl kM0 BM_X12 tyX12 tyX12_ok nmX12 (by decide) rfl (List.mem_cons_of_mem _ bm_104) rfl (by decide +kernel) hdg K
theorem gM_get_open (C : Cx D T cc nL (c0 :: BM) RX12 ret Γ) {v : Int32} (hv : g 0 8 = v) (hdg : decode cc pc = .ok (.getfield 157, 3)) (K : Gj l shM D T ad nL R kc ks Γ Q x g (pc + 3) lv (.int v :: rest)) : Gj l shM D T ad nL R kc ks Γ Q x g pc lv (.ref (ad 0) :: rest) := g_get (ci := 11) (C0 := RX12) (T0 := TX12) (N0 := 48) (j := 8) C rfl kM0 BM_X12 (by decide) rfl (List.mem_cons_of_mem _ bm_105) hv hdg K
theorem gM_put_open (C : Cx D T cc nL (c0 :: BM) RX12 ret Γ) {v : Int32} (hdg : decode cc pc = .ok (.putfield 157, 3)) (K : Gj l shM D T ad nL R kc ks Γ Q x (st g 0 8 v) (pc + 3) lv (rest)) : Gj l shM D T ad nL R kc ks Γ Q x g pc lv (.int v :: .ref (ad 0) :: rest) := g_put (ci := 11) (C0 := RX12) (T0 := TX12) (N0 := 48) (j := 8) C rfl kM0 BM_X12 tyX12 tyX12_ok nmX12 (by decide) rfl (List.mem_cons_of_mem _ bm_105) rfl (by decide +kernel) hdg K
theorem gM_get_fed (C : Cx D T cc nL (c0 :: BM) RX12 ret Γ) (hdg : decode cc pc = .ok (.getfield 13, 3)) (K : Gj l shM D T ad nL R kc ks Γ Q x g (pc + 3) lv (.ref (ad 1) :: rest)) : Gj l shM D T ad nL R kc ks Γ Q x g pc lv (.ref (ad 0) :: rest) := g_getr (ci := 11) (C0 := RX12) (T0 := TX12) (N0 := 48) (j := 9) C rfl kM0 BM_X12 (by decide) rfl (List.mem_cons_of_mem _ bm_23) hdg K
theorem gM_get_refused (C : Cx D T cc nL (c0 :: BM) RX12 ret Γ) (hdg : decode cc pc = .ok (.getfield 17, 3)) (K : Gj l shM D T ad nL R kc ks Γ Q x g (pc + 3) lv (.ref (ad 2) :: rest)) : Gj l shM D T ad nL R kc ks Γ Q x g pc lv (.ref (ad 0) :: rest) := g_getr (ci := 11) (C0 := RX12) (T0 := TX12) (N0 := 48) (j := 10) C rfl kM0 BM_X12 (by decide) rfl (List.mem_cons_of_mem _ bm_24) hdg K
theorem gM_get_readTold (C : Cx D T cc nL (c0 :: BM) RX12 ret Γ) (hdg : decode cc pc = .ok (.getfield 20, 3)) (K : Gj l shM D T ad nL R kc ks Γ Q x g (pc + 3) lv (.ref (ad 3) :: rest)) : Gj l shM D T ad nL R kc ks Γ Q x g pc lv (.ref (ad 0) :: rest) := g_getr (ci := 11) (C0 := RX12) (T0 := TX12) (N0 := 48) (j := 11) C rfl kM0 BM_X12 (by decide) rfl (List.mem_cons_of_mem _ bm_1) hdg K
theorem gM_get_told (C : Cx D T cc nL (c0 :: BM) RX12 ret Γ) (hdg : decode cc pc = .ok (.getfield 23, 3)) (K : Gj l shM D T ad nL R kc ks Γ Q x g (pc + 3) lv (.ref (ad 4) :: rest)) : Gj l shM D T ad nL R kc ks Γ Q x g pc lv (.ref (ad 0) :: rest) := g_getr (ci := 11) (C0 := RX12) (T0 := TX12) (N0 := 48) (j := 12) C rfl kM0 BM_X12 (by decide) rfl (List.mem_cons_of_mem _ bm_5) hdg K
theorem gM_get_readPerson (C : Cx D T cc nL (c0 :: BM) RX12 ret Γ) (hdg : decode cc pc = .ok (.getfield 28, 3)) (K : Gj l shM D T ad nL R kc ks Γ Q x g (pc + 3) lv (.ref (ad 5) :: rest)) : Gj l shM D T ad nL R kc ks Γ Q x g pc lv (.ref (ad 0) :: rest) := g_getr (ci := 11) (C0 := RX12) (T0 := TX12) (N0 := 48) (j := 13) C rfl kM0 BM_X12 (by decide) rfl (List.mem_cons_of_mem _ bm_6) hdg K
theorem gM_get_person (C : Cx D T cc nL (c0 :: BM) RX12 ret Γ) (hdg : decode cc pc = .ok (.getfield 31, 3)) (K : Gj l shM D T ad nL R kc ks Γ Q x g (pc + 3) lv (.ref (ad 6) :: rest)) : Gj l shM D T ad nL R kc ks Γ Q x g pc lv (.ref (ad 0) :: rest) := g_getr (ci := 11) (C0 := RX12) (T0 := TX12) (N0 := 48) (j := 14) C rfl kM0 BM_X12 (by decide) rfl (List.mem_cons_of_mem _ bm_7) hdg K
theorem gM_get_readFriend (C : Cx D T cc nL (c0 :: BM) RX12 ret Γ) (hdg : decode cc pc = .ok (.getfield 34, 3)) (K : Gj l shM D T ad nL R kc ks Γ Q x g (pc + 3) lv (.ref (ad 7) :: rest)) : Gj l shM D T ad nL R kc ks Γ Q x g pc lv (.ref (ad 0) :: rest) := g_getr (ci := 11) (C0 := RX12) (T0 := TX12) (N0 := 48) (j := 15) C rfl kM0 BM_X12 (by decide) rfl (List.mem_cons_of_mem _ bm_2) hdg K
theorem gM_get_friend (C : Cx D T cc nL (c0 :: BM) RX12 ret Γ) (hdg : decode cc pc = .ok (.getfield 37, 3)) (K : Gj l shM D T ad nL R kc ks Γ Q x g (pc + 3) lv (.ref (ad 8) :: rest)) : Gj l shM D T ad nL R kc ks Γ Q x g pc lv (.ref (ad 0) :: rest) := g_getr (ci := 11) (C0 := RX12) (T0 := TX12) (N0 := 48) (j := 16) C rfl kM0 BM_X12 (by decide) rfl (List.mem_cons_of_mem _ bm_8) hdg K
theorem gM_get_lawMany (C : Cx D T cc nL (c0 :: BM) RX12 ret Γ) {v : Int32} (hv : g 0 17 = v) (hdg : decode cc pc = .ok (.getfield 191, 3)) (K : Gj l shM D T ad nL R kc ks Γ Q x g (pc + 3) lv (.int v :: rest)) : Gj l shM D T ad nL R kc ks Γ Q x g pc lv (.ref (ad 0) :: rest) := g_get (ci := 11) (C0 := RX12) (T0 := TX12) (N0 := 48) (j := 17) C rfl kM0 BM_X12 (by decide) rfl (List.mem_cons_of_mem _ bm_10) hv hdg K
theorem gM_put_lawMany (C : Cx D T cc nL (c0 :: BM) RX12 ret Γ) {v : Int32} (hdg : decode cc pc = .ok (.putfield 191, 3)) (K : Gj l shM D T ad nL R kc ks Γ Q x (st g 0 17 v) (pc + 3) lv (rest)) : Gj l shM D T ad nL R kc ks Γ Q x g pc lv (.int v :: .ref (ad 0) :: rest) := g_put (ci := 11) (C0 := RX12) (T0 := TX12) (N0 := 48) (j := 17) C rfl kM0 BM_X12 tyX12 tyX12_ok nmX12 (by decide) rfl (List.mem_cons_of_mem _ bm_10) rfl (by decide +kernel) hdg K
theorem gM_get_readLawMany (C : Cx D T cc nL (c0 :: BM) RX12 ret Γ) {v : Int32} (hv : g 0 18 = v) (hdg : decode cc pc = .ok (.getfield 206, 3)) (K : Gj l shM D T ad nL R kc ks Γ Q x g (pc + 3) lv (.int v :: rest)) : Gj l shM D T ad nL R kc ks Γ Q x g pc lv (.ref (ad 0) :: rest) := g_get (ci := 11) (C0 := RX12) (T0 := TX12) (N0 := 48) (j := 18) C rfl kM0 BM_X12 (by decide) rfl (List.mem_cons_of_mem _ bm_137) hv hdg K
theorem gM_put_readLawMany (C : Cx D T cc nL (c0 :: BM) RX12 ret Γ) {v : Int32} (hdg : decode cc pc = .ok (.putfield 206, 3)) (K : Gj l shM D T ad nL R kc ks Γ Q x (st g 0 18 v) (pc + 3) lv (rest)) : Gj l shM D T ad nL R kc ks Γ Q x g pc lv (.int v :: .ref (ad 0) :: rest) := g_put (ci := 11) (C0 := RX12) (T0 := TX12) (N0 := 48) (j := 18) C rfl kM0 BM_X12 tyX12 tyX12_ok nmX12 (by decide) rfl (List.mem_cons_of_mem _ bm_137) rfl (by decide +kernel) hdg K
theorem gM_get_law (C : Cx D T cc nL (c0 :: BM) RX12 ret Γ) (hdg : decode cc pc = .ok (.getfield 40, 3)) (K : Gj l shM D T ad nL R kc ks Γ Q x g (pc + 3) lv (.ref (ad 9) :: rest)) : Gj l shM D T ad nL R kc ks Γ Q x g pc lv (.ref (ad 0) :: rest) := g_getr (ci := 11) (C0 := RX12) (T0 := TX12) (N0 := 48) (j := 19) C rfl kM0 BM_X12 (by decide) rfl (List.mem_cons_of_mem _ bm_26) hdg K
theorem gM_get_readLaw (C : Cx D T cc nL (c0 :: BM) RX12 ret Γ) (hdg : decode cc pc = .ok (.getfield 43, 3)) (K : Gj l shM D T ad nL R kc ks Γ Q x g (pc + 3) lv (.ref (ad 10) :: rest)) : Gj l shM D T ad nL R kc ks Γ Q x g pc lv (.ref (ad 0) :: rest) := g_getr (ci := 11) (C0 := RX12) (T0 := TX12) (N0 := 48) (j := 20) C rfl kM0 BM_X12 (by decide) rfl (List.mem_cons_of_mem _ bm_27) hdg K
theorem gM_get_line (C : Cx D T cc nL (c0 :: BM) RX12 ret Γ) (hdg : decode cc pc = .ok (.getfield 46, 3)) (K : Gj l shM D T ad nL R kc ks Γ Q x g (pc + 3) lv (.ref (ad 11) :: rest)) : Gj l shM D T ad nL R kc ks Γ Q x g pc lv (.ref (ad 0) :: rest) := g_getr (ci := 11) (C0 := RX12) (T0 := TX12) (N0 := 48) (j := 21) C rfl kM0 BM_X12 (by decide) rfl (List.mem_cons_of_mem _ bm_28) hdg K
theorem gM_get_readLine (C : Cx D T cc nL (c0 :: BM) RX12 ret Γ) (hdg : decode cc pc = .ok (.getfield 49, 3)) (K : Gj l shM D T ad nL R kc ks Γ Q x g (pc + 3) lv (.ref (ad 12) :: rest)) : Gj l shM D T ad nL R kc ks Γ Q x g pc lv (.ref (ad 0) :: rest) := g_getr (ci := 11) (C0 := RX12) (T0 := TX12) (N0 := 48) (j := 22) C rfl kM0 BM_X12 (by decide) rfl (List.mem_cons_of_mem _ bm_29) hdg K
theorem gM_get_stack (C : Cx D T cc nL (c0 :: BM) RX12 ret Γ) (hdg : decode cc pc = .ok (.getfield 52, 3)) (K : Gj l shM D T ad nL R kc ks Γ Q x g (pc + 3) lv (.ref (ad 13) :: rest)) : Gj l shM D T ad nL R kc ks Γ Q x g pc lv (.ref (ad 0) :: rest) := g_getr (ci := 11) (C0 := RX12) (T0 := TX12) (N0 := 48) (j := 23) C rfl kM0 BM_X12 (by decide) rfl (List.mem_cons_of_mem _ bm_30) hdg K
theorem gM_get_known (C : Cx D T cc nL (c0 :: BM) RX12 ret Γ) (hdg : decode cc pc = .ok (.getfield 55, 3)) (K : Gj l shM D T ad nL R kc ks Γ Q x g (pc + 3) lv (.ref (ad 14) :: rest)) : Gj l shM D T ad nL R kc ks Γ Q x g pc lv (.ref (ad 0) :: rest) := g_getr (ci := 11) (C0 := RX12) (T0 := TX12) (N0 := 48) (j := 24) C rfl kM0 BM_X12 (by decide) rfl (List.mem_cons_of_mem _ bm_31) hdg K
theorem gM_get_step (C : Cx D T cc nL (c0 :: BM) RX12 ret Γ) (hdg : decode cc pc = .ok (.getfield 58, 3)) (K : Gj l shM D T ad nL R kc ks Γ Q x g (pc + 3) lv (.ref (ad 15) :: rest)) : Gj l shM D T ad nL R kc ks Γ Q x g pc lv (.ref (ad 0) :: rest) := g_getr (ci := 11) (C0 := RX12) (T0 := TX12) (N0 := 48) (j := 25) C rfl kM0 BM_X12 (by decide) rfl (List.mem_cons_of_mem _ bm_32) hdg K
theorem gM_get_steps (C : Cx D T cc nL (c0 :: BM) RX12 ret Γ) {v : Int32} (hv : g 0 26 = v) (hdg : decode cc pc = .ok (.getfield 247, 3)) (K : Gj l shM D T ad nL R kc ks Γ Q x g (pc + 3) lv (.int v :: rest)) : Gj l shM D T ad nL R kc ks Γ Q x g pc lv (.ref (ad 0) :: rest) := g_get (ci := 11) (C0 := RX12) (T0 := TX12) (N0 := 48) (j := 26) C rfl kM0 BM_X12 (by decide) rfl (List.mem_cons_of_mem _ bm_177) hv hdg K
theorem gM_put_steps (C : Cx D T cc nL (c0 :: BM) RX12 ret Γ) {v : Int32} (hdg : decode cc pc = .ok (.putfield 247, 3)) (K : Gj l shM D T ad nL R kc ks Γ Q x (st g 0 26 v) (pc + 3) lv (rest)) : Gj l shM D T ad nL R kc ks Γ Q x g pc lv (.int v :: .ref (ad 0) :: rest) := g_put (ci := 11) (C0 := RX12) (T0 := TX12) (N0 := 48) (j := 26) C rfl kM0 BM_X12 tyX12 tyX12_ok nmX12 (by decide) rfl (List.mem_cons_of_mem _ bm_177) rfl (by decide +kernel) hdg K
theorem gM_get_now (C : Cx D T cc nL (c0 :: BM) RX12 ret Γ) (hdg : decode cc pc = .ok (.getfield 61, 3)) (K : Gj l shM D T ad nL R kc ks Γ Q x g (pc + 3) lv (.ref (ad 16) :: rest)) : Gj l shM D T ad nL R kc ks Γ Q x g pc lv (.ref (ad 0) :: rest) := g_getr (ci := 11) (C0 := RX12) (T0 := TX12) (N0 := 48) (j := 27) C rfl kM0 BM_X12 (by decide) rfl (List.mem_cons_of_mem _ bm_9) hdg K
theorem gM_get_trial (C : Cx D T cc nL (c0 :: BM) RX12 ret Γ) (hdg : decode cc pc = .ok (.getfield 64, 3)) (K : Gj l shM D T ad nL R kc ks Γ Q x g (pc + 3) lv (.ref (ad 17) :: rest)) : Gj l shM D T ad nL R kc ks Γ Q x g pc lv (.ref (ad 0) :: rest) := g_getr (ci := 11) (C0 := RX12) (T0 := TX12) (N0 := 48) (j := 28) C rfl kM0 BM_X12 (by decide) rfl (List.mem_cons_of_mem _ bm_33) hdg K
theorem gM_get_before (C : Cx D T cc nL (c0 :: BM) RX12 ret Γ) (hdg : decode cc pc = .ok (.getfield 67, 3)) (K : Gj l shM D T ad nL R kc ks Γ Q x g (pc + 3) lv (.ref (ad 18) :: rest)) : Gj l shM D T ad nL R kc ks Γ Q x g pc lv (.ref (ad 0) :: rest) := g_getr (ci := 11) (C0 := RX12) (T0 := TX12) (N0 := 48) (j := 29) C rfl kM0 BM_X12 (by decide) rfl (List.mem_cons_of_mem _ bm_34) hdg K
theorem gM_get_kept (C : Cx D T cc nL (c0 :: BM) RX12 ret Γ) (hdg : decode cc pc = .ok (.getfield 70, 3)) (K : Gj l shM D T ad nL R kc ks Γ Q x g (pc + 3) lv (.ref (ad 19) :: rest)) : Gj l shM D T ad nL R kc ks Γ Q x g pc lv (.ref (ad 0) :: rest) := g_getr (ci := 11) (C0 := RX12) (T0 := TX12) (N0 := 48) (j := 30) C rfl kM0 BM_X12 (by decide) rfl (List.mem_cons_of_mem _ bm_35) hdg K
theorem gM_get_lines (C : Cx D T cc nL (c0 :: BM) RX12 ret Γ) {v : Int32} (hv : g 0 31 = v) (hdg : decode cc pc = .ok (.getfield 194, 3)) (K : Gj l shM D T ad nL R kc ks Γ Q x g (pc + 3) lv (.int v :: rest)) : Gj l shM D T ad nL R kc ks Γ Q x g pc lv (.ref (ad 0) :: rest) := g_get (ci := 11) (C0 := RX12) (T0 := TX12) (N0 := 48) (j := 31) C rfl kM0 BM_X12 (by decide) rfl (List.mem_cons_of_mem _ bm_11) hv hdg K
theorem gM_put_lines (C : Cx D T cc nL (c0 :: BM) RX12 ret Γ) {v : Int32} (hdg : decode cc pc = .ok (.putfield 194, 3)) (K : Gj l shM D T ad nL R kc ks Γ Q x (st g 0 31 v) (pc + 3) lv (rest)) : Gj l shM D T ad nL R kc ks Γ Q x g pc lv (.int v :: .ref (ad 0) :: rest) := g_put (ci := 11) (C0 := RX12) (T0 := TX12) (N0 := 48) (j := 31) C rfl kM0 BM_X12 tyX12 tyX12_ok nmX12 (by decide) rfl (List.mem_cons_of_mem _ bm_11) rfl (by decide +kernel) hdg K
theorem gM_get_works (C : Cx D T cc nL (c0 :: BM) RX12 ret Γ) {v : Int32} (hv : g 0 32 = v) (hdg : decode cc pc = .ok (.getfield 197, 3)) (K : Gj l shM D T ad nL R kc ks Γ Q x g (pc + 3) lv (.int v :: rest)) : Gj l shM D T ad nL R kc ks Γ Q x g pc lv (.ref (ad 0) :: rest) := g_get (ci := 11) (C0 := RX12) (T0 := TX12) (N0 := 48) (j := 32) C rfl kM0 BM_X12 (by decide) rfl (List.mem_cons_of_mem _ bm_12) hv hdg K
theorem gM_put_works (C : Cx D T cc nL (c0 :: BM) RX12 ret Γ) {v : Int32} (hdg : decode cc pc = .ok (.putfield 197, 3)) (K : Gj l shM D T ad nL R kc ks Γ Q x (st g 0 32 v) (pc + 3) lv (rest)) : Gj l shM D T ad nL R kc ks Γ Q x g pc lv (.int v :: .ref (ad 0) :: rest) := g_put (ci := 11) (C0 := RX12) (T0 := TX12) (N0 := 48) (j := 32) C rfl kM0 BM_X12 tyX12 tyX12_ok nmX12 (by decide) rfl (List.mem_cons_of_mem _ bm_12) rfl (by decide +kernel) hdg K
theorem gM_get_refusedSteps (C : Cx D T cc nL (c0 :: BM) RX12 ret Γ) {v : Int32} (hv : g 0 33 = v) (hdg : decode cc pc = .ok (.getfield 200, 3)) (K : Gj l shM D T ad nL R kc ks Γ Q x g (pc + 3) lv (.int v :: rest)) : Gj l shM D T ad nL R kc ks Γ Q x g pc lv (.ref (ad 0) :: rest) := g_get (ci := 11) (C0 := RX12) (T0 := TX12) (N0 := 48) (j := 33) C rfl kM0 BM_X12 (by decide) rfl (List.mem_cons_of_mem _ bm_13) hv hdg K
theorem gM_put_refusedSteps (C : Cx D T cc nL (c0 :: BM) RX12 ret Γ) {v : Int32} (hdg : decode cc pc = .ok (.putfield 200, 3)) (K : Gj l shM D T ad nL R kc ks Γ Q x (st g 0 33 v) (pc + 3) lv (rest)) : Gj l shM D T ad nL R kc ks Γ Q x g pc lv (.int v :: .ref (ad 0) :: rest) := g_put (ci := 11) (C0 := RX12) (T0 := TX12) (N0 := 48) (j := 33) C rfl kM0 BM_X12 tyX12 tyX12_ok nmX12 (by decide) rfl (List.mem_cons_of_mem _ bm_13) rfl (by decide +kernel) hdg K
theorem gM_get_images (C : Cx D T cc nL (c0 :: BM) RX12 ret Γ) {v : Int32} (hv : g 0 34 = v) (hdg : decode cc pc = .ok (.getfield 203, 3)) (K : Gj l shM D T ad nL R kc ks Γ Q x g (pc + 3) lv (.int v :: rest)) : Gj l shM D T ad nL R kc ks Γ Q x g pc lv (.ref (ad 0) :: rest) := g_get (ci := 11) (C0 := RX12) (T0 := TX12) (N0 := 48) (j := 34) C rfl kM0 BM_X12 (by decide) rfl (List.mem_cons_of_mem _ bm_14) hv hdg K
theorem gM_put_images (C : Cx D T cc nL (c0 :: BM) RX12 ret Γ) {v : Int32} (hdg : decode cc pc = .ok (.putfield 203, 3)) (K : Gj l shM D T ad nL R kc ks Γ Q x (st g 0 34 v) (pc + 3) lv (rest)) : Gj l shM D T ad nL R kc ks Γ Q x g pc lv (.int v :: .ref (ad 0) :: rest) := g_put (ci := 11) (C0 := RX12) (T0 := TX12) (N0 := 48) (j := 34) C rfl kM0 BM_X12 tyX12 tyX12_ok nmX12 (by decide) rfl (List.mem_cons_of_mem _ bm_14) rfl (by decide +kernel) hdg K
theorem gM_get_spot (C : Cx D T cc nL (c0 :: BM) RX12 ret Γ) {v : Int32} (hv : g 0 35 = v) (hdg : decode cc pc = .ok (.getfield 415, 3)) (K : Gj l shM D T ad nL R kc ks Γ Q x g (pc + 3) lv (.int v :: rest)) : Gj l shM D T ad nL R kc ks Γ Q x g pc lv (.ref (ad 0) :: rest) := g_get (ci := 11) (C0 := RX12) (T0 := TX12) (N0 := 48) (j := 35) C rfl kM0 BM_X12 (by decide) rfl (List.mem_cons_of_mem _ bm_381) hv hdg K
theorem gM_put_spot (C : Cx D T cc nL (c0 :: BM) RX12 ret Γ) {v : Int32} (hdg : decode cc pc = .ok (.putfield 415, 3)) (K : Gj l shM D T ad nL R kc ks Γ Q x (st g 0 35 v) (pc + 3) lv (rest)) : Gj l shM D T ad nL R kc ks Γ Q x g pc lv (.int v :: .ref (ad 0) :: rest) := g_put (ci := 11) (C0 := RX12) (T0 := TX12) (N0 := 48) (j := 35) C rfl kM0 BM_X12 tyX12 tyX12_ok nmX12 (by decide) rfl (List.mem_cons_of_mem _ bm_381) rfl (by decide +kernel) hdg K
theorem gM_get_begun (C : Cx D T cc nL (c0 :: BM) RX12 ret Γ) {v : Int32} (hv : g 0 36 = v) (hdg : decode cc pc = .ok (.getfield 303, 3)) (K : Gj l shM D T ad nL R kc ks Γ Q x g (pc + 3) lv (.int v :: rest)) : Gj l shM D T ad nL R kc ks Γ Q x g pc lv (.ref (ad 0) :: rest) := g_get (ci := 11) (C0 := RX12) (T0 := TX12) (N0 := 48) (j := 36) C rfl kM0 BM_X12 (by decide) rfl (List.mem_cons_of_mem _ bm_239) hv hdg K
theorem gM_put_begun (C : Cx D T cc nL (c0 :: BM) RX12 ret Γ) {v : Int32} (hdg : decode cc pc = .ok (.putfield 303, 3)) (K : Gj l shM D T ad nL R kc ks Γ Q x (st g 0 36 v) (pc + 3) lv (rest)) : Gj l shM D T ad nL R kc ks Γ Q x g pc lv (.int v :: .ref (ad 0) :: rest) := g_put (ci := 11) (C0 := RX12) (T0 := TX12) (N0 := 48) (j := 36) C rfl kM0 BM_X12 tyX12 tyX12_ok nmX12 (by decide) rfl (List.mem_cons_of_mem _ bm_239) rfl (by decide +kernel) hdg K
theorem gM_get_doneSteps (C : Cx D T cc nL (c0 :: BM) RX12 ret Γ) {v : Int32} (hv : g 0 37 = v) (hdg : decode cc pc = .ok (.getfield 313, 3)) (K : Gj l shM D T ad nL R kc ks Γ Q x g (pc + 3) lv (.int v :: rest)) : Gj l shM D T ad nL R kc ks Γ Q x g pc lv (.ref (ad 0) :: rest) := g_get (ci := 11) (C0 := RX12) (T0 := TX12) (N0 := 48) (j := 37) C rfl kM0 BM_X12 (by decide) rfl (List.mem_cons_of_mem _ bm_240) hv hdg K
theorem gM_put_doneSteps (C : Cx D T cc nL (c0 :: BM) RX12 ret Γ) {v : Int32} (hdg : decode cc pc = .ok (.putfield 313, 3)) (K : Gj l shM D T ad nL R kc ks Γ Q x (st g 0 37 v) (pc + 3) lv (rest)) : Gj l shM D T ad nL R kc ks Γ Q x g pc lv (.int v :: .ref (ad 0) :: rest) := g_put (ci := 11) (C0 := RX12) (T0 := TX12) (N0 := 48) (j := 37) C rfl kM0 BM_X12 tyX12 tyX12_ok nmX12 (by decide) rfl (List.mem_cons_of_mem _ bm_240) rfl (by decide +kernel) hdg K
theorem gM_get_gives (C : Cx D T cc nL (c0 :: BM) RX12 ret Γ) (hdg : decode cc pc = .ok (.getfield 73, 3)) (K : Gj l shM D T ad nL R kc ks Γ Q x g (pc + 3) lv (.ref (ad 20) :: rest)) : Gj l shM D T ad nL R kc ks Γ Q x g pc lv (.ref (ad 0) :: rest) := g_getr (ci := 11) (C0 := RX12) (T0 := TX12) (N0 := 48) (j := 38) C rfl kM0 BM_X12 (by decide) rfl (List.mem_cons_of_mem _ bm_36) hdg K
theorem gM_get_bestGives (C : Cx D T cc nL (c0 :: BM) RX12 ret Γ) (hdg : decode cc pc = .ok (.getfield 76, 3)) (K : Gj l shM D T ad nL R kc ks Γ Q x g (pc + 3) lv (.ref (ad 21) :: rest)) : Gj l shM D T ad nL R kc ks Γ Q x g pc lv (.ref (ad 0) :: rest) := g_getr (ci := 11) (C0 := RX12) (T0 := TX12) (N0 := 48) (j := 39) C rfl kM0 BM_X12 (by decide) rfl (List.mem_cons_of_mem _ bm_37) hdg K
theorem gM_get_times (C : Cx D T cc nL (c0 :: BM) RX12 ret Γ) (hdg : decode cc pc = .ok (.getfield 79, 3)) (K : Gj l shM D T ad nL R kc ks Γ Q x g (pc + 3) lv (.ref (ad 22) :: rest)) : Gj l shM D T ad nL R kc ks Γ Q x g pc lv (.ref (ad 0) :: rest) := g_getr (ci := 11) (C0 := RX12) (T0 := TX12) (N0 := 48) (j := 40) C rfl kM0 BM_X12 (by decide) rfl (List.mem_cons_of_mem _ bm_38) hdg K
theorem gM_get_mostServed (C : Cx D T cc nL (c0 :: BM) RX12 ret Γ) {v : Int32} (hv : g 0 41 = v) (hdg : decode cc pc = .ok (.getfield 344, 3)) (K : Gj l shM D T ad nL R kc ks Γ Q x g (pc + 3) lv (.int v :: rest)) : Gj l shM D T ad nL R kc ks Γ Q x g pc lv (.ref (ad 0) :: rest) := g_get (ci := 11) (C0 := RX12) (T0 := TX12) (N0 := 48) (j := 41) C rfl kM0 BM_X12 (by decide) rfl (List.mem_cons_of_mem _ bm_288) hv hdg K
theorem gM_put_mostServed (C : Cx D T cc nL (c0 :: BM) RX12 ret Γ) {v : Int32} (hdg : decode cc pc = .ok (.putfield 344, 3)) (K : Gj l shM D T ad nL R kc ks Γ Q x (st g 0 41 v) (pc + 3) lv (rest)) : Gj l shM D T ad nL R kc ks Γ Q x g pc lv (.int v :: .ref (ad 0) :: rest) := g_put (ci := 11) (C0 := RX12) (T0 := TX12) (N0 := 48) (j := 41) C rfl kM0 BM_X12 tyX12 tyX12_ok nmX12 (by decide) rfl (List.mem_cons_of_mem _ bm_288) rfl (by decide +kernel) hdg K
theorem gM_get_mostWill (C : Cx D T cc nL (c0 :: BM) RX12 ret Γ) {v : Int32} (hv : g 0 42 = v) (hdg : decode cc pc = .ok (.getfield 347, 3)) (K : Gj l shM D T ad nL R kc ks Γ Q x g (pc + 3) lv (.int v :: rest)) : Gj l shM D T ad nL R kc ks Γ Q x g pc lv (.ref (ad 0) :: rest) := g_get (ci := 11) (C0 := RX12) (T0 := TX12) (N0 := 48) (j := 42) C rfl kM0 BM_X12 (by decide) rfl (List.mem_cons_of_mem _ bm_289) hv hdg K
theorem gM_put_mostWill (C : Cx D T cc nL (c0 :: BM) RX12 ret Γ) {v : Int32} (hdg : decode cc pc = .ok (.putfield 347, 3)) (K : Gj l shM D T ad nL R kc ks Γ Q x (st g 0 42 v) (pc + 3) lv (rest)) : Gj l shM D T ad nL R kc ks Γ Q x g pc lv (.int v :: .ref (ad 0) :: rest) := g_put (ci := 11) (C0 := RX12) (T0 := TX12) (N0 := 48) (j := 42) C rfl kM0 BM_X12 tyX12 tyX12_ok nmX12 (by decide) rfl (List.mem_cons_of_mem _ bm_289) rfl (by decide +kernel) hdg K
theorem gM_get_order (C : Cx D T cc nL (c0 :: BM) RX12 ret Γ) (hdg : decode cc pc = .ok (.getfield 82, 3)) (K : Gj l shM D T ad nL R kc ks Γ Q x g (pc + 3) lv (.ref (ad 23) :: rest)) : Gj l shM D T ad nL R kc ks Γ Q x g pc lv (.ref (ad 0) :: rest) := g_getr (ci := 11) (C0 := RX12) (T0 := TX12) (N0 := 48) (j := 43) C rfl kM0 BM_X12 (by decide) rfl (List.mem_cons_of_mem _ bm_39) hdg K
theorem gM_get_seen (C : Cx D T cc nL (c0 :: BM) RX12 ret Γ) (hdg : decode cc pc = .ok (.getfield 85, 3)) (K : Gj l shM D T ad nL R kc ks Γ Q x g (pc + 3) lv (.ref (ad 24) :: rest)) : Gj l shM D T ad nL R kc ks Γ Q x g pc lv (.ref (ad 0) :: rest) := g_getr (ci := 11) (C0 := RX12) (T0 := TX12) (N0 := 48) (j := 44) C rfl kM0 BM_X12 (by decide) rfl (List.mem_cons_of_mem _ bm_40) hdg K
theorem gM_get_dying (C : Cx D T cc nL (c0 :: BM) RX12 ret Γ) {v : Int32} (hv : g 0 45 = v) (hdg : decode cc pc = .ok (.getfield 360, 3)) (K : Gj l shM D T ad nL R kc ks Γ Q x g (pc + 3) lv (.int v :: rest)) : Gj l shM D T ad nL R kc ks Γ Q x g pc lv (.ref (ad 0) :: rest) := g_get (ci := 11) (C0 := RX12) (T0 := TX12) (N0 := 48) (j := 45) C rfl kM0 BM_X12 (by decide) rfl (List.mem_cons_of_mem _ bm_305) hv hdg K
theorem gM_put_dying (C : Cx D T cc nL (c0 :: BM) RX12 ret Γ) {v : Int32} (hdg : decode cc pc = .ok (.putfield 360, 3)) (K : Gj l shM D T ad nL R kc ks Γ Q x (st g 0 45 v) (pc + 3) lv (rest)) : Gj l shM D T ad nL R kc ks Γ Q x g pc lv (.int v :: .ref (ad 0) :: rest) := g_put (ci := 11) (C0 := RX12) (T0 := TX12) (N0 := 48) (j := 45) C rfl kM0 BM_X12 tyX12 tyX12_ok nmX12 (by decide) rfl (List.mem_cons_of_mem _ bm_305) rfl (by decide +kernel) hdg K
theorem gM_get_exact (C : Cx D T cc nL (c0 :: BM) RX12 ret Γ) (hdg : decode cc pc = .ok (.getfield 88, 3)) (K : Gj l shM D T ad nL R kc ks Γ Q x g (pc + 3) lv (.ref (ad 25) :: rest)) : Gj l shM D T ad nL R kc ks Γ Q x g pc lv (.ref (ad 0) :: rest) := g_getr (ci := 11) (C0 := RX12) (T0 := TX12) (N0 := 48) (j := 46) C rfl kM0 BM_X12 (by decide) rfl (List.mem_cons_of_mem _ bm_42) hdg K
theorem gM_get_lots (C : Cx D T cc nL (c0 :: BM) RX12 ret Γ) {v : Int32} (hv : g 0 47 = v) (hdg : decode cc pc = .ok (.getfield 401, 3)) (K : Gj l shM D T ad nL R kc ks Γ Q x g (pc + 3) lv (.int v :: rest)) : Gj l shM D T ad nL R kc ks Γ Q x g pc lv (.ref (ad 0) :: rest) := g_get (ci := 11) (C0 := RX12) (T0 := TX12) (N0 := 48) (j := 47) C rfl kM0 BM_X12 (by decide) rfl (List.mem_cons_of_mem _ bm_366) hv hdg K
theorem gM_put_lots (C : Cx D T cc nL (c0 :: BM) RX12 ret Γ) {v : Int32} (hdg : decode cc pc = .ok (.putfield 401, 3)) (K : Gj l shM D T ad nL R kc ks Γ Q x (st g 0 47 v) (pc + 3) lv (rest)) : Gj l shM D T ad nL R kc ks Γ Q x g pc lv (.int v :: .ref (ad 0) :: rest) := g_put (ci := 11) (C0 := RX12) (T0 := TX12) (N0 := 48) (j := 47) C rfl kM0 BM_X12 tyX12 tyX12_ok nmX12 (by decide) rfl (List.mem_cons_of_mem _ bm_366) rfl (by decide +kernel) hdg K
end FM
