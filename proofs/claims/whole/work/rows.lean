section
-- ===== PART A: goes FIRST, ahead of the names: the tables' words, and 'selects' of the private methods out of them =====
/-- a private method of a class that the tables say can be made, by its rows of tables_1 -/
def lw_okq (q : MethodName × Nat) : Prop := (q.1.cls ≠ "java/lang/invoke/MethodHandle" ∧ q.1.cls ≠ "java/lang/invoke/VarHandle") ∧ Cond.instantiable q.1.cls q.2 ∈ tables_1 ∧ Cond.privateMethod q.1 ∈ tables_1 ∧ Cond.instanceMethod q.1 ∈ tables_1
theorem lw_p0 : lw_okq (⟨"BorrowedStones", "need", "(Z)V"⟩, 19) := ⟨⟨by decide +kernel, by decide +kernel⟩, List.mem_of_getElem? (i := 26) (by decide +kernel), List.mem_of_getElem? (i := 469) (by decide +kernel), List.mem_of_getElem? (i := 470) (by decide +kernel)⟩
theorem lw_p1 : lw_okq (⟨"java/lang/Throwable", "fillInStackTrace", "(I)Ljava/lang/Throwable;"⟩, 6) := ⟨⟨by decide +kernel, by decide +kernel⟩, List.mem_of_getElem? (i := 510) (by decide +kernel), List.mem_of_getElem? (i := 508) (by decide +kernel), List.mem_of_getElem? (i := 509) (by decide +kernel)⟩
theorem lw_p2 : lw_okq (⟨"BorrowedStones$Land", "readClause", "(LBorrowedStones$Text;I)V"⟩, 5) := ⟨⟨by decide +kernel, by decide +kernel⟩, List.mem_of_getElem? (i := 75) (by decide +kernel), List.mem_of_getElem? (i := 552) (by decide +kernel), List.mem_of_getElem? (i := 553) (by decide +kernel)⟩
theorem lw_p3 : lw_okq (⟨"BorrowedStones$Land", "readPerson", "(LBorrowedStones$Text;)V"⟩, 5) := ⟨⟨by decide +kernel, by decide +kernel⟩, List.mem_of_getElem? (i := 75) (by decide +kernel), List.mem_of_getElem? (i := 622) (by decide +kernel), List.mem_of_getElem? (i := 623) (by decide +kernel)⟩
theorem lw_p4 : lw_okq (⟨"BorrowedStones$Land", "readFriends", "(LBorrowedStones$Text;)V"⟩, 5) := ⟨⟨by decide +kernel, by decide +kernel⟩, List.mem_of_getElem? (i := 75) (by decide +kernel), List.mem_of_getElem? (i := 638) (by decide +kernel), List.mem_of_getElem? (i := 639) (by decide +kernel)⟩
theorem lw_p5 : lw_okq (⟨"BorrowedStones$LawReader", "readUnit", "(LBorrowedStones$Text;LBorrowedStones$Law;)Z"⟩, 3) := ⟨⟨by decide +kernel, by decide +kernel⟩, List.mem_of_getElem? (i := 126) (by decide +kernel), List.mem_of_getElem? (i := 683) (by decide +kernel), List.mem_of_getElem? (i := 684) (by decide +kernel)⟩
theorem lw_p6 : lw_okq (⟨"BorrowedStones$LawReader", "push", "(LBorrowedStones$Text;II)V"⟩, 3) := ⟨⟨by decide +kernel, by decide +kernel⟩, List.mem_of_getElem? (i := 126) (by decide +kernel), List.mem_of_getElem? (i := 691) (by decide +kernel), List.mem_of_getElem? (i := 692) (by decide +kernel)⟩
theorem lw_p7 : lw_okq (⟨"BorrowedStones$LawReader", "hold", "(I)V"⟩, 3) := ⟨⟨by decide +kernel, by decide +kernel⟩, List.mem_of_getElem? (i := 126) (by decide +kernel), List.mem_of_getElem? (i := 696) (by decide +kernel), List.mem_of_getElem? (i := 697) (by decide +kernel)⟩
theorem lw_p8 : lw_okq (⟨"BorrowedStones$LawReader", "readSign", "(LBorrowedStones$Text;LBorrowedStones$Law;)Z"⟩, 3) := ⟨⟨by decide +kernel, by decide +kernel⟩, List.mem_of_getElem? (i := 126) (by decide +kernel), List.mem_of_getElem? (i := 721) (by decide +kernel), List.mem_of_getElem? (i := 722) (by decide +kernel)⟩
theorem lw_p9 : lw_okq (⟨"BorrowedStones$LawReader", "settle", "(LBorrowedStones$Law;I)V"⟩, 3) := ⟨⟨by decide +kernel, by decide +kernel⟩, List.mem_of_getElem? (i := 126) (by decide +kernel), List.mem_of_getElem? (i := 728) (by decide +kernel), List.mem_of_getElem? (i := 729) (by decide +kernel)⟩
theorem lw_p10 : lw_okq (⟨"BorrowedStones$Steps", "closeAgain", "()V"⟩, 9) := ⟨⟨by decide +kernel, by decide +kernel⟩, List.mem_of_getElem? (i := 142) (by decide +kernel), List.mem_of_getElem? (i := 756) (by decide +kernel), List.mem_of_getElem? (i := 757) (by decide +kernel)⟩
theorem lw_p11 : lw_okq (⟨"BorrowedStones$Steps", "add", "(III)V"⟩, 9) := ⟨⟨by decide +kernel, by decide +kernel⟩, List.mem_of_getElem? (i := 142) (by decide +kernel), List.mem_of_getElem? (i := 762) (by decide +kernel), List.mem_of_getElem? (i := 763) (by decide +kernel)⟩
theorem lw_p12 : lw_okq (⟨"BorrowedStones$Steps", "readStep", "(LBorrowedStones$Text;I)V"⟩, 9) := ⟨⟨by decide +kernel, by decide +kernel⟩, List.mem_of_getElem? (i := 142) (by decide +kernel), List.mem_of_getElem? (i := 767) (by decide +kernel), List.mem_of_getElem? (i := 768) (by decide +kernel)⟩
theorem lw_p13 : lw_okq (⟨"BorrowedStones$Steps", "openAgain", "(LBorrowedStones$Text;)V"⟩, 9) := ⟨⟨by decide +kernel, by decide +kernel⟩, List.mem_of_getElem? (i := 142) (by decide +kernel), List.mem_of_getElem? (i := 774) (by decide +kernel), List.mem_of_getElem? (i := 775) (by decide +kernel)⟩
theorem lw_p14 : lw_okq (⟨"BorrowedStones$Steps", "behindEnd", "(I)I"⟩, 9) := ⟨⟨by decide +kernel, by decide +kernel⟩, List.mem_of_getElem? (i := 142) (by decide +kernel), List.mem_of_getElem? (i := 794) (by decide +kernel), List.mem_of_getElem? (i := 795) (by decide +kernel)⟩
theorem lw_p15 : lw_okq (⟨"BorrowedStones$Steps", "behindAgain", "(I)I"⟩, 9) := ⟨⟨by decide +kernel, by decide +kernel⟩, List.mem_of_getElem? (i := 142) (by decide +kernel), List.mem_of_getElem? (i := 798) (by decide +kernel), List.mem_of_getElem? (i := 799) (by decide +kernel)⟩
def lw_privs_1 : List (MethodName × Nat) := [(⟨"BorrowedStones", "need", "(Z)V"⟩, 19), (⟨"java/lang/Throwable", "fillInStackTrace", "(I)Ljava/lang/Throwable;"⟩, 6), (⟨"BorrowedStones$Land", "readClause", "(LBorrowedStones$Text;I)V"⟩, 5), (⟨"BorrowedStones$Land", "readPerson", "(LBorrowedStones$Text;)V"⟩, 5), (⟨"BorrowedStones$Land", "readFriends", "(LBorrowedStones$Text;)V"⟩, 5), (⟨"BorrowedStones$LawReader", "readUnit", "(LBorrowedStones$Text;LBorrowedStones$Law;)Z"⟩, 3), (⟨"BorrowedStones$LawReader", "push", "(LBorrowedStones$Text;II)V"⟩, 3), (⟨"BorrowedStones$LawReader", "hold", "(I)V"⟩, 3), (⟨"BorrowedStones$LawReader", "readSign", "(LBorrowedStones$Text;LBorrowedStones$Law;)Z"⟩, 3), (⟨"BorrowedStones$LawReader", "settle", "(LBorrowedStones$Law;I)V"⟩, 3), (⟨"BorrowedStones$Steps", "closeAgain", "()V"⟩, 9), (⟨"BorrowedStones$Steps", "add", "(III)V"⟩, 9), (⟨"BorrowedStones$Steps", "readStep", "(LBorrowedStones$Text;I)V"⟩, 9), (⟨"BorrowedStones$Steps", "openAgain", "(LBorrowedStones$Text;)V"⟩, 9), (⟨"BorrowedStones$Steps", "behindEnd", "(I)I"⟩, 9), (⟨"BorrowedStones$Steps", "behindAgain", "(I)I"⟩, 9)]
theorem lw_r1 : ∀ q ∈ lw_privs_1, lw_okq q := List.forall_mem_cons.mpr ⟨lw_p0, List.forall_mem_cons.mpr ⟨lw_p1, List.forall_mem_cons.mpr ⟨lw_p2, List.forall_mem_cons.mpr ⟨lw_p3, List.forall_mem_cons.mpr ⟨lw_p4, List.forall_mem_cons.mpr ⟨lw_p5, List.forall_mem_cons.mpr ⟨lw_p6, List.forall_mem_cons.mpr ⟨lw_p7, List.forall_mem_cons.mpr ⟨lw_p8, List.forall_mem_cons.mpr ⟨lw_p9, List.forall_mem_cons.mpr ⟨lw_p10, List.forall_mem_cons.mpr ⟨lw_p11, List.forall_mem_cons.mpr ⟨lw_p12, List.forall_mem_cons.mpr ⟨lw_p13, List.forall_mem_cons.mpr ⟨lw_p14, List.forall_mem_cons.mpr ⟨lw_p15, fun _ h => absurd h List.not_mem_nil⟩⟩⟩⟩⟩⟩⟩⟩⟩⟩⟩⟩⟩⟩⟩⟩
theorem lw_p16 : lw_okq (⟨"BorrowedStones$State", "couldLend", "(II)Z"⟩, 6) := ⟨⟨by decide +kernel, by decide +kernel⟩, List.mem_of_getElem? (i := 192) (by decide +kernel), List.mem_of_getElem? (i := 814) (by decide +kernel), List.mem_of_getElem? (i := 815) (by decide +kernel)⟩
theorem lw_p17 : lw_okq (⟨"BorrowedStones$State", "howManyDead", "()I"⟩, 6) := ⟨⟨by decide +kernel, by decide +kernel⟩, List.mem_of_getElem? (i := 192) (by decide +kernel), List.mem_of_getElem? (i := 834) (by decide +kernel), List.mem_of_getElem? (i := 835) (by decide +kernel)⟩
theorem lw_p18 : lw_okq (⟨"BorrowedStones$State", "takeName", "(II)V"⟩, 6) := ⟨⟨by decide +kernel, by decide +kernel⟩, List.mem_of_getElem? (i := 192) (by decide +kernel), List.mem_of_getElem? (i := 846) (by decide +kernel), List.mem_of_getElem? (i := 847) (by decide +kernel)⟩
theorem lw_p19 : lw_okq (⟨"BorrowedStones$State", "owes", "(II)V"⟩, 6) := ⟨⟨by decide +kernel, by decide +kernel⟩, List.mem_of_getElem? (i := 192) (by decide +kernel), List.mem_of_getElem? (i := 850) (by decide +kernel), List.mem_of_getElem? (i := 851) (by decide +kernel)⟩
theorem lw_p20 : lw_okq (⟨"BorrowedStones", "needPerson", "(I)V"⟩, 19) := ⟨⟨by decide +kernel, by decide +kernel⟩, List.mem_of_getElem? (i := 26) (by decide +kernel), List.mem_of_getElem? (i := 945) (by decide +kernel), List.mem_of_getElem? (i := 946) (by decide +kernel)⟩
theorem lw_p21 : lw_okq (⟨"BorrowedStones", "areTold", "(I)Z"⟩, 19) := ⟨⟨by decide +kernel, by decide +kernel⟩, List.mem_of_getElem? (i := 26) (by decide +kernel), List.mem_of_getElem? (i := 1049) (by decide +kernel), List.mem_of_getElem? (i := 1050) (by decide +kernel)⟩
theorem lw_p22 : lw_okq (⟨"BorrowedStones$Ways", "takeOffers", "(LBorrowedStones$State;II)V"⟩, 8) := ⟨⟨by decide +kernel, by decide +kernel⟩, List.mem_of_getElem? (i := 276) (by decide +kernel), List.mem_of_getElem? (i := 1063) (by decide +kernel), List.mem_of_getElem? (i := 1064) (by decide +kernel)⟩
theorem lw_p23 : lw_okq (⟨"BorrowedStones$Ways", "give", "(III)V"⟩, 8) := ⟨⟨by decide +kernel, by decide +kernel⟩, List.mem_of_getElem? (i := 276) (by decide +kernel), List.mem_of_getElem? (i := 1070) (by decide +kernel), List.mem_of_getElem? (i := 1071) (by decide +kernel)⟩
theorem lw_p24 : lw_okq (⟨"BorrowedStones$Ways", "keepIfBetter", "(II)V"⟩, 8) := ⟨⟨by decide +kernel, by decide +kernel⟩, List.mem_of_getElem? (i := 276) (by decide +kernel), List.mem_of_getElem? (i := 1074) (by decide +kernel), List.mem_of_getElem? (i := 1075) (by decide +kernel)⟩
theorem lw_p25 : lw_okq (⟨"BorrowedStones", "needOrders", "(II)V"⟩, 19) := ⟨⟨by decide +kernel, by decide +kernel⟩, List.mem_of_getElem? (i := 26) (by decide +kernel), List.mem_of_getElem? (i := 1097) (by decide +kernel), List.mem_of_getElem? (i := 1098) (by decide +kernel)⟩
theorem lw_p26 : lw_okq (⟨"BorrowedStones", "tryOrders", "()V"⟩, 19) := ⟨⟨by decide +kernel, by decide +kernel⟩, List.mem_of_getElem? (i := 26) (by decide +kernel), List.mem_of_getElem? (i := 1113) (by decide +kernel), List.mem_of_getElem? (i := 1114) (by decide +kernel)⟩
theorem lw_p27 : lw_okq (⟨"BorrowedStones$Orders", "countStones", "(LBorrowedStones$State;)V"⟩, 7) := ⟨⟨by decide +kernel, by decide +kernel⟩, List.mem_of_getElem? (i := 242) (by decide +kernel), List.mem_of_getElem? (i := 1137) (by decide +kernel), List.mem_of_getElem? (i := 1138) (by decide +kernel)⟩
theorem lw_p28 : lw_okq (⟨"BorrowedStones$Orders", "swap", "(II)V"⟩, 7) := ⟨⟨by decide +kernel, by decide +kernel⟩, List.mem_of_getElem? (i := 242) (by decide +kernel), List.mem_of_getElem? (i := 1146) (by decide +kernel), List.mem_of_getElem? (i := 1147) (by decide +kernel)⟩
theorem lw_p29 : lw_okq (⟨"BorrowedStones", "weighNames", "(II)V"⟩, 19) := ⟨⟨by decide +kernel, by decide +kernel⟩, List.mem_of_getElem? (i := 26) (by decide +kernel), List.mem_of_getElem? (i := 1188) (by decide +kernel), List.mem_of_getElem? (i := 1189) (by decide +kernel)⟩
theorem lw_p30 : lw_okq (⟨"BorrowedStones", "passCentury", "(III)V"⟩, 19) := ⟨⟨by decide +kernel, by decide +kernel⟩, List.mem_of_getElem? (i := 26) (by decide +kernel), List.mem_of_getElem? (i := 1269) (by decide +kernel), List.mem_of_getElem? (i := 1270) (by decide +kernel)⟩
theorem lw_p31 : lw_okq (⟨"BorrowedStones", "drawn", "(I)I"⟩, 19) := ⟨⟨by decide +kernel, by decide +kernel⟩, List.mem_of_getElem? (i := 26) (by decide +kernel), List.mem_of_getElem? (i := 1273) (by decide +kernel), List.mem_of_getElem? (i := 1274) (by decide +kernel)⟩
def lw_privs_2 : List (MethodName × Nat) := [(⟨"BorrowedStones$State", "couldLend", "(II)Z"⟩, 6), (⟨"BorrowedStones$State", "howManyDead", "()I"⟩, 6), (⟨"BorrowedStones$State", "takeName", "(II)V"⟩, 6), (⟨"BorrowedStones$State", "owes", "(II)V"⟩, 6), (⟨"BorrowedStones", "needPerson", "(I)V"⟩, 19), (⟨"BorrowedStones", "areTold", "(I)Z"⟩, 19), (⟨"BorrowedStones$Ways", "takeOffers", "(LBorrowedStones$State;II)V"⟩, 8), (⟨"BorrowedStones$Ways", "give", "(III)V"⟩, 8), (⟨"BorrowedStones$Ways", "keepIfBetter", "(II)V"⟩, 8), (⟨"BorrowedStones", "needOrders", "(II)V"⟩, 19), (⟨"BorrowedStones", "tryOrders", "()V"⟩, 19), (⟨"BorrowedStones$Orders", "countStones", "(LBorrowedStones$State;)V"⟩, 7), (⟨"BorrowedStones$Orders", "swap", "(II)V"⟩, 7), (⟨"BorrowedStones", "weighNames", "(II)V"⟩, 19), (⟨"BorrowedStones", "passCentury", "(III)V"⟩, 19), (⟨"BorrowedStones", "drawn", "(I)I"⟩, 19)]
theorem lw_r2 : ∀ q ∈ lw_privs_2, lw_okq q := List.forall_mem_cons.mpr ⟨lw_p16, List.forall_mem_cons.mpr ⟨lw_p17, List.forall_mem_cons.mpr ⟨lw_p18, List.forall_mem_cons.mpr ⟨lw_p19, List.forall_mem_cons.mpr ⟨lw_p20, List.forall_mem_cons.mpr ⟨lw_p21, List.forall_mem_cons.mpr ⟨lw_p22, List.forall_mem_cons.mpr ⟨lw_p23, List.forall_mem_cons.mpr ⟨lw_p24, List.forall_mem_cons.mpr ⟨lw_p25, List.forall_mem_cons.mpr ⟨lw_p26, List.forall_mem_cons.mpr ⟨lw_p27, List.forall_mem_cons.mpr ⟨lw_p28, List.forall_mem_cons.mpr ⟨lw_p29, List.forall_mem_cons.mpr ⟨lw_p30, List.forall_mem_cons.mpr ⟨lw_p31, fun _ h => absurd h List.not_mem_nil⟩⟩⟩⟩⟩⟩⟩⟩⟩⟩⟩⟩⟩⟩⟩⟩
theorem lw_p32 : lw_okq (⟨"BorrowedStonesModel", "tellsNothing", "()V"⟩, 48) := ⟨⟨by decide +kernel, by decide +kernel⟩, List.mem_of_getElem? (i := 1286) (by decide +kernel), List.mem_of_getElem? (i := 1294) (by decide +kernel), List.mem_of_getElem? (i := 1295) (by decide +kernel)⟩
theorem lw_p33 : lw_okq (⟨"BorrowedStonesModel", "beginsAnew", "()V"⟩, 48) := ⟨⟨by decide +kernel, by decide +kernel⟩, List.mem_of_getElem? (i := 1286) (by decide +kernel), List.mem_of_getElem? (i := 1298) (by decide +kernel), List.mem_of_getElem? (i := 1299) (by decide +kernel)⟩
theorem lw_p34 : lw_okq (⟨"BorrowedStonesModel", "bad", "(ZII)Z"⟩, 48) := ⟨⟨by decide +kernel, by decide +kernel⟩, List.mem_of_getElem? (i := 1286) (by decide +kernel), List.mem_of_getElem? (i := 1465) (by decide +kernel), List.mem_of_getElem? (i := 1466) (by decide +kernel)⟩
theorem lw_p35 : lw_okq (⟨"BorrowedStonesModel", "starts", "(I)V"⟩, 48) := ⟨⟨by decide +kernel, by decide +kernel⟩, List.mem_of_getElem? (i := 1286) (by decide +kernel), List.mem_of_getElem? (i := 1469) (by decide +kernel), List.mem_of_getElem? (i := 1470) (by decide +kernel)⟩
theorem lw_p36 : lw_okq (⟨"BorrowedStonesModel", "blanks", "()V"⟩, 48) := ⟨⟨by decide +kernel, by decide +kernel⟩, List.mem_of_getElem? (i := 1286) (by decide +kernel), List.mem_of_getElem? (i := 1473) (by decide +kernel), List.mem_of_getElem? (i := 1474) (by decide +kernel)⟩
theorem lw_p37 : lw_okq (⟨"BorrowedStonesModel", "byteAt", "(I)I"⟩, 48) := ⟨⟨by decide +kernel, by decide +kernel⟩, List.mem_of_getElem? (i := 1286) (by decide +kernel), List.mem_of_getElem? (i := 1477) (by decide +kernel), List.mem_of_getElem? (i := 1478) (by decide +kernel)⟩
theorem lw_p38 : lw_okq (⟨"BorrowedStonesModel", "clause", "()V"⟩, 48) := ⟨⟨by decide +kernel, by decide +kernel⟩, List.mem_of_getElem? (i := 1286) (by decide +kernel), List.mem_of_getElem? (i := 1481) (by decide +kernel), List.mem_of_getElem? (i := 1482) (by decide +kernel)⟩
theorem lw_p39 : lw_okq (⟨"BorrowedStonesModel", "kindHere", "()I"⟩, 48) := ⟨⟨by decide +kernel, by decide +kernel⟩, List.mem_of_getElem? (i := 1286) (by decide +kernel), List.mem_of_getElem? (i := 1485) (by decide +kernel), List.mem_of_getElem? (i := 1486) (by decide +kernel)⟩
theorem lw_p40 : lw_okq (⟨"BorrowedStonesModel", "isWord", "(IIIIII)Z"⟩, 48) := ⟨⟨by decide +kernel, by decide +kernel⟩, List.mem_of_getElem? (i := 1286) (by decide +kernel), List.mem_of_getElem? (i := 1489) (by decide +kernel), List.mem_of_getElem? (i := 1490) (by decide +kernel)⟩
theorem lw_p41 : lw_okq (⟨"BorrowedStonesModel", "wordHere", "()I"⟩, 48) := ⟨⟨by decide +kernel, by decide +kernel⟩, List.mem_of_getElem? (i := 1286) (by decide +kernel), List.mem_of_getElem? (i := 1493) (by decide +kernel), List.mem_of_getElem? (i := 1494) (by decide +kernel)⟩
theorem lw_p42 : lw_okq (⟨"BorrowedStonesModel", "wrong", "(II)V"⟩, 48) := ⟨⟨by decide +kernel, by decide +kernel⟩, List.mem_of_getElem? (i := 1286) (by decide +kernel), List.mem_of_getElem? (i := 1503) (by decide +kernel), List.mem_of_getElem? (i := 1504) (by decide +kernel)⟩
theorem lw_p43 : lw_okq (⟨"BorrowedStonesModel", "skipWord", "()V"⟩, 48) := ⟨⟨by decide +kernel, by decide +kernel⟩, List.mem_of_getElem? (i := 1286) (by decide +kernel), List.mem_of_getElem? (i := 1507) (by decide +kernel), List.mem_of_getElem? (i := 1508) (by decide +kernel)⟩
theorem lw_p44 : lw_okq (⟨"BorrowedStonesModel", "number", "(II)I"⟩, 48) := ⟨⟨by decide +kernel, by decide +kernel⟩, List.mem_of_getElem? (i := 1286) (by decide +kernel), List.mem_of_getElem? (i := 1511) (by decide +kernel), List.mem_of_getElem? (i := 1512) (by decide +kernel)⟩
theorem lw_p45 : lw_okq (⟨"BorrowedStonesModel", "friends", "()V"⟩, 48) := ⟨⟨by decide +kernel, by decide +kernel⟩, List.mem_of_getElem? (i := 1286) (by decide +kernel), List.mem_of_getElem? (i := 1519) (by decide +kernel), List.mem_of_getElem? (i := 1520) (by decide +kernel)⟩
theorem lw_p46 : lw_okq (⟨"BorrowedStonesModel", "sign", "(I)V"⟩, 48) := ⟨⟨by decide +kernel, by decide +kernel⟩, List.mem_of_getElem? (i := 1286) (by decide +kernel), List.mem_of_getElem? (i := 1523) (by decide +kernel), List.mem_of_getElem? (i := 1524) (by decide +kernel)⟩
theorem lw_p47 : lw_okq (⟨"BorrowedStonesModel", "ends", "()I"⟩, 48) := ⟨⟨by decide +kernel, by decide +kernel⟩, List.mem_of_getElem? (i := 1286) (by decide +kernel), List.mem_of_getElem? (i := 1527) (by decide +kernel), List.mem_of_getElem? (i := 1528) (by decide +kernel)⟩
def lw_privs_3 : List (MethodName × Nat) := [(⟨"BorrowedStonesModel", "tellsNothing", "()V"⟩, 48), (⟨"BorrowedStonesModel", "beginsAnew", "()V"⟩, 48), (⟨"BorrowedStonesModel", "bad", "(ZII)Z"⟩, 48), (⟨"BorrowedStonesModel", "starts", "(I)V"⟩, 48), (⟨"BorrowedStonesModel", "blanks", "()V"⟩, 48), (⟨"BorrowedStonesModel", "byteAt", "(I)I"⟩, 48), (⟨"BorrowedStonesModel", "clause", "()V"⟩, 48), (⟨"BorrowedStonesModel", "kindHere", "()I"⟩, 48), (⟨"BorrowedStonesModel", "isWord", "(IIIIII)Z"⟩, 48), (⟨"BorrowedStonesModel", "wordHere", "()I"⟩, 48), (⟨"BorrowedStonesModel", "wrong", "(II)V"⟩, 48), (⟨"BorrowedStonesModel", "skipWord", "()V"⟩, 48), (⟨"BorrowedStonesModel", "number", "(II)I"⟩, 48), (⟨"BorrowedStonesModel", "friends", "()V"⟩, 48), (⟨"BorrowedStonesModel", "sign", "(I)V"⟩, 48), (⟨"BorrowedStonesModel", "ends", "()I"⟩, 48)]
theorem lw_r3 : ∀ q ∈ lw_privs_3, lw_okq q := List.forall_mem_cons.mpr ⟨lw_p32, List.forall_mem_cons.mpr ⟨lw_p33, List.forall_mem_cons.mpr ⟨lw_p34, List.forall_mem_cons.mpr ⟨lw_p35, List.forall_mem_cons.mpr ⟨lw_p36, List.forall_mem_cons.mpr ⟨lw_p37, List.forall_mem_cons.mpr ⟨lw_p38, List.forall_mem_cons.mpr ⟨lw_p39, List.forall_mem_cons.mpr ⟨lw_p40, List.forall_mem_cons.mpr ⟨lw_p41, List.forall_mem_cons.mpr ⟨lw_p42, List.forall_mem_cons.mpr ⟨lw_p43, List.forall_mem_cons.mpr ⟨lw_p44, List.forall_mem_cons.mpr ⟨lw_p45, List.forall_mem_cons.mpr ⟨lw_p46, List.forall_mem_cons.mpr ⟨lw_p47, fun _ h => absurd h List.not_mem_nil⟩⟩⟩⟩⟩⟩⟩⟩⟩⟩⟩⟩⟩⟩⟩⟩
theorem lw_p48 : lw_okq (⟨"BorrowedStonesModel", "sum", "()V"⟩, 48) := ⟨⟨by decide +kernel, by decide +kernel⟩, List.mem_of_getElem? (i := 1286) (by decide +kernel), List.mem_of_getElem? (i := 1535) (by decide +kernel), List.mem_of_getElem? (i := 1536) (by decide +kernel)⟩
theorem lw_p49 : lw_okq (⟨"BorrowedStonesModel", "product", "()V"⟩, 48) := ⟨⟨by decide +kernel, by decide +kernel⟩, List.mem_of_getElem? (i := 1286) (by decide +kernel), List.mem_of_getElem? (i := 1539) (by decide +kernel), List.mem_of_getElem? (i := 1540) (by decide +kernel)⟩
theorem lw_p50 : lw_okq (⟨"BorrowedStonesModel", "one", "()V"⟩, 48) := ⟨⟨by decide +kernel, by decide +kernel⟩, List.mem_of_getElem? (i := 1286) (by decide +kernel), List.mem_of_getElem? (i := 1543) (by decide +kernel), List.mem_of_getElem? (i := 1544) (by decide +kernel)⟩
theorem lw_p51 : lw_okq (⟨"BorrowedStonesModel", "opensOne", "()Z"⟩, 48) := ⟨⟨by decide +kernel, by decide +kernel⟩, List.mem_of_getElem? (i := 1286) (by decide +kernel), List.mem_of_getElem? (i := 1547) (by decide +kernel), List.mem_of_getElem? (i := 1548) (by decide +kernel)⟩
theorem lw_p52 : lw_okq (⟨"BorrowedStonesModel", "notes", "(II)V"⟩, 48) := ⟨⟨by decide +kernel, by decide +kernel⟩, List.mem_of_getElem? (i := 1286) (by decide +kernel), List.mem_of_getElem? (i := 1551) (by decide +kernel), List.mem_of_getElem? (i := 1552) (by decide +kernel)⟩
theorem lw_p53 : lw_okq (⟨"BorrowedStonesModel", "knownHere", "()I"⟩, 48) := ⟨⟨by decide +kernel, by decide +kernel⟩, List.mem_of_getElem? (i := 1286) (by decide +kernel), List.mem_of_getElem? (i := 1555) (by decide +kernel), List.mem_of_getElem? (i := 1556) (by decide +kernel)⟩
theorem lw_p54 : lw_okq (⟨"BorrowedStonesModel", "takes", "(IIIIII)Z"⟩, 48) := ⟨⟨by decide +kernel, by decide +kernel⟩, List.mem_of_getElem? (i := 1286) (by decide +kernel), List.mem_of_getElem? (i := 1559) (by decide +kernel), List.mem_of_getElem? (i := 1560) (by decide +kernel)⟩
theorem lw_p55 : lw_okq (⟨"BorrowedStonesModel", "takesSign", "(I)Z"⟩, 48) := ⟨⟨by decide +kernel, by decide +kernel⟩, List.mem_of_getElem? (i := 1286) (by decide +kernel), List.mem_of_getElem? (i := 1563) (by decide +kernel), List.mem_of_getElem? (i := 1564) (by decide +kernel)⟩
theorem lw_p56 : lw_okq (⟨"BorrowedStonesModel", "readsStep", "()V"⟩, 48) := ⟨⟨by decide +kernel, by decide +kernel⟩, List.mem_of_getElem? (i := 1286) (by decide +kernel), List.mem_of_getElem? (i := 1582) (by decide +kernel), List.mem_of_getElem? (i := 1583) (by decide +kernel)⟩
theorem lw_p57 : lw_okq (⟨"BorrowedStonesModel", "stepHere", "()I"⟩, 48) := ⟨⟨by decide +kernel, by decide +kernel⟩, List.mem_of_getElem? (i := 1286) (by decide +kernel), List.mem_of_getElem? (i := 1586) (by decide +kernel), List.mem_of_getElem? (i := 1587) (by decide +kernel)⟩
theorem lw_p58 : lw_okq (⟨"BorrowedStonesModel", "goes", "(II)V"⟩, 48) := ⟨⟨by decide +kernel, by decide +kernel⟩, List.mem_of_getElem? (i := 1286) (by decide +kernel), List.mem_of_getElem? (i := 1593) (by decide +kernel), List.mem_of_getElem? (i := 1594) (by decide +kernel)⟩
theorem lw_p59 : lw_okq (⟨"BorrowedStonesModel", "does", "([I[I)Z"⟩, 48) := ⟨⟨by decide +kernel, by decide +kernel⟩, List.mem_of_getElem? (i := 1286) (by decide +kernel), List.mem_of_getElem? (i := 1597) (by decide +kernel), List.mem_of_getElem? (i := 1598) (by decide +kernel)⟩
theorem lw_p60 : lw_okq (⟨"BorrowedStonesModel", "dies", "([II)Z"⟩, 48) := ⟨⟨by decide +kernel, by decide +kernel⟩, List.mem_of_getElem? (i := 1286) (by decide +kernel), List.mem_of_getElem? (i := 1601) (by decide +kernel), List.mem_of_getElem? (i := 1602) (by decide +kernel)⟩
theorem lw_p61 : lw_okq (⟨"BorrowedStonesModel", "lenderOf", "([II)I"⟩, 48) := ⟨⟨by decide +kernel, by decide +kernel⟩, List.mem_of_getElem? (i := 1286) (by decide +kernel), List.mem_of_getElem? (i := 1605) (by decide +kernel), List.mem_of_getElem? (i := 1606) (by decide +kernel)⟩
theorem lw_p62 : lw_okq (⟨"BorrowedStonesModel", "isLent", "([III)Z"⟩, 48) := ⟨⟨by decide +kernel, by decide +kernel⟩, List.mem_of_getElem? (i := 1286) (by decide +kernel), List.mem_of_getElem? (i := 1609) (by decide +kernel), List.mem_of_getElem? (i := 1610) (by decide +kernel)⟩
theorem lw_p63 : lw_okq (⟨"BorrowedStonesModel", "stones", "([II)I"⟩, 48) := ⟨⟨by decide +kernel, by decide +kernel⟩, List.mem_of_getElem? (i := 1286) (by decide +kernel), List.mem_of_getElem? (i := 1613) (by decide +kernel), List.mem_of_getElem? (i := 1614) (by decide +kernel)⟩
def lw_privs_4 : List (MethodName × Nat) := [(⟨"BorrowedStonesModel", "sum", "()V"⟩, 48), (⟨"BorrowedStonesModel", "product", "()V"⟩, 48), (⟨"BorrowedStonesModel", "one", "()V"⟩, 48), (⟨"BorrowedStonesModel", "opensOne", "()Z"⟩, 48), (⟨"BorrowedStonesModel", "notes", "(II)V"⟩, 48), (⟨"BorrowedStonesModel", "knownHere", "()I"⟩, 48), (⟨"BorrowedStonesModel", "takes", "(IIIIII)Z"⟩, 48), (⟨"BorrowedStonesModel", "takesSign", "(I)Z"⟩, 48), (⟨"BorrowedStonesModel", "readsStep", "()V"⟩, 48), (⟨"BorrowedStonesModel", "stepHere", "()I"⟩, 48), (⟨"BorrowedStonesModel", "goes", "(II)V"⟩, 48), (⟨"BorrowedStonesModel", "does", "([I[I)Z"⟩, 48), (⟨"BorrowedStonesModel", "dies", "([II)Z"⟩, 48), (⟨"BorrowedStonesModel", "lenderOf", "([II)I"⟩, 48), (⟨"BorrowedStonesModel", "isLent", "([III)Z"⟩, 48), (⟨"BorrowedStonesModel", "stones", "([II)I"⟩, 48)]
theorem lw_r4 : ∀ q ∈ lw_privs_4, lw_okq q := List.forall_mem_cons.mpr ⟨lw_p48, List.forall_mem_cons.mpr ⟨lw_p49, List.forall_mem_cons.mpr ⟨lw_p50, List.forall_mem_cons.mpr ⟨lw_p51, List.forall_mem_cons.mpr ⟨lw_p52, List.forall_mem_cons.mpr ⟨lw_p53, List.forall_mem_cons.mpr ⟨lw_p54, List.forall_mem_cons.mpr ⟨lw_p55, List.forall_mem_cons.mpr ⟨lw_p56, List.forall_mem_cons.mpr ⟨lw_p57, List.forall_mem_cons.mpr ⟨lw_p58, List.forall_mem_cons.mpr ⟨lw_p59, List.forall_mem_cons.mpr ⟨lw_p60, List.forall_mem_cons.mpr ⟨lw_p61, List.forall_mem_cons.mpr ⟨lw_p62, List.forall_mem_cons.mpr ⟨lw_p63, fun _ h => absurd h List.not_mem_nil⟩⟩⟩⟩⟩⟩⟩⟩⟩⟩⟩⟩⟩⟩⟩⟩
theorem lw_p64 : lw_okq (⟨"BorrowedStonesModel", "stonesOf", "([II)I"⟩, 48) := ⟨⟨by decide +kernel, by decide +kernel⟩, List.mem_of_getElem? (i := 1286) (by decide +kernel), List.mem_of_getElem? (i := 1617) (by decide +kernel), List.mem_of_getElem? (i := 1618) (by decide +kernel)⟩
theorem lw_p65 : lw_okq (⟨"BorrowedStonesModel", "willOf", "([III)I"⟩, 48) := ⟨⟨by decide +kernel, by decide +kernel⟩, List.mem_of_getElem? (i := 1286) (by decide +kernel), List.mem_of_getElem? (i := 1624) (by decide +kernel), List.mem_of_getElem? (i := 1625) (by decide +kernel)⟩
theorem lw_p66 : lw_okq (⟨"BorrowedStonesModel", "willBy", "(IIIIIIII)I"⟩, 48) := ⟨⟨by decide +kernel, by decide +kernel⟩, List.mem_of_getElem? (i := 1286) (by decide +kernel), List.mem_of_getElem? (i := 1628) (by decide +kernel), List.mem_of_getElem? (i := 1629) (by decide +kernel)⟩
theorem lw_p67 : lw_okq (⟨"BorrowedStonesModel", "byLaw", "()I"⟩, 48) := ⟨⟨by decide +kernel, by decide +kernel⟩, List.mem_of_getElem? (i := 1286) (by decide +kernel), List.mem_of_getElem? (i := 1632) (by decide +kernel), List.mem_of_getElem? (i := 1633) (by decide +kernel)⟩
theorem lw_p68 : lw_okq (⟨"BorrowedStonesModel", "lendsLate", "([III)Z"⟩, 48) := ⟨⟨by decide +kernel, by decide +kernel⟩, List.mem_of_getElem? (i := 1286) (by decide +kernel), List.mem_of_getElem? (i := 1648) (by decide +kernel), List.mem_of_getElem? (i := 1649) (by decide +kernel)⟩
theorem lw_p69 : lw_okq (⟨"BorrowedStonesModel", "yearEnds", "([I)V"⟩, 48) := ⟨⟨by decide +kernel, by decide +kernel⟩, List.mem_of_getElem? (i := 1286) (by decide +kernel), List.mem_of_getElem? (i := 1655) (by decide +kernel), List.mem_of_getElem? (i := 1656) (by decide +kernel)⟩
theorem lw_p70 : lw_okq (⟨"BorrowedStonesModel", "lenderIf", "([II)I"⟩, 48) := ⟨⟨by decide +kernel, by decide +kernel⟩, List.mem_of_getElem? (i := 1286) (by decide +kernel), List.mem_of_getElem? (i := 1667) (by decide +kernel), List.mem_of_getElem? (i := 1668) (by decide +kernel)⟩
theorem lw_p71 : lw_okq (⟨"BorrowedStonesModel", "nameless", "([I)I"⟩, 48) := ⟨⟨by decide +kernel, by decide +kernel⟩, List.mem_of_getElem? (i := 1286) (by decide +kernel), List.mem_of_getElem? (i := 1671) (by decide +kernel), List.mem_of_getElem? (i := 1672) (by decide +kernel)⟩
theorem lw_p72 : lw_okq (⟨"BorrowedStonesModel", "debts", "([IZ)I"⟩, 48) := ⟨⟨by decide +kernel, by decide +kernel⟩, List.mem_of_getElem? (i := 1286) (by decide +kernel), List.mem_of_getElem? (i := 1675) (by decide +kernel), List.mem_of_getElem? (i := 1676) (by decide +kernel)⟩
theorem lw_p73 : lw_okq (⟨"BorrowedStonesModel", "longest", "([I)I"⟩, 48) := ⟨⟨by decide +kernel, by decide +kernel⟩, List.mem_of_getElem? (i := 1286) (by decide +kernel), List.mem_of_getElem? (i := 1679) (by decide +kernel), List.mem_of_getElem? (i := 1680) (by decide +kernel)⟩
theorem lw_p74 : lw_okq (⟨"BorrowedStonesModel", "isPerson", "(I)Z"⟩, 48) := ⟨⟨by decide +kernel, by decide +kernel⟩, List.mem_of_getElem? (i := 1286) (by decide +kernel), List.mem_of_getElem? (i := 1690) (by decide +kernel), List.mem_of_getElem? (i := 1691) (by decide +kernel)⟩
theorem lw_p75 : lw_okq (⟨"BorrowedStonesModel", "deepest", "([I)I"⟩, 48) := ⟨⟨by decide +kernel, by decide +kernel⟩, List.mem_of_getElem? (i := 1286) (by decide +kernel), List.mem_of_getElem? (i := 1714) (by decide +kernel), List.mem_of_getElem? (i := 1715) (by decide +kernel)⟩
theorem lw_p76 : lw_okq (⟨"BorrowedStonesModel", "everybody", "()I"⟩, 48) := ⟨⟨by decide +kernel, by decide +kernel⟩, List.mem_of_getElem? (i := 1286) (by decide +kernel), List.mem_of_getElem? (i := 1730) (by decide +kernel), List.mem_of_getElem? (i := 1731) (by decide +kernel)⟩
theorem lw_p77 : lw_okq (⟨"BorrowedStonesModel", "laysGifts", "(I)V"⟩, 48) := ⟨⟨by decide +kernel, by decide +kernel⟩, List.mem_of_getElem? (i := 1286) (by decide +kernel), List.mem_of_getElem? (i := 1734) (by decide +kernel), List.mem_of_getElem? (i := 1735) (by decide +kernel)⟩
theorem lw_p78 : lw_okq (⟨"BorrowedStonesModel", "serves", "(IIII)V"⟩, 48) := ⟨⟨by decide +kernel, by decide +kernel⟩, List.mem_of_getElem? (i := 1286) (by decide +kernel), List.mem_of_getElem? (i := 1738) (by decide +kernel), List.mem_of_getElem? (i := 1739) (by decide +kernel)⟩
theorem lw_p79 : lw_okq (⟨"BorrowedStonesModel", "isOrder", "(I)Z"⟩, 48) := ⟨⟨by decide +kernel, by decide +kernel⟩, List.mem_of_getElem? (i := 1286) (by decide +kernel), List.mem_of_getElem? (i := 1750) (by decide +kernel), List.mem_of_getElem? (i := 1751) (by decide +kernel)⟩
def lw_privs_5 : List (MethodName × Nat) := [(⟨"BorrowedStonesModel", "stonesOf", "([II)I"⟩, 48), (⟨"BorrowedStonesModel", "willOf", "([III)I"⟩, 48), (⟨"BorrowedStonesModel", "willBy", "(IIIIIIII)I"⟩, 48), (⟨"BorrowedStonesModel", "byLaw", "()I"⟩, 48), (⟨"BorrowedStonesModel", "lendsLate", "([III)Z"⟩, 48), (⟨"BorrowedStonesModel", "yearEnds", "([I)V"⟩, 48), (⟨"BorrowedStonesModel", "lenderIf", "([II)I"⟩, 48), (⟨"BorrowedStonesModel", "nameless", "([I)I"⟩, 48), (⟨"BorrowedStonesModel", "debts", "([IZ)I"⟩, 48), (⟨"BorrowedStonesModel", "longest", "([I)I"⟩, 48), (⟨"BorrowedStonesModel", "isPerson", "(I)Z"⟩, 48), (⟨"BorrowedStonesModel", "deepest", "([I)I"⟩, 48), (⟨"BorrowedStonesModel", "everybody", "()I"⟩, 48), (⟨"BorrowedStonesModel", "laysGifts", "(I)V"⟩, 48), (⟨"BorrowedStonesModel", "serves", "(IIII)V"⟩, 48), (⟨"BorrowedStonesModel", "isOrder", "(I)Z"⟩, 48)]
theorem lw_r5 : ∀ q ∈ lw_privs_5, lw_okq q := List.forall_mem_cons.mpr ⟨lw_p64, List.forall_mem_cons.mpr ⟨lw_p65, List.forall_mem_cons.mpr ⟨lw_p66, List.forall_mem_cons.mpr ⟨lw_p67, List.forall_mem_cons.mpr ⟨lw_p68, List.forall_mem_cons.mpr ⟨lw_p69, List.forall_mem_cons.mpr ⟨lw_p70, List.forall_mem_cons.mpr ⟨lw_p71, List.forall_mem_cons.mpr ⟨lw_p72, List.forall_mem_cons.mpr ⟨lw_p73, List.forall_mem_cons.mpr ⟨lw_p74, List.forall_mem_cons.mpr ⟨lw_p75, List.forall_mem_cons.mpr ⟨lw_p76, List.forall_mem_cons.mpr ⟨lw_p77, List.forall_mem_cons.mpr ⟨lw_p78, List.forall_mem_cons.mpr ⟨lw_p79, fun _ h => absurd h List.not_mem_nil⟩⟩⟩⟩⟩⟩⟩⟩⟩⟩⟩⟩⟩⟩⟩⟩
theorem lw_p80 : lw_okq (⟨"BorrowedStonesModel", "firstOrder", "(I)V"⟩, 48) := ⟨⟨by decide +kernel, by decide +kernel⟩, List.mem_of_getElem? (i := 1286) (by decide +kernel), List.mem_of_getElem? (i := 1754) (by decide +kernel), List.mem_of_getElem? (i := 1755) (by decide +kernel)⟩
theorem lw_p81 : lw_okq (⟨"BorrowedStonesModel", "dieSo", "()V"⟩, 48) := ⟨⟨by decide +kernel, by decide +kernel⟩, List.mem_of_getElem? (i := 1286) (by decide +kernel), List.mem_of_getElem? (i := 1758) (by decide +kernel), List.mem_of_getElem? (i := 1759) (by decide +kernel)⟩
theorem lw_p82 : lw_okq (⟨"BorrowedStonesModel", "digits", "()I"⟩, 48) := ⟨⟨by decide +kernel, by decide +kernel⟩, List.mem_of_getElem? (i := 1286) (by decide +kernel), List.mem_of_getElem? (i := 1762) (by decide +kernel), List.mem_of_getElem? (i := 1763) (by decide +kernel)⟩
theorem lw_p83 : lw_okq (⟨"BorrowedStonesModel", "nextOrder", "()Z"⟩, 48) := ⟨⟨by decide +kernel, by decide +kernel⟩, List.mem_of_getElem? (i := 1286) (by decide +kernel), List.mem_of_getElem? (i := 1766) (by decide +kernel), List.mem_of_getElem? (i := 1767) (by decide +kernel)⟩
theorem lw_p84 : lw_okq (⟨"BorrowedStonesModel", "swaps", "(II)V"⟩, 48) := ⟨⟨by decide +kernel, by decide +kernel⟩, List.mem_of_getElem? (i := 1286) (by decide +kernel), List.mem_of_getElem? (i := 1770) (by decide +kernel), List.mem_of_getElem? (i := 1771) (by decide +kernel)⟩
theorem lw_p85 : lw_okq (⟨"BorrowedStonesModel", "isSo", "()Z"⟩, 48) := ⟨⟨by decide +kernel, by decide +kernel⟩, List.mem_of_getElem? (i := 1286) (by decide +kernel), List.mem_of_getElem? (i := 1778) (by decide +kernel), List.mem_of_getElem? (i := 1779) (by decide +kernel)⟩
theorem lw_p86 : lw_okq (⟨"BorrowedStonesModel", "isTold", "(I)Z"⟩, 48) := ⟨⟨by decide +kernel, by decide +kernel⟩, List.mem_of_getElem? (i := 1286) (by decide +kernel), List.mem_of_getElem? (i := 1786) (by decide +kernel), List.mem_of_getElem? (i := 1787) (by decide +kernel)⟩
theorem lw_p87 : lw_okq (⟨"BorrowedStonesModel", "worstAt", "(II)I"⟩, 48) := ⟨⟨by decide +kernel, by decide +kernel⟩, List.mem_of_getElem? (i := 1286) (by decide +kernel), List.mem_of_getElem? (i := 1790) (by decide +kernel), List.mem_of_getElem? (i := 1791) (by decide +kernel)⟩
theorem lw_p88 : lw_okq (⟨"BorrowedStonesModel", "givenBy", "(II)I"⟩, 48) := ⟨⟨by decide +kernel, by decide +kernel⟩, List.mem_of_getElem? (i := 1286) (by decide +kernel), List.mem_of_getElem? (i := 1812) (by decide +kernel), List.mem_of_getElem? (i := 1813) (by decide +kernel)⟩
theorem lw_p89 : lw_okq (⟨"BorrowedStonesModel", "centuryBy", "(III)V"⟩, 48) := ⟨⟨by decide +kernel, by decide +kernel⟩, List.mem_of_getElem? (i := 1286) (by decide +kernel), List.mem_of_getElem? (i := 1859) (by decide +kernel), List.mem_of_getElem? (i := 1860) (by decide +kernel)⟩
theorem lw_p90 : lw_okq (⟨"BorrowedStonesModel", "draw", "(I)I"⟩, 48) := ⟨⟨by decide +kernel, by decide +kernel⟩, List.mem_of_getElem? (i := 1286) (by decide +kernel), List.mem_of_getElem? (i := 1863) (by decide +kernel), List.mem_of_getElem? (i := 1864) (by decide +kernel)⟩
theorem lw_p91 : lw_okq (⟨"BorrowedStonesModel", "putsAll", "([IZ)V"⟩, 48) := ⟨⟨by decide +kernel, by decide +kernel⟩, List.mem_of_getElem? (i := 1286) (by decide +kernel), List.mem_of_getElem? (i := 1876) (by decide +kernel), List.mem_of_getElem? (i := 1877) (by decide +kernel)⟩
theorem lw_p92 : lw_okq (⟨"BorrowedStonesModel", "puts", "([IIZ)I"⟩, 48) := ⟨⟨by decide +kernel, by decide +kernel⟩, List.mem_of_getElem? (i := 1286) (by decide +kernel), List.mem_of_getElem? (i := 1880) (by decide +kernel), List.mem_of_getElem? (i := 1881) (by decide +kernel)⟩
def lw_privs_6 : List (MethodName × Nat) := [(⟨"BorrowedStonesModel", "firstOrder", "(I)V"⟩, 48), (⟨"BorrowedStonesModel", "dieSo", "()V"⟩, 48), (⟨"BorrowedStonesModel", "digits", "()I"⟩, 48), (⟨"BorrowedStonesModel", "nextOrder", "()Z"⟩, 48), (⟨"BorrowedStonesModel", "swaps", "(II)V"⟩, 48), (⟨"BorrowedStonesModel", "isSo", "()Z"⟩, 48), (⟨"BorrowedStonesModel", "isTold", "(I)Z"⟩, 48), (⟨"BorrowedStonesModel", "worstAt", "(II)I"⟩, 48), (⟨"BorrowedStonesModel", "givenBy", "(II)I"⟩, 48), (⟨"BorrowedStonesModel", "centuryBy", "(III)V"⟩, 48), (⟨"BorrowedStonesModel", "draw", "(I)I"⟩, 48), (⟨"BorrowedStonesModel", "putsAll", "([IZ)V"⟩, 48), (⟨"BorrowedStonesModel", "puts", "([IIZ)I"⟩, 48)]
theorem lw_r6 : ∀ q ∈ lw_privs_6, lw_okq q := List.forall_mem_cons.mpr ⟨lw_p80, List.forall_mem_cons.mpr ⟨lw_p81, List.forall_mem_cons.mpr ⟨lw_p82, List.forall_mem_cons.mpr ⟨lw_p83, List.forall_mem_cons.mpr ⟨lw_p84, List.forall_mem_cons.mpr ⟨lw_p85, List.forall_mem_cons.mpr ⟨lw_p86, List.forall_mem_cons.mpr ⟨lw_p87, List.forall_mem_cons.mpr ⟨lw_p88, List.forall_mem_cons.mpr ⟨lw_p89, List.forall_mem_cons.mpr ⟨lw_p90, List.forall_mem_cons.mpr ⟨lw_p91, List.forall_mem_cons.mpr ⟨lw_p92, fun _ h => absurd h List.not_mem_nil⟩⟩⟩⟩⟩⟩⟩⟩⟩⟩⟩⟩⟩
def lw_privs : List (MethodName × Nat) := lw_privs_1 ++ (lw_privs_2 ++ (lw_privs_3 ++ (lw_privs_4 ++ (lw_privs_5 ++ (lw_privs_6)))))
def lw_tbl : List Cond := k2_sels lw_privs ++ tables_1
theorem lw_privs_ok : ∀ q ∈ lw_privs, lw_okq q := by
  show ∀ q ∈ lw_privs_1 ++ (lw_privs_2 ++ (lw_privs_3 ++ (lw_privs_4 ++ (lw_privs_5 ++ (lw_privs_6))))), lw_okq q
  exact List.forall_mem_append.mpr ⟨lw_r1, List.forall_mem_append.mpr ⟨lw_r2, List.forall_mem_append.mpr ⟨lw_r3, List.forall_mem_append.mpr ⟨lw_r4, List.forall_mem_append.mpr ⟨lw_r5, lw_r6⟩⟩⟩⟩⟩
-- ===== end of PART A; then your names; then what follows =====
end
section
/-! ===== BEGIN words of one list among another's, by their places ===== -/
theorem goodIn_r {big : List Cond} (ws : List Cond) (ps : List Nat) (hp : ws = ps.filterMap (fun i => big[i]?)) (h : ws.all goodWord = true) : GoodIn big ws := by
  intro w hw
  have h1 := List.all_eq_true.mp h w hw
  rw [hp] at hw
  obtain ⟨i, -, hi⟩ := List.mem_filterMap.mp hw
  have hm : w ∈ big := by first | exact List.mem_of_getElem? hi | exact List.getElem?_mem hi
  exact ⟨hm, good_of_word h1⟩
theorem goodIn_app {big a b : List Cond} (ha : GoodIn big a) (hb : GoodIn big b) : GoodIn big (a ++ b) := fun w h => (List.mem_append.mp h).elim (ha w) (hb w)
theorem goodIn_ca {big a b : List Cond} {c : Cond} (ha : GoodIn big (c :: a)) (hb : GoodIn big b) : GoodIn big (c :: (a ++ b)) := fun w h => (List.mem_cons.mp h).elim (fun e => ha w (List.mem_cons.mpr (Or.inl e))) (fun h => (List.mem_append.mp h).elim (fun h => ha w (List.mem_cons.mpr (Or.inr h))) (hb w))
theorem goodIn_sub {big ws : List Cond} (hm : ∀ w ∈ ws, w ∈ big) (h : ws.all goodWord = true) : GoodIn big ws := fun w hw => ⟨hm w hw, good_of_word (List.all_eq_true.mp h w hw)⟩
/-! ===== END ===== -/

/-! ===== BEGIN new T[n][m]: the outer array a place, the inner ones among the pooled ===== -/
/-- f, but v at every address of l -/
def vr_up {α : Type} (f : Nat → α) (l : List Nat) (v : α) : Nat → α := fun a => if a ∈ l then v else f a
theorem vr_up_in {α : Type} {f : Nat → α} {l : List Nat} {v : α} {a : Nat} (h : a ∈ l) : vr_up f l v a = v := if_pos h
theorem vr_up_ne {α : Type} {f : Nat → α} {l : List Nat} {v : α} {a : Nat} (h : a ∉ l) : vr_up f l v a = f a := if_neg h
theorem vr_rows {L l : List Nat} {f : Nat → va_E} {e : va_E} (h : ∀ a, a ∈ l → a ∉ L) : va_pl L f ++ l.map (fun a => (a, e)) = va_pl (L ++ l) (vr_up f l e) := by
  unfold va_pl
  rw [List.map_append]
  congr 1
  · apply List.map_congr_left
    intro a ha
    rw [vr_up_ne (fun q => h a q ha)]
  · apply List.map_congr_left
    intro a ha
    rw [vr_up_in ha]
theorem vr_lay {X rows : va_W} {x : Nat × va_E} {pl : va_W} {D : va_G} {cl : List vw_C} {H : Heap} (hP : va_P D cl (((X ++ pl) ++ [x]) ++ rows) H) : va_P D cl ((X ++ [x]) ++ (pl ++ rows)) H := by
  rw [List.append_assoc (X ++ pl)] at hP
  have h := va_P.swap hP
  rw [← List.append_assoc X] at h
  have h2 := va_P.swap h
  rw [List.append_assoc (X ++ [x])] at h2
  exact h2
theorem vr_layD {X rows : va_W} {x : Nat × va_E} {pl : va_W} {A : Nat → Prop} (hD : va_D A (((X ++ pl) ++ [x]) ++ rows)) : va_D A ((X ++ [x]) ++ (pl ++ rows)) := by
  rw [List.append_assoc (X ++ pl)] at hD
  have h := va_D.swap hD
  rw [← List.append_assoc X] at h
  have h2 := va_D.swap h
  rw [List.append_assoc (X ++ [x])] at h2
  exact h2
theorem vr_outer (c : ClassId) (N h0 : Nat) : ∀ i : Nat, Jvm.Free.Multi.outerC c N h0 i = arrV c N (fun j => va_rf (if j < i then some (h0 + 1 + j) else none))
  | 0 => by
    show ({ cls := c, slots := Array.replicate N .null, vm := .none } : Cell) = _
    rw [arrV_new]
    refine congrArg (arrV c N) (funext fun j => ?_)
    simp [va_rf]
  | i + 1 => by
    show (Jvm.Free.Multi.outerC c N h0 i).setSlot i (.ref (h0 + 1 + i)) = _
    rw [vr_outer c N h0 i, arrV_store]
    refine congrArg (arrV c N) (funext fun j => ?_)
    by_cases e : j = i
    · subst e
      simp [updV, va_rf]
    · by_cases h : j < i
      · simp [updV, e, h, Nat.lt_succ_of_lt h]
      · simp [updV, e, h, show ¬ j < i + 1 by omega]
/-- the tables' word of arrays of arrays (wanting among the printed rows: written here) -/
def va_AOA (ty : FieldType) (U : State) : Prop := (Cond.arrayOver (.array ty)).before #[] U = true
theorem va_AOA.of {ty : FieldType} {A : Array Value} {U : State} (h : (Cond.arrayOver (.array ty)).before A U = true) : va_AOA ty U := h
theorem va_AOA.use {ty : FieldType} {A : Array Value} {U : State} (h : va_AOA ty U) : (Cond.arrayOver (.array ty)).before A U = true := h
section VGM
variable {p : Program} {l : Launch} {e : Env} {R : Room} {s : State} {m : MethodId} {args : Array Value} {below : List Frame} {meth : Method} {c : Code} {H : Heap} {locs : List Loc} {cells slots : Nat} {Q : State → Prop}
variable {cc : ByteArray} {pc : Nat} {ls : Array Slot} {rest : List Value} {D : va_G} {cl : List vw_C} {A : Nat → Prop} {a : Nat} {tys : List (ClassId × FieldType)} {ws : va_W} {H0 : Heap}
theorem va_mna {X : va_W} {L : List Nat} {f : Nat → va_E} {cc : ByteArray} (hexec : p.tables.exec = Jvm.exec) (hb : c.code = cc) {own : String} {index : Nat} {ty : FieldType} {cy : ClassId} (hown : s.vm.findClass own = some m.cls) (hclink : (Cond.classLink own index ("[" ++ (FieldType.array ty).toString)).before args s = true) (hover : va_AOA ty s) (harr : (Cond.arrayClass ty).before args s = true) (hcy : s.vm.findClass (FieldType.array ty).toString = some cy)
    (hK : va_K D cl tys s) (hP : va_P D cl (X ++ va_pl L f) H) (hD : va_D A (X ++ va_pl L f)) (hS : va_S A H0 H locs) (hA : ∀ q, H0.size ≤ q → A q) {n k : Int32} {N' K' : Nat} {z : vp_A} (hn : ¬ n < 0) (hk : ¬ k < 0) (hN : n.toNatClampNeg = N') (hM : k.toNatClampNeg = K')
    (hb1 : N' * 4 ≤ 536870912) (hb2 : K' * componentBytes ty ≤ 536870912) (hb3 : K' ≤ 536870912) (hdf : fits ty (defaultValue ty) = true) (hdd : (defaultValue ty).isDefault = true) (hcells : cells + (1 + N') ≤ R.cells) (hslots : slots + (N' + N' * K') ≤ R.slots) (hz : ∀ c : ClassId, Jvm.Free.Multi.innerC c K' (defaultValue ty) = vp_cell c z) (hdg : decode cc pc = .ok (.multianewarray index 2, 4))
    (kk : ∀ (q : Nat) (r : Nat → Nat) (cA : ClassId) (H1 : Heap), (∀ i j : Nat, i < N' → j < N' → r i = r j → i = j) → (∀ i : Nat, i < N' → r i ∉ L) → va_K D cl (tys ++ [(cA, .array ty)]) s →
      va_P D cl ((X ++ [(q, .inl (cA, N', .inr (.inr (.inr (.inr (fun i => if i < N' then some (r i) else none))))))]) ++ va_pl (L ++ (List.range N').map r) (vr_up f ((List.range N').map r) (.inl (cy, z)))) H1 → va_D A ((X ++ [(q, .inl (cA, N', .inr (.inr (.inr (.inr (fun i => if i < N' then some (r i) else none))))))]) ++ va_pl (L ++ (List.range N').map r) (vr_up f ((List.range N').map r) (.inl (cy, z)))) → va_S A H0 H1 locs →
      W p l e R s m args below meth c H1 locs (cells + 1 + N') (slots + N' + N' * K') Q (F0 m (pc + 4) ls (.ref q :: rest))) : W p l e R s m args below meth c H locs cells slots Q (F0 m pc ls (.int k :: .int n :: rest)) := by
  subst hN
  subst hM
  intro T hT Xs
  obtain ⟨vm₁, cA, comp, -, fA, fC, hO, -, X', step⟩ := Xs.multianewarray2F hexec hown hclink (va_AOA.use hover) harr (g := F0 m pc ls (.int k :: .int n :: rest)) rfl (by rw [hb]; exact hdg) rfl hn hk hb1 hb2 hb3 hdf hdd hcells hslots
  have ec : some cy = some comp := hcy.symm.trans fC
  cases ec
  generalize hF : Jvm.Free.Multi.fill (T.setVm vm₁) cA cy n.toNatClampNeg k.toNatClampNeg (defaultValue ty) n.toNatClampNeg = F at X' step
  have hTh : (T.setVm vm₁).heap = H := hT
  obtain ⟨f1, f2, -, -⟩ := Jvm.Free.Multi.fill_facts (T.setVm vm₁) cA cy n.toNatClampNeg k.toNatClampNeg (defaultValue ty) n.toNatClampNeg
  rw [hF, hTh] at f1 f2
  have hold : ∀ x : Nat, x < H.size → F.heap[x]? = H[x]? := fun x hx => by
    have := Jvm.Free.Multi.fill_old (T.setVm vm₁) cA cy n.toNatClampNeg k.toNatClampNeg (defaultValue ty) (a := x) (by rw [hTh]; exact hx) n.toNatClampNeg
    rw [hF, hTh] at this
    exact this
  have hrow : ∀ j : Nat, j < n.toNatClampNeg → F.heap[H.size + 1 + j]? = some (vp_cell cy z) := fun j hj => by
    have := Jvm.Free.Multi.fill_inner (T.setVm vm₁) cA cy n.toNatClampNeg k.toNatClampNeg (defaultValue ty) n.toNatClampNeg j hj
    rw [hF, hTh, hz] at this
    exact this
  have hout : Jvm.Free.Multi.outerC cA n.toNatClampNeg H.size n.toNatClampNeg = vp_cell cA (n.toNatClampNeg, .inr (.inr (.inr (.inr (fun i => if i < n.toNatClampNeg then some (H.size + 1 + i) else none))))) := by
    rw [vp_cell_q]
    exact vr_outer cA n.toNatClampNeg H.size n.toNatClampNeg
  rw [hout] at f2
  have hlt : ∀ a, a ∈ L → a < H.size := fun a ha => by
    obtain ⟨k9, hk9⟩ := va_pl_get (X := X) (f := f) ha
    exact (hP k9 _ hk9).lt
  have hnl : ∀ i : Nat, i < n.toNatClampNeg → H.size + 1 + i ∉ L := fun i _ h => by
    have := hlt _ h
    omega
  have hnm : ∀ a, a ∈ (List.range n.toNatClampNeg).map (fun i => H.size + 1 + i) → a ∉ L := fun a ha h => by
    obtain ⟨i, -, rfl⟩ := List.mem_map.mp ha
    have := hlt _ h
    omega
  have hP0 : va_P D cl (X ++ va_pl L f) F.heap := hP.kept (fun k9 x hx => hold x.1 ((hP k9 x hx).lt))
  have hP1 : va_P D cl ((X ++ va_pl L f) ++ [(H.size, .inl (cA, n.toNatClampNeg, .inr (.inr (.inr (.inr (fun i => if i < n.toNatClampNeg then some (H.size + 1 + i) else none))))))]) F.heap := hP0.app (fun k9 x hx => by
    have h0 : k9 < 1 := (List.getElem?_eq_some_iff.mp hx).1
    rw [show k9 = 0 by omega] at hx
    cases hx
    exact f2)
  have hP2 : va_P D cl (((X ++ va_pl L f) ++ [(H.size, .inl (cA, n.toNatClampNeg, .inr (.inr (.inr (.inr (fun i => if i < n.toNatClampNeg then some (H.size + 1 + i) else none))))))]) ++ ((List.range n.toNatClampNeg).map (fun i => H.size + 1 + i)).map (fun a => (a, .inl (cy, z)))) F.heap := hP1.app (fun k9 x hx => by
    obtain ⟨a, ha, rfl⟩ := List.mem_map.mp (List.mem_of_getElem? hx)
    obtain ⟨i, hi, rfl⟩ := List.mem_map.mp ha
    exact hrow i (List.mem_range.mp hi))
  have hD2 : va_D A (((X ++ va_pl L f) ++ [(H.size, .inl (cA, n.toNatClampNeg, .inr (.inr (.inr (.inr (fun i => if i < n.toNatClampNeg then some (H.size + 1 + i) else none))))))]) ++ ((List.range n.toNatClampNeg).map (fun i => H.size + 1 + i)).map (fun a => (a, .inl (cy, z)))) := by
    have hD1 := hD.push (e := .inl (cA, n.toNatClampNeg, .inr (.inr (.inr (.inr (fun i => if i < n.toNatClampNeg then some (H.size + 1 + i) else none)))))) hP rfl (hA _ hS.1)
    generalize hW1 : (X ++ va_pl L f) ++ [(H.size, .inl (cA, n.toNatClampNeg, .inr (.inr (.inr (.inr (fun i => if i < n.toNatClampNeg then some (H.size + 1 + i) else none))))))] = W1 at hD1 hP1 ⊢
    have hle : ∀ (k9 : Nat) (x : Nat × va_E), W1[k9]? = some x → x.1 ≤ H.size := fun k9 x hx => by
      rw [← hW1] at hx
      by_cases hl : k9 < (X ++ va_pl L f).length
      · rw [List.getElem?_append_left hl] at hx
        exact Nat.le_of_lt ((hP k9 x hx).lt)
      · rw [List.getElem?_append_right (by omega)] at hx
        have h0 : k9 - (X ++ va_pl L f).length < 1 := (List.getElem?_eq_some_iff.mp hx).1
        rw [show k9 - (X ++ va_pl L f).length = 0 by omega] at hx
        cases hx
        exact Nat.le_refl _
    have hr : ∀ (k9 : Nat) (x : Nat × va_E), (((List.range n.toNatClampNeg).map (fun i => H.size + 1 + i)).map (fun a => ((a, .inl (cy, z)) : Nat × va_E)))[k9]? = some x → x.1 = H.size + 1 + k9 := fun k9 x hx => by
      rw [List.getElem?_map, List.getElem?_map] at hx
      by_cases h9 : k9 < n.toNatClampNeg
      · rw [List.getElem?_range h9] at hx
        cases hx
        rfl
      · have hn0 : (List.range n.toNatClampNeg)[k9]? = none := List.getElem?_eq_none (by rw [List.length_range]; omega)
        rw [hn0] at hx
        cases hx
    refine ⟨fun i j x y hi hj hxy => ?_, fun k9 x hx => ?_⟩
    · by_cases h1 : i < W1.length <;> by_cases h2 : j < W1.length
      · rw [List.getElem?_append_left h1] at hi
        rw [List.getElem?_append_left h2] at hj
        exact hD1.1 i j x y hi hj hxy
      · rw [List.getElem?_append_left h1] at hi
        rw [List.getElem?_append_right (by omega)] at hj
        have := hle _ _ hi
        have := hr _ _ hj
        omega
      · rw [List.getElem?_append_right (by omega)] at hi
        rw [List.getElem?_append_left h2] at hj
        have := hle _ _ hj
        have := hr _ _ hi
        omega
      · rw [List.getElem?_append_right (by omega)] at hi hj
        have := hr _ _ hi
        have := hr _ _ hj
        omega
    · by_cases h1 : k9 < W1.length
      · rw [List.getElem?_append_left h1] at hx
        exact hD1.2 k9 x hx
      · rw [List.getElem?_append_right (by omega)] at hx
        have := hr _ _ hx
        exact hA _ (by have := hS.1; omega)
  have hAr : ArrOfT s cA (.array ty) := fun N9 z9 => by
    obtain ⟨-, k9, hk9, cm9, hkk9⟩ := (hO 0 0 0).1
    exact ⟨(fun q hq => by cases hq), k9, hk9, cm9, hkk9⟩
  have hK2 : va_K D cl (tys ++ [(cA, .array ty)]) s := ⟨hK.1, fun k9 x hx => by
    by_cases hl : k9 < tys.length
    · rw [List.getElem?_append_left hl] at hx
      exact hK.2 k9 x hx
    · rw [List.getElem?_append_right (by omega)] at hx
      have h0 : k9 - tys.length < 1 := (List.getElem?_eq_some_iff.mp hx).1
      rw [show k9 - tys.length = 0 by omega] at hx
      cases hx
      exact ⟨hAr, fA⟩⟩
  obtain ⟨t, a1, b1⟩ := kk H.size (fun i => H.size + 1 + i) cA F.heap (fun i j _ _ h => by have h9 : H.size + 1 + i = H.size + 1 + j := h; omega) hnl hK2 (by rw [← vr_rows hnm]; exact vr_lay hP2) (by rw [← vr_rows hnm]; exact vr_layD hD2) ⟨by rw [f1]; have := hS.1; omega, fun x h1 h2 => (hold x (Nat.lt_of_lt_of_le h1 hS.1)).trans (hS.2.1 x h1 h2), hS.2.2⟩ F rfl X'
  refine ⟨t, step t ?_, b1⟩
  have e : T.heap.size = H.size := by rw [hT]
  rw [e]
  exact a1
end VGM
/-! ===== END ===== -/

/-! ===== BEGIN exceptions that leave a method, and their catching by the caller (launches without stack traces) ===== -/
section VXA
/-! The laws vx_back, vx_callV, vx_callS, vx_callSW, vx_throw0, vx_throwS follow proofs of the library, with one case more: JvmDerived/Free/Laws.lean (Back.of_free), Shelf42/LK1.lean (callV, callS), Shelf/KitTraced.lean (throwNew0V, throwNewS). -/
/-- where a method has thrown q: the class by its name, the cell, what was written, the world -/
def vx_T (XC : String → State → State → Prop) (st : State) (q : Addr) (t : State) (mc ms : Nat) (free : Addr → Prop) : Prop :=
  ∃ (E : String) (ce : Cell) (L : List Loc), XC E st t ∧ t.heap[q]? = some ce ∧ ce.vm = .none ∧ st.vm.findClass E = some ce.cls ∧ st.WarmedH t.vm ∧ st.sameButNew ({ t with vm := st.vm } : State) L mc ms ∧ ∀ z ∈ L, free z.base
def vx_Q (Qc : Array Value → State → Outcome → State → Prop) (XC : String → State → State → Prop) (mc ms : Nat) (free : Addr → Prop) : Array Value → State → Outcome → State → Prop := fun a st o t =>
  (Qc a st o t ∧ ∃ L, FrameEnd st o t L mc ms ∧ ∀ q ∈ L, free q.base) ∨ ∃ q, o = .threw q ∧ vx_T XC st q t mc ms free
/-- a callee that returns or throws -/
def vx_Met (l : Launch) (y : MethodName) (ws : List Cond) (rm : Room) (Pc : Array Value → State → Prop) (Qc : Array Value → State → Outcome → State → Prop) (XC : String → State → State → Prop) (mc ms : Nat) (free : Addr → Prop) : Prop :=
  MetFree l y (headSpec ws rm) Pc (fun _ _ _ _ _ => True) (vx_Q Qc XC mc ms free)
def vx_Post (XC : String → State → State → Prop) (mc ms : Nat) (free : Addr → Prop) : Pt → Array Value → Addr → Pt → Prop := fun A a q B =>
  ∃ (g : JFrame) (mk : MethodId) (t : State) (L : List Loc) (E : String) (ce : Cell), B.U.heap = t.heap ∧ B.U.vm = t.vm ∧ XC E (A.U.calling g mk a) t ∧ t.heap[q]? = some ce ∧ ce.vm = .none ∧ A.U.vm.findClass E = some ce.cls ∧ B.locs = A.locs ++ L ∧ (∀ z ∈ L, free z.base) ∧ B.cells = A.cells + mc ∧ B.slots = A.slots + ms
def vx_Back (l : Launch) (R : Room) (p : Program) (e : Env) (below : List Frame) (s : State) (sargs : Array Value) (y : MethodName) (len W9 : Nat)
    (Pre : Pt → Array Value → Prop) (Post : Pt → Array Value → Option Value → Pt → Prop) (PostX : Pt → Array Value → Addr → Pt → Prop) : Prop :=
  ∀ (m : MethodId) (meth : Method) (c : Code) (A : Pt) (g : JFrame) (ig : Instr) (mk : MethodId) (a : Array Value),
    Stand p l e R s m sargs below meth c A.U A.locs A.cells A.slots → g.method = m → g.locals.size = c.maxLocals → decode c.code g.pc = .ok (ig, len) →
    2 * g.monitorRoom + (g.stack.map fun v => v.category).sum ≤ W9 → A.U.methodNamed? y = some mk → Pre A a →
    (∃ (v : Option Value) (B : Pt), Stand p l e R s m sargs below meth c B.U B.locs B.cells B.slots ∧ Post A a v B ∧
      Steps p.tables e below (doInvoke e (A.U.setTop g) [] mk a).1 (B.U.setTop { g with pc := g.pc + len, stack := v.toList ++ g.stack })) ∨
    (∃ (q : Addr) (B : Pt), Stand p l e R s m sargs below meth c B.U B.locs B.cells B.slots ∧ PostX A a q B ∧
      Steps p.tables e below (doInvoke e (A.U.setTop g) [] mk a).1 ((B.U.setTop g).pushFrame (.throwing q)))
section Payer
variable {l : Launch} {R : Room} {p : Program} {e : Env} {below : List Frame} {s : State} {sargs : Array Value} {y : MethodName} {len W9 : Nat}
theorem vx_back {ws : List Cond} {rm : Room} {Pc : Array Value → State → Prop} {Qc : Array Value → State → Outcome → State → Prop} {XC : String → State → State → Prop} {mc ms : Nat} {free : Addr → Prop} {bytes : ByteArray} {maxL : Nat} {ret : Option FieldType}
    (hM : vx_Met l y ws rm Pc Qc XC mc ms free) (hblind : FrameBlind Pc) (hrc : rm.cells = mc) (hrs : rm.slots = ms)
    (hframes : rm.frames + 1 ≤ R.frames) (hlocals : W9 + (maxL + 11) + rm.locals ≤ R.locals)
    (hws : ∀ w ∈ ws, ∀ a' U, s.WarmedH U.vm → w.before a' U = true) (hcode : Cond.code y bytes maxL ret ∈ ws) (hinit : ∀ a' U, s.WarmedH U.vm → (Cond.initialized y.cls).before a' U = true) :
    vx_Back l R p e below s sargs y len W9 (PreOf R mc ms Pc) (PostOf Qc mc ms free) (vx_Post XC mc ms free) := by
  intro m meth c A g ig mk a X hg hsize hdg hW hn hp
  have h1 : (headSpec ws rm).pre.before a A.U = true := atoms_intro fun w hw => hws w hw _ _ X.warmed
  have h2 : (Cond.code y bytes maxL ret).before a A.U = true := hws _ hcode _ _ X.warmed
  have h3 : (Cond.initialized y.cls).before a A.U = true := hinit _ _ X.warmed
  have h4 : A.cells + (headSpec ws rm).room.cells ≤ R.cells := by rw [show (headSpec ws rm).room.cells = mc from hrc]; exact hp.1
  have h5 : A.slots + (headSpec ws rm).room.slots ≤ R.slots := by rw [show (headSpec ws rm).room.slots = ms from hrs]; exact hp.2.1
  have hPc : Pc a (A.U.calling g mk a) := hblind _ _ _ _ hp.2.2
  obtain ⟨U, Ls, c0, s0⟩ := A
  dsimp only [Pt.U, Pt.locs, Pt.cells, Pt.slots] at h1 h2 h3 h4 h5 X hn hPc ⊢
  obtain ⟨methY, cY, hmY, hcY, -, hlY, -, -, -, -⟩ := Cond.code_spec hn h2
  obtain ⟨kY, hkY, -⟩ := className_of_methodNamed hn
  have hinitY : kY.init = .initialized := Cond.initialized_spec (findClass_of_methodNamed hn) hkY h3
  have h : At U g.method c below := by rw [hg]; exact X.here
  have hlocals9 : W9 + (maxL + 11) + (headSpec ws rm).room.locals ≤ R.locals := hlocals
  have happ : (headSpec ws rm).appliesLoose y e.platform (U.calling g mk a) = true :=
    Spec.appliesLoose_calling (g := g) h hdg hn hkY hinitY
      (X.room_calling (g := g) (R' := (headSpec ws rm).room) hsize hmY hcY hframes (by rw [hlY]; omega) h4 h5) h1
  obtain ⟨mid, hmid⟩ := h.above
  have hfr : (U.setTop g).frames = (.java g :: mid) ++ below := by rw [State.frames_setTop' g h.top, hmid]; rfl
  obtain ⟨o, s₂, hsteps, -, hend, hq⟩ := Steps.callFree hM p X.admits X.cas X.clock (acts := []) hfr happ hPc trivial
  have hq' : vx_Q Qc XC mc ms free a (U.calling g mk a) o s₂ := hq
  rw [State.frames_setTop' g h.top] at hend
  obtain ⟨g₀, hg0⟩ := Option.isSome_iff_exists.mp h.top
  obtain ⟨r, hr⟩ := State.topJava?_eq_some.mp hg0
  have hr' : (({ U with heap := s₂.heap, slotsUsed := s₂.slotsUsed } : State).setVm s₂.vm).frames = .java g₀ :: r := hr
  rcases hq' with ⟨hqc, L, hfe, hL⟩ | ⟨q, rfl, E, ce, L, hx, hce, hcv, hcl, hW₂, hsm, hL⟩
  · obtain ⟨⟨v, rfl⟩, hW₂, e2, q2, q3, q4, q5, q6⟩ := id hfe
    have e3 : s₂ = ({ (U.calling g mk a).setFrames s₂.frames with heap := s₂.heap, slotsUsed := s₂.slotsUsed } : State).setVm s₂.vm := by
      have : s₂ = ({ s₂ with vm := (U.calling g mk a).vm } : State).setVm s₂.vm := rfl
      rw [e2] at this
      exact this
    obtain ⟨c₂, i₂, len₂, hc₂, hd₂, hf₂⟩ := hend
    have hW' : U.WarmedH s₂.vm := hW₂
    have hcc : c₂ = c := by
      have h1 : s₂.code? g.method = U.code? g.method := by
        rw [State.code?_eq, State.code?_eq, hW'.alike.method?]
      exact Option.some.inj (hc₂.symm.trans (h1.trans h.code))
    subst hcc
    have hlen : len₂ = len := by rw [hdg] at hd₂; cases hd₂; rfl
    subst hlen
    have hs₂ : s₂ = (({ U with heap := s₂.heap, slotsUsed := s₂.slotsUsed } : State).setVm s₂.vm).setTop { g with pc := g.pc + len₂, stack := v.toList ++ g.stack } := by
      refine e3.trans ?_
      rw [hf₂, State.calling_eq h.top, State.setFrames_setFrames, State.setTop_of_frames _ hr', hr]
      rfl
    have hsame : U.sameButNew ({ U with heap := s₂.heap, slotsUsed := s₂.slotsUsed } : State) L mc ms := by
      refine ⟨?_, q2, q3, q4, q5, q6⟩
      obtain ⟨t, ht, -⟩ := State.frames_cons hr
      show ({ U with heap := s₂.heap, slotsUsed := s₂.slotsUsed } : State) = { U.setFrames U.frames with heap := s₂.heap, slotsUsed := s₂.slotsUsed }
      rw [State.setFrames_self ht]
    subst hg
    refine Or.inl ⟨v, ⟨(({ U with heap := s₂.heap, slotsUsed := s₂.slotsUsed } : State).setVm s₂.vm), Ls ++ L, c0 + mc, s0 + ms⟩,
      ⟨X.admits, X.cas, X.clock, X.frames, X.room, X.hears, X.method, X.code, (X.here.setHeapUsed s₂.heap s₂.slotsUsed).setVm hW'.alike, X.tail, State.WarmedH.trans X.warmed hW', X.limits, X.bytes, X.same.trans (hsame.setVm s.vm)⟩,
      ⟨g, mk, s₂, L, rfl, rfl, hqc, rfl, hL, rfl, rfl⟩, ?_⟩
    show Steps p.tables e below _ ((({ U with heap := s₂.heap, slotsUsed := s₂.slotsUsed } : State).setVm s₂.vm).setTop { g with pc := g.pc + len₂, stack := v.toList ++ g.stack })
    rw [← hs₂]
    exact hsteps
  · obtain ⟨e2, q2, q3, q4, q5, q6⟩ := id hsm
    have e3 : s₂ = ({ (U.calling g mk a).setFrames s₂.frames with heap := s₂.heap, slotsUsed := s₂.slotsUsed } : State).setVm s₂.vm := by
      have : s₂ = ({ s₂ with vm := (U.calling g mk a).vm } : State).setVm s₂.vm := rfl
      rw [e2] at this
      exact this
    have hf₂ : s₂.frames = .throwing q :: .java g :: U.frames.tail := hend
    have hW' : U.WarmedH s₂.vm := hW₂
    have hs₂ : s₂ = ((({ U with heap := s₂.heap, slotsUsed := s₂.slotsUsed } : State).setVm s₂.vm).setTop g).pushFrame (.throwing q) := by
      refine e3.trans ?_
      rw [hf₂, State.calling_eq h.top, State.setFrames_setFrames, State.pushFrame, State.frames_setTop _ hr', State.setTop_of_frames _ hr', State.setFrames_setFrames, hr]
      rfl
    have hsame : U.sameButNew ({ U with heap := s₂.heap, slotsUsed := s₂.slotsUsed } : State) L mc ms := by
      refine ⟨?_, q2, q3, q4, q5, q6⟩
      obtain ⟨t, ht, -⟩ := State.frames_cons hr
      show ({ U with heap := s₂.heap, slotsUsed := s₂.slotsUsed } : State) = { U.setFrames U.frames with heap := s₂.heap, slotsUsed := s₂.slotsUsed }
      rw [State.setFrames_self ht]
    subst hg
    refine Or.inr ⟨q, ⟨(({ U with heap := s₂.heap, slotsUsed := s₂.slotsUsed } : State).setVm s₂.vm), Ls ++ L, c0 + mc, s0 + ms⟩,
      ⟨X.admits, X.cas, X.clock, X.frames, X.room, X.hears, X.method, X.code, (X.here.setHeapUsed s₂.heap s₂.slotsUsed).setVm hW'.alike, X.tail, State.WarmedH.trans X.warmed hW', X.limits, X.bytes, X.same.trans (hsame.setVm s.vm)⟩,
      ⟨g, mk, s₂, L, E, ce, rfl, rfl, hx, hce, hcv, hcl, rfl, hL, rfl, rfl⟩, ?_⟩
    show Steps p.tables e below _ (((({ U with heap := s₂.heap, slotsUsed := s₂.slotsUsed } : State).setVm s₂.vm).setTop g).pushFrame (.throwing q))
    rw [← hs₂]
    exact hsteps
end Payer
section Calls
variable {p : Program} {l : Launch} {e : Env} {R : Room} {s : State} {m : MethodId} {args : Array Value} {below : List Frame} {meth : Method} {c : Code} {T : State} {locs : List Loc} {cells slots : Nat}
theorem vx_callV (X : Stand p l e R s m args below meth c T locs cells slots) (hexec : p.tables.exec = Jvm.exec) {own C : String} {index : Nat} {y : MethodName} {bytes : ByteArray} {maxL : Nat} {ret : Option FieldType}
    (hown : s.vm.findClass own = some m.cls) (hlink : (Cond.methodLink own index y).before args s = true) (hinst : (Cond.instanceMethod y).before args s = true) (hsel : (Cond.selects C y y).before args s = true)
    (hcode : (Cond.code y bytes maxL ret).before args s = true) (hy : y.cls ≠ "java/lang/invoke/MethodHandle" ∧ y.cls ≠ "java/lang/invoke/VarHandle")
    {W9 : Nat} {Pre : Pt → Array Value → Prop} {Post : Pt → Array Value → Option Value → Pt → Prop} {PostX : Pt → Array Value → Addr → Pt → Prop} (hK : vx_Back l R p e below s args y 3 W9 Pre Post PostX)
    {b : Addr} {cellB : Cell} (hcell : T.heap[b]? = some cellB) (hobj : cellB.vm.isStatics = false) (hcls : s.vm.findClass C = some cellB.cls)
    {g : JFrame} (hg : g.method = m) (hsize : g.locals.size = c.maxLocals) {argsL rest : List Value} (hlen : ∀ sig, parseMethodDescriptor y.desc = some sig → argsL.length = sig.parameters.length)
    (hstack : g.stack = argsL.reverse ++ .ref b :: rest) (hW : 2 * g.monitorRoom + (rest.map fun v => v.category).sum ≤ W9) (hdg : decode c.code g.pc = .ok (.invokevirtual index, 3))
    (hpre : ∀ vm₁, s.WarmedH vm₁ → Pre ⟨T.setVm vm₁, locs, cells, slots⟩ (Value.ref b :: argsL).toArray) :
    (∃ (v : Option Value) (vm₁ : Vm) (B : Pt), s.WarmedH vm₁ ∧ Stand p l e R s m args below meth c B.U B.locs B.cells B.slots ∧ Post ⟨T.setVm vm₁, locs, cells, slots⟩ (Value.ref b :: argsL).toArray v B ∧
      ∀ target, Steps p.tables e below (B.U.setTop { g with pc := g.pc + 3, stack := v.toList ++ rest }) target → Steps p.tables e below (T.setTop g) target) ∨
    (∃ (q : Addr) (vm₁ : Vm) (B : Pt), s.WarmedH vm₁ ∧ Stand p l e R s m args below meth c B.U B.locs B.cells B.slots ∧ PostX ⟨T.setVm vm₁, locs, cells, slots⟩ (Value.ref b :: argsL).toArray q B ∧
      Steps p.tables e below (T.setTop g) ((B.U.setTop { g with stack := rest }).pushFrame (.throwing q))) := by
  obtain ⟨mk, methM, hnamed, hmethM, hstM, habM⟩ := Cond.instanceMethod_spec hinst
  obtain ⟨methM', cM, hmethM', -, -, -, -, -, -, hsigM⟩ := Cond.code_spec hnamed hcode
  cases hmethM.symm.trans hmethM'
  obtain ⟨c2, r2, m2, q1, q2, q3, q4, kP, hkP, hkPi⟩ := Cond.selects_spec hsel
  cases hcls.symm.trans q1
  cases (State.methodFound?_of_named hnamed hy).symm.trans q2
  cases hnamed.symm.trans q3
  have hselP : selectMethod e.platform s.vm cellB.cls mk = .method mk := by rw [Launch.admits_selectMethod X.admits]; exact q4
  obtain ⟨vm₁, X₁, hstep₁⟩ := X.invokevirtual hexec hown hlink hnamed hmethM hstM hkP hkPi hy (a := b) (cell := cellB) hcell
    (fun z h => by rw [h] at hobj; cases hobj) hselP hmethM habM hkP hkPi (g := g) hg (argsL := argsL) (rest := rest) (hlen _ hsigM) hstack hdg
  rcases hK m meth c ⟨T.setVm vm₁, locs, cells, slots⟩ { g with stack := rest } (.invokevirtual index) mk (Value.ref b :: argsL).toArray X₁ hg hsize hdg hW (X₁.named hnamed) (hpre vm₁ X₁.warmed) with ⟨v, B, X', hpost, hsteps⟩ | ⟨q, B, X', hpost, hsteps⟩
  · exact Or.inl ⟨v, vm₁, B, X₁.warmed, X', hpost, fun target h => hstep₁ _ fun acts => by rw [doInvoke_state]; exact hsteps.trans h⟩
  · exact Or.inr ⟨q, vm₁, B, X₁.warmed, X', hpost, hstep₁ _ fun acts => by rw [doInvoke_state]; exact hsteps⟩
theorem vx_callS (X : Stand p l e R s m args below meth c T locs cells slots) (hexec : p.tables.exec = Jvm.exec) {own : String} {index : Nat} {y : MethodName} {bytes : ByteArray} {maxL : Nat} {ret : Option FieldType}
    (hown : s.vm.findClass own = some m.cls) (hlink : (Cond.methodLink own index y).before args s = true) (hstat : (Cond.static y).before args s = true) (hinit : (Cond.initialized y.cls).before args s = true)
    (hcode : (Cond.code y bytes maxL ret).before args s = true) (hy : y.cls ≠ "java/lang/invoke/MethodHandle" ∧ y.cls ≠ "java/lang/invoke/VarHandle")
    {W9 : Nat} {Pre : Pt → Array Value → Prop} {Post : Pt → Array Value → Option Value → Pt → Prop} {PostX : Pt → Array Value → Addr → Pt → Prop} (hK : vx_Back l R p e below s args y 3 W9 Pre Post PostX)
    {g : JFrame} (hg : g.method = m) (hsize : g.locals.size = c.maxLocals) {argsL rest : List Value} (hlen : ∀ sig, parseMethodDescriptor y.desc = some sig → argsL.length = sig.parameters.length)
    (hstack : g.stack = argsL.reverse ++ rest) (hW : 2 * g.monitorRoom + (rest.map fun v => v.category).sum ≤ W9) (hdg : decode c.code g.pc = .ok (.invokestatic index, 3))
    (hpre : ∀ vm₁, s.WarmedH vm₁ → Pre ⟨T.setVm vm₁, locs, cells, slots⟩ argsL.toArray) :
    (∃ (v : Option Value) (vm₁ : Vm) (B : Pt), s.WarmedH vm₁ ∧ Stand p l e R s m args below meth c B.U B.locs B.cells B.slots ∧ Post ⟨T.setVm vm₁, locs, cells, slots⟩ argsL.toArray v B ∧
      ∀ target, Steps p.tables e below (B.U.setTop { g with pc := g.pc + 3, stack := v.toList ++ rest }) target → Steps p.tables e below (T.setTop g) target) ∨
    (∃ (q : Addr) (vm₁ : Vm) (B : Pt), s.WarmedH vm₁ ∧ Stand p l e R s m args below meth c B.U B.locs B.cells B.slots ∧ PostX ⟨T.setVm vm₁, locs, cells, slots⟩ argsL.toArray q B ∧
      Steps p.tables e below (T.setTop g) ((B.U.setTop { g with stack := rest }).pushFrame (.throwing q))) := by
  obtain ⟨mk, hnamed⟩ := Cond.code_named hcode
  obtain ⟨methM, cM, hmethM, -, -, -, -, -, -, hsigM⟩ := Cond.code_spec hnamed hcode
  have hstatic : methM.isStatic = true := Cond.static_spec hnamed hmethM hstat
  obtain ⟨kP, hkP, -⟩ := className_of_methodNamed hnamed
  have hinitP : kP.init = .initialized := Cond.initialized_spec (findClass_of_methodNamed hnamed) hkP hinit
  obtain ⟨vm₁, X₁, hstep₁⟩ := X.invokestatic hexec hown hlink hnamed hmethM hstatic hkP hinitP hy (g := g) hg (argsL := argsL) (rest := rest) (hlen _ hsigM) hstack hdg
  rcases hK m meth c ⟨T.setVm vm₁, locs, cells, slots⟩ { g with stack := rest } (.invokestatic index) mk argsL.toArray X₁ hg hsize hdg hW (X₁.named hnamed) (hpre vm₁ X₁.warmed) with ⟨v, B, X', hpost, hsteps⟩ | ⟨q, B, X', hpost, hsteps⟩
  · exact Or.inl ⟨v, vm₁, B, X₁.warmed, X', hpost, fun target h => hstep₁ _ fun acts => by rw [doInvoke_state]; exact hsteps.trans h⟩
  · exact Or.inr ⟨q, vm₁, B, X₁.warmed, X', hpost, hstep₁ _ fun acts => by rw [doInvoke_state]; exact hsteps⟩
end Calls
theorem vx_cls {s : State} {T : State} {vm₁ : Vm} {E : String} {k : ClassId} (hW : s.WarmedH vm₁) (h : (T.setVm vm₁).vm.findClass E = some k) : s.vm.findClass E = some k := by
  have h1 : vm₁.findClass E = some k := h
  rw [hW.alike.findClass] at h1
  exact h1
/-- the method's frame g, with q thrown over it -/
def vx_W (p : Program) (l : Launch) (e : Env) (R : Room) (s : State) (m : MethodId) (args : Array Value) (below : List Frame) (meth : Method) (c : Code) (H : Heap) (locs : List Loc) (cells slots : Nat) (Q : State → Prop) (g : JFrame) (q : Addr) : Prop :=
  ∀ T : State, T.heap = H → Stand p l e R s m args below meth c T locs cells slots → ∃ t, Steps p.tables e below ((T.setTop g).pushFrame (.throwing q)) t ∧ Q t
def vx_Run (p : Program) (l : Launch) (e : Env) (R : Room) (s : State) (m : MethodId) (args : Array Value) (below : List Frame) (meth : Method) (c : Code) (H : Heap) (locs : List Loc) (cells slots mc ms : Nat) (g : JFrame) (rest : List Value) (Qa : State → Outcome → State → Prop) (XC : String → State → State → Prop) (free : Addr → Prop) : Prop :=
  ∀ T : State, T.heap = H → Stand p l e R s m args below meth c T locs cells slots →
    (∃ (v : Option Value) (st₀ t T' : State) (L : List Loc), st₀.heap = H ∧ Stand p l e R s m args below meth c T' (locs ++ L) (cells + mc) (slots + ms) ∧ (∀ q ∈ L, free q.base) ∧ T'.heap = t.heap ∧ T'.vm = t.vm ∧ Qa st₀ (.returned v) t ∧
      Goes p e below T g T' { g with pc := g.pc + 3, stack := v.toList ++ rest }) ∨
    (∃ (q : Addr) (st₀ t T' : State) (L : List Loc) (E : String) (ce : Cell), st₀.heap = H ∧ Stand p l e R s m args below meth c T' (locs ++ L) (cells + mc) (slots + ms) ∧ (∀ z ∈ L, free z.base) ∧ T'.heap = t.heap ∧ T'.vm = t.vm ∧ XC E st₀ t ∧ t.heap[q]? = some ce ∧ ce.vm = .none ∧ s.vm.findClass E = some ce.cls ∧
      Steps p.tables e below (T.setTop g) ((T'.setTop { g with stack := rest }).pushFrame (.throwing q)))
def vx_X {S : Type} (px : S → Prop) (B : String → S → State → Prop) (A : Nat → Prop) : String → State → State → Prop := fun E st t => ∃ u : S, px u ∧ B E u t ∧ va_F A st t
section Runs
variable {p : Program} {l : Launch} {e : Env} {R : Room} {s : State} {m : MethodId} {args : Array Value} {below : List Frame} {meth : Method} {c : Code} {H : Heap} {locs : List Loc} {cells slots : Nat}
variable {y : MethodName} {bytes cc : ByteArray} {maxL nL mc ms n index : Nat} {ret : Option FieldType} {ws : List Cond} {rm : Room} {Pc : Array Value → State → Prop} {Qc : Array Value → State → Outcome → State → Prop} {XC : String → State → State → Prop} {free : Addr → Prop} {Ts : List Cond} {own C : String} {b : Addr} {As rest : List Value} {g : JFrame}
theorem vx_callBack (cb : CallB R s args own index y bytes maxL ret ws rm mc ms n) (hM : vx_Met l y ws rm Pc Qc XC mc ms free) (hbl : FrameBlind Pc) : vx_Back l R p e below s args y 3 8 (PreOf R mc ms Pc) (PostOf Qc mc ms free) (vx_Post XC mc ms free) := by
  obtain ⟨hrc, hrs, hfr, hlo, hws, hcw, -, hini, -⟩ := cb
  exact vx_back (bytes := bytes) (maxL := maxL) (ret := ret) hM hbl hrc hrs hfr hlo hws hcw (fun a' U hW => word_at hW (Or.inl (by first | rfl | simp [Cond.onTables, Cond.keeps, Cond.steady])) hini)
theorem vx_runV (S : CallFix p m c cc nL s args Ts own) (hM : vx_Met l y ws rm Pc Qc XC mc ms free) (cw : CallW R s args own C index y bytes maxL ret ws rm mc ms n) (hp : PreV s H C b Pc As)
    (hg : g.method = m) (hn : As.length = n) (hsize : g.locals.size = nL) (hstack : g.stack = As.reverse ++ .ref b :: rest) (hW : 2 * g.monitorRoom + (rest.map fun v => v.category).sum ≤ 8) (hdg : decode cc g.pc = .ok (.invokevirtual index, 3)) (hf : cells + mc ≤ R.cells ∧ slots + ms ≤ R.slots) :
    vx_Run p l e R s m args below meth c H locs cells slots mc ms g rest (Qc (Value.ref b :: As).toArray) XC free := by
  have hK : vx_Back l R p e below s args y 3 8 (PreOf R mc ms Pc) (PostOf Qc mc ms free) (vx_Post XC mc ms free) := vx_callBack cw.1 hM hp.1
  obtain ⟨⟨-, -, -, -, -, -, hcode, -, hy, hlen, hl⟩, hin, hse⟩ := cw
  obtain ⟨hx, hb, hml, ho, -⟩ := S
  obtain ⟨-, ⟨cellB, hcB, hoB, hclB⟩, hPc⟩ := hp
  intro T hT X
  rcases vx_callV X hx (C := C) (bytes := bytes) (maxL := maxL) (ret := ret) ho hl hin hse hcode hy hK (by rw [hT]; exact hcB) hoB hclB hg (hsize.trans hml.symm) (argsL := As) (rest := rest) (fun sig h => hn.trans (hlen sig h)) hstack hW (by rw [hb]; exact hdg)
    (fun vm₁ hW₁ => ⟨hf.1, hf.2, hPc (T.setVm vm₁) hT hW₁⟩) with ⟨v, vm₁, ⟨U', l2, c2, s2⟩, hW₁, X', ⟨g', mk, t, L, e1, e2, hq, h1, hL, h2, h3⟩, st⟩ | ⟨q, vm₁, ⟨U', l2, c2, s2⟩, hW₁, X', ⟨g', mk, t, L, E, ce, e1, e2, hq, hce, hcv, hcl, h1, hL, h2, h3⟩, st⟩
  · dsimp only [Pt.U, Pt.locs, Pt.cells, Pt.slots] at X' e1 e2 h1 h2 h3 st
    subst h1; subst h2; subst h3
    exact Or.inl ⟨v, (T.setVm vm₁).calling g' mk (Value.ref b :: As).toArray, t, U', L, hT, X', hL, e1, e2, hq, st⟩
  · dsimp only [Pt.U, Pt.locs, Pt.cells, Pt.slots] at X' e1 e2 h1 h2 h3 st hcl
    subst h1; subst h2; subst h3
    exact Or.inr ⟨q, (T.setVm vm₁).calling g' mk (Value.ref b :: As).toArray, t, U', L, E, ce, hT, X', hL, e1, e2, hq, hce, hcv, vx_cls hW₁ hcl, st⟩
theorem vx_runS (S : CallFix p m c cc nL s args Ts own) (hM : vx_Met l y ws rm Pc Qc XC mc ms free) (cw : CallB R s args own index y bytes maxL ret ws rm mc ms n ∧ (Cond.static y).before args s = true) (hp : PreS s H Pc As)
    (hg : g.method = m) (hn : As.length = n) (hsize : g.locals.size = nL) (hstack : g.stack = As.reverse ++ rest) (hW : 2 * g.monitorRoom + (rest.map fun v => v.category).sum ≤ 8) (hdg : decode cc g.pc = .ok (.invokestatic index, 3)) (hf : cells + mc ≤ R.cells ∧ slots + ms ≤ R.slots) :
    vx_Run p l e R s m args below meth c H locs cells slots mc ms g rest (Qc As.toArray) XC free := by
  have hK : vx_Back l R p e below s args y 3 8 (PreOf R mc ms Pc) (PostOf Qc mc ms free) (vx_Post XC mc ms free) := vx_callBack cw.1 hM hp.1
  obtain ⟨⟨-, -, -, -, -, -, hcode, hini, hy, hlen, hl⟩, hstt⟩ := cw
  obtain ⟨hx, hb, hml, ho, -⟩ := S
  intro T hT X
  rcases vx_callS X hx (bytes := bytes) (maxL := maxL) (ret := ret) ho hl hstt hini hcode hy hK hg (hsize.trans hml.symm) (argsL := As) (rest := rest) (fun sig h => hn.trans (hlen sig h)) hstack hW (by rw [hb]; exact hdg)
    (fun vm₁ hW₁ => ⟨hf.1, hf.2, hp.2 (T.setVm vm₁) hT hW₁⟩) with ⟨v, vm₁, ⟨U', l2, c2, s2⟩, hW₁, X', ⟨g', mk, t, L, e1, e2, hq, h1, hL, h2, h3⟩, st⟩ | ⟨q, vm₁, ⟨U', l2, c2, s2⟩, hW₁, X', ⟨g', mk, t, L, E, ce, e1, e2, hq, hce, hcv, hcl, h1, hL, h2, h3⟩, st⟩
  · dsimp only [Pt.U, Pt.locs, Pt.cells, Pt.slots] at X' e1 e2 h1 h2 h3 st
    subst h1; subst h2; subst h3
    exact Or.inl ⟨v, (T.setVm vm₁).calling g' mk As.toArray, t, U', L, hT, X', hL, e1, e2, hq, st⟩
  · dsimp only [Pt.U, Pt.locs, Pt.cells, Pt.slots] at X' e1 e2 h1 h2 h3 st hcl
    subst h1; subst h2; subst h3
    exact Or.inr ⟨q, (T.setVm vm₁).calling g' mk As.toArray, t, U', L, E, ce, hT, X', hL, e1, e2, hq, hce, hcv, vx_cls hW₁ hcl, st⟩
end Runs
section Rows
variable {p : Program} {l : Launch} {e : Env} {R : Room} {s : State} {m : MethodId} {args : Array Value} {below : List Frame} {meth : Method} {c : Code} {H : Heap} {locs : List Loc} {cells slots : Nat} {Q : State → Prop}
variable {mc ms : Nat} {free : Addr → Prop} {A0 A1 : Nat → Prop} {H0 : Heap} {a : Array Value} {pc : Nat} {ls : Array Slot} {st0 rest : List Value}
theorem vx_keep {st₀ t T' : State} {L : List Loc} (h0 : st₀.heap = H) (e1 : T'.heap = t.heap) (hS : va_S A0 H0 H locs) (hA : ∀ q, q < H.size → A1 q → A0 q) (hf : ∀ q, free q → A0 q) (hL : ∀ q ∈ L, free q.base) (hF : va_F A1 st₀ t) :
    H.size ≤ T'.heap.size ∧ (∀ q : Nat, q < H.size → ¬ A1 q → T'.heap[q]? = H[q]?) ∧ va_S A0 H0 T'.heap (locs ++ L) := by
  obtain ⟨hz, hk⟩ := hF
  rw [h0] at hz hk
  exact ⟨by rw [e1]; exact hz, fun q h1 h2 => by rw [e1]; exact hk q h1 h2,
    ⟨Nat.le_trans hS.1 (by rw [e1]; exact hz), fun q h1 h2 => by rw [e1, hk q (Nat.lt_of_lt_of_le h1 hS.1) (fun z => h2 (hA q (Nat.lt_of_lt_of_le h1 hS.1) z))]; exact hS.2.1 q h1 h2, fun q hq => by
      rcases List.mem_append.mp hq with h | h
      · exact hS.2.2 q h
      · exact hf _ (hL q h)⟩⟩
theorem vx_calli {S SX : Type} {post : Int32 → S → Prop} {px : SX → Prop} {B : S → State → Prop} {BX : String → SX → State → Prop} {AX : Nat → Prop} (hr : vx_Run p l e R s m args below meth c H locs cells slots mc ms (F0 m pc ls st0) rest (va_Qi post B A1 a) (vx_X px BX AX) free) (hS : va_S A0 H0 H locs) (hA : ∀ q, q < H.size → A1 q → A0 q) (hf : ∀ q, free q → A0 q) (hAX : ∀ q, q < H.size → AX q → A0 q)
    (kx : ∀ (E : String) (ce : Cell) (q9 : Addr) (u : SX) (t : State) (H1 : Heap) (locs1 : List Loc), t.heap = H1 → s.vm.Alike t.vm → px u → BX E u t → H.size ≤ H1.size → (∀ q : Nat, q < H.size → ¬ AX q → H1[q]? = H[q]?) → va_S A0 H0 H1 locs1 → H1[q9]? = some ce → ce.vm = .none → s.vm.findClass E = some ce.cls → vx_W p l e R s m args below meth c H1 locs1 (cells + mc) (slots + ms) Q (F0 m pc ls rest) q9)
    (kk : ∀ (r : Int32) (u : S) (t : State) (H1 : Heap) (locs1 : List Loc), t.heap = H1 → s.vm.Alike t.vm → post r u → B u t → H.size ≤ H1.size → (∀ q : Nat, q < H.size → ¬ A1 q → H1[q]? = H[q]?) → va_S A0 H0 H1 locs1 → W p l e R s m args below meth c H1 locs1 (cells + mc) (slots + ms) Q (F0 m (pc + 3) ls (.int r :: rest))) : W p l e R s m args below meth c H locs cells slots Q (F0 m pc ls st0) := by
  intro T hT X
  rcases hr T hT X with ⟨v, st₀, t, T', L, h0, X', hL, e1, e2, ⟨⟨r, u, hv, hp, hb⟩, hF⟩, st⟩ | ⟨q, st₀, t, T', L, E, ce, h0, X', hL, e1, e2, ⟨u, hp, hb, hF⟩, hce, hcv, hcl, st⟩
  · cases hv
    obtain ⟨k1, k2, k3⟩ := vx_keep h0 e1 hS hA hf hL hF
    obtain ⟨t2, a1, b1⟩ := kk r u t T'.heap (locs ++ L) e1.symm (by rw [← e2]; exact X'.warmed.alike) hp hb k1 k2 k3 T' rfl X'
    exact ⟨t2, st t2 a1, b1⟩
  · obtain ⟨k1, k2, k3⟩ := vx_keep h0 e1 hS hAX hf hL hF
    obtain ⟨t2, a1, b1⟩ := kx E ce q u t T'.heap (locs ++ L) e1.symm (by rw [← e2]; exact X'.warmed.alike) hp hb k1 k2 k3 (by rw [e1]; exact hce) hcv hcl T' rfl X'
    exact ⟨t2, st.trans a1, b1⟩
theorem vx_calll {S SX : Type} {post : Int64 → S → Prop} {px : SX → Prop} {B : S → State → Prop} {BX : String → SX → State → Prop} {AX : Nat → Prop} (hr : vx_Run p l e R s m args below meth c H locs cells slots mc ms (F0 m pc ls st0) rest (va_Ql post B A1 a) (vx_X px BX AX) free) (hS : va_S A0 H0 H locs) (hA : ∀ q, q < H.size → A1 q → A0 q) (hf : ∀ q, free q → A0 q) (hAX : ∀ q, q < H.size → AX q → A0 q)
    (kx : ∀ (E : String) (ce : Cell) (q9 : Addr) (u : SX) (t : State) (H1 : Heap) (locs1 : List Loc), t.heap = H1 → s.vm.Alike t.vm → px u → BX E u t → H.size ≤ H1.size → (∀ q : Nat, q < H.size → ¬ AX q → H1[q]? = H[q]?) → va_S A0 H0 H1 locs1 → H1[q9]? = some ce → ce.vm = .none → s.vm.findClass E = some ce.cls → vx_W p l e R s m args below meth c H1 locs1 (cells + mc) (slots + ms) Q (F0 m pc ls rest) q9)
    (kk : ∀ (r : Int64) (u : S) (t : State) (H1 : Heap) (locs1 : List Loc), t.heap = H1 → s.vm.Alike t.vm → post r u → B u t → H.size ≤ H1.size → (∀ q : Nat, q < H.size → ¬ A1 q → H1[q]? = H[q]?) → va_S A0 H0 H1 locs1 → W p l e R s m args below meth c H1 locs1 (cells + mc) (slots + ms) Q (F0 m (pc + 3) ls (.long r :: rest))) : W p l e R s m args below meth c H locs cells slots Q (F0 m pc ls st0) := by
  intro T hT X
  rcases hr T hT X with ⟨v, st₀, t, T', L, h0, X', hL, e1, e2, ⟨⟨r, u, hv, hp, hb⟩, hF⟩, st⟩ | ⟨q, st₀, t, T', L, E, ce, h0, X', hL, e1, e2, ⟨u, hp, hb, hF⟩, hce, hcv, hcl, st⟩
  · cases hv
    obtain ⟨k1, k2, k3⟩ := vx_keep h0 e1 hS hA hf hL hF
    obtain ⟨t2, a1, b1⟩ := kk r u t T'.heap (locs ++ L) e1.symm (by rw [← e2]; exact X'.warmed.alike) hp hb k1 k2 k3 T' rfl X'
    exact ⟨t2, st t2 a1, b1⟩
  · obtain ⟨k1, k2, k3⟩ := vx_keep h0 e1 hS hAX hf hL hF
    obtain ⟨t2, a1, b1⟩ := kx E ce q u t T'.heap (locs ++ L) e1.symm (by rw [← e2]; exact X'.warmed.alike) hp hb k1 k2 k3 (by rw [e1]; exact hce) hcv hcl T' rfl X'
    exact ⟨t2, st.trans a1, b1⟩
theorem vx_callf {S SX : Type} {post : UInt32 → S → Prop} {px : SX → Prop} {B : S → State → Prop} {BX : String → SX → State → Prop} {AX : Nat → Prop} (hr : vx_Run p l e R s m args below meth c H locs cells slots mc ms (F0 m pc ls st0) rest (va_Qf post B A1 a) (vx_X px BX AX) free) (hS : va_S A0 H0 H locs) (hA : ∀ q, q < H.size → A1 q → A0 q) (hf : ∀ q, free q → A0 q) (hAX : ∀ q, q < H.size → AX q → A0 q)
    (kx : ∀ (E : String) (ce : Cell) (q9 : Addr) (u : SX) (t : State) (H1 : Heap) (locs1 : List Loc), t.heap = H1 → s.vm.Alike t.vm → px u → BX E u t → H.size ≤ H1.size → (∀ q : Nat, q < H.size → ¬ AX q → H1[q]? = H[q]?) → va_S A0 H0 H1 locs1 → H1[q9]? = some ce → ce.vm = .none → s.vm.findClass E = some ce.cls → vx_W p l e R s m args below meth c H1 locs1 (cells + mc) (slots + ms) Q (F0 m pc ls rest) q9)
    (kk : ∀ (r : UInt32) (u : S) (t : State) (H1 : Heap) (locs1 : List Loc), t.heap = H1 → s.vm.Alike t.vm → post r u → B u t → H.size ≤ H1.size → (∀ q : Nat, q < H.size → ¬ A1 q → H1[q]? = H[q]?) → va_S A0 H0 H1 locs1 → W p l e R s m args below meth c H1 locs1 (cells + mc) (slots + ms) Q (F0 m (pc + 3) ls (.float r :: rest))) : W p l e R s m args below meth c H locs cells slots Q (F0 m pc ls st0) := by
  intro T hT X
  rcases hr T hT X with ⟨v, st₀, t, T', L, h0, X', hL, e1, e2, ⟨⟨r, u, hv, hp, hb⟩, hF⟩, st⟩ | ⟨q, st₀, t, T', L, E, ce, h0, X', hL, e1, e2, ⟨u, hp, hb, hF⟩, hce, hcv, hcl, st⟩
  · cases hv
    obtain ⟨k1, k2, k3⟩ := vx_keep h0 e1 hS hA hf hL hF
    obtain ⟨t2, a1, b1⟩ := kk r u t T'.heap (locs ++ L) e1.symm (by rw [← e2]; exact X'.warmed.alike) hp hb k1 k2 k3 T' rfl X'
    exact ⟨t2, st t2 a1, b1⟩
  · obtain ⟨k1, k2, k3⟩ := vx_keep h0 e1 hS hAX hf hL hF
    obtain ⟨t2, a1, b1⟩ := kx E ce q u t T'.heap (locs ++ L) e1.symm (by rw [← e2]; exact X'.warmed.alike) hp hb k1 k2 k3 (by rw [e1]; exact hce) hcv hcl T' rfl X'
    exact ⟨t2, st.trans a1, b1⟩
theorem vx_calld {S SX : Type} {post : UInt64 → S → Prop} {px : SX → Prop} {B : S → State → Prop} {BX : String → SX → State → Prop} {AX : Nat → Prop} (hr : vx_Run p l e R s m args below meth c H locs cells slots mc ms (F0 m pc ls st0) rest (va_Qd post B A1 a) (vx_X px BX AX) free) (hS : va_S A0 H0 H locs) (hA : ∀ q, q < H.size → A1 q → A0 q) (hf : ∀ q, free q → A0 q) (hAX : ∀ q, q < H.size → AX q → A0 q)
    (kx : ∀ (E : String) (ce : Cell) (q9 : Addr) (u : SX) (t : State) (H1 : Heap) (locs1 : List Loc), t.heap = H1 → s.vm.Alike t.vm → px u → BX E u t → H.size ≤ H1.size → (∀ q : Nat, q < H.size → ¬ AX q → H1[q]? = H[q]?) → va_S A0 H0 H1 locs1 → H1[q9]? = some ce → ce.vm = .none → s.vm.findClass E = some ce.cls → vx_W p l e R s m args below meth c H1 locs1 (cells + mc) (slots + ms) Q (F0 m pc ls rest) q9)
    (kk : ∀ (r : UInt64) (u : S) (t : State) (H1 : Heap) (locs1 : List Loc), t.heap = H1 → s.vm.Alike t.vm → post r u → B u t → H.size ≤ H1.size → (∀ q : Nat, q < H.size → ¬ A1 q → H1[q]? = H[q]?) → va_S A0 H0 H1 locs1 → W p l e R s m args below meth c H1 locs1 (cells + mc) (slots + ms) Q (F0 m (pc + 3) ls (.double r :: rest))) : W p l e R s m args below meth c H locs cells slots Q (F0 m pc ls st0) := by
  intro T hT X
  rcases hr T hT X with ⟨v, st₀, t, T', L, h0, X', hL, e1, e2, ⟨⟨r, u, hv, hp, hb⟩, hF⟩, st⟩ | ⟨q, st₀, t, T', L, E, ce, h0, X', hL, e1, e2, ⟨u, hp, hb, hF⟩, hce, hcv, hcl, st⟩
  · cases hv
    obtain ⟨k1, k2, k3⟩ := vx_keep h0 e1 hS hA hf hL hF
    obtain ⟨t2, a1, b1⟩ := kk r u t T'.heap (locs ++ L) e1.symm (by rw [← e2]; exact X'.warmed.alike) hp hb k1 k2 k3 T' rfl X'
    exact ⟨t2, st t2 a1, b1⟩
  · obtain ⟨k1, k2, k3⟩ := vx_keep h0 e1 hS hAX hf hL hF
    obtain ⟨t2, a1, b1⟩ := kx E ce q u t T'.heap (locs ++ L) e1.symm (by rw [← e2]; exact X'.warmed.alike) hp hb k1 k2 k3 (by rw [e1]; exact hce) hcv hcl T' rfl X'
    exact ⟨t2, st.trans a1, b1⟩
theorem vx_callv {S SX : Type} {post : S → Prop} {px : SX → Prop} {B : S → State → Prop} {BX : String → SX → State → Prop} {AX : Nat → Prop} (hr : vx_Run p l e R s m args below meth c H locs cells slots mc ms (F0 m pc ls st0) rest (va_Qv post B A1 a) (vx_X px BX AX) free) (hS : va_S A0 H0 H locs) (hA : ∀ q, q < H.size → A1 q → A0 q) (hf : ∀ q, free q → A0 q) (hAX : ∀ q, q < H.size → AX q → A0 q)
    (kx : ∀ (E : String) (ce : Cell) (q9 : Addr) (u : SX) (t : State) (H1 : Heap) (locs1 : List Loc), t.heap = H1 → s.vm.Alike t.vm → px u → BX E u t → H.size ≤ H1.size → (∀ q : Nat, q < H.size → ¬ AX q → H1[q]? = H[q]?) → va_S A0 H0 H1 locs1 → H1[q9]? = some ce → ce.vm = .none → s.vm.findClass E = some ce.cls → vx_W p l e R s m args below meth c H1 locs1 (cells + mc) (slots + ms) Q (F0 m pc ls rest) q9)
    (kk : ∀ (u : S) (t : State) (H1 : Heap) (locs1 : List Loc), t.heap = H1 → s.vm.Alike t.vm → post u → B u t → H.size ≤ H1.size → (∀ q : Nat, q < H.size → ¬ A1 q → H1[q]? = H[q]?) → va_S A0 H0 H1 locs1 → W p l e R s m args below meth c H1 locs1 (cells + mc) (slots + ms) Q (F0 m (pc + 3) ls (rest))) : W p l e R s m args below meth c H locs cells slots Q (F0 m pc ls st0) := by
  intro T hT X
  rcases hr T hT X with ⟨v, st₀, t, T', L, h0, X', hL, e1, e2, ⟨⟨u, hv, hp, hb⟩, hF⟩, st⟩ | ⟨q, st₀, t, T', L, E, ce, h0, X', hL, e1, e2, ⟨u, hp, hb, hF⟩, hce, hcv, hcl, st⟩
  · cases hv
    obtain ⟨k1, k2, k3⟩ := vx_keep h0 e1 hS hA hf hL hF
    obtain ⟨t2, a1, b1⟩ := kk u t T'.heap (locs ++ L) e1.symm (by rw [← e2]; exact X'.warmed.alike) hp hb k1 k2 k3 T' rfl X'
    exact ⟨t2, st t2 a1, b1⟩
  · obtain ⟨k1, k2, k3⟩ := vx_keep h0 e1 hS hAX hf hL hF
    obtain ⟨t2, a1, b1⟩ := kx E ce q u t T'.heap (locs ++ L) e1.symm (by rw [← e2]; exact X'.warmed.alike) hp hb k1 k2 k3 (by rw [e1]; exact hce) hcv hcl T' rfl X'
    exact ⟨t2, st.trans a1, b1⟩
/-- caught by the row x of this method's table; the rows ahead don't take it -/
theorem vx_catch {own name : String} {E : String} {ce : Cell} {q : Addr} (hown : s.vm.findClass own = some m.cls) (pre : List ExceptionTableEntry) (x : ExceptionTableEntry) (suf : List ExceptionTableEntry) (hsplit : c.exceptionTable.toList = pre ++ x :: suf)
    (hpass : ∀ z ∈ pre, covers z pc = false ∨ (z.catchType ≠ 0 ∧ ∃ nm : String, (Cond.classLink own z.catchType nm).before args s = true ∧ va_Nc E nm s)) (hx : covers x pc = true) (h0 : x.catchType ≠ 0)
    (hlink : (Cond.classLink own x.catchType name).before args s = true) (hcast : (Cond.castable E name).before args s = true) (hcell : H[q]? = some ce) (hv : ce.vm = .none) (hcl : s.vm.findClass E = some ce.cls)
    (kk : W p l e R s m args below meth c H locs cells slots Q (F0 m x.handlerPc ls [.ref q])) : vx_W p l e R s m args below meth c H locs cells slots Q (F0 m pc ls rest) q := by
  intro T hT X
  have hpl : e.platform.magicAccessors = ({} : Platform).magicAccessors := by rw [X.admits.platform]
  obtain ⟨c3, c4, hc3, hc4, hasg⟩ := Cond.castable_spec hcast
  cases Option.some.inj (hc3.symm.trans hcl)
  obtain ⟨c5, hc5, hcl5⟩ := Cond.classLink_spec hown hlink e.platform hpl
  cases Option.some.inj (hc4.symm.trans hc5)
  obtain ⟨vm', X', st⟩ := X.thenCaughtThrough q (g := F0 m pc ls rest) rfl (Steps.refl _) (by rw [hT]; exact hcell) (by rw [hv]; rfl) (by obtain ⟨k9, h9, -⟩ := Vm.findClass_spec hcl; exact ⟨k9, h9⟩) pre x suf hsplit
    (fun z hz => by
      rcases hpass z hz with h | ⟨hz0, nm, hl1, hn1⟩
      · exact Or.inl h
      · obtain ⟨c6, hc6, hcl6⟩ := Cond.classLink_spec hown hl1 e.platform hpl
        obtain ⟨a8, b8, h1, h2, h3⟩ := hn1
        cases Option.some.inj (h1.symm.trans hcl)
        cases Option.some.inj (h2.symm.trans hc6)
        exact Or.inr ⟨hz0, _, hcl6, h3⟩) hx (Or.inr ⟨h0, c4, hcl5, hasg⟩)
  obtain ⟨t, a1, b1⟩ := kk (T.setVm vm') hT X'
  exact ⟨t, st.trans a1, b1⟩
end Rows
section Ends
variable {p : Program} {l : Launch} {e : Env} {R : Room} {s : State} {m : MethodId} {args : Array Value} {below : List Frame} {meth : Method} {c : Code} {H : Heap} {locs : List Loc} {cells slots : Nat} {Q : State → Prop}
variable {mc ms : Nat} {free : Addr → Prop} {A0 A1 : Nat → Prop} {H0 : Heap} {a : Array Value} {ls : Array Slot} {st0 rest : List Value}
variable {Qc : Array Value → State → Outcome → State → Prop} {XC : String → State → State → Prop}
/-- what a body that may throw owes at its end -/
def vx_MQ (below : List Frame) (Qc : Array Value → State → Outcome → State → Prop) (XC : String → State → State → Prop) (a : Array Value) (s : State) (mc ms : Nat) (free : Addr → Prop) : State → Prop := fun t =>
  ∃ o, t.status = .running ∧ Ended t below o ∧ vx_Q Qc XC mc ms free a s o t
theorem vx_ret {g : JFrame} {mc ms : Nat} (k : W p l e R s m args below meth c H locs cells slots (MQ below Qc args s mc ms free) g) : W p l e R s m args below meth c H locs cells slots (vx_MQ below Qc XC args s mc ms free) g := by
  intro T hT X
  obtain ⟨t, a1, o, b1, b2, b3, b4⟩ := k T hT X
  exact ⟨t, a1, o, b1, b2, Or.inl ⟨b3, b4⟩⟩
/-- not caught here: it goes on to the caller -/
theorem vx_widen {g : JFrame} {q : Addr} {k n : Nat} (h1 : cells ≤ k) (h2 : slots ≤ n) (kk : vx_W p l e R s m args below meth c H locs k n Q g q) : vx_W p l e R s m args below meth c H locs cells slots Q g q := fun T hT X => kk T hT (stand_widen X h1 h2)
theorem vx_out {pc : Nat} {E : String} {ce : Cell} {q : Addr} {mc ms : Nat} (hout : ∀ x ∈ c.exceptionTable.toList, covers x pc = false) (hlocks : meth.locks = false) (hcell : H[q]? = some ce) (hv : ce.vm = .none) (hcl : s.vm.findClass E = some ce.cls)
    (hx : ∀ t : State, t.heap = H → s.vm.Alike t.vm → XC E s t) (hf : ∀ z ∈ locs, free z.base) (hc : cells ≤ mc) (hs : slots ≤ ms) :
    vx_W p l e R s m args below meth c H locs cells slots (vx_MQ below Qc XC args s mc ms free) (F0 m pc ls rest) q := by
  intro T hT X
  obtain ⟨st1, hrun, hend, hW, hsm⟩ := X.leaveThrown q (g := F0 m pc ls rest) rfl rfl rfl hout hlocks
  have hcell9 : (T.setFrames (.throwing q :: below)).heap[q]? = some ce := by
    show T.heap[q]? = some ce
    rw [hT]; exact hcell
  exact ⟨_, st1, .threw q, hrun, hend, Or.inr ⟨q, rfl, E, ce, locs, hx _ hT hW.alike, hcell9, hv, hcl, hW, hsm.mono hc hs, hf⟩⟩
theorem vx_frame {U : State} {k n : Nat} (h : s.sameButNew ({ U with vm := s.vm } : State) locs k n) : s.heap.size ≤ U.heap.size ∧ ∀ q : Nat, q < s.heap.size → (∀ z ∈ locs, z.base ≠ q) → U.heap[q]? = s.heap[q]? := by
  obtain ⟨-, h2, -, -, -, h6⟩ := h
  refine ⟨h2, fun q hq hz => ?_⟩
  obtain ⟨c9, e1, e2, e3, e4⟩ := h6 q _ (Array.getElem?_eq_getElem hq)
  have hs : c9.slots = (s.heap[q]).slots := Array.ext_getElem? fun i => e4 i fun hm => hz _ hm rfl
  have h9 : c9 = s.heap[q] := by
    rw [hs] at e2
    exact e2
  have e5 : U.heap[q]? = some c9 := e1
  rw [e5, h9, Array.getElem?_eq_getElem hq]
/-- the words of a throw but the four that speak of the heap -/
def vx_no (w : Cond) : Bool := decide (w ≠ .isRef (.static Bundle.tN "UNASSIGNED_STACK" Bundle.steD)) && decide (w ≠ .isRef (.static Bundle.tN "SUPPRESSED_SENTINEL" Bundle.listD)) && decide (w ≠ .laysStatic Bundle.tN "UNASSIGNED_STACK" Bundle.steD) && decide (w ≠ .laysStatic Bundle.tN "SUPPRESSED_SENTINEL" Bundle.listD)
def vx_at0 (own : String) (ic : Nat) (X : String) (names : List String) : List Cond := (Bundle.ownAtoms0 own ic X names).filter vx_no
def vx_atS (own : String) (ic : Nat) (X : String) (names : List String) : List Cond := (Bundle.ownAtoms own ic X names).filter vx_no
/-- a word that the tables alone decide, or a good one -/
def vx_ot (w : Cond) : Bool := w.onTables || goodWord w
theorem vx_ot_at {args a' : Array Value} {s U : State} {w : Cond} (hW : s.WarmedH U.vm) (hvm : s.vm = U.vm) (hg : vx_ot w = true) (h : w.before args s = true) : w.before a' U = true := by
  simp only [vx_ot, Bool.or_eq_true] at hg
  rcases hg with hg | hg
  · exact va_tabs hg hvm h
  · exact word_at hW (good_of_word hg) h
/-- a list's words: the good ones out of the method's own list, the others by premises of their own -/
theorem vx_hat {args : Array Value} {s : State} {L B : List Cond} (h1 : ∀ w ∈ L.filter goodWord, w.before args s = true) (h2 : ∀ w ∈ L.filter (fun w => !goodWord w), w ∈ B) (h3 : ∀ w ∈ B, w.before args s = true) : ∀ w ∈ L, w.before args s = true := by
  intro w hw
  by_cases g : goodWord w = true
  · exact h1 w (List.mem_filter.mpr ⟨hw, g⟩)
  · refine h3 w (h2 w (List.mem_filter.mpr ⟨hw, ?_⟩))
    show (!goodWord w) = true
    cases hgw : goodWord w
    · rfl
    · exact absurd hgw g
theorem vx_c {args : Array Value} {s : State} {w : Cond} {B : List Cond} (h : w.before args s = true) (t : ∀ w ∈ B, w.before args s = true) : ∀ w' ∈ w :: B, w'.before args s = true := fun w' h' => (List.mem_cons.mp h').elim (fun e => by rw [e]; exact h) (t w')
theorem vx_n {args : Array Value} {s : State} : ∀ w ∈ ([] : List Cond), w.before args s = true := fun _ h => nomatch h
theorem vx_own {args : Array Value} {s : State} {L : List Cond} (h1 : ∀ w ∈ L.filter vx_no, w.before args s = true)
    (hU : (Cond.isRef (.static Bundle.tN "UNASSIGNED_STACK" Bundle.steD)).before args s = true) (hN : (Cond.isRef (.static Bundle.tN "SUPPRESSED_SENTINEL" Bundle.listD)).before args s = true)
    (lU : (Cond.laysStatic Bundle.tN "UNASSIGNED_STACK" Bundle.steD).before args s = true) (lN : (Cond.laysStatic Bundle.tN "SUPPRESSED_SENTINEL" Bundle.listD).before args s = true) : ∀ w ∈ L, w.before args s = true := by
  intro w hw
  by_cases e1 : w = .isRef (.static Bundle.tN "UNASSIGNED_STACK" Bundle.steD)
  · rw [e1]; exact hU
  · by_cases e2 : w = .isRef (.static Bundle.tN "SUPPRESSED_SENTINEL" Bundle.listD)
    · rw [e2]; exact hN
    · by_cases e3 : w = .laysStatic Bundle.tN "UNASSIGNED_STACK" Bundle.steD
      · rw [e3]; exact lU
      · by_cases e4 : w = .laysStatic Bundle.tN "SUPPRESSED_SENTINEL" Bundle.listD
        · rw [e4]; exact lN
        · exact h1 w (List.mem_filter.mpr ⟨hw, by unfold vx_no; rw [decide_eq_true e1, decide_eq_true e2, decide_eq_true e3, decide_eq_true e4]; rfl⟩)
/-- where a static field lies, its class's statics cell in H -/
def vx_L (C n d : String) (A : Nat → Prop) (U : State) (H : Heap) : Prop := ∃ (c : ClassId) (k : Class) (i : Nat) (f : Field) (a : Nat) (cell : Cell), U.vm.findClass C = some c ∧ U.fieldFound? C n d = some (c, k, i, f) ∧ f.isStatic = true ∧ k.statics = some a ∧ H[a]? = some cell ∧ cell.vm.isStatics = true ∧ cell.cls = c ∧ f.slot < cell.slots.size ∧ k.staticTypes[f.slot]? = some f.type ∧ ¬ A a
theorem vx_L.moved {C n d : String} {A : Nat → Prop} {u U : State} {H : Heap} (hvm : u.vm.Alike U.vm) (h : vx_L C n d A u H) : vx_L C n d A U H := by
  obtain ⟨c, k, i, f, a, cell, h1, h2, h3, h4, h5, h6, h7, h8, h9, h10⟩ := h
  obtain ⟨k', hi', he⟩ := State.fieldFound?_setVm hvm h2
  exact ⟨c, k', i, f, a, cell, by rw [hvm.findClass]; exact h1, hi', h3, by rw [he]; exact h4, h5, h6, h7, h8, by rw [he]; exact h9, h10⟩
theorem vx_L.kept {C n d : String} {A : Nat → Prop} {U : State} {H H1 : Heap} (h : vx_L C n d A U H) (hq : ∀ a : Nat, a < H.size → ¬ A a → H1[a]? = H[a]?) : vx_L C n d A U H1 := by
  obtain ⟨c, k, i, f, a, cell, h1, h2, h3, h4, h5, h6, h7, h8, h9, h10⟩ := h
  exact ⟨c, k, i, f, a, cell, h1, h2, h3, h4, by rw [hq a (Array.getElem?_eq_some_iff.mp h5).1 h10]; exact h5, h6, h7, h8, h9, h10⟩
theorem vx_L.narrow {C n d : String} {A B : Nat → Prop} {U : State} {H : Heap} (h : vx_L C n d A U H) (hAB : ∀ q, B q → A q) : vx_L C n d B U H := by
  obtain ⟨c, k, i, f, a, cell, h1, h2, h3, h4, h5, h6, h7, h8, h9, h10⟩ := h
  exact ⟨c, k, i, f, a, cell, h1, h2, h3, h4, h5, h6, h7, h8, h9, fun z => h10 (hAB _ z)⟩
theorem vx_L.word {C n d : String} {A : Nat → Prop} {s : State} {args : Array Value} (h : vx_L C n d A s s.heap) : (Cond.laysStatic C n d).before args s = true := by
  obtain ⟨c, k, i, f, a, cell, h1, h2, h3, h4, h5, h6, h7, h8, h9, -⟩ := h
  show (Cond.laysStatic C n d).holds args s none s [] = true
  exact Cond.laysStatic_of h1 h2 h3 h4 h5 h6 h7 h8 h9
/-- .. and what it holds: null or some reference -/
def vx_Zq (C n d : String) (A : Nat → Prop) (U : State) (H : Heap) : Prop := va_Zq C n d A U H ∧ vx_L C n d A U H
theorem vx_Zq.moved {C n d : String} {A : Nat → Prop} {u U : State} {H : Heap} (hvm : u.vm.Alike U.vm) (h : vx_Zq C n d A u H) : vx_Zq C n d A U H := ⟨va_Zq.moved hvm h.1, vx_L.moved hvm h.2⟩
theorem vx_Zq.kept {C n d : String} {A : Nat → Prop} {U : State} {H H1 : Heap} (h : vx_Zq C n d A U H) (hq : ∀ a : Nat, a < H.size → ¬ A a → H1[a]? = H[a]?) : vx_Zq C n d A U H1 := ⟨va_Zq.kept h.1 hq, vx_L.kept h.2 hq⟩
theorem vx_Zq.narrow {C n d : String} {A B : Nat → Prop} {U : State} {H : Heap} (h : vx_Zq C n d A U H) (hAB : ∀ q, B q → A q) : vx_Zq C n d B U H := ⟨va_Zq.narrow h.1 hAB, vx_L.narrow h.2 hAB⟩
theorem vx_Zqof {args : Array Value} {s : State} {C n d : String} {A : Nat → Prop} (hl : (Cond.laysStatic C n d).before args s = true) (hini : (Cond.initialized C).before args s = true) (h : (Cond.isRef (.static C n d)).before args s = true) (hA : ∀ a : Nat, a < s.heap.size → ¬ A a) : vx_Zq C n d A s s.heap := by
  refine ⟨va_Zqof hl hini h hA, ?_⟩
  obtain ⟨c, k, i, f, a, cell, h1, h2, h3, h4, h5, h6, h7, h8, h9⟩ := Cond.laysStatic_spec hl
  exact ⟨c, k, i, f, a, cell, h1, h2, h3, h4, h5, h6, h7, h8, h9, hA a (Array.getElem?_eq_some_iff.mp h5).1⟩
theorem vx_isRef {C n d : String} {v : Value} {A : Nat → Prop} {s : State} {args : Array Value} (h : va_Z C n d v A s s.heap) (hv : v.isRef = true) : (Cond.isRef (.static C n d)).before args s = true := by
  obtain ⟨cf, kf, fi, f, a, cell, h1, h2, h3, h4, h5, h6, h7, -⟩ := h
  have he : (Term.static C n d).eval args s none [] s = some v := by
    simp [Term.eval, State.fieldNamed?, h1, h2, h4, h5, h6, h7]
  simp only [Cond.before, Cond.holds, Cond.value, he]
  cases v <;> simp_all [Value.isRef]
theorem vx_isRefq {C n d : String} {A : Nat → Prop} {s : State} {args : Array Value} (h : va_Zq C n d A s s.heap) : (Cond.isRef (.static C n d)).before args s = true := by
  rcases h with h | ⟨t, h⟩
  · exact vx_isRef h rfl
  · exact vx_isRef h rfl
/-- the same frame, seen from here: as if the method were called anew in this heap -/
theorem vx_rebase {T : State} (X : Stand p l e R s m args below meth c T locs cells slots) {R' : Room} (hf : R'.frames ≤ R.frames) (hl : R'.locals ≤ R.locals) (hc : cells + R'.cells ≤ R.cells) (hs : slots + R'.slots ≤ R.slots) :
    Stand p l e R' ((T.setVm s.vm).setFrames (.invoking m args :: below)) m args below meth c T [] 0 0 := by
  have htop : (T.setVm s.vm).topJava?.isSome := X.here.top
  have hF : ((T.setVm s.vm).setFrames (.invoking m args :: below)).frames = .invoking m args :: below := State.frames_setFrames _ (State.cur_lt_of_top htop)
  obtain ⟨g₀, hg0⟩ := Option.isSome_iff_exists.mp htop
  obtain ⟨r, hr⟩ := State.topJava?_eq_some.mp hg0
  have hl9 : e.platform.stackLimits (T.setVm s.vm).me = e.platform.stackLimits s.me := X.limits
  have hb9 : (T.setVm s.vm).me.stackBytes = s.me.stackBytes := X.bytes
  refine ⟨X.admits, X.cas, X.clock, hF, ?_, X.hears, X.method, X.code, X.here, X.tail, X.warmed, ?_, ?_, ?_⟩
  · have h := X.room
    have hU : ((T.setVm s.vm).setFrames (.invoking m args :: below)).localsInUse = s.localsInUse := by
      rw [State.localsInUse_invoking hF (meth := meth) (c := c) X.method X.code, State.localsInUse_invoking X.frames X.method X.code]
    simp only [State.hasRoom, Bool.and_eq_true, decide_eq_true_eq] at h ⊢
    obtain ⟨⟨⟨⟨h1, h2, h3, h4, h5, h6⟩, h7⟩, h8⟩, h9⟩ := h
    rw [X.frames, List.length_cons] at h2 h3
    have q1 := X.heapSize
    have q2 := X.used
    simp only [hF, hU, List.length_cons, State.stackLimits_setFrames, State.stackBytes_setFrames, hl9, hb9]
    refine ⟨⟨⟨⟨by omega, by omega, by omega, by omega, by omega, h6⟩, ?_⟩, ?_⟩, X.book⟩
    · show T.heap.size + R'.cells ≤ e.platform.maxCells
      omega
    · show T.slotsUsed + R'.slots ≤ e.platform.maxSlots
      omega
  · rw [State.stackLimits_setFrames]; rfl
  · rw [State.stackBytes_setFrames]; rfl
  · refine ⟨?_, Nat.le_refl _, Nat.le_refl _, ?_, ?_, fun a c9 h9 => ⟨c9, h9, rfl, rfl, fun _ _ => rfl⟩⟩
    · obtain ⟨t, ht, -⟩ := State.frames_cons hr
      show T.setVm s.vm = { ((T.setVm s.vm).setFrames (.invoking m args :: below)).setFrames (T.setVm s.vm).frames with heap := T.heap, slotsUsed := T.slotsUsed }
      rw [State.setFrames_setFrames, State.setFrames_self ht]
      rfl
    · show T.slotsUsed = T.slotsUsed + ((T.heap.toList.drop T.heap.size).map (·.slots.size)).sum
      rw [List.drop_eq_nil_of_le (Nat.le_of_eq Array.length_toList)]
      rfl
    · show ((T.heap.toList.drop T.heap.size).map (·.slots.size)).sum ≤ 0
      rw [List.drop_eq_nil_of_le (Nat.le_of_eq Array.length_toList)]
      exact Nat.le_refl _
/-- 'throw new E()': new; dup; invokespecial; athrow -/
theorem vx_throw0 {cc : ByteArray} {pc : Nat} (hexec : p.tables.exec = Jvm.exec) (hb : c.code = cc) (hl : l.stackTraces = false) {own cls : String} {names : List String} {ik ic mc ms : Nat} {A : Nat → Prop}
    (hown : s.vm.findClass own = some m.cls) (hcls : Bundle.fit cls = true) (hnames : ∀ n ∈ names, Bundle.fit n = true)
    (hk : (Cond.classLink own ik cls).before args s = true) (hini : (Cond.initialized cls).before args s = true) (hat : ∀ w ∈ vx_at0 own ic cls names, w.before args s = true)
    (hgood : ∀ w ∈ Cond.classLink own ik cls :: Cond.initialized cls :: vx_at0 own ic cls names, vx_ot w = true)
    (hU : vx_Zq Bundle.tN "UNASSIGNED_STACK" Bundle.steD A s s.heap) (hN : vx_Zq Bundle.tN "SUPPRESSED_SENTINEL" Bundle.listD A s s.heap) (hS : va_S A s.heap H locs) (hsize : ls.size = c.maxLocals)
    (d0 : decode cc pc = .ok (.new ik, 3)) (d3 : decode cc (pc + 3) = .ok (.dup, 1)) (d4 : decode cc (pc + 4) = .ok (.invokespecial ic, 3)) (d7 : decode cc (pc + 7) = .ok (.athrow, 1))
    (hout : ∀ x ∈ c.exceptionTable.toList, covers x (pc + 7) = false)
    (hRframes : names.length + 3 < R.frames) (hRlocals : (rest.map fun v => v.category).sum + (13 * (names.length + 1) + 42) ≤ R.locals) (hRcells : cells + 1 ≤ R.cells) (hRslots : slots + 6 ≤ R.slots) (hlocks : meth.locks = false)
    (hx : ∀ t : State, s.vm.Alike t.vm → H.size ≤ t.heap.size → (∀ q : Nat, q < H.size → t.heap[q]? = H[q]?) → XC cls s t)
    (hf : ∀ z ∈ locs, free z.base) (hc : cells + 1 ≤ mc) (hs : slots + 6 ≤ ms) :
    W p l e R s m args below meth c H locs cells slots (vx_MQ below Qc XC args s mc ms free) (F0 m pc ls rest) := by
  intro T hT X
  have htr : e.platform.stackTraces = false := (show e.platform.stackTraces = l.stackTraces by rw [X.admits.platform]).trans hl
  have Y := vx_rebase X (R' := { frames := R.frames, locals := R.locals, cells := 1, slots := 6 }) (Nat.le_refl _) (Nat.le_refl _) hRcells hRslots
  obtain ⟨s', hA⟩ : ∃ z, z = (T.setVm s.vm).setFrames (.invoking m args :: below) := ⟨_, rfl⟩
  rw [← hA] at Y
  have hvm : s'.vm = s.vm := by rw [hA]; rfl
  have hhp : s'.heap = H := by rw [hA]; exact hT
  have hW0 : s.WarmedH s'.vm := by rw [hvm]; exact State.WarmedH.refl s
  have hat' : ∀ w ∈ vx_at0 own ic cls names, w.before args s' = true := fun w hw => vx_ot_at hW0 hvm.symm (hgood w (List.mem_cons_of_mem _ (List.mem_cons_of_mem _ hw))) (hat w hw)
  have hk' : (Cond.classLink own ik cls).before args s' = true := vx_ot_at hW0 hvm.symm (hgood _ List.mem_cons_self) hk
  have hini' : (Cond.initialized cls).before args s' = true := vx_ot_at hW0 hvm.symm (hgood _ (List.mem_cons_of_mem _ List.mem_cons_self)) hini
  have hU' : vx_Zq Bundle.tN "UNASSIGNED_STACK" Bundle.steD A s' s'.heap := by rw [hhp]; exact vx_Zq.moved hW0.alike (hU.kept hS.2.1)
  have hN' : vx_Zq Bundle.tN "SUPPRESSED_SENTINEL" Bundle.listD A s' s'.heap := by rw [hhp]; exact vx_Zq.moved hW0.alike (hN.kept hS.2.1)
  have h : ∀ w ∈ Bundle.ownAtoms0 own ic cls names, w.before args s' = true := vx_own hat' (vx_isRefq hU'.1) (vx_isRefq hN'.1) hU'.2.word hN'.2.word
  have hown' : s'.vm.findClass own = some m.cls := by rw [hvm]; exact hown
  have hins : (Cond.instantiable cls 6).before args s' = true := h _ (by simp [Bundle.ownAtoms0])
  obtain ⟨vm₁, cX, kX, hfX, hkX, -, -, X₁, st1⟩ := Y.newCold hexec (own := own) (C := cls) (index := ik) (n := 6) hown' hk' hins hini'
    (g := F0 m pc ls rest) rfl (by rw [hb]; exact d0) (Nat.le_refl _) (Nat.le_refl _)
  generalize hT1 : (T.setVm vm₁).pushCell { cls := cX, slots := kX.instanceTypes.map defaultValue, vm := .none } = T1 at X₁ st1
  have hcat : (Value.ref T.heap.size).category = 1 := rfl
  have hcellA : T1.heap[T.heap.size]? = some (freshCell cX kX) := by rw [← hT1]; exact State.heap_pushCell_size _ _
  have d3' : decode c.code (pc + 3) = .ok (.dup, 1) := by rw [hb]; exact d3
  obtain ⟨U, hsteps, hrun, hend, hW, hsame, ce, hce, hO⟩ := X₁.ctorThrow0 hexec htr (own := own) (cls := cls) (names := names) (ic := ic) hown' hcls hnames h (fun x hx => nomatch hx) hfX hkX hcellA (by rw [hhp, hT]; exact Nat.le_refl _)
    (g := { method := m, pc := pc + 4, locals := ls, stack := .ref T.heap.size :: .ref T.heap.size :: rest, locked := none }) rfl hsize rfl rfl (rest := rest) rfl
    (by rw [hb]; exact d4) (by rw [hb]; exact d7) hout hRframes (by simp only [List.map_cons, List.sum_cons, hcat]; omega) hlocks
  obtain ⟨f1, f2⟩ := vx_frame hsame
  rw [hhp] at f1 f2
  have hWs : s.WarmedH U.vm := State.WarmedH.trans hW0 hW
  have hcl : s.vm.findClass cls = some ce.cls := by
    have h9 := hO.cls
    rw [hvm] at h9
    exact h9
  have hall : s.sameButNew ({ U with vm := s.vm } : State) locs mc ms := by
    subst hA
    obtain ⟨e1, e2⟩ := hsame
    rw [State.setFrames_setFrames] at e1
    have h2 : (T.setVm s.vm).sameButNew ({ U with vm := s.vm } : State) [] (0 + 1) (0 + 6) := ⟨e1, e2⟩
    have h3 := X.same.trans h2
    rw [List.append_nil] at h3
    exact h3.mono hc hs
  refine ⟨U, ?_, .threw T.heap.size, hrun, hend, Or.inr ⟨T.heap.size, rfl, cls, ce, locs, hx U hWs.alike f1 (fun q hq => f2 q hq (fun z hz => nomatch hz)), hce, hO.vm, hcl, hWs, hall, hf⟩⟩
  refine st1 _ ?_
  show Steps p.tables e below (T1.setTop { method := m, pc := pc + 3, locals := ls, stack := .ref T.heap.size :: rest, locked := none }) _
  jvm_step X₁.here [X₁.here.top, hexec, d3', Value.category]
  exact hsteps
/-- 'throw new E("text")': new; dup; ldc; invokespecial; athrow -/
theorem vx_throwS {cc : ByteArray} {pc : Nat} (hexec : p.tables.exec = Jvm.exec) (hb : c.code = cc) (hl : l.stackTraces = false) {own cls text : String} {names : List String} {ik is ic mc ms sa : Nat} {A : Nat → Prop}
    (hown : s.vm.findClass own = some m.cls) (hcls : Bundle.fit cls = true) (hnames : ∀ n ∈ names, Bundle.fit n = true)
    (hk : (Cond.classLink own ik cls).before args s = true) (hini : (Cond.initialized cls).before args s = true) (hstr : vk_R own is text sa s) (hat : ∀ w ∈ vx_atS own ic cls names, w.before args s = true)
    (hgood : ∀ w ∈ Cond.classLink own ik cls :: Cond.initialized cls :: vx_atS own ic cls names, vx_ot w = true)
    (hU : vx_Zq Bundle.tN "UNASSIGNED_STACK" Bundle.steD A s s.heap) (hN : vx_Zq Bundle.tN "SUPPRESSED_SENTINEL" Bundle.listD A s s.heap) (hS : va_S A s.heap H locs) (hsize : ls.size = c.maxLocals)
    (d0 : decode cc pc = .ok (.new ik, 3)) (d3 : decode cc (pc + 3) = .ok (.dup, 1)) (d4 : decode cc (pc + 4) = .ok (.ldc is, 2)) (d6 : decode cc (pc + 6) = .ok (.invokespecial ic, 3)) (d9 : decode cc (pc + 9) = .ok (.athrow, 1))
    (hout : ∀ x ∈ c.exceptionTable.toList, covers x (pc + 9) = false)
    (hRframes : names.length + 3 < R.frames) (hRlocals : (rest.map fun v => v.category).sum + (13 * (names.length + 1) + 43) ≤ R.locals) (hRcells : cells + 1 ≤ R.cells) (hRslots : slots + 6 ≤ R.slots) (hlocks : meth.locks = false)
    (hx : ∀ t : State, s.vm.Alike t.vm → H.size ≤ t.heap.size → (∀ q : Nat, q < H.size → t.heap[q]? = H[q]?) → XC cls s t)
    (hf : ∀ z ∈ locs, free z.base) (hc : cells + 1 ≤ mc) (hs : slots + 6 ≤ ms) :
    W p l e R s m args below meth c H locs cells slots (vx_MQ below Qc XC args s mc ms free) (F0 m pc ls rest) := by
  intro T hT X
  have htr : e.platform.stackTraces = false := (show e.platform.stackTraces = l.stackTraces by rw [X.admits.platform]).trans hl
  have Y := vx_rebase X (R' := { frames := R.frames, locals := R.locals, cells := 1, slots := 6 }) (Nat.le_refl _) (Nat.le_refl _) hRcells hRslots
  obtain ⟨s', hA⟩ : ∃ z, z = (T.setVm s.vm).setFrames (.invoking m args :: below) := ⟨_, rfl⟩
  rw [← hA] at Y
  have hvm : s'.vm = s.vm := by rw [hA]; rfl
  have hhp : s'.heap = H := by rw [hA]; exact hT
  have hW0 : s.WarmedH s'.vm := by rw [hvm]; exact State.WarmedH.refl s
  have hat' : ∀ w ∈ vx_atS own ic cls names, w.before args s' = true := fun w hw => vx_ot_at hW0 hvm.symm (hgood w (List.mem_cons_of_mem _ (List.mem_cons_of_mem _ hw))) (hat w hw)
  have hk' : (Cond.classLink own ik cls).before args s' = true := vx_ot_at hW0 hvm.symm (hgood _ List.mem_cons_self) hk
  have hini' : (Cond.initialized cls).before args s' = true := vx_ot_at hW0 hvm.symm (hgood _ (List.mem_cons_of_mem _ List.mem_cons_self)) hini
  have hU' : vx_Zq Bundle.tN "UNASSIGNED_STACK" Bundle.steD A s' s'.heap := by rw [hhp]; exact vx_Zq.moved hW0.alike (hU.kept hS.2.1)
  have hN' : vx_Zq Bundle.tN "SUPPRESSED_SENTINEL" Bundle.listD A s' s'.heap := by rw [hhp]; exact vx_Zq.moved hW0.alike (hN.kept hS.2.1)
  have h : ∀ w ∈ Bundle.ownAtoms own ic cls names, w.before args s' = true := vx_own hat' (vx_isRefq hU'.1) (vx_isRefq hN'.1) hU'.2.word hN'.2.word
  have hown' : s'.vm.findClass own = some m.cls := by rw [hvm]; exact hown
  have hins : (Cond.instantiable cls 6).before args s' = true := h _ (by simp [Bundle.ownAtoms])
  obtain ⟨vm₁, cX, kX, hfX, hkX, -, -, X₁, st1⟩ := Y.newCold hexec (own := own) (C := cls) (index := ik) (n := 6) hown' hk' hins hini'
    (g := F0 m pc ls rest) rfl (by rw [hb]; exact d0) (Nat.le_refl _) (Nat.le_refl _)
  generalize hT1 : (T.setVm vm₁).pushCell { cls := cX, slots := kX.instanceTypes.map defaultValue, vm := .none } = T1 at X₁ st1
  have hcat : (Value.ref T.heap.size).category = 1 := rfl
  have hcellA : T1.heap[T.heap.size]? = some (freshCell cX kX) := by rw [← hT1]; exact State.heap_pushCell_size _ _
  have d3' : decode c.code (pc + 3) = .ok (.dup, 1) := by rw [hb]; exact d3
  have d4' : decode c.code (pc + 4) = .ok (.ldc is, 2) := by rw [hb]; exact d4
  have hstr' : vk_R own is text sa s' := vk_R.warm hW0 hstr
  obtain ⟨U, hsteps, hrun, hend, hW, hsame, ce, hce, hO⟩ := X₁.ctorThrowS hexec htr (own := own) (cls := cls) (names := names) (ic := ic) hown' hcls hnames h (fun x hx => nomatch hx) hfX hkX hcellA (by rw [hhp, hT]; exact Nat.le_refl _) (msg := .ref sa) rfl
    (g := { method := m, pc := pc + 6, locals := ls, stack := .ref sa :: .ref T.heap.size :: .ref T.heap.size :: rest, locked := none }) rfl hsize rfl rfl (rest := rest) rfl
    (by rw [hb]; exact d6) (by rw [hb]; exact d9) hout hRframes (by simp only [List.map_cons, List.sum_cons, hcat]; omega) hlocks
  obtain ⟨f1, f2⟩ := vx_frame hsame
  rw [hhp] at f1 f2
  have hWs : s.WarmedH U.vm := State.WarmedH.trans hW0 hW
  have hcl : s.vm.findClass cls = some ce.cls := by
    have h9 := hO.cls
    rw [hvm] at h9
    exact h9
  have hall : s.sameButNew ({ U with vm := s.vm } : State) locs mc ms := by
    subst hA
    obtain ⟨e1, e2⟩ := hsame
    rw [State.setFrames_setFrames] at e1
    have h2 : (T.setVm s.vm).sameButNew ({ U with vm := s.vm } : State) [] (0 + 1) (0 + 6) := ⟨e1, e2⟩
    have h3 := X.same.trans h2
    rw [List.append_nil] at h3
    exact h3.mono hc hs
  refine ⟨U, ?_, .threw T.heap.size, hrun, hend, Or.inr ⟨T.heap.size, rfl, cls, ce, locs, hx U hWs.alike f1 (fun q hq => f2 q hq (fun z hz => nomatch hz)), hce, hO.vm, hcl, hWs, hall, hf⟩⟩
  refine st1 _ ?_
  show Steps p.tables e below (T1.setTop { method := m, pc := pc + 3, locals := ls, stack := .ref T.heap.size :: rest, locked := none }) _
  jvm_step X₁.here [X₁.here.top, hexec, d3', Value.category]
  exact X₁.ldcString hexec (own := own) (text := text) (index := is) (a := sa) hown' hstr'.1 hstr'.2
    (g := { method := m, pc := pc + 4, locals := ls, stack := .ref T.heap.size :: .ref T.heap.size :: rest, locked := none }) rfl d4' _ hsteps
/-- 'throw new E("text")', the text by a wide index -/
theorem vx_throwSW {cc : ByteArray} {pc : Nat} (hexec : p.tables.exec = Jvm.exec) (hb : c.code = cc) (hl : l.stackTraces = false) {own cls text : String} {names : List String} {ik is ic mc ms sa : Nat} {A : Nat → Prop}
    (hown : s.vm.findClass own = some m.cls) (hcls : Bundle.fit cls = true) (hnames : ∀ n ∈ names, Bundle.fit n = true)
    (hk : (Cond.classLink own ik cls).before args s = true) (hini : (Cond.initialized cls).before args s = true) (hstr : vk_R own is text sa s) (hat : ∀ w ∈ vx_atS own ic cls names, w.before args s = true)
    (hgood : ∀ w ∈ Cond.classLink own ik cls :: Cond.initialized cls :: vx_atS own ic cls names, vx_ot w = true)
    (hU : vx_Zq Bundle.tN "UNASSIGNED_STACK" Bundle.steD A s s.heap) (hN : vx_Zq Bundle.tN "SUPPRESSED_SENTINEL" Bundle.listD A s s.heap) (hS : va_S A s.heap H locs) (hsize : ls.size = c.maxLocals)
    (d0 : decode cc pc = .ok (.new ik, 3)) (d3 : decode cc (pc + 3) = .ok (.dup, 1)) (d4 : decode cc (pc + 4) = .ok (.ldc_w is, 3)) (d7 : decode cc (pc + 7) = .ok (.invokespecial ic, 3)) (d10 : decode cc (pc + 10) = .ok (.athrow, 1))
    (hout : ∀ x ∈ c.exceptionTable.toList, covers x (pc + 10) = false)
    (hRframes : names.length + 3 < R.frames) (hRlocals : (rest.map fun v => v.category).sum + (13 * (names.length + 1) + 43) ≤ R.locals) (hRcells : cells + 1 ≤ R.cells) (hRslots : slots + 6 ≤ R.slots) (hlocks : meth.locks = false)
    (hx : ∀ t : State, s.vm.Alike t.vm → H.size ≤ t.heap.size → (∀ q : Nat, q < H.size → t.heap[q]? = H[q]?) → XC cls s t)
    (hf : ∀ z ∈ locs, free z.base) (hc : cells + 1 ≤ mc) (hs : slots + 6 ≤ ms) :
    W p l e R s m args below meth c H locs cells slots (vx_MQ below Qc XC args s mc ms free) (F0 m pc ls rest) := by
  intro T hT X
  have htr : e.platform.stackTraces = false := (show e.platform.stackTraces = l.stackTraces by rw [X.admits.platform]).trans hl
  have Y := vx_rebase X (R' := { frames := R.frames, locals := R.locals, cells := 1, slots := 6 }) (Nat.le_refl _) (Nat.le_refl _) hRcells hRslots
  obtain ⟨s', hA⟩ : ∃ z, z = (T.setVm s.vm).setFrames (.invoking m args :: below) := ⟨_, rfl⟩
  rw [← hA] at Y
  have hvm : s'.vm = s.vm := by rw [hA]; rfl
  have hhp : s'.heap = H := by rw [hA]; exact hT
  have hW0 : s.WarmedH s'.vm := by rw [hvm]; exact State.WarmedH.refl s
  have hat' : ∀ w ∈ vx_atS own ic cls names, w.before args s' = true := fun w hw => vx_ot_at hW0 hvm.symm (hgood w (List.mem_cons_of_mem _ (List.mem_cons_of_mem _ hw))) (hat w hw)
  have hk' : (Cond.classLink own ik cls).before args s' = true := vx_ot_at hW0 hvm.symm (hgood _ List.mem_cons_self) hk
  have hini' : (Cond.initialized cls).before args s' = true := vx_ot_at hW0 hvm.symm (hgood _ (List.mem_cons_of_mem _ List.mem_cons_self)) hini
  have hU' : vx_Zq Bundle.tN "UNASSIGNED_STACK" Bundle.steD A s' s'.heap := by rw [hhp]; exact vx_Zq.moved hW0.alike (hU.kept hS.2.1)
  have hN' : vx_Zq Bundle.tN "SUPPRESSED_SENTINEL" Bundle.listD A s' s'.heap := by rw [hhp]; exact vx_Zq.moved hW0.alike (hN.kept hS.2.1)
  have h : ∀ w ∈ Bundle.ownAtoms own ic cls names, w.before args s' = true := vx_own hat' (vx_isRefq hU'.1) (vx_isRefq hN'.1) hU'.2.word hN'.2.word
  have hown' : s'.vm.findClass own = some m.cls := by rw [hvm]; exact hown
  have hins : (Cond.instantiable cls 6).before args s' = true := h _ (by simp [Bundle.ownAtoms])
  obtain ⟨vm₁, cX, kX, hfX, hkX, -, -, X₁, st1⟩ := Y.newCold hexec (own := own) (C := cls) (index := ik) (n := 6) hown' hk' hins hini'
    (g := F0 m pc ls rest) rfl (by rw [hb]; exact d0) (Nat.le_refl _) (Nat.le_refl _)
  generalize hT1 : (T.setVm vm₁).pushCell { cls := cX, slots := kX.instanceTypes.map defaultValue, vm := .none } = T1 at X₁ st1
  have hcat : (Value.ref T.heap.size).category = 1 := rfl
  have hcellA : T1.heap[T.heap.size]? = some (freshCell cX kX) := by rw [← hT1]; exact State.heap_pushCell_size _ _
  have d3' : decode c.code (pc + 3) = .ok (.dup, 1) := by rw [hb]; exact d3
  have d4' : decode c.code (pc + 4) = .ok (.ldc_w is, 3) := by rw [hb]; exact d4
  have hstr' : vk_R own is text sa s' := vk_R.warm hW0 hstr
  obtain ⟨U, hsteps, hrun, hend, hW, hsame, ce, hce, hO⟩ := X₁.ctorThrowS hexec htr (own := own) (cls := cls) (names := names) (ic := ic) hown' hcls hnames h (fun x hx => nomatch hx) hfX hkX hcellA (by rw [hhp, hT]; exact Nat.le_refl _) (msg := .ref sa) rfl
    (g := { method := m, pc := pc + 7, locals := ls, stack := .ref sa :: .ref T.heap.size :: .ref T.heap.size :: rest, locked := none }) rfl hsize rfl rfl (rest := rest) rfl
    (by rw [hb]; exact d7) (by rw [hb]; exact d10) hout hRframes (by simp only [List.map_cons, List.sum_cons, hcat]; omega) hlocks
  obtain ⟨f1, f2⟩ := vx_frame hsame
  rw [hhp] at f1 f2
  have hWs : s.WarmedH U.vm := State.WarmedH.trans hW0 hW
  have hcl : s.vm.findClass cls = some ce.cls := by
    have h9 := hO.cls
    rw [hvm] at h9
    exact h9
  have hall : s.sameButNew ({ U with vm := s.vm } : State) locs mc ms := by
    subst hA
    obtain ⟨e1, e2⟩ := hsame
    rw [State.setFrames_setFrames] at e1
    have h2 : (T.setVm s.vm).sameButNew ({ U with vm := s.vm } : State) [] (0 + 1) (0 + 6) := ⟨e1, e2⟩
    have h3 := X.same.trans h2
    rw [List.append_nil] at h3
    exact h3.mono hc hs
  refine ⟨U, ?_, .threw T.heap.size, hrun, hend, Or.inr ⟨T.heap.size, rfl, cls, ce, locs, hx U hWs.alike f1 (fun q hq => f2 q hq (fun z hz => nomatch hz)), hce, hO.vm, hcl, hWs, hall, hf⟩⟩
  refine st1 _ ?_
  show Steps p.tables e below (T1.setTop { method := m, pc := pc + 3, locals := ls, stack := .ref T.heap.size :: rest, locked := none }) _
  jvm_step X₁.here [X₁.here.top, hexec, d3', Value.category]
  exact X₁.ldcStringW hexec (own := own) (text := text) (index := is) (a := sa) hown' hstr'.1 hstr'.2
    (g := { method := m, pc := pc + 4, locals := ls, stack := .ref T.heap.size :: .ref T.heap.size :: rest, locked := none }) rfl d4' _ hsteps
end Ends
section Bodies
variable {l : Launch}
theorem vx_ofW {y : MethodName} {ws ws' : List Cond} {rm : Room} {Pc : Array Value → State → Prop} {Qc : Array Value → State → Outcome → State → Prop} {XC : String → State → State → Prop} {mc ms : Nat} {free : Addr → Prop} {cc : ByteArray} {maxL : Nat} {ret : Option FieldType}
    (hy : plainName y.cls = true) (hw : ws = Cond.code y cc maxL ret :: ws')
    (body : ∀ p e s m args below meth c s₁, BodyLoose p l y (headSpec ws rm) cc maxL ret e s m args below meth c s₁ → c.maxLocals = maxL → (∀ x ∈ c.exceptionTable.toList, False) → Pc args s →
      W p l e (headSpec ws rm).room s m args below meth c s.heap [] 0 0 (vx_MQ below Qc XC args s mc ms free) (entryFrame m args maxL)) : vx_Met l y ws rm Pc Qc XC mc ms free := by
  refine MetFree.of_bodyS (code := cc) (maxLocals := maxL) (ret := ret) hy ?_ ?_
  · intro args s m h hn
    obtain ⟨meth, c, h1, h2, h3, h4, h5, h6, -, -⟩ := Cond.code_spec hn (atoms_spec (ws := ws) h _ (by rw [hw]; exact List.mem_cons_self))
    exact ⟨meth, c, h1, h2, h3, h4, h5, h6⟩
  · intro p e s m args below meth c s₁ B hml hP _
    have hh0 : s₁.heap = s.heap := by rw [B.state]; rfl
    have ht : ∀ x ∈ c.exceptionTable.toList, False := by
      obtain ⟨meth9, c9, h1, h2, -, -, -, -, h7, -⟩ := Cond.code_spec B.named (atoms_spec (ws := ws) B.pre _ (by rw [hw]; exact List.mem_cons_self))
      cases Option.some.inj (h1.symm.trans B.method)
      cases Option.some.inj (h2.symm.trans (Stand.of_body B).code)
      intro x hx
      rw [Array.isEmpty_iff.mp h7] at hx
      cases hx
    obtain ⟨t, a1, o, b1, b2, b3⟩ := body p e s m args below meth c s₁ B hml ht hP s₁ hh0 (Stand.of_body B)
    exact ⟨t, o, a1, b1, b2, b3⟩
/-- the table of a body with handlers -/
theorem vx_table {p : Program} {x y : MethodName} {S : Spec} {cc bytes : ByteArray} {maxL maxL' : Nat} {ret ret' : Option FieldType} {e : Env} {s s₁ : State} {m : MethodId} {args : Array Value} {below : List Frame} {meth : Method} {c : Code} {hh : List (Nat × Nat × Nat × Nat)}
    (B : BodyLoose p l y S cc maxL ret e s m args below meth c s₁) (h : (Cond.codeWith y bytes maxL' ret' hh).before args s = true) : c.exceptionTable.toList = tableOf hh := by
  obtain ⟨m9, meth9, c9, hn9, h1, h2, -, -, h6, -⟩ := Cond.codeWith_spec h
  cases Option.some.inj (hn9.symm.trans B.named)
  cases Option.some.inj (h1.symm.trans B.method)
  cases Option.some.inj (h2.symm.trans (Stand.of_body B).code)
  rw [← h6, table_eq]
end Bodies
end VXA
/-! ===== END ===== -/
/-! ===== BEGIN a static call of a method with an exception table ===== -/
section VXS
variable {p : Program} {l : Launch} {e : Env} {R : Room} {s : State} {m : MethodId} {args : Array Value} {below : List Frame} {meth : Method} {c : Code} {T : State} {H : Heap} {locs : List Loc} {cells slots : Nat}
abbrev vx_CSW (R : Room) (s : State) (args : Array Value) (own : String) (index : Nat) (y : MethodName) (bytes : ByteArray) (maxL : Nat) (ret : Option FieldType) (hh : List (Nat × Nat × Nat × Nat)) (ws : List Cond) (rm : Room) (mc ms n : Nat) : Prop :=
  (rm.cells = mc ∧ rm.slots = ms ∧ rm.frames + 1 ≤ R.frames ∧ 8 + (maxL + 11) + rm.locals ≤ R.locals ∧ (∀ w ∈ ws, ∀ (a' : Array Value) (U : State), s.WarmedH U.vm → w.before a' U = true) ∧ Cond.codeWith y bytes maxL ret hh ∈ ws) ∧
  (Cond.codeWith y bytes maxL ret hh).before args s = true ∧ (Cond.initialized y.cls).before args s = true ∧ (y.cls ≠ "java/lang/invoke/MethodHandle" ∧ y.cls ≠ "java/lang/invoke/VarHandle") ∧
  (∀ sig, parseMethodDescriptor y.desc = some sig → n = sig.parameters.length) ∧ (Cond.methodLink own index y).before args s = true ∧ (Cond.static y).before args s = true
theorem vx_cwSW {own : String} {index maxL mc ms : Nat} {y : MethodName} {bytes : ByteArray} {ret : Option FieldType} {hh : List (Nat × Nat × Nat × Nat)} {Ts ws ws' : List Cond} {rm : Room} (n : Nat) (ht : ∀ w ∈ Ts, w.before args s = true) (hT : GoodIn Ts (va_wsS own index y ws)) (hw : ws = Cond.codeWith y bytes maxL ret hh :: ws') (hrc : rm.cells = mc) (hrs : rm.slots = ms)
    (hd : y.cls ≠ "java/lang/invoke/MethodHandle" ∧ y.cls ≠ "java/lang/invoke/VarHandle" ∧ (parseMethodDescriptor y.desc).map (fun d => d.parameters.length) = some n) (hR : rm.frames + 1 ≤ R.frames ∧ 8 + (maxL + 11) + rm.locals ≤ R.locals) :
    vx_CSW R s args own index y bytes maxL ret hh ws rm mc ms n := by
  have ok : ∀ w ∈ va_wsS own index y ws, w.before args s = true := fun w h => ht w (hT w h).1
  have hG : GoodIn Ts ws := fun w h => hT w (by unfold va_wsS; exact List.mem_append_right _ h)
  have hc : Cond.codeWith y bytes maxL ret hh ∈ ws := by rw [hw]; exact List.mem_cons_self
  refine ⟨⟨hrc, hrs, hR.1, hR.2, pay_in ht hG, hc⟩, ht _ (hG _ hc).1, ok _ (by simp [va_wsS]), ⟨hd.1, hd.2.1⟩, fun sig h => ?_, ok _ (by simp [va_wsS]), ok _ (by simp [va_wsS])⟩
  have h2 := hd.2.2
  rw [h] at h2
  exact (Option.some.inj h2).symm
theorem vx_callSW (X : Stand p l e R s m args below meth c T locs cells slots) (hexec : p.tables.exec = Jvm.exec) {own : String} {index : Nat} {y : MethodName} {bytes : ByteArray} {maxL : Nat} {ret : Option FieldType} {hh : List (Nat × Nat × Nat × Nat)}
    (hown : s.vm.findClass own = some m.cls) (hlink : (Cond.methodLink own index y).before args s = true) (hstat : (Cond.static y).before args s = true) (hinit : (Cond.initialized y.cls).before args s = true)
    (hcode : (Cond.codeWith y bytes maxL ret hh).before args s = true) (hy : y.cls ≠ "java/lang/invoke/MethodHandle" ∧ y.cls ≠ "java/lang/invoke/VarHandle")
    {W9 : Nat} {Pre : Pt → Array Value → Prop} {Post : Pt → Array Value → Option Value → Pt → Prop} (hK : Back l R p e below s args y 3 W9 Pre Post)
    {g : JFrame} (hg : g.method = m) (hsize : g.locals.size = c.maxLocals) {argsL rest : List Value} (hlen : ∀ sig, parseMethodDescriptor y.desc = some sig → argsL.length = sig.parameters.length)
    (hstack : g.stack = argsL.reverse ++ rest) (hW : 2 * g.monitorRoom + (rest.map fun v => v.category).sum ≤ W9) (hdg : decode c.code g.pc = .ok (.invokestatic index, 3))
    (hpre : ∀ vm₁, s.WarmedH vm₁ → Pre ⟨T.setVm vm₁, locs, cells, slots⟩ argsL.toArray) :
    ∃ (v : Option Value) (vm₁ : Vm) (B : Pt), s.WarmedH vm₁ ∧ Stand p l e R s m args below meth c B.U B.locs B.cells B.slots ∧ Post ⟨T.setVm vm₁, locs, cells, slots⟩ argsL.toArray v B ∧
      ∀ target, Steps p.tables e below (B.U.setTop { g with pc := g.pc + 3, stack := v.toList ++ rest }) target → Steps p.tables e below (T.setTop g) target := by
  obtain ⟨mk, methM, cM, hnamed, hmethM, -, -, -, -, -, -, hsigM⟩ := Cond.codeWith_spec hcode
  have hstatic : methM.isStatic = true := Cond.static_spec hnamed hmethM hstat
  obtain ⟨kP, hkP, -⟩ := className_of_methodNamed hnamed
  have hinitP : kP.init = .initialized := Cond.initialized_spec (findClass_of_methodNamed hnamed) hkP hinit
  obtain ⟨vm₁, X₁, hstep₁⟩ := X.invokestatic hexec hown hlink hnamed hmethM hstatic hkP hinitP hy (g := g) hg (argsL := argsL) (rest := rest) (hlen _ hsigM) hstack hdg
  obtain ⟨v, B, X', hpost, hsteps⟩ := hK m meth c ⟨T.setVm vm₁, locs, cells, slots⟩ { g with stack := rest } (.invokestatic index) mk argsL.toArray X₁ hg hsize hdg hW (X₁.named hnamed) (hpre vm₁ X₁.warmed)
  exact ⟨v, vm₁, B, X₁.warmed, X', hpost, fun target h => hstep₁ _ fun acts => by rw [doInvoke_state]; exact hsteps.trans h⟩
theorem vx_runSW {y : MethodName} {bytes cc : ByteArray} {maxL nL mc ms n index : Nat} {ret : Option FieldType} {hh : List (Nat × Nat × Nat × Nat)} {ws : List Cond} {rm : Room} {Pc : Array Value → State → Prop} {Qc : Array Value → State → Outcome → State → Prop} {free : Addr → Prop} {Ts : List Cond} {own : String} {As rest : List Value} {g : JFrame}
    (S : CallFix p m c cc nL s args Ts own) (hM : Met l y ws rm Pc Qc mc ms free) (cw : vx_CSW R s args own index y bytes maxL ret hh ws rm mc ms n) (hp : PreS s H Pc As)
    (hg : g.method = m) (hn : As.length = n) (hsize : g.locals.size = nL) (hstack : g.stack = As.reverse ++ rest) (hW : 2 * g.monitorRoom + (rest.map fun v => v.category).sum ≤ 8) (hdg : decode cc g.pc = .ok (.invokestatic index, 3)) (hf : cells + mc ≤ R.cells ∧ slots + ms ≤ R.slots) :
    va_Run p l e R s m args below meth c H locs cells slots mc ms g rest (Qc As.toArray) (free) := by
  obtain ⟨⟨hrc, hrs, hfr, hlo, hws, hcw⟩, hcode, hini, hy, hlen, hl, hstt⟩ := cw
  have hK : Back l R p e below s args y 3 8 (PreOf R mc ms Pc) (PostOf Qc mc ms free) := va_backW (hh := hh) (bytes := bytes) (maxL := maxL) (ret := ret) hM hp.1 hrc hrs hfr hlo hws hcw (fun a' U hW => word_at hW (Or.inl (by first | rfl | simp [Cond.onTables, Cond.keeps, Cond.steady])) hini)
  obtain ⟨hx, hb, hml, ho, -⟩ := S
  intro T hT X
  obtain ⟨v, vm₁, ⟨U', l2, c2, s2⟩, hW₁, X', ⟨g', mk, t, L, e1, e2, hq, h1, hL, h2, h3⟩, st⟩ := vx_callSW X hx (hh := hh) (bytes := bytes) (maxL := maxL) (ret := ret) ho hl hstt hini hcode hy hK hg (hsize.trans hml.symm) (argsL := As) (rest := rest) (fun sig h => hn.trans (hlen sig h)) hstack hW (by rw [hb]; exact hdg)
    (fun vm₁ hW₁ => ⟨hf.1, hf.2, hp.2 (T.setVm vm₁) hT hW₁⟩)
  dsimp only [Pt.U, Pt.locs, Pt.cells, Pt.slots] at X' e1 e2 h1 h2 h3 st
  subst h1; subst h2; subst h3
  exact ⟨v, (T.setVm vm₁).calling g' mk As.toArray, t, U', L, hT, X', hL, e1, e2, hq, st⟩
/-- not caught here, past rows that name other classes: it goes on to the caller -/
theorem vx_outP {p : Program} {l : Launch} {e : Env} {R : Room} {s : State} {m : MethodId} {args : Array Value} {below : List Frame} {meth : Method} {c : Code} {H : Heap} {locs : List Loc} {cells slots : Nat} {free : Addr → Prop} {ls : Array Slot} {rest : List Value} {Qc : Array Value → State → Outcome → State → Prop} {XC : String → State → State → Prop}
    {pc : Nat} {own E : String} {ce : Cell} {q : Addr} {mc ms : Nat} (hown : s.vm.findClass own = some m.cls) (hlocks : meth.locks = false)
    (hpass : ∀ z ∈ c.exceptionTable.toList, covers z pc = false ∨ (z.catchType ≠ 0 ∧ ∃ nm : String, (Cond.classLink own z.catchType nm).before args s = true ∧ va_Nc E nm s)) (hcell : H[q]? = some ce) (hv : ce.vm = .none) (hcl : s.vm.findClass E = some ce.cls)
    (hx : ∀ t : State, t.heap = H → s.vm.Alike t.vm → XC E s t) (hf : ∀ z ∈ locs, free z.base) (hc : cells ≤ mc) (hs : slots ≤ ms) :
    vx_W p l e R s m args below meth c H locs cells slots (vx_MQ below Qc XC args s mc ms free) (F0 m pc ls rest) q := by
  intro T hT X
  have hpl : e.platform.magicAccessors = ({} : Platform).magicAccessors := by rw [X.admits.platform]
  obtain ⟨vm', hW', X', st⟩ := X.outThrough hlocks q (g := F0 m pc ls rest) rfl rfl rfl (cell := ce) (by rw [hT]; exact hcell) (by rw [hv]; rfl)
    (by obtain ⟨k9, h9, -⟩ := Vm.findClass_spec hcl; exact ⟨k9, h9⟩) (fun z hz => by
      rcases hpass z hz with h | ⟨hz0, nm, hl1, hn1⟩
      · exact Or.inl h
      · obtain ⟨c6, hc6, hcl6⟩ := Cond.classLink_spec hown hl1 e.platform hpl
        obtain ⟨a8, b8, h1, h2, h3⟩ := hn1
        cases Option.some.inj (h1.symm.trans hcl)
        cases Option.some.inj (h2.symm.trans hc6)
        exact Or.inr ⟨hz0, _, hcl6, h3⟩)
  obtain ⟨g₀, hfr⟩ := X'.frames_eq
  have hcell9 : ((T.setVm vm').setFrames (.throwing q :: below)).heap[q]? = some ce := by
    show T.heap[q]? = some ce
    rw [hT]; exact hcell
  have hend : Ended ((T.setVm vm').setFrames (.throwing q :: below)) below (.threw q) := State.frames_setFrames _ (State.cur_lt_of_frames hfr)
  refine ⟨(T.setVm vm').setFrames (.throwing q :: below), ?_, .threw q, X'.here.running, hend, Or.inr ⟨q, rfl, E, ce, locs, hx _ hT (X'.ends _).1.alike, hcell9, hv, hcl, (X'.ends _).1, (X'.ends _).2.mono hc hs, hf⟩⟩
  rw [X.pushThrowing_eq]
  exact st
/-- a thing of a world lies in the heap -/
theorem vx_lt {D : va_G} {cl : List vw_C} {ws : va_W} {H1 : Heap} (h : va_P D cl ws H1) {k : Nat} {q : Nat × va_E} (hk : ws[k]? = some q) : q.1 < H1.size := (h k q hk).lt
end VXS
/-! ===== END ===== -/
/-! ===== BEGIN methods with a table of their own: called by a name, returning or throwing ===== -/
section VXH
/-! vx_backW, vx_callVX, vx_callSX, vx_callVW, vx_runVW, vx_runVX, vx_runSX, vx_ofWH follow the same proofs as their sisters above (Free/Laws.lean, Shelf42/LK1.lean); vx_outP calls Shelf42/NT130.lean (outThrough). -/
section
variable {l : Launch} {R : Room} {p : Program} {e : Env} {below : List Frame} {s : State} {sargs : Array Value} {y : MethodName} {len W9 : Nat}
theorem vx_backW {ws : List Cond} {rm : Room} {Pc : Array Value → State → Prop} {Qc : Array Value → State → Outcome → State → Prop} {XC : String → State → State → Prop} {mc ms : Nat} {free : Addr → Prop} {bytes : ByteArray} {maxL : Nat} {ret : Option FieldType} {hh : List (Nat × Nat × Nat × Nat)}
    (hM : vx_Met l y ws rm Pc Qc XC mc ms free) (hblind : FrameBlind Pc) (hrc : rm.cells = mc) (hrs : rm.slots = ms)
    (hframes : rm.frames + 1 ≤ R.frames) (hlocals : W9 + (maxL + 11) + rm.locals ≤ R.locals)
    (hws : ∀ w ∈ ws, ∀ a' U, s.WarmedH U.vm → w.before a' U = true) (hcode : Cond.codeWith y bytes maxL ret hh ∈ ws) (hinit : ∀ a' U, s.WarmedH U.vm → (Cond.initialized y.cls).before a' U = true) :
    vx_Back l R p e below s sargs y len W9 (PreOf R mc ms Pc) (PostOf Qc mc ms free) (vx_Post XC mc ms free) := by
  intro m meth c A g ig mk a X hg hsize hdg hW hn hp
  have h1 : (headSpec ws rm).pre.before a A.U = true := atoms_intro fun w hw => hws w hw _ _ X.warmed
  have h2 : (Cond.codeWith y bytes maxL ret hh).before a A.U = true := hws _ hcode _ _ X.warmed
  have h3 : (Cond.initialized y.cls).before a A.U = true := hinit _ _ X.warmed
  have h4 : A.cells + (headSpec ws rm).room.cells ≤ R.cells := by rw [show (headSpec ws rm).room.cells = mc from hrc]; exact hp.1
  have h5 : A.slots + (headSpec ws rm).room.slots ≤ R.slots := by rw [show (headSpec ws rm).room.slots = ms from hrs]; exact hp.2.1
  have hPc : Pc a (A.U.calling g mk a) := hblind _ _ _ _ hp.2.2
  obtain ⟨U, Ls, c0, s0⟩ := A
  dsimp only [Pt.U, Pt.locs, Pt.cells, Pt.slots] at h1 h2 h3 h4 h5 X hn hPc ⊢
  obtain ⟨m9, methY, cY, hn9, hmY, hcY, -, hlY, -⟩ := Cond.codeWith_spec h2
  cases Option.some.inj (hn9.symm.trans hn)
  obtain ⟨kY, hkY, -⟩ := className_of_methodNamed hn
  have hinitY : kY.init = .initialized := Cond.initialized_spec (findClass_of_methodNamed hn) hkY h3
  have h : At U g.method c below := by rw [hg]; exact X.here
  have hlocals9 : W9 + (maxL + 11) + (headSpec ws rm).room.locals ≤ R.locals := hlocals
  have happ : (headSpec ws rm).appliesLoose y e.platform (U.calling g mk a) = true :=
    Spec.appliesLoose_calling (g := g) h hdg hn hkY hinitY
      (X.room_calling (g := g) (R' := (headSpec ws rm).room) hsize hmY hcY hframes (by rw [hlY]; omega) h4 h5) h1
  obtain ⟨mid, hmid⟩ := h.above
  have hfr : (U.setTop g).frames = (.java g :: mid) ++ below := by rw [State.frames_setTop' g h.top, hmid]; rfl
  obtain ⟨o, s₂, hsteps, -, hend, hq⟩ := Steps.callFree hM p X.admits X.cas X.clock (acts := []) hfr happ hPc trivial
  have hq' : vx_Q Qc XC mc ms free a (U.calling g mk a) o s₂ := hq
  rw [State.frames_setTop' g h.top] at hend
  obtain ⟨g₀, hg0⟩ := Option.isSome_iff_exists.mp h.top
  obtain ⟨r, hr⟩ := State.topJava?_eq_some.mp hg0
  have hr' : (({ U with heap := s₂.heap, slotsUsed := s₂.slotsUsed } : State).setVm s₂.vm).frames = .java g₀ :: r := hr
  rcases hq' with ⟨hqc, L, hfe, hL⟩ | ⟨q, rfl, E, ce, L, hx, hce, hcv, hcl, hW₂, hsm, hL⟩
  · obtain ⟨⟨v, rfl⟩, hW₂, e2, q2, q3, q4, q5, q6⟩ := id hfe
    have e3 : s₂ = ({ (U.calling g mk a).setFrames s₂.frames with heap := s₂.heap, slotsUsed := s₂.slotsUsed } : State).setVm s₂.vm := by
      have : s₂ = ({ s₂ with vm := (U.calling g mk a).vm } : State).setVm s₂.vm := rfl
      rw [e2] at this
      exact this
    obtain ⟨c₂, i₂, len₂, hc₂, hd₂, hf₂⟩ := hend
    have hW' : U.WarmedH s₂.vm := hW₂
    have hcc : c₂ = c := by
      have h1 : s₂.code? g.method = U.code? g.method := by
        rw [State.code?_eq, State.code?_eq, hW'.alike.method?]
      exact Option.some.inj (hc₂.symm.trans (h1.trans h.code))
    subst hcc
    have hlen : len₂ = len := by rw [hdg] at hd₂; cases hd₂; rfl
    subst hlen
    have hs₂ : s₂ = (({ U with heap := s₂.heap, slotsUsed := s₂.slotsUsed } : State).setVm s₂.vm).setTop { g with pc := g.pc + len₂, stack := v.toList ++ g.stack } := by
      refine e3.trans ?_
      rw [hf₂, State.calling_eq h.top, State.setFrames_setFrames, State.setTop_of_frames _ hr', hr]
      rfl
    have hsame : U.sameButNew ({ U with heap := s₂.heap, slotsUsed := s₂.slotsUsed } : State) L mc ms := by
      refine ⟨?_, q2, q3, q4, q5, q6⟩
      obtain ⟨t, ht, -⟩ := State.frames_cons hr
      show ({ U with heap := s₂.heap, slotsUsed := s₂.slotsUsed } : State) = { U.setFrames U.frames with heap := s₂.heap, slotsUsed := s₂.slotsUsed }
      rw [State.setFrames_self ht]
    subst hg
    refine Or.inl ⟨v, ⟨(({ U with heap := s₂.heap, slotsUsed := s₂.slotsUsed } : State).setVm s₂.vm), Ls ++ L, c0 + mc, s0 + ms⟩,
      ⟨X.admits, X.cas, X.clock, X.frames, X.room, X.hears, X.method, X.code, (X.here.setHeapUsed s₂.heap s₂.slotsUsed).setVm hW'.alike, X.tail, State.WarmedH.trans X.warmed hW', X.limits, X.bytes, X.same.trans (hsame.setVm s.vm)⟩,
      ⟨g, mk, s₂, L, rfl, rfl, hqc, rfl, hL, rfl, rfl⟩, ?_⟩
    show Steps p.tables e below _ ((({ U with heap := s₂.heap, slotsUsed := s₂.slotsUsed } : State).setVm s₂.vm).setTop { g with pc := g.pc + len₂, stack := v.toList ++ g.stack })
    rw [← hs₂]
    exact hsteps
  · obtain ⟨e2, q2, q3, q4, q5, q6⟩ := id hsm
    have e3 : s₂ = ({ (U.calling g mk a).setFrames s₂.frames with heap := s₂.heap, slotsUsed := s₂.slotsUsed } : State).setVm s₂.vm := by
      have : s₂ = ({ s₂ with vm := (U.calling g mk a).vm } : State).setVm s₂.vm := rfl
      rw [e2] at this
      exact this
    have hf₂ : s₂.frames = .throwing q :: .java g :: U.frames.tail := hend
    have hW' : U.WarmedH s₂.vm := hW₂
    have hs₂ : s₂ = ((({ U with heap := s₂.heap, slotsUsed := s₂.slotsUsed } : State).setVm s₂.vm).setTop g).pushFrame (.throwing q) := by
      refine e3.trans ?_
      rw [hf₂, State.calling_eq h.top, State.setFrames_setFrames, State.pushFrame, State.frames_setTop _ hr', State.setTop_of_frames _ hr', State.setFrames_setFrames, hr]
      rfl
    have hsame : U.sameButNew ({ U with heap := s₂.heap, slotsUsed := s₂.slotsUsed } : State) L mc ms := by
      refine ⟨?_, q2, q3, q4, q5, q6⟩
      obtain ⟨t, ht, -⟩ := State.frames_cons hr
      show ({ U with heap := s₂.heap, slotsUsed := s₂.slotsUsed } : State) = { U.setFrames U.frames with heap := s₂.heap, slotsUsed := s₂.slotsUsed }
      rw [State.setFrames_self ht]
    subst hg
    refine Or.inr ⟨q, ⟨(({ U with heap := s₂.heap, slotsUsed := s₂.slotsUsed } : State).setVm s₂.vm), Ls ++ L, c0 + mc, s0 + ms⟩,
      ⟨X.admits, X.cas, X.clock, X.frames, X.room, X.hears, X.method, X.code, (X.here.setHeapUsed s₂.heap s₂.slotsUsed).setVm hW'.alike, X.tail, State.WarmedH.trans X.warmed hW', X.limits, X.bytes, X.same.trans (hsame.setVm s.vm)⟩,
      ⟨g, mk, s₂, L, E, ce, rfl, rfl, hx, hce, hcv, hcl, rfl, hL, rfl, rfl⟩, ?_⟩
    show Steps p.tables e below _ (((({ U with heap := s₂.heap, slotsUsed := s₂.slotsUsed } : State).setVm s₂.vm).setTop g).pushFrame (.throwing q))
    rw [← hs₂]
    exact hsteps
end
variable {p : Program} {l : Launch} {e : Env} {R : Room} {s : State} {m : MethodId} {args : Array Value} {below : List Frame} {meth : Method} {c : Code} {T : State} {H : Heap} {locs : List Loc} {cells slots : Nat}
theorem vx_callVX (X : Stand p l e R s m args below meth c T locs cells slots) (hexec : p.tables.exec = Jvm.exec) {own C : String} {index : Nat} {y : MethodName} {bytes : ByteArray} {maxL : Nat} {ret : Option FieldType} {hh : List (Nat × Nat × Nat × Nat)}
    (hown : s.vm.findClass own = some m.cls) (hlink : (Cond.methodLink own index y).before args s = true) (hinst : (Cond.instanceMethod y).before args s = true) (hsel : (Cond.selects C y y).before args s = true)
    (hcode : (Cond.codeWith y bytes maxL ret hh).before args s = true) (hy : y.cls ≠ "java/lang/invoke/MethodHandle" ∧ y.cls ≠ "java/lang/invoke/VarHandle")
    {W9 : Nat} {Pre : Pt → Array Value → Prop} {Post : Pt → Array Value → Option Value → Pt → Prop} {PostX : Pt → Array Value → Addr → Pt → Prop} (hK : vx_Back l R p e below s args y 3 W9 Pre Post PostX)
    {b : Addr} {cellB : Cell} (hcell : T.heap[b]? = some cellB) (hobj : cellB.vm.isStatics = false) (hcls : s.vm.findClass C = some cellB.cls)
    {g : JFrame} (hg : g.method = m) (hsize : g.locals.size = c.maxLocals) {argsL rest : List Value} (hlen : ∀ sig, parseMethodDescriptor y.desc = some sig → argsL.length = sig.parameters.length)
    (hstack : g.stack = argsL.reverse ++ .ref b :: rest) (hW : 2 * g.monitorRoom + (rest.map fun v => v.category).sum ≤ W9) (hdg : decode c.code g.pc = .ok (.invokevirtual index, 3))
    (hpre : ∀ vm₁, s.WarmedH vm₁ → Pre ⟨T.setVm vm₁, locs, cells, slots⟩ (Value.ref b :: argsL).toArray) :
    (∃ (v : Option Value) (vm₁ : Vm) (B : Pt), s.WarmedH vm₁ ∧ Stand p l e R s m args below meth c B.U B.locs B.cells B.slots ∧ Post ⟨T.setVm vm₁, locs, cells, slots⟩ (Value.ref b :: argsL).toArray v B ∧
      ∀ target, Steps p.tables e below (B.U.setTop { g with pc := g.pc + 3, stack := v.toList ++ rest }) target → Steps p.tables e below (T.setTop g) target) ∨
    (∃ (q : Addr) (vm₁ : Vm) (B : Pt), s.WarmedH vm₁ ∧ Stand p l e R s m args below meth c B.U B.locs B.cells B.slots ∧ PostX ⟨T.setVm vm₁, locs, cells, slots⟩ (Value.ref b :: argsL).toArray q B ∧
      Steps p.tables e below (T.setTop g) ((B.U.setTop { g with stack := rest }).pushFrame (.throwing q))) := by
  obtain ⟨mk, methM, hnamed, hmethM, hstM, habM⟩ := Cond.instanceMethod_spec hinst
  obtain ⟨m8, methM', cM, hn8, hmethM', -, -, -, -, -, -, hsigM⟩ := Cond.codeWith_spec hcode
  cases Option.some.inj (hn8.symm.trans hnamed)
  cases hmethM.symm.trans hmethM'
  obtain ⟨c2, r2, m2, q1, q2, q3, q4, kP, hkP, hkPi⟩ := Cond.selects_spec hsel
  cases hcls.symm.trans q1
  cases (State.methodFound?_of_named hnamed hy).symm.trans q2
  cases hnamed.symm.trans q3
  have hselP : selectMethod e.platform s.vm cellB.cls mk = .method mk := by rw [Launch.admits_selectMethod X.admits]; exact q4
  obtain ⟨vm₁, X₁, hstep₁⟩ := X.invokevirtual hexec hown hlink hnamed hmethM hstM hkP hkPi hy (a := b) (cell := cellB) hcell
    (fun z h => by rw [h] at hobj; cases hobj) hselP hmethM habM hkP hkPi (g := g) hg (argsL := argsL) (rest := rest) (hlen _ hsigM) hstack hdg
  rcases hK m meth c ⟨T.setVm vm₁, locs, cells, slots⟩ { g with stack := rest } (.invokevirtual index) mk (Value.ref b :: argsL).toArray X₁ hg hsize hdg hW (X₁.named hnamed) (hpre vm₁ X₁.warmed) with ⟨v, B, X', hpost, hsteps⟩ | ⟨q, B, X', hpost, hsteps⟩
  · exact Or.inl ⟨v, vm₁, B, X₁.warmed, X', hpost, fun target h => hstep₁ _ fun acts => by rw [doInvoke_state]; exact hsteps.trans h⟩
  · exact Or.inr ⟨q, vm₁, B, X₁.warmed, X', hpost, hstep₁ _ fun acts => by rw [doInvoke_state]; exact hsteps⟩
theorem vx_callSX (X : Stand p l e R s m args below meth c T locs cells slots) (hexec : p.tables.exec = Jvm.exec) {own : String} {index : Nat} {y : MethodName} {bytes : ByteArray} {maxL : Nat} {ret : Option FieldType} {hh : List (Nat × Nat × Nat × Nat)}
    (hown : s.vm.findClass own = some m.cls) (hlink : (Cond.methodLink own index y).before args s = true) (hstat : (Cond.static y).before args s = true) (hinit : (Cond.initialized y.cls).before args s = true)
    (hcode : (Cond.codeWith y bytes maxL ret hh).before args s = true) (hy : y.cls ≠ "java/lang/invoke/MethodHandle" ∧ y.cls ≠ "java/lang/invoke/VarHandle")
    {W9 : Nat} {Pre : Pt → Array Value → Prop} {Post : Pt → Array Value → Option Value → Pt → Prop} {PostX : Pt → Array Value → Addr → Pt → Prop} (hK : vx_Back l R p e below s args y 3 W9 Pre Post PostX)
    {g : JFrame} (hg : g.method = m) (hsize : g.locals.size = c.maxLocals) {argsL rest : List Value} (hlen : ∀ sig, parseMethodDescriptor y.desc = some sig → argsL.length = sig.parameters.length)
    (hstack : g.stack = argsL.reverse ++ rest) (hW : 2 * g.monitorRoom + (rest.map fun v => v.category).sum ≤ W9) (hdg : decode c.code g.pc = .ok (.invokestatic index, 3))
    (hpre : ∀ vm₁, s.WarmedH vm₁ → Pre ⟨T.setVm vm₁, locs, cells, slots⟩ argsL.toArray) :
    (∃ (v : Option Value) (vm₁ : Vm) (B : Pt), s.WarmedH vm₁ ∧ Stand p l e R s m args below meth c B.U B.locs B.cells B.slots ∧ Post ⟨T.setVm vm₁, locs, cells, slots⟩ argsL.toArray v B ∧
      ∀ target, Steps p.tables e below (B.U.setTop { g with pc := g.pc + 3, stack := v.toList ++ rest }) target → Steps p.tables e below (T.setTop g) target) ∨
    (∃ (q : Addr) (vm₁ : Vm) (B : Pt), s.WarmedH vm₁ ∧ Stand p l e R s m args below meth c B.U B.locs B.cells B.slots ∧ PostX ⟨T.setVm vm₁, locs, cells, slots⟩ argsL.toArray q B ∧
      Steps p.tables e below (T.setTop g) ((B.U.setTop { g with stack := rest }).pushFrame (.throwing q))) := by
  obtain ⟨mk, methM, cM, hnamed, hmethM, -, -, -, -, -, -, hsigM⟩ := Cond.codeWith_spec hcode
  have hstatic : methM.isStatic = true := Cond.static_spec hnamed hmethM hstat
  obtain ⟨kP, hkP, -⟩ := className_of_methodNamed hnamed
  have hinitP : kP.init = .initialized := Cond.initialized_spec (findClass_of_methodNamed hnamed) hkP hinit
  obtain ⟨vm₁, X₁, hstep₁⟩ := X.invokestatic hexec hown hlink hnamed hmethM hstatic hkP hinitP hy (g := g) hg (argsL := argsL) (rest := rest) (hlen _ hsigM) hstack hdg
  rcases hK m meth c ⟨T.setVm vm₁, locs, cells, slots⟩ { g with stack := rest } (.invokestatic index) mk argsL.toArray X₁ hg hsize hdg hW (X₁.named hnamed) (hpre vm₁ X₁.warmed) with ⟨v, B, X', hpost, hsteps⟩ | ⟨q, B, X', hpost, hsteps⟩
  · exact Or.inl ⟨v, vm₁, B, X₁.warmed, X', hpost, fun target h => hstep₁ _ fun acts => by rw [doInvoke_state]; exact hsteps.trans h⟩
  · exact Or.inr ⟨q, vm₁, B, X₁.warmed, X', hpost, hstep₁ _ fun acts => by rw [doInvoke_state]; exact hsteps⟩
theorem vx_callVW (X : Stand p l e R s m args below meth c T locs cells slots) (hexec : p.tables.exec = Jvm.exec) {own C : String} {index : Nat} {y : MethodName} {bytes : ByteArray} {maxL : Nat} {ret : Option FieldType} {hh : List (Nat × Nat × Nat × Nat)}
    (hown : s.vm.findClass own = some m.cls) (hlink : (Cond.methodLink own index y).before args s = true) (hinst : (Cond.instanceMethod y).before args s = true) (hsel : (Cond.selects C y y).before args s = true)
    (hcode : (Cond.codeWith y bytes maxL ret hh).before args s = true) (hy : y.cls ≠ "java/lang/invoke/MethodHandle" ∧ y.cls ≠ "java/lang/invoke/VarHandle")
    {W9 : Nat} {Pre : Pt → Array Value → Prop} {Post : Pt → Array Value → Option Value → Pt → Prop} (hK : Back l R p e below s args y 3 W9 Pre Post)
    {b : Addr} {cellB : Cell} (hcell : T.heap[b]? = some cellB) (hobj : cellB.vm.isStatics = false) (hcls : s.vm.findClass C = some cellB.cls)
    {g : JFrame} (hg : g.method = m) (hsize : g.locals.size = c.maxLocals) {argsL rest : List Value} (hlen : ∀ sig, parseMethodDescriptor y.desc = some sig → argsL.length = sig.parameters.length)
    (hstack : g.stack = argsL.reverse ++ .ref b :: rest) (hW : 2 * g.monitorRoom + (rest.map fun v => v.category).sum ≤ W9) (hdg : decode c.code g.pc = .ok (.invokevirtual index, 3))
    (hpre : ∀ vm₁, s.WarmedH vm₁ → Pre ⟨T.setVm vm₁, locs, cells, slots⟩ (Value.ref b :: argsL).toArray) :
    ∃ (v : Option Value) (vm₁ : Vm) (B : Pt), s.WarmedH vm₁ ∧ Stand p l e R s m args below meth c B.U B.locs B.cells B.slots ∧ Post ⟨T.setVm vm₁, locs, cells, slots⟩ (Value.ref b :: argsL).toArray v B ∧
      ∀ target, Steps p.tables e below (B.U.setTop { g with pc := g.pc + 3, stack := v.toList ++ rest }) target → Steps p.tables e below (T.setTop g) target := by
  obtain ⟨mk, methM, hnamed, hmethM, hstM, habM⟩ := Cond.instanceMethod_spec hinst
  obtain ⟨m8, methM', cM, hn8, hmethM', -, -, -, -, -, -, hsigM⟩ := Cond.codeWith_spec hcode
  cases Option.some.inj (hn8.symm.trans hnamed)
  cases hmethM.symm.trans hmethM'
  obtain ⟨c2, r2, m2, q1, q2, q3, q4, kP, hkP, hkPi⟩ := Cond.selects_spec hsel
  cases hcls.symm.trans q1
  cases (State.methodFound?_of_named hnamed hy).symm.trans q2
  cases hnamed.symm.trans q3
  have hselP : selectMethod e.platform s.vm cellB.cls mk = .method mk := by rw [Launch.admits_selectMethod X.admits]; exact q4
  obtain ⟨vm₁, X₁, hstep₁⟩ := X.invokevirtual hexec hown hlink hnamed hmethM hstM hkP hkPi hy (a := b) (cell := cellB) hcell
    (fun z h => by rw [h] at hobj; cases hobj) hselP hmethM habM hkP hkPi (g := g) hg (argsL := argsL) (rest := rest) (hlen _ hsigM) hstack hdg
  obtain ⟨v, B, X', hpost, hsteps⟩ := hK m meth c ⟨T.setVm vm₁, locs, cells, slots⟩ { g with stack := rest } (.invokevirtual index) mk (Value.ref b :: argsL).toArray X₁ hg hsize hdg hW (X₁.named hnamed) (hpre vm₁ X₁.warmed)
  exact ⟨v, vm₁, B, X₁.warmed, X', hpost, fun target h => hstep₁ _ fun acts => by rw [doInvoke_state]; exact hsteps.trans h⟩
abbrev vx_CVW (R : Room) (s : State) (args : Array Value) (own C : String) (index : Nat) (y : MethodName) (bytes : ByteArray) (maxL : Nat) (ret : Option FieldType) (hh : List (Nat × Nat × Nat × Nat)) (ws : List Cond) (rm : Room) (mc ms n : Nat) : Prop :=
  (rm.cells = mc ∧ rm.slots = ms ∧ rm.frames + 1 ≤ R.frames ∧ 8 + (maxL + 11) + rm.locals ≤ R.locals ∧ (∀ w ∈ ws, ∀ (a' : Array Value) (U : State), s.WarmedH U.vm → w.before a' U = true) ∧ Cond.codeWith y bytes maxL ret hh ∈ ws) ∧
  (Cond.codeWith y bytes maxL ret hh).before args s = true ∧ (Cond.initialized y.cls).before args s = true ∧ (y.cls ≠ "java/lang/invoke/MethodHandle" ∧ y.cls ≠ "java/lang/invoke/VarHandle") ∧
  (∀ sig, parseMethodDescriptor y.desc = some sig → n = sig.parameters.length) ∧ (Cond.methodLink own index y).before args s = true ∧ (Cond.instanceMethod y).before args s = true ∧ (Cond.selects C y y).before args s = true
theorem vx_cwVW {own C : String} {index maxL mc ms : Nat} {y : MethodName} {bytes : ByteArray} {ret : Option FieldType} {hh : List (Nat × Nat × Nat × Nat)} {Ts ws ws' : List Cond} {rm : Room} (n : Nat) (ht : ∀ w ∈ Ts, w.before args s = true) (hT : GoodIn Ts (wsV own index C y ws)) (hw : ws = Cond.codeWith y bytes maxL ret hh :: ws') (hrc : rm.cells = mc) (hrs : rm.slots = ms)
    (hd : y.cls = C ∧ y.cls ≠ "java/lang/invoke/MethodHandle" ∧ y.cls ≠ "java/lang/invoke/VarHandle" ∧ (parseMethodDescriptor y.desc).map (fun d => d.parameters.length) = some n) (hR : rm.frames + 1 ≤ R.frames ∧ 8 + (maxL + 11) + rm.locals ≤ R.locals) :
    vx_CVW R s args own C index y bytes maxL ret hh ws rm mc ms n := by
  obtain ⟨hC, hd⟩ := hd
  subst hC
  have ok : ∀ w ∈ wsV own index y.cls y ws, w.before args s = true := fun w h => ht w (hT w h).1
  have hG : GoodIn Ts ws := fun w h => hT w (by unfold wsV; exact List.mem_append_right _ h)
  have hc : Cond.codeWith y bytes maxL ret hh ∈ ws := by rw [hw]; exact List.mem_cons_self
  refine ⟨⟨hrc, hrs, hR.1, hR.2, pay_in ht hG, hc⟩, ht _ (hG _ hc).1, ok _ (by simp [wsV]), ⟨hd.1, hd.2.1⟩, fun sig h => ?_, ok _ (by simp [wsV]), ok _ (by simp [wsV]), ok _ (by simp [wsV])⟩
  have h2 := hd.2.2
  rw [h] at h2
  exact (Option.some.inj h2).symm
theorem vx_runVW {y : MethodName} {bytes cc : ByteArray} {maxL nL mc ms n index : Nat} {ret : Option FieldType} {hh : List (Nat × Nat × Nat × Nat)} {ws : List Cond} {rm : Room} {Pc : Array Value → State → Prop} {Qc : Array Value → State → Outcome → State → Prop} {free : Addr → Prop} {Ts : List Cond} {own C : String} {b : Addr} {As rest : List Value} {g : JFrame}
    (S : CallFix p m c cc nL s args Ts own) (hM : Met l y ws rm Pc Qc mc ms free) (cw : vx_CVW R s args own C index y bytes maxL ret hh ws rm mc ms n) (hp : PreV s H C b Pc As)
    (hg : g.method = m) (hn : As.length = n) (hsize : g.locals.size = nL) (hstack : g.stack = As.reverse ++ .ref b :: rest) (hW : 2 * g.monitorRoom + (rest.map fun v => v.category).sum ≤ 8) (hdg : decode cc g.pc = .ok (.invokevirtual index, 3)) (hf : cells + mc ≤ R.cells ∧ slots + ms ≤ R.slots) :
    va_Run p l e R s m args below meth c H locs cells slots mc ms g rest (Qc (Value.ref b :: As).toArray) free := by
  obtain ⟨⟨hrc, hrs, hfr, hlo, hws, hcw⟩, hcode, hini, hy, hlen, hl, hin, hse⟩ := cw
  have hK : Back l R p e below s args y 3 8 (PreOf R mc ms Pc) (PostOf Qc mc ms free) := va_backW (hh := hh) (bytes := bytes) (maxL := maxL) (ret := ret) hM hp.1 hrc hrs hfr hlo hws hcw (fun a' U hW => word_at hW (Or.inl (by first | rfl | simp [Cond.onTables, Cond.keeps, Cond.steady])) hini)
  obtain ⟨hx, hb, hml, ho, -⟩ := S
  obtain ⟨-, ⟨cellB, hcB, hoB, hclB⟩, hPc⟩ := hp
  intro T hT X
  obtain ⟨v, vm₁, ⟨U', l2, c2, s2⟩, hW₁, X', ⟨g', mk, t, L, e1, e2, hq, h1, hL, h2, h3⟩, st⟩ := vx_callVW X hx (C := C) (hh := hh) (bytes := bytes) (maxL := maxL) (ret := ret) ho hl hin hse hcode hy hK (by rw [hT]; exact hcB) hoB hclB hg (hsize.trans hml.symm) (argsL := As) (rest := rest) (fun sig h => hn.trans (hlen sig h)) hstack hW (by rw [hb]; exact hdg)
    (fun vm₁ hW₁ => ⟨hf.1, hf.2, hPc (T.setVm vm₁) hT hW₁⟩)
  dsimp only [Pt.U, Pt.locs, Pt.cells, Pt.slots] at X' e1 e2 h1 h2 h3 st
  subst h1; subst h2; subst h3
  exact ⟨v, (T.setVm vm₁).calling g' mk (Value.ref b :: As).toArray, t, U', L, hT, X', hL, e1, e2, hq, st⟩
section
variable {y : MethodName} {bytes cc : ByteArray} {maxL nL mc ms n index : Nat} {ret : Option FieldType} {ws : List Cond} {rm : Room} {Pc : Array Value → State → Prop} {Qc : Array Value → State → Outcome → State → Prop} {XC : String → State → State → Prop} {free : Addr → Prop} {Ts : List Cond} {own C : String} {b : Addr} {As rest : List Value} {g : JFrame}
theorem vx_runVX {hh : List (Nat × Nat × Nat × Nat)} (S : CallFix p m c cc nL s args Ts own) (hM : vx_Met l y ws rm Pc Qc XC mc ms free) (cw : vx_CVW R s args own C index y bytes maxL ret hh ws rm mc ms n) (hp : PreV s H C b Pc As)
    (hg : g.method = m) (hn : As.length = n) (hsize : g.locals.size = nL) (hstack : g.stack = As.reverse ++ .ref b :: rest) (hW : 2 * g.monitorRoom + (rest.map fun v => v.category).sum ≤ 8) (hdg : decode cc g.pc = .ok (.invokevirtual index, 3)) (hf : cells + mc ≤ R.cells ∧ slots + ms ≤ R.slots) :
    vx_Run p l e R s m args below meth c H locs cells slots mc ms g rest (Qc (Value.ref b :: As).toArray) XC free := by
  obtain ⟨⟨hrc, hrs, hfr, hlo, hws, hcw⟩, hcode, hini, hy, hlen, hl, hin, hse⟩ := cw
  have hK : vx_Back l R p e below s args y 3 8 (PreOf R mc ms Pc) (PostOf Qc mc ms free) (vx_Post XC mc ms free) := vx_backW (hh := hh) (bytes := bytes) (maxL := maxL) (ret := ret) hM hp.1 hrc hrs hfr hlo hws hcw (fun a' U hW => word_at hW (Or.inl (by first | rfl | simp [Cond.onTables, Cond.keeps, Cond.steady])) hini)
  obtain ⟨hx, hb, hml, ho, -⟩ := S
  obtain ⟨-, ⟨cellB, hcB, hoB, hclB⟩, hPc⟩ := hp
  intro T hT X
  rcases vx_callVX X hx (C := C) (hh := hh) (bytes := bytes) (maxL := maxL) (ret := ret) ho hl hin hse hcode hy hK (by rw [hT]; exact hcB) hoB hclB hg (hsize.trans hml.symm) (argsL := As) (rest := rest) (fun sig h => hn.trans (hlen sig h)) hstack hW (by rw [hb]; exact hdg)
    (fun vm₁ hW₁ => ⟨hf.1, hf.2, hPc (T.setVm vm₁) hT hW₁⟩) with ⟨v, vm₁, ⟨U', l2, c2, s2⟩, hW₁, X', ⟨g', mk, t, L, e1, e2, hq, h1, hL, h2, h3⟩, st⟩ | ⟨q, vm₁, ⟨U', l2, c2, s2⟩, hW₁, X', ⟨g', mk, t, L, E, ce, e1, e2, hq, hce, hcv, hcl, h1, hL, h2, h3⟩, st⟩
  · dsimp only [Pt.U, Pt.locs, Pt.cells, Pt.slots] at X' e1 e2 h1 h2 h3 st
    subst h1; subst h2; subst h3
    exact Or.inl ⟨v, (T.setVm vm₁).calling g' mk (Value.ref b :: As).toArray, t, U', L, hT, X', hL, e1, e2, hq, st⟩
  · dsimp only [Pt.U, Pt.locs, Pt.cells, Pt.slots] at X' e1 e2 h1 h2 h3 st hcl
    subst h1; subst h2; subst h3
    exact Or.inr ⟨q, (T.setVm vm₁).calling g' mk (Value.ref b :: As).toArray, t, U', L, E, ce, hT, X', hL, e1, e2, hq, hce, hcv, vx_cls hW₁ hcl, st⟩
theorem vx_runSX {hh : List (Nat × Nat × Nat × Nat)} (S : CallFix p m c cc nL s args Ts own) (hM : vx_Met l y ws rm Pc Qc XC mc ms free) (cw : vx_CSW R s args own index y bytes maxL ret hh ws rm mc ms n) (hp : PreS s H Pc As)
    (hg : g.method = m) (hn : As.length = n) (hsize : g.locals.size = nL) (hstack : g.stack = As.reverse ++ rest) (hW : 2 * g.monitorRoom + (rest.map fun v => v.category).sum ≤ 8) (hdg : decode cc g.pc = .ok (.invokestatic index, 3)) (hf : cells + mc ≤ R.cells ∧ slots + ms ≤ R.slots) :
    vx_Run p l e R s m args below meth c H locs cells slots mc ms g rest (Qc As.toArray) XC free := by
  obtain ⟨⟨hrc, hrs, hfr, hlo, hws, hcw⟩, hcode, hini, hy, hlen, hl, hstt⟩ := cw
  have hK : vx_Back l R p e below s args y 3 8 (PreOf R mc ms Pc) (PostOf Qc mc ms free) (vx_Post XC mc ms free) := vx_backW (hh := hh) (bytes := bytes) (maxL := maxL) (ret := ret) hM hp.1 hrc hrs hfr hlo hws hcw (fun a' U hW => word_at hW (Or.inl (by first | rfl | simp [Cond.onTables, Cond.keeps, Cond.steady])) hini)
  obtain ⟨hx, hb, hml, ho, -⟩ := S
  intro T hT X
  rcases vx_callSX X hx (hh := hh) (bytes := bytes) (maxL := maxL) (ret := ret) ho hl hstt hini hcode hy hK hg (hsize.trans hml.symm) (argsL := As) (rest := rest) (fun sig h => hn.trans (hlen sig h)) hstack hW (by rw [hb]; exact hdg)
    (fun vm₁ hW₁ => ⟨hf.1, hf.2, hp.2 (T.setVm vm₁) hT hW₁⟩) with ⟨v, vm₁, ⟨U', l2, c2, s2⟩, hW₁, X', ⟨g', mk, t, L, e1, e2, hq, h1, hL, h2, h3⟩, st⟩ | ⟨q, vm₁, ⟨U', l2, c2, s2⟩, hW₁, X', ⟨g', mk, t, L, E, ce, e1, e2, hq, hce, hcv, hcl, h1, hL, h2, h3⟩, st⟩
  · dsimp only [Pt.U, Pt.locs, Pt.cells, Pt.slots] at X' e1 e2 h1 h2 h3 st
    subst h1; subst h2; subst h3
    exact Or.inl ⟨v, (T.setVm vm₁).calling g' mk As.toArray, t, U', L, hT, X', hL, e1, e2, hq, st⟩
  · dsimp only [Pt.U, Pt.locs, Pt.cells, Pt.slots] at X' e1 e2 h1 h2 h3 st hcl
    subst h1; subst h2; subst h3
    exact Or.inr ⟨q, (T.setVm vm₁).calling g' mk As.toArray, t, U', L, E, ce, hT, X', hL, e1, e2, hq, hce, hcv, vx_cls hW₁ hcl, st⟩
end
end VXH
theorem vx_ofWH {l : Launch} {y : MethodName} {ws ws' : List Cond} {rm : Room} {Pc : Array Value → State → Prop} {Qc : Array Value → State → Outcome → State → Prop} {XC : String → State → State → Prop} {mc ms : Nat} {free : Addr → Prop} {cc : ByteArray} {maxL : Nat} {ret : Option FieldType} {hh : List (Nat × Nat × Nat × Nat)}
    (hy : plainName y.cls = true) (hw : ws = Cond.codeWith y cc maxL ret hh :: ws')
    (body : ∀ p e s m args below meth c s₁, BodyLoose p l y (headSpec ws rm) cc maxL ret e s m args below meth c s₁ → c.maxLocals = maxL → Pc args s →
      W p l e (headSpec ws rm).room s m args below meth c s.heap [] 0 0 (vx_MQ below Qc XC args s mc ms free) (entryFrame m args maxL)) : vx_Met l y ws rm Pc Qc XC mc ms free := by
  refine MetFree.of_bodyS (code := cc) (maxLocals := maxL) (ret := ret) hy ?_ ?_
  · intro args s m h hn
    obtain ⟨m9, meth, c, hn9, h1, h2, h3, h4, -, h5, h6, -⟩ := Cond.codeWith_spec (atoms_spec (ws := ws) h _ (by rw [hw]; exact List.mem_cons_self))
    cases hn.symm.trans hn9
    exact ⟨meth, c, h1, h2, h3, h4, h5, h6⟩
  · intro p e s m args below meth c s₁ B hml hP _
    have hh0 : s₁.heap = s.heap := by rw [B.state]; rfl
    obtain ⟨t, a1, o, b1, b2, b3⟩ := body p e s m args below meth c s₁ B hml hP s₁ hh0 (Stand.of_body B)
    exact ⟨t, o, a1, b1, b2, b3⟩
/-! ===== END ===== -/
end
section
def RX0 : String := "BorrowedStones$Book"
def TX0 : u_T := fun k => match k with
  | 0 => ("BorrowedStones$Book", "stones", "[I", true)
  | _ => ("BorrowedStones$Book", "lines", "I", false)
def tyX0 : Nat → FieldType := fun k => match k with
  | 0 => .array .int
  | _ => .int
abbrev wsX00 : List Cond := u_ws RX0 TX0 2
theorem nmX0 : ∀ a, a < 2 → ∀ b, b < 2 → a ≠ b → (TX0 a).2.1 ≠ (TX0 b).2.1 := by decide +kernel
theorem tyX0_ok : ∀ k, k < 2 → parseFieldDescriptor (TX0 k).2.2.1 = some (tyX0 k) := by decide +kernel
abbrev cX0_init : ByteArray := prog_2_method_1_code
def yX0_init : MethodName := ⟨RX0, "<init>", "()V"⟩
abbrev cX0_clear : ByteArray := prog_2_method_2_code
def yX0_clear : MethodName := ⟨RX0, "clear", "()V"⟩
abbrev cX0_take : ByteArray := prog_2_method_3_code
def yX0_take : MethodName := ⟨RX0, "take", "(LBorrowedStones$Book;)V"⟩
abbrev cX0_tellsOf : ByteArray := prog_2_method_4_code
def yX0_tellsOf : MethodName := ⟨RX0, "tellsOf", "(I)Z"⟩
abbrev cX0_isRightFor : ByteArray := prog_2_method_5_code
def yX0_isRightFor : MethodName := ⟨RX0, "isRightFor", "(LBorrowedStones$State;)Z"⟩
abbrev cX0_readFrom : ByteArray := prog_2_method_6_code
def yX0_readFrom : MethodName := ⟨RX0, "readFrom", "(LBorrowedStones$Text;I)V"⟩
def RX1 : String := "BorrowedStones$Land"
def TX1 : u_T := fun k => match k with
  | 0 => ("BorrowedStones$Land", "persons", "I", false)
  | 1 => ("BorrowedStones$Land", "most", "I", false)
  | 2 => ("BorrowedStones$Land", "kinds", "[I", true)
  | 3 => ("BorrowedStones$Land", "firstDebts", "[I", true)
  | _ => ("BorrowedStones$Land", "friends", "[I", true)
def tyX1 : Nat → FieldType := fun k => match k with
  | 0 => .int
  | 1 => .int
  | 2 => .array .int
  | 3 => .array .int
  | _ => .array .int
abbrev wsX10 : List Cond := u_ws RX1 TX1 5
theorem nmX1 : ∀ a, a < 5 → ∀ b, b < 5 → a ≠ b → (TX1 a).2.1 ≠ (TX1 b).2.1 := by decide +kernel
theorem tyX1_ok : ∀ k, k < 5 → parseFieldDescriptor (TX1 k).2.2.1 = some (tyX1 k) := by decide +kernel
abbrev cX1_init : ByteArray := prog_3_method_1_code
def yX1_init : MethodName := ⟨RX1, "<init>", "()V"⟩
abbrev cX1_take : ByteArray := prog_3_method_2_code
def yX1_take : MethodName := ⟨RX1, "take", "(LBorrowedStones$Land;)V"⟩
abbrev cX1_areFriends : ByteArray := prog_3_method_3_code
def yX1_areFriends : MethodName := ⟨RX1, "areFriends", "(II)Z"⟩
abbrev cX1_readFrom : ByteArray := prog_3_method_4_code
def yX1_readFrom : MethodName := ⟨RX1, "readFrom", "(LBorrowedStones$Text;)V"⟩
abbrev cX1_readClause : ByteArray := prog_3_method_5_code
def yX1_readClause : MethodName := ⟨RX1, "readClause", "(LBorrowedStones$Text;I)V"⟩
abbrev cX1_readPerson : ByteArray := prog_3_method_6_code
def yX1_readPerson : MethodName := ⟨RX1, "readPerson", "(LBorrowedStones$Text;)V"⟩
abbrev cX1_readFriends : ByteArray := prog_3_method_7_code
def yX1_readFriends : MethodName := ⟨RX1, "readFriends", "(LBorrowedStones$Text;)V"⟩
def RX2 : String := "BorrowedStones$Law"
def TX2 : u_T := fun k => match k with
  | 0 => ("BorrowedStones$Law", "codes", "[I", true)
  | 1 => ("BorrowedStones$Law", "heap", "[I", true)
  | 2 => ("BorrowedStones$Law", "facts", "[I", true)
  | _ => ("BorrowedStones$Law", "length", "I", false)
def tyX2 : Nat → FieldType := fun k => match k with
  | 0 => .array .int
  | 1 => .array .int
  | 2 => .array .int
  | _ => .int
abbrev wsX20 : List Cond := u_ws RX2 TX2 4
theorem nmX2 : ∀ a, a < 4 → ∀ b, b < 4 → a ≠ b → (TX2 a).2.1 ≠ (TX2 b).2.1 := by decide +kernel
theorem tyX2_ok : ∀ k, k < 4 → parseFieldDescriptor (TX2 k).2.2.1 = some (tyX2 k) := by decide +kernel
abbrev cX2_init : ByteArray := prog_4_method_1_code
def yX2_init : MethodName := ⟨RX2, "<init>", "()V"⟩
abbrev cX2_clear : ByteArray := prog_4_method_2_code
def yX2_clear : MethodName := ⟨RX2, "clear", "()V"⟩
abbrev cX2_add : ByteArray := prog_4_method_3_code
def yX2_add : MethodName := ⟨RX2, "add", "(I)V"⟩
abbrev cX2_take : ByteArray := prog_4_method_4_code
def yX2_take : MethodName := ⟨RX2, "take", "(LBorrowedStones$Law;)V"⟩
abbrev cX2_becomePlain : ByteArray := prog_4_method_5_code
def yX2_becomePlain : MethodName := ⟨RX2, "becomePlain", "()V"⟩
abbrev cX2_answer : ByteArray := prog_4_method_6_code
def yX2_answer : MethodName := ⟨RX2, "answer", "()I"⟩
abbrev cX2_joined : ByteArray := prog_4_method_7_code
def yX2_joined : MethodName := ⟨RX2, "joined", "(III)I"⟩
def RX3 : String := "BorrowedStones$LawReader"
def TX3 : u_T := fun k => match k with
  | 0 => ("BorrowedStones$LawReader", "waiting", "[I", true)
  | 1 => ("BorrowedStones$LawReader", "height", "I", false)
  | _ => ("BorrowedStones$LawReader", "open", "I", false)
def tyX3 : Nat → FieldType := fun k => match k with
  | 0 => .array .int
  | 1 => .int
  | _ => .int
abbrev wsX30 : List Cond := u_ws RX3 TX3 3
theorem nmX3 : ∀ a, a < 3 → ∀ b, b < 3 → a ≠ b → (TX3 a).2.1 ≠ (TX3 b).2.1 := by decide +kernel
theorem tyX3_ok : ∀ k, k < 3 → parseFieldDescriptor (TX3 k).2.2.1 = some (tyX3 k) := by decide +kernel
abbrev cX3_init : ByteArray := prog_5_method_1_code
def yX3_init : MethodName := ⟨RX3, "<init>", "()V"⟩
abbrev cX3_readFrom : ByteArray := prog_5_method_2_code
def yX3_readFrom : MethodName := ⟨RX3, "readFrom", "(LBorrowedStones$Text;LBorrowedStones$Law;)V"⟩
abbrev cX3_readUnit : ByteArray := prog_5_method_3_code
def yX3_readUnit : MethodName := ⟨RX3, "readUnit", "(LBorrowedStones$Text;LBorrowedStones$Law;)Z"⟩
abbrev cX3_push : ByteArray := prog_5_method_4_code
def yX3_push : MethodName := ⟨RX3, "push", "(LBorrowedStones$Text;II)V"⟩
abbrev cX3_hold : ByteArray := prog_5_method_5_code
def yX3_hold : MethodName := ⟨RX3, "hold", "(I)V"⟩
abbrev cX3_factOf : ByteArray := prog_5_method_6_code
def yX3_factOf : MethodName := ⟨RX3, "factOf", "(LBorrowedStones$Text;)I"⟩
abbrev cX3_readSign : ByteArray := prog_5_method_7_code
def yX3_readSign : MethodName := ⟨RX3, "readSign", "(LBorrowedStones$Text;LBorrowedStones$Law;)Z"⟩
abbrev cX3_rankOf : ByteArray := prog_5_method_8_code
def yX3_rankOf : MethodName := ⟨RX3, "rankOf", "(I)I"⟩
abbrev cX3_settle : ByteArray := prog_5_method_9_code
def yX3_settle : MethodName := ⟨RX3, "settle", "(LBorrowedStones$Law;I)V"⟩
def RX4 : String := "BorrowedStones$Orders"
def TX4 : u_T := fun k => match k with
  | 0 => ("BorrowedStones$Orders", "line", "[I", true)
  | 1 => ("BorrowedStones$Orders", "alike", "[I", true)
  | 2 => ("BorrowedStones$Orders", "many", "I", false)
  | 3 => ("BorrowedStones$Orders", "fewest", "I", false)
  | 4 => ("BorrowedStones$Orders", "firstBest", "I", false)
  | 5 => ("BorrowedStones$Orders", "fitting", "I", false)
  | _ => ("BorrowedStones$Orders", "firstFitting", "I", false)
def tyX4 : Nat → FieldType := fun k => match k with
  | 0 => .array .int
  | 1 => .array .int
  | 2 => .int
  | 3 => .int
  | 4 => .int
  | 5 => .int
  | _ => .int
abbrev wsX40 : List Cond := u_ws RX4 TX4 7
theorem nmX4 : ∀ a, a < 7 → ∀ b, b < 7 → a ≠ b → (TX4 a).2.1 ≠ (TX4 b).2.1 := by decide +kernel
theorem tyX4_ok : ∀ k, k < 7 → parseFieldDescriptor (TX4 k).2.2.1 = some (tyX4 k) := by decide +kernel
abbrev cX4_init : ByteArray := prog_6_method_1_code
def yX4_init : MethodName := ⟨RX4, "<init>", "()V"⟩
abbrev cX4_gather : ByteArray := prog_6_method_2_code
def yX4_gather : MethodName := ⟨RX4, "gather", "(LBorrowedStones$State;I)Z"⟩
abbrev cX4_step : ByteArray := prog_6_method_3_code
def yX4_step : MethodName := ⟨RX4, "step", "()Z"⟩
abbrev cX4_swap : ByteArray := prog_6_method_4_code
def yX4_swap : MethodName := ⟨RX4, "swap", "(II)V"⟩
abbrev cX4_digits : ByteArray := prog_6_method_5_code
def yX4_digits : MethodName := ⟨RX4, "digits", "()I"⟩
abbrev cX4_forget : ByteArray := prog_6_method_6_code
def yX4_forget : MethodName := ⟨RX4, "forget", "()V"⟩
abbrev cX4_note : ByteArray := prog_6_method_7_code
def yX4_note : MethodName := ⟨RX4, "note", "(LBorrowedStones$State;Z)V"⟩
abbrev cX4_countStones : ByteArray := prog_6_method_8_code
def yX4_countStones : MethodName := ⟨RX4, "countStones", "(LBorrowedStones$State;)V"⟩
abbrev cX4_mostAlike : ByteArray := prog_6_method_9_code
def yX4_mostAlike : MethodName := ⟨RX4, "mostAlike", "(I)I"⟩
def RX5 : String := "BorrowedStones$Past"
def TX5 : u_T := fun k => match k with
  | 0 => ("BorrowedStones$Past", "workRow", "[I", true)
  | 1 => ("BorrowedStones$Past", "imageRow", "[I", true)
  | 2 => ("BorrowedStones$Past", "works", "I", false)
  | _ => ("BorrowedStones$Past", "images", "I", false)
def tyX5 : Nat → FieldType := fun k => match k with
  | 0 => .array .int
  | 1 => .array .int
  | 2 => .int
  | _ => .int
abbrev wsX50 : List Cond := u_ws RX5 TX5 4
theorem nmX5 : ∀ a, a < 4 → ∀ b, b < 4 → a ≠ b → (TX5 a).2.1 ≠ (TX5 b).2.1 := by decide +kernel
theorem tyX5_ok : ∀ k, k < 4 → parseFieldDescriptor (TX5 k).2.2.1 = some (tyX5 k) := by decide +kernel
abbrev cX5_init : ByteArray := prog_7_method_1_code
def yX5_init : MethodName := ⟨RX5, "<init>", "()V"⟩
abbrev cX5_clear : ByteArray := prog_7_method_2_code
def yX5_clear : MethodName := ⟨RX5, "clear", "()V"⟩
abbrev cX5_isFull : ByteArray := prog_7_method_3_code
def yX5_isFull : MethodName := ⟨RX5, "isFull", "()Z"⟩
abbrev cX5_keepWork : ByteArray := prog_7_method_4_code
def yX5_keepWork : MethodName := ⟨RX5, "keepWork", "(LBorrowedStones$State;)V"⟩
abbrev cX5_undoWork : ByteArray := prog_7_method_5_code
def yX5_undoWork : MethodName := ⟨RX5, "undoWork", "(LBorrowedStones$State;)V"⟩
abbrev cX5_keepImage : ByteArray := prog_7_method_6_code
def yX5_keepImage : MethodName := ⟨RX5, "keepImage", "(LBorrowedStones$State;)V"⟩
abbrev cX5_restoreImage : ByteArray := prog_7_method_7_code
def yX5_restoreImage : MethodName := ⟨RX5, "restoreImage", "(LBorrowedStones$State;)V"⟩
def RX6 : String := "BorrowedStones$Rows"
def TX6 : u_T := fun k => match k with
  | _ => ("", "", "", false)
def tyX6 : Nat → FieldType := fun k => match k with
  | _ => .int
abbrev wsX60 : List Cond := u_ws RX6 TX6 0
theorem nmX6 : ∀ a, a < 0 → ∀ b, b < 0 → a ≠ b → (TX6 a).2.1 ≠ (TX6 b).2.1 := by decide +kernel
theorem tyX6_ok : ∀ k, k < 0 → parseFieldDescriptor (TX6 k).2.2.1 = some (tyX6 k) := by decide +kernel
abbrev cX6_at : ByteArray := prog_8_method_2_code
def yX6_at : MethodName := ⟨RX6, "at", "([II)I"⟩
abbrev cX6_put : ByteArray := prog_8_method_3_code
def yX6_put : MethodName := ⟨RX6, "put", "([III)V"⟩
abbrev cX6_copy : ByteArray := prog_8_method_4_code
def yX6_copy : MethodName := ⟨RX6, "copy", "([II[III)V"⟩
def RX7 : String := "BorrowedStones$State"
def TX7 : u_T := fun k => match k with
  | 0 => ("BorrowedStones$State", "land", "LBorrowedStones$Land;", true)
  | 1 => ("BorrowedStones$State", "law", "LBorrowedStones$Law;", true)
  | 2 => ("BorrowedStones$State", "debts", "[I", true)
  | 3 => ("BorrowedStones$State", "under", "[I", true)
  | 4 => ("BorrowedStones$State", "died", "[I", true)
  | _ => ("BorrowedStones$State", "year", "I", false)
def tyX7 : Nat → FieldType := fun k => match k with
  | 0 => .object "BorrowedStones$Land"
  | 1 => .object "BorrowedStones$Law"
  | 2 => .array .int
  | 3 => .array .int
  | 4 => .array .int
  | _ => .int
abbrev wsX70 : List Cond := u_ws RX7 TX7 6
theorem nmX7 : ∀ a, a < 6 → ∀ b, b < 6 → a ≠ b → (TX7 a).2.1 ≠ (TX7 b).2.1 := by decide +kernel
theorem tyX7_ok : ∀ k, k < 6 → parseFieldDescriptor (TX7 k).2.2.1 = some (tyX7 k) := by decide +kernel
abbrev cX7_init : ByteArray := prog_9_method_1_code
def yX7_init : MethodName := ⟨RX7, "<init>", "(LBorrowedStones$Land;LBorrowedStones$Law;)V"⟩
abbrev cX7_begin : ByteArray := prog_9_method_2_code
def yX7_begin : MethodName := ⟨RX7, "begin", "()V"⟩
abbrev cX7_take : ByteArray := prog_9_method_3_code
def yX7_take : MethodName := ⟨RX7, "take", "(LBorrowedStones$State;)V"⟩
abbrev cX7_writeTo : ByteArray := prog_9_method_4_code
def yX7_writeTo : MethodName := ⟨RX7, "writeTo", "([II)V"⟩
abbrev cX7_readFrom : ByteArray := prog_9_method_5_code
def yX7_readFrom : MethodName := ⟨RX7, "readFrom", "([II)V"⟩
abbrev cX7_lives : ByteArray := prog_9_method_6_code
def yX7_lives : MethodName := ⟨RX7, "lives", "(I)Z"⟩
abbrev cX7_isDead : ByteArray := prog_9_method_7_code
def yX7_isDead : MethodName := ⟨RX7, "isDead", "(I)Z"⟩
abbrev cX7_living : ByteArray := prog_9_method_8_code
def yX7_living : MethodName := ⟨RX7, "living", "()I"⟩
abbrev cX7_nameless : ByteArray := prog_9_method_9_code
def yX7_nameless : MethodName := ⟨RX7, "nameless", "()I"⟩
abbrev cX7_named : ByteArray := prog_9_method_10_code
def yX7_named : MethodName := ⟨RX7, "named", "()I"⟩
abbrev cX7_howManyDead : ByteArray := prog_9_method_11_code
def yX7_howManyDead : MethodName := ⟨RX7, "howManyDead", "()I"⟩
abbrev cX7_stonesOf : ByteArray := prog_9_method_12_code
def yX7_stonesOf : MethodName := ⟨RX7, "stonesOf", "(I)I"⟩
abbrev cX7_stonesUpTo : ByteArray := prog_9_method_13_code
def yX7_stonesUpTo : MethodName := ⟨RX7, "stonesUpTo", "(II)I"⟩
abbrev cX7_directlyUnder : ByteArray := prog_9_method_14_code
def yX7_directlyUnder : MethodName := ⟨RX7, "directlyUnder", "(I)I"⟩
abbrev cX7_allDebts : ByteArray := prog_9_method_15_code
def yX7_allDebts : MethodName := ⟨RX7, "allDebts", "()I"⟩
abbrev cX7_debtsOfDead : ByteArray := prog_9_method_16_code
def yX7_debtsOfDead : MethodName := ⟨RX7, "debtsOfDead", "()I"⟩
abbrev cX7_mostInDebt : ByteArray := prog_9_method_17_code
def yX7_mostInDebt : MethodName := ⟨RX7, "mostInDebt", "()I"⟩
abbrev cX7_roomOf : ByteArray := prog_9_method_18_code
def yX7_roomOf : MethodName := ⟨RX7, "roomOf", "(I)I"⟩
abbrev cX7_hasRoom : ByteArray := prog_9_method_19_code
def yX7_hasRoom : MethodName := ⟨RX7, "hasRoom", "(I)Z"⟩
abbrev cX7_willOf : ByteArray := prog_9_method_20_code
def yX7_willOf : MethodName := ⟨RX7, "willOf", "(II)I"⟩
abbrev cX7_couldLend : ByteArray := prog_9_method_21_code
def yX7_couldLend : MethodName := ⟨RX7, "couldLend", "(II)Z"⟩
abbrev cX7_lendsTo : ByteArray := prog_9_method_22_code
def yX7_lendsTo : MethodName := ⟨RX7, "lendsTo", "(II)Z"⟩
abbrev cX7_heirOf : ByteArray := prog_9_method_23_code
def yX7_heirOf : MethodName := ⟨RX7, "heirOf", "(I)I"⟩
abbrev cX7_heirs : ByteArray := prog_9_method_24_code
def yX7_heirs : MethodName := ⟨RX7, "heirs", "()I"⟩
abbrev cX7_heired : ByteArray := prog_9_method_25_code
def yX7_heired : MethodName := ⟨RX7, "heired", "()I"⟩
abbrev cX7_does : ByteArray := prog_9_method_26_code
def yX7_does : MethodName := ⟨RX7, "does", "(III)Z"⟩
abbrev cX7_owes : ByteArray := prog_9_method_27_code
def yX7_owes : MethodName := ⟨RX7, "owes", "(II)V"⟩
abbrev cX7_takeName : ByteArray := prog_9_method_28_code
def yX7_takeName : MethodName := ⟨RX7, "takeName", "(II)V"⟩
abbrev cX7_passYear : ByteArray := prog_9_method_29_code
def yX7_passYear : MethodName := ⟨RX7, "passYear", "()V"⟩
abbrev cX7_trueName : ByteArray := prog_9_method_30_code
def yX7_trueName : MethodName := ⟨RX7, "trueName", "(I)I"⟩
abbrev cX7_chainLength : ByteArray := prog_9_method_31_code
def yX7_chainLength : MethodName := ⟨RX7, "chainLength", "(I)I"⟩
abbrev cX7_longestChain : ByteArray := prog_9_method_32_code
def yX7_longestChain : MethodName := ⟨RX7, "longestChain", "()I"⟩
def RX8 : String := "BorrowedStones$Steps"
def TX8 : u_T := fun k => match k with
  | 0 => ("BorrowedStones$Steps", "deeds", "[I", true)
  | 1 => ("BorrowedStones$Steps", "firsts", "[I", true)
  | 2 => ("BorrowedStones$Steps", "seconds", "[I", true)
  | 3 => ("BorrowedStones$Steps", "starts", "[I", true)
  | 4 => ("BorrowedStones$Steps", "rounds", "[I", true)
  | 5 => ("BorrowedStones$Steps", "length", "I", false)
  | 6 => ("BorrowedStones$Steps", "open", "I", false)
  | 7 => ("BorrowedStones$Steps", "done", "I", false)
  | _ => ("BorrowedStones$Steps", "refused", "I", false)
def tyX8 : Nat → FieldType := fun k => match k with
  | 0 => .array .int
  | 1 => .array .int
  | 2 => .array .int
  | 3 => .array .int
  | 4 => .array .int
  | 5 => .int
  | 6 => .int
  | 7 => .int
  | _ => .int
abbrev wsX80 : List Cond := u_ws RX8 TX8 9
theorem nmX8 : ∀ a, a < 9 → ∀ b, b < 9 → a ≠ b → (TX8 a).2.1 ≠ (TX8 b).2.1 := by decide +kernel
theorem tyX8_ok : ∀ k, k < 9 → parseFieldDescriptor (TX8 k).2.2.1 = some (tyX8 k) := by decide +kernel
abbrev cX8_init : ByteArray := prog_10_method_1_code
def yX8_init : MethodName := ⟨RX8, "<init>", "()V"⟩
abbrev cX8_readFrom : ByteArray := prog_10_method_2_code
def yX8_readFrom : MethodName := ⟨RX8, "readFrom", "(LBorrowedStones$Text;I)V"⟩
abbrev cX8_readStep : ByteArray := prog_10_method_3_code
def yX8_readStep : MethodName := ⟨RX8, "readStep", "(LBorrowedStones$Text;I)V"⟩
abbrev cX8_openAgain : ByteArray := prog_10_method_4_code
def yX8_openAgain : MethodName := ⟨RX8, "openAgain", "(LBorrowedStones$Text;)V"⟩
abbrev cX8_closeAgain : ByteArray := prog_10_method_5_code
def yX8_closeAgain : MethodName := ⟨RX8, "closeAgain", "()V"⟩
abbrev cX8_add : ByteArray := prog_10_method_6_code
def yX8_add : MethodName := ⟨RX8, "add", "(III)V"⟩
abbrev cX8_run : ByteArray := prog_10_method_7_code
def yX8_run : MethodName := ⟨RX8, "run", "(LBorrowedStones$State;)V"⟩
abbrev cX8_behindAgain : ByteArray := prog_10_method_8_code
def yX8_behindAgain : MethodName := ⟨RX8, "behindAgain", "(I)I"⟩
abbrev cX8_behindEnd : ByteArray := prog_10_method_9_code
def yX8_behindEnd : MethodName := ⟨RX8, "behindEnd", "(I)I"⟩
def RX9 : String := "BorrowedStones$Text"
def TX9 : u_T := fun k => match k with
  | 0 => ("BorrowedStones$Text", "tape", "[I", true)
  | 1 => ("BorrowedStones$Text", "bytes", "I", false)
  | 2 => ("BorrowedStones$Text", "end", "I", false)
  | 3 => ("BorrowedStones$Text", "place", "I", false)
  | 4 => ("BorrowedStones$Text", "wordStart", "I", false)
  | 5 => ("BorrowedStones$Text", "numberStart", "I", false)
  | 6 => ("BorrowedStones$Text", "fault", "I", false)
  | _ => ("BorrowedStones$Text", "faultPlace", "I", false)
def tyX9 : Nat → FieldType := fun k => match k with
  | 0 => .array .int
  | 1 => .int
  | 2 => .int
  | 3 => .int
  | 4 => .int
  | 5 => .int
  | 6 => .int
  | _ => .int
abbrev wsX90 : List Cond := u_ws RX9 TX9 8
theorem nmX9 : ∀ a, a < 8 → ∀ b, b < 8 → a ≠ b → (TX9 a).2.1 ≠ (TX9 b).2.1 := by decide +kernel
theorem tyX9_ok : ∀ k, k < 8 → parseFieldDescriptor (TX9 k).2.2.1 = some (tyX9 k) := by decide +kernel
abbrev cX9_init : ByteArray := prog_11_method_1_code
def yX9_init : MethodName := ⟨RX9, "<init>", "()V"⟩
abbrev cX9_takesTwenty : ByteArray := prog_11_method_2_code
def yX9_takesTwenty : MethodName := ⟨RX9, "takesTwenty", "()Z"⟩
abbrev cX9_takeNumber : ByteArray := prog_11_method_3_code
def yX9_takeNumber : MethodName := ⟨RX9, "takeNumber", "(I)V"⟩
abbrev cX9_begin : ByteArray := prog_11_method_4_code
def yX9_begin : MethodName := ⟨RX9, "begin", "(I)V"⟩
abbrev cX9_isSound : ByteArray := prog_11_method_5_code
def yX9_isSound : MethodName := ⟨RX9, "isSound", "()Z"⟩
abbrev cX9_faultLessTen : ByteArray := prog_11_method_6_code
def yX9_faultLessTen : MethodName := ⟨RX9, "faultLessTen", "()I"⟩
abbrev cX9_blame : ByteArray := prog_11_method_7_code
def yX9_blame : MethodName := ⟨RX9, "blame", "(II)V"⟩
abbrev cX9_nextByte : ByteArray := prog_11_method_8_code
def yX9_nextByte : MethodName := ⟨RX9, "nextByte", "()I"⟩
abbrev cX9_hasMore : ByteArray := prog_11_method_9_code
def yX9_hasMore : MethodName := ⟨RX9, "hasMore", "()Z"⟩
abbrev cX9_pass : ByteArray := prog_11_method_10_code
def yX9_pass : MethodName := ⟨RX9, "pass", "()V"⟩
abbrev cX9_expect : ByteArray := prog_11_method_11_code
def yX9_expect : MethodName := ⟨RX9, "expect", "(C)V"⟩
abbrev cX9_isDigit : ByteArray := prog_11_method_12_code
def yX9_isDigit : MethodName := ⟨RX9, "isDigit", "(I)Z"⟩
abbrev cX9_isLetter : ByteArray := prog_11_method_13_code
def yX9_isLetter : MethodName := ⟨RX9, "isLetter", "(I)Z"⟩
abbrev cX9_number : ByteArray := prog_11_method_14_code
def yX9_number : MethodName := ⟨RX9, "number", "(II)I"⟩
abbrev cX9_word : ByteArray := prog_11_method_15_code
def yX9_word : MethodName := ⟨RX9, "word", "()V"⟩
abbrev cX9_isWord : ByteArray := prog_11_method_16_code
def yX9_isWord : MethodName := ⟨RX9, "isWord", "(Ljava/lang/String;)Z"⟩
def RX10 : String := "BorrowedStones$Ways"
def TX10 : u_T := fun k => match k with
  | 0 => ("BorrowedStones$Ways", "asking", "[I", true)
  | 1 => ("BorrowedStones$Ways", "offers", "[I", true)
  | 2 => ("BorrowedStones$Ways", "room", "[I", true)
  | 3 => ("BorrowedStones$Ways", "chosen", "[I", true)
  | 4 => ("BorrowedStones$Ways", "best", "[I", true)
  | 5 => ("BorrowedStones$Ways", "many", "I", false)
  | 6 => ("BorrowedStones$Ways", "bestServed", "I", false)
  | _ => ("BorrowedStones$Ways", "bestWills", "I", false)
def tyX10 : Nat → FieldType := fun k => match k with
  | 0 => .array .int
  | 1 => .array .int
  | 2 => .array .int
  | 3 => .array .int
  | 4 => .array .int
  | 5 => .int
  | 6 => .int
  | _ => .int
abbrev wsX100 : List Cond := u_ws RX10 TX10 8
theorem nmX10 : ∀ a, a < 8 → ∀ b, b < 8 → a ≠ b → (TX10 a).2.1 ≠ (TX10 b).2.1 := by decide +kernel
theorem tyX10_ok : ∀ k, k < 8 → parseFieldDescriptor (TX10 k).2.2.1 = some (tyX10 k) := by decide +kernel
abbrev cX10_init : ByteArray := prog_12_method_1_code
def yX10_init : MethodName := ⟨RX10, "<init>", "()V"⟩
abbrev cX10_search : ByteArray := prog_12_method_2_code
def yX10_search : MethodName := ⟨RX10, "search", "(LBorrowedStones$State;I)V"⟩
abbrev cX10_takeOffers : ByteArray := prog_12_method_3_code
def yX10_takeOffers : MethodName := ⟨RX10, "takeOffers", "(LBorrowedStones$State;II)V"⟩
abbrev cX10_give : ByteArray := prog_12_method_4_code
def yX10_give : MethodName := ⟨RX10, "give", "(III)V"⟩
abbrev cX10_keepIfBetter : ByteArray := prog_12_method_5_code
def yX10_keepIfBetter : MethodName := ⟨RX10, "keepIfBetter", "(II)V"⟩
abbrev cX10_lenderOf : ByteArray := prog_12_method_6_code
def yX10_lenderOf : MethodName := ⟨RX10, "lenderOf", "(I)I"⟩
def RX11 : String := "BorrowedStones"
def TX11 : u_T := fun k => match k with
  | 0 => ("BorrowedStones", "text", "LBorrowedStones$Text;", true)
  | 1 => ("BorrowedStones", "land", "LBorrowedStones$Land;", true)
  | 2 => ("BorrowedStones", "draftLand", "LBorrowedStones$Land;", true)
  | 3 => ("BorrowedStones", "law", "LBorrowedStones$Law;", true)
  | 4 => ("BorrowedStones", "draftLaw", "LBorrowedStones$Law;", true)
  | 5 => ("BorrowedStones", "lawReader", "LBorrowedStones$LawReader;", true)
  | 6 => ("BorrowedStones", "steps", "LBorrowedStones$Steps;", true)
  | 7 => ("BorrowedStones", "book", "LBorrowedStones$Book;", true)
  | 8 => ("BorrowedStones", "draftBook", "LBorrowedStones$Book;", true)
  | 9 => ("BorrowedStones", "state", "LBorrowedStones$State;", true)
  | 10 => ("BorrowedStones", "trial", "LBorrowedStones$State;", true)
  | 11 => ("BorrowedStones", "past", "LBorrowedStones$Past;", true)
  | 12 => ("BorrowedStones", "orders", "LBorrowedStones$Orders;", true)
  | 13 => ("BorrowedStones", "ways", "LBorrowedStones$Ways;", true)
  | 14 => ("BorrowedStones", "likely", "[J", true)
  | 15 => ("BorrowedStones", "drawing", "I", false)
  | 16 => ("BorrowedStones", "refusedSteps", "I", false)
  | 17 => ("BorrowedStones", "strangers", "I", false)
  | _ => ("BorrowedStones", "wrongs", "I", false)
def tyX11 : Nat → FieldType := fun k => match k with
  | 0 => .object "BorrowedStones$Text"
  | 1 => .object "BorrowedStones$Land"
  | 2 => .object "BorrowedStones$Land"
  | 3 => .object "BorrowedStones$Law"
  | 4 => .object "BorrowedStones$Law"
  | 5 => .object "BorrowedStones$LawReader"
  | 6 => .object "BorrowedStones$Steps"
  | 7 => .object "BorrowedStones$Book"
  | 8 => .object "BorrowedStones$Book"
  | 9 => .object "BorrowedStones$State"
  | 10 => .object "BorrowedStones$State"
  | 11 => .object "BorrowedStones$Past"
  | 12 => .object "BorrowedStones$Orders"
  | 13 => .object "BorrowedStones$Ways"
  | 14 => .array .long
  | 15 => .int
  | 16 => .int
  | 17 => .int
  | _ => .int
abbrev wsX110 : List Cond := u_ws RX11 TX11 19
theorem nmX11 : ∀ a, a < 19 → ∀ b, b < 19 → a ≠ b → (TX11 a).2.1 ≠ (TX11 b).2.1 := by decide +kernel
theorem tyX11_ok : ∀ k, k < 19 → parseFieldDescriptor (TX11 k).2.2.1 = some (tyX11 k) := by decide +kernel
abbrev cX11_init : ByteArray := prog_1_method_1_code
def yX11_init : MethodName := ⟨RX11, "<init>", "()V"⟩
abbrev cX11_feed : ByteArray := prog_1_method_2_code
def yX11_feed : MethodName := ⟨RX11, "feed", "(IIIII)I"⟩
abbrev cX11_peninsula : ByteArray := prog_1_method_3_code
def yX11_peninsula : MethodName := ⟨RX11, "peninsula", "(I)I"⟩
abbrev cX11_law : ByteArray := prog_1_method_4_code
def yX11_law : MethodName := ⟨RX11, "law", "(I)I"⟩
abbrev cX11_work : ByteArray := prog_1_method_5_code
def yX11_work : MethodName := ⟨RX11, "work", "(I)I"⟩
abbrev cX11_book : ByteArray := prog_1_method_6_code
def yX11_book : MethodName := ⟨RX11, "book", "(I)I"⟩
abbrev cX11_fault : ByteArray := prog_1_method_7_code
def yX11_fault : MethodName := ⟨RX11, "fault", "()I"⟩
abbrev cX11_undo : ByteArray := prog_1_method_8_code
def yX11_undo : MethodName := ⟨RX11, "undo", "()I"⟩
abbrev cX11_told : ByteArray := prog_1_method_9_code
def yX11_told : MethodName := ⟨RX11, "told", "(I)I"⟩
abbrev cX11_person : ByteArray := prog_1_method_10_code
def yX11_person : MethodName := ⟨RX11, "person", "(II)I"⟩
abbrev cX11_will : ByteArray := prog_1_method_11_code
def yX11_will : MethodName := ⟨RX11, "will", "(II)I"⟩
abbrev cX11_lends : ByteArray := prog_1_method_12_code
def yX11_lends : MethodName := ⟨RX11, "lends", "(II)Z"⟩
abbrev cX11_would : ByteArray := prog_1_method_13_code
def yX11_would : MethodName := ⟨RX11, "would", "(IIIIIIII)I"⟩
abbrev cX11_lender : ByteArray := prog_1_method_14_code
def yX11_lender : MethodName := ⟨RX11, "lender", "(I)I"⟩
abbrev cX11_ahead : ByteArray := prog_1_method_15_code
def yX11_ahead : MethodName := ⟨RX11, "ahead", "(II)I"⟩
abbrev cX11_truly : ByteArray := prog_1_method_16_code
def yX11_truly : MethodName := ⟨RX11, "truly", "(I)I"⟩
abbrev cX11_chain : ByteArray := prog_1_method_17_code
def yX11_chain : MethodName := ⟨RX11, "chain", "(I)I"⟩
abbrev cX11_served : ByteArray := prog_1_method_18_code
def yX11_served : MethodName := ⟨RX11, "served", "(II)I"⟩
abbrev cX11_giver : ByteArray := prog_1_method_19_code
def yX11_giver : MethodName := ⟨RX11, "giver", "(II)I"⟩
abbrev cX11_order : ByteArray := prog_1_method_20_code
def yX11_order : MethodName := ⟨RX11, "order", "(II)I"⟩
abbrev cX11_fits : ByteArray := prog_1_method_21_code
def yX11_fits : MethodName := ⟨RX11, "fits", "(II)I"⟩
abbrev cX11_look : ByteArray := prog_1_method_22_code
def yX11_look : MethodName := ⟨RX11, "look", "(II)I"⟩
abbrev cX11_neighbours : ByteArray := prog_1_method_23_code
def yX11_neighbours : MethodName := ⟨RX11, "neighbours", "(III)I"⟩
abbrev cX11_home : ByteArray := prog_1_method_24_code
def yX11_home : MethodName := ⟨RX11, "home", "(IIII)J"⟩
abbrev cX11_flowers : ByteArray := prog_1_method_25_code
def yX11_flowers : MethodName := ⟨RX11, "flowers", "(III)I"⟩
abbrev cX11_honoured : ByteArray := prog_1_method_26_code
def yX11_honoured : MethodName := ⟨RX11, "honoured", "(I)I"⟩
abbrev cX11_sued : ByteArray := prog_1_method_27_code
def yX11_sued : MethodName := ⟨RX11, "sued", "(I)I"⟩
abbrev cX11_free : ByteArray := prog_1_method_28_code
def yX11_free : MethodName := ⟨RX11, "free", "(I)I"⟩
abbrev cX11_kin : ByteArray := prog_1_method_29_code
def yX11_kin : MethodName := ⟨RX11, "kin", "(I)I"⟩
abbrev cX11_willing : ByteArray := prog_1_method_30_code
def yX11_willing : MethodName := ⟨RX11, "willing", "(I)I"⟩
abbrev cX11_below : ByteArray := prog_1_method_31_code
def yX11_below : MethodName := ⟨RX11, "below", "(I)I"⟩
abbrev cX11_debtless : ByteArray := prog_1_method_32_code
def yX11_debtless : MethodName := ⟨RX11, "debtless", "()I"⟩
abbrev cX11_after : ByteArray := prog_1_method_33_code
def yX11_after : MethodName := ⟨RX11, "after", "(II)I"⟩
abbrev cX11_latest : ByteArray := prog_1_method_34_code
def yX11_latest : MethodName := ⟨RX11, "latest", "(I)I"⟩
abbrev cX11_century : ByteArray := prog_1_method_35_code
def yX11_century : MethodName := ⟨RX11, "century", "(IIII)I"⟩
abbrev cX11_span : ByteArray := prog_1_method_36_code
def yX11_span : MethodName := ⟨RX11, "span", "(IIIIII)I"⟩
abbrev cX11_image : ByteArray := prog_1_method_37_code
def yX11_image : MethodName := ⟨RX11, "image", "()I"⟩
abbrev cX11_restore : ByteArray := prog_1_method_38_code
def yX11_restore : MethodName := ⟨RX11, "restore", "()I"⟩
abbrev cX11_status : ByteArray := prog_1_method_39_code
def yX11_status : MethodName := ⟨RX11, "status", "(I)I"⟩
abbrev cX11_count : ByteArray := prog_1_method_40_code
def yX11_count : MethodName := ⟨RX11, "count", "(I)I"⟩
abbrev cX11_needPerson : ByteArray := prog_1_method_41_code
def yX11_needPerson : MethodName := ⟨RX11, "needPerson", "(I)V"⟩
abbrev cX11_need : ByteArray := prog_1_method_42_code
def yX11_need : MethodName := ⟨RX11, "need", "(Z)V"⟩
abbrev cX11_needOrders : ByteArray := prog_1_method_43_code
def yX11_needOrders : MethodName := ⟨RX11, "needOrders", "(II)V"⟩
abbrev cX11_areTold : ByteArray := prog_1_method_44_code
def yX11_areTold : MethodName := ⟨RX11, "areTold", "(I)Z"⟩
abbrev cX11_tryOrders : ByteArray := prog_1_method_45_code
def yX11_tryOrders : MethodName := ⟨RX11, "tryOrders", "()V"⟩
abbrev cX11_gain : ByteArray := prog_1_method_46_code
def yX11_gain : MethodName := ⟨RX11, "gain", "(IIII)I"⟩
abbrev cX11_weighNames : ByteArray := prog_1_method_47_code
def yX11_weighNames : MethodName := ⟨RX11, "weighNames", "(II)V"⟩
abbrev cX11_passCentury : ByteArray := prog_1_method_48_code
def yX11_passCentury : MethodName := ⟨RX11, "passCentury", "(III)V"⟩
abbrev cX11_drawn : ByteArray := prog_1_method_49_code
def yX11_drawn : MethodName := ⟨RX11, "drawn", "(I)I"⟩
def RX12 : String := "BorrowedStonesModel"
def TX12 : u_T := fun k => match k with
  | 0 => ("BorrowedStonesModel", "thrown", "I", false)
  | 1 => ("BorrowedStonesModel", "tape", "I", false)
  | 2 => ("BorrowedStonesModel", "size", "I", false)
  | 3 => ("BorrowedStonesModel", "place", "I", false)
  | 4 => ("BorrowedStonesModel", "at", "I", false)
  | 5 => ("BorrowedStonesModel", "fault", "I", false)
  | 6 => ("BorrowedStonesModel", "faultAt", "I", false)
  | 7 => ("BorrowedStonesModel", "clauses", "I", false)
  | 8 => ("BorrowedStonesModel", "open", "I", false)
  | 9 => ("BorrowedStonesModel", "fed", "[I", true)
  | 10 => ("BorrowedStonesModel", "refused", "[I", true)
  | 11 => ("BorrowedStonesModel", "readTold", "[I", true)
  | 12 => ("BorrowedStonesModel", "told", "[I", true)
  | 13 => ("BorrowedStonesModel", "readPerson", "[[I", true)
  | 14 => ("BorrowedStonesModel", "person", "[[I", true)
  | 15 => ("BorrowedStonesModel", "readFriend", "[I", true)
  | 16 => ("BorrowedStonesModel", "friend", "[I", true)
  | 17 => ("BorrowedStonesModel", "lawMany", "I", false)
  | 18 => ("BorrowedStonesModel", "readLawMany", "I", false)
  | 19 => ("BorrowedStonesModel", "law", "[[I", true)
  | 20 => ("BorrowedStonesModel", "readLaw", "[[I", true)
  | 21 => ("BorrowedStonesModel", "line", "[[I", true)
  | 22 => ("BorrowedStonesModel", "readLine", "[[I", true)
  | 23 => ("BorrowedStonesModel", "stack", "[I", true)
  | 24 => ("BorrowedStonesModel", "known", "[I", true)
  | 25 => ("BorrowedStonesModel", "step", "[[I", true)
  | 26 => ("BorrowedStonesModel", "steps", "I", false)
  | 27 => ("BorrowedStonesModel", "now", "[I", true)
  | 28 => ("BorrowedStonesModel", "trial", "[I", true)
  | 29 => ("BorrowedStonesModel", "before", "[[I", true)
  | 30 => ("BorrowedStonesModel", "kept", "[[I", true)
  | 31 => ("BorrowedStonesModel", "lines", "I", false)
  | 32 => ("BorrowedStonesModel", "works", "I", false)
  | 33 => ("BorrowedStonesModel", "refusedSteps", "I", false)
  | 34 => ("BorrowedStonesModel", "images", "I", false)
  | 35 => ("BorrowedStonesModel", "spot", "I", false)
  | 36 => ("BorrowedStonesModel", "begun", "I", false)
  | 37 => ("BorrowedStonesModel", "doneSteps", "I", false)
  | 38 => ("BorrowedStonesModel", "gives", "[I", true)
  | 39 => ("BorrowedStonesModel", "bestGives", "[I", true)
  | 40 => ("BorrowedStonesModel", "times", "[I", true)
  | 41 => ("BorrowedStonesModel", "mostServed", "I", false)
  | 42 => ("BorrowedStonesModel", "mostWill", "I", false)
  | 43 => ("BorrowedStonesModel", "order", "[I", true)
  | 44 => ("BorrowedStonesModel", "seen", "[I", true)
  | 45 => ("BorrowedStonesModel", "dying", "I", false)
  | 46 => ("BorrowedStonesModel", "exact", "[J", true)
  | _ => ("BorrowedStonesModel", "lots", "I", false)
def tyX12 : Nat → FieldType := fun k => match k with
  | 0 => .int
  | 1 => .int
  | 2 => .int
  | 3 => .int
  | 4 => .int
  | 5 => .int
  | 6 => .int
  | 7 => .int
  | 8 => .int
  | 9 => .array .int
  | 10 => .array .int
  | 11 => .array .int
  | 12 => .array .int
  | 13 => .array (.array .int)
  | 14 => .array (.array .int)
  | 15 => .array .int
  | 16 => .array .int
  | 17 => .int
  | 18 => .int
  | 19 => .array (.array .int)
  | 20 => .array (.array .int)
  | 21 => .array (.array .int)
  | 22 => .array (.array .int)
  | 23 => .array .int
  | 24 => .array .int
  | 25 => .array (.array .int)
  | 26 => .int
  | 27 => .array .int
  | 28 => .array .int
  | 29 => .array (.array .int)
  | 30 => .array (.array .int)
  | 31 => .int
  | 32 => .int
  | 33 => .int
  | 34 => .int
  | 35 => .int
  | 36 => .int
  | 37 => .int
  | 38 => .array .int
  | 39 => .array .int
  | 40 => .array .int
  | 41 => .int
  | 42 => .int
  | 43 => .array .int
  | 44 => .array .int
  | 45 => .int
  | 46 => .array .long
  | _ => .int
abbrev wsX120 : List Cond := u_ws RX12 TX12 48
theorem nmX12 : ∀ a, a < 48 → ∀ b, b < 48 → a ≠ b → (TX12 a).2.1 ≠ (TX12 b).2.1 := by decide +kernel
theorem tyX12_ok : ∀ k, k < 48 → parseFieldDescriptor (TX12 k).2.2.1 = some (tyX12 k) := by decide +kernel
abbrev cX12_init : ByteArray := prog_14_method_1_code
def yX12_init : MethodName := ⟨RX12, "<init>", "()V"⟩
abbrev cX12_tellsNothing : ByteArray := prog_14_method_2_code
def yX12_tellsNothing : MethodName := ⟨RX12, "tellsNothing", "()V"⟩
abbrev cX12_thrown : ByteArray := prog_14_method_3_code
def yX12_thrown : MethodName := ⟨RX12, "thrown", "()I"⟩
abbrev cX12_bad : ByteArray := prog_14_method_4_code
def yX12_bad : MethodName := ⟨RX12, "bad", "(ZII)Z"⟩
abbrev cX12_in : ByteArray := prog_14_method_5_code
def yX12_in : MethodName := ⟨RX12, "in", "(III)Z"⟩
abbrev cX12_less : ByteArray := prog_14_method_6_code
def yX12_less : MethodName := ⟨RX12, "less", "(II)I"⟩
abbrev cX12_more : ByteArray := prog_14_method_7_code
def yX12_more : MethodName := ⟨RX12, "more", "(II)I"⟩
abbrev cX12_has : ByteArray := prog_14_method_8_code
def yX12_has : MethodName := ⟨RX12, "has", "(II)Z"⟩
abbrev cX12_feed : ByteArray := prog_14_method_9_code
def yX12_feed : MethodName := ⟨RX12, "feed", "(IIIII)I"⟩
abbrev cX12_byteAt : ByteArray := prog_14_method_10_code
def yX12_byteAt : MethodName := ⟨RX12, "byteAt", "(I)I"⟩
abbrev cX12_blanks : ByteArray := prog_14_method_11_code
def yX12_blanks : MethodName := ⟨RX12, "blanks", "()V"⟩
abbrev cX12_wrong : ByteArray := prog_14_method_12_code
def yX12_wrong : MethodName := ⟨RX12, "wrong", "(II)V"⟩
abbrev cX12_isDigit : ByteArray := prog_14_method_13_code
def yX12_isDigit : MethodName := ⟨RX12, "isDigit", "(I)Z"⟩
abbrev cX12_isSmall : ByteArray := prog_14_method_14_code
def yX12_isSmall : MethodName := ⟨RX12, "isSmall", "(I)Z"⟩
abbrev cX12_number : ByteArray := prog_14_method_15_code
def yX12_number : MethodName := ⟨RX12, "number", "(II)I"⟩
abbrev cX12_wordHere : ByteArray := prog_14_method_16_code
def yX12_wordHere : MethodName := ⟨RX12, "wordHere", "()I"⟩
abbrev cX12_six : ByteArray := prog_14_method_17_code
def yX12_six : MethodName := ⟨RX12, "six", "(IIIIII)I"⟩
abbrev cX12_isWord : ByteArray := prog_14_method_18_code
def yX12_isWord : MethodName := ⟨RX12, "isWord", "(IIIIII)Z"⟩
abbrev cX12_skipWord : ByteArray := prog_14_method_19_code
def yX12_skipWord : MethodName := ⟨RX12, "skipWord", "()V"⟩
abbrev cX12_takes : ByteArray := prog_14_method_20_code
def yX12_takes : MethodName := ⟨RX12, "takes", "(IIIIII)Z"⟩
abbrev cX12_sign : ByteArray := prog_14_method_21_code
def yX12_sign : MethodName := ⟨RX12, "sign", "(I)V"⟩
abbrev cX12_takesSign : ByteArray := prog_14_method_22_code
def yX12_takesSign : MethodName := ⟨RX12, "takesSign", "(I)Z"⟩
abbrev cX12_starts : ByteArray := prog_14_method_23_code
def yX12_starts : MethodName := ⟨RX12, "starts", "(I)V"⟩
abbrev cX12_ends : ByteArray := prog_14_method_24_code
def yX12_ends : MethodName := ⟨RX12, "ends", "()I"⟩
abbrev cX12_kindHere : ByteArray := prog_14_method_25_code
def yX12_kindHere : MethodName := ⟨RX12, "kindHere", "()I"⟩
abbrev cX12_friends : ByteArray := prog_14_method_26_code
def yX12_friends : MethodName := ⟨RX12, "friends", "()V"⟩
abbrev cX12_clause : ByteArray := prog_14_method_27_code
def yX12_clause : MethodName := ⟨RX12, "clause", "()V"⟩
abbrev cX12_peninsula : ByteArray := prog_14_method_28_code
def yX12_peninsula : MethodName := ⟨RX12, "peninsula", "(I)I"⟩
abbrev cX12_lays : ByteArray := prog_14_method_29_code
def yX12_lays : MethodName := ⟨RX12, "lays", "([[I[[II)V"⟩
abbrev cX12_copies : ByteArray := prog_14_method_30_code
def yX12_copies : MethodName := ⟨RX12, "copies", "([I[I)V"⟩
abbrev cX12_beginsAnew : ByteArray := prog_14_method_31_code
def yX12_beginsAnew : MethodName := ⟨RX12, "beginsAnew", "()V"⟩
abbrev cX12_notes : ByteArray := prog_14_method_32_code
def yX12_notes : MethodName := ⟨RX12, "notes", "(II)V"⟩
abbrev cX12_opensOne : ByteArray := prog_14_method_33_code
def yX12_opensOne : MethodName := ⟨RX12, "opensOne", "()Z"⟩
abbrev cX12_sum : ByteArray := prog_14_method_34_code
def yX12_sum : MethodName := ⟨RX12, "sum", "()V"⟩
abbrev cX12_product : ByteArray := prog_14_method_35_code
def yX12_product : MethodName := ⟨RX12, "product", "()V"⟩
abbrev cX12_knownHere : ByteArray := prog_14_method_36_code
def yX12_knownHere : MethodName := ⟨RX12, "knownHere", "()I"⟩
abbrev cX12_one : ByteArray := prog_14_method_37_code
def yX12_one : MethodName := ⟨RX12, "one", "()V"⟩
abbrev cX12_law : ByteArray := prog_14_method_38_code
def yX12_law : MethodName := ⟨RX12, "law", "(I)I"⟩
abbrev cX12_by : ByteArray := prog_14_method_39_code
def yX12_by : MethodName := ⟨RX12, "by", "(III)I"⟩
abbrev cX12_byLaw : ByteArray := prog_14_method_40_code
def yX12_byLaw : MethodName := ⟨RX12, "byLaw", "()I"⟩
abbrev cX12_stepHere : ByteArray := prog_14_method_41_code
def yX12_stepHere : MethodName := ⟨RX12, "stepHere", "()I"⟩
abbrev cX12_readsStep : ByteArray := prog_14_method_42_code
def yX12_readsStep : MethodName := ⟨RX12, "readsStep", "()V"⟩
abbrev cX12_book : ByteArray := prog_14_method_43_code
def yX12_book : MethodName := ⟨RX12, "book", "(I)I"⟩
abbrev cX12_fault : ByteArray := prog_14_method_44_code
def yX12_fault : MethodName := ⟨RX12, "fault", "()I"⟩
abbrev cX12_willBy : ByteArray := prog_14_method_45_code
def yX12_willBy : MethodName := ⟨RX12, "willBy", "(IIIIIIII)I"⟩
abbrev cX12_ones : ByteArray := prog_14_method_46_code
def yX12_ones : MethodName := ⟨RX12, "ones", "(I)I"⟩
abbrev cX12_stonesOf : ByteArray := prog_14_method_47_code
def yX12_stonesOf : MethodName := ⟨RX12, "stonesOf", "([II)I"⟩
abbrev cX12_stones : ByteArray := prog_14_method_48_code
def yX12_stones : MethodName := ⟨RX12, "stones", "([II)I"⟩
abbrev cX12_everybody : ByteArray := prog_14_method_49_code
def yX12_everybody : MethodName := ⟨RX12, "everybody", "()I"⟩
abbrev cX12_willOf : ByteArray := prog_14_method_50_code
def yX12_willOf : MethodName := ⟨RX12, "willOf", "([III)I"⟩
abbrev cX12_isLent : ByteArray := prog_14_method_51_code
def yX12_isLent : MethodName := ⟨RX12, "isLent", "([III)Z"⟩
abbrev cX12_lenderOf : ByteArray := prog_14_method_52_code
def yX12_lenderOf : MethodName := ⟨RX12, "lenderOf", "([II)I"⟩
abbrev cX12_lies : ByteArray := prog_14_method_53_code
def yX12_lies : MethodName := ⟨RX12, "lies", "([III)V"⟩
abbrev cX12_dies : ByteArray := prog_14_method_54_code
def yX12_dies : MethodName := ⟨RX12, "dies", "([II)Z"⟩
abbrev cX12_lendsLate : ByteArray := prog_14_method_55_code
def yX12_lendsLate : MethodName := ⟨RX12, "lendsLate", "([III)Z"⟩
abbrev cX12_becomes : ByteArray := prog_14_method_56_code
def yX12_becomes : MethodName := ⟨RX12, "becomes", "([III)Z"⟩
abbrev cX12_yearEnds : ByteArray := prog_14_method_57_code
def yX12_yearEnds : MethodName := ⟨RX12, "yearEnds", "([I)V"⟩
abbrev cX12_does : ByteArray := prog_14_method_58_code
def yX12_does : MethodName := ⟨RX12, "does", "([I[I)Z"⟩
abbrev cX12_goes : ByteArray := prog_14_method_59_code
def yX12_goes : MethodName := ⟨RX12, "goes", "(II)V"⟩
abbrev cX12_work : ByteArray := prog_14_method_60_code
def yX12_work : MethodName := ⟨RX12, "work", "(I)I"⟩
abbrev cX12_undo : ByteArray := prog_14_method_61_code
def yX12_undo : MethodName := ⟨RX12, "undo", "()I"⟩
abbrev cX12_debts : ByteArray := prog_14_method_62_code
def yX12_debts : MethodName := ⟨RX12, "debts", "([IZ)I"⟩
abbrev cX12_nameless : ByteArray := prog_14_method_63_code
def yX12_nameless : MethodName := ⟨RX12, "nameless", "([I)I"⟩
abbrev cX12_follows : ByteArray := prog_14_method_64_code
def yX12_follows : MethodName := ⟨RX12, "follows", "([IIZ)I"⟩
abbrev cX12_longest : ByteArray := prog_14_method_65_code
def yX12_longest : MethodName := ⟨RX12, "longest", "([I)I"⟩
abbrev cX12_lenderIf : ByteArray := prog_14_method_66_code
def yX12_lenderIf : MethodName := ⟨RX12, "lenderIf", "([II)I"⟩
abbrev cX12_told : ByteArray := prog_14_method_67_code
def yX12_told : MethodName := ⟨RX12, "told", "(I)I"⟩
abbrev cX12_isPerson : ByteArray := prog_14_method_68_code
def yX12_isPerson : MethodName := ⟨RX12, "isPerson", "(I)Z"⟩
abbrev cX12_person : ByteArray := prog_14_method_69_code
def yX12_person : MethodName := ⟨RX12, "person", "(II)I"⟩
abbrev cX12_will : ByteArray := prog_14_method_70_code
def yX12_will : MethodName := ⟨RX12, "will", "(II)I"⟩
abbrev cX12_lends : ByteArray := prog_14_method_71_code
def yX12_lends : MethodName := ⟨RX12, "lends", "(II)Z"⟩
abbrev cX12_would : ByteArray := prog_14_method_72_code
def yX12_would : MethodName := ⟨RX12, "would", "(IIIIIIII)I"⟩
abbrev cX12_lender : ByteArray := prog_14_method_73_code
def yX12_lender : MethodName := ⟨RX12, "lender", "(I)I"⟩
abbrev cX12_deepest : ByteArray := prog_14_method_74_code
def yX12_deepest : MethodName := ⟨RX12, "deepest", "([I)I"⟩
abbrev cX12_ahead : ByteArray := prog_14_method_75_code
def yX12_ahead : MethodName := ⟨RX12, "ahead", "(II)I"⟩
abbrev cX12_truly : ByteArray := prog_14_method_76_code
def yX12_truly : MethodName := ⟨RX12, "truly", "(I)I"⟩
abbrev cX12_chain : ByteArray := prog_14_method_77_code
def yX12_chain : MethodName := ⟨RX12, "chain", "(I)I"⟩
abbrev cX12_serves : ByteArray := prog_14_method_78_code
def yX12_serves : MethodName := ⟨RX12, "serves", "(IIII)V"⟩
abbrev cX12_laysGifts : ByteArray := prog_14_method_79_code
def yX12_laysGifts : MethodName := ⟨RX12, "laysGifts", "(I)V"⟩
abbrev cX12_served : ByteArray := prog_14_method_80_code
def yX12_served : MethodName := ⟨RX12, "served", "(II)I"⟩
abbrev cX12_giver : ByteArray := prog_14_method_81_code
def yX12_giver : MethodName := ⟨RX12, "giver", "(II)I"⟩
abbrev cX12_isOrder : ByteArray := prog_14_method_82_code
def yX12_isOrder : MethodName := ⟨RX12, "isOrder", "(I)Z"⟩
abbrev cX12_firstOrder : ByteArray := prog_14_method_83_code
def yX12_firstOrder : MethodName := ⟨RX12, "firstOrder", "(I)V"⟩
abbrev cX12_swaps : ByteArray := prog_14_method_84_code
def yX12_swaps : MethodName := ⟨RX12, "swaps", "(II)V"⟩
abbrev cX12_nextOrder : ByteArray := prog_14_method_85_code
def yX12_nextOrder : MethodName := ⟨RX12, "nextOrder", "()Z"⟩
abbrev cX12_dieSo : ByteArray := prog_14_method_86_code
def yX12_dieSo : MethodName := ⟨RX12, "dieSo", "()V"⟩
abbrev cX12_digits : ByteArray := prog_14_method_87_code
def yX12_digits : MethodName := ⟨RX12, "digits", "()I"⟩
abbrev cX12_order : ByteArray := prog_14_method_88_code
def yX12_order : MethodName := ⟨RX12, "order", "(II)I"⟩
abbrev cX12_isSo : ByteArray := prog_14_method_89_code
def yX12_isSo : MethodName := ⟨RX12, "isSo", "()Z"⟩
abbrev cX12_fits : ByteArray := prog_14_method_90_code
def yX12_fits : MethodName := ⟨RX12, "fits", "(II)I"⟩
abbrev cX12_isTold : ByteArray := prog_14_method_91_code
def yX12_isTold : MethodName := ⟨RX12, "isTold", "(I)Z"⟩
abbrev cX12_worstAt : ByteArray := prog_14_method_92_code
def yX12_worstAt : MethodName := ⟨RX12, "worstAt", "(II)I"⟩
abbrev cX12_look : ByteArray := prog_14_method_93_code
def yX12_look : MethodName := ⟨RX12, "look", "(II)I"⟩
abbrev cX12_hasBy : ByteArray := prog_14_method_94_code
def yX12_hasBy : MethodName := ⟨RX12, "hasBy", "(IIII)I"⟩
abbrev cX12_isBest : ByteArray := prog_14_method_95_code
def yX12_isBest : MethodName := ⟨RX12, "isBest", "(IIII)Z"⟩
abbrev cX12_neighbours : ByteArray := prog_14_method_96_code
def yX12_neighbours : MethodName := ⟨RX12, "neighbours", "(III)I"⟩
abbrev cX12_home : ByteArray := prog_14_method_97_code
def yX12_home : MethodName := ⟨RX12, "home", "(IIII)J"⟩
abbrev cX12_givenBy : ByteArray := prog_14_method_98_code
def yX12_givenBy : MethodName := ⟨RX12, "givenBy", "(II)I"⟩
abbrev cX12_flowers : ByteArray := prog_14_method_99_code
def yX12_flowers : MethodName := ⟨RX12, "flowers", "(III)I"⟩
abbrev cX12_honoured : ByteArray := prog_14_method_100_code
def yX12_honoured : MethodName := ⟨RX12, "honoured", "(I)I"⟩
abbrev cX12_sued : ByteArray := prog_14_method_101_code
def yX12_sued : MethodName := ⟨RX12, "sued", "(I)I"⟩
abbrev cX12_free : ByteArray := prog_14_method_102_code
def yX12_free : MethodName := ⟨RX12, "free", "(I)I"⟩
abbrev cX12_kin : ByteArray := prog_14_method_103_code
def yX12_kin : MethodName := ⟨RX12, "kin", "(I)I"⟩
abbrev cX12_willing : ByteArray := prog_14_method_104_code
def yX12_willing : MethodName := ⟨RX12, "willing", "(I)I"⟩
abbrev cX12_below : ByteArray := prog_14_method_105_code
def yX12_below : MethodName := ⟨RX12, "below", "(I)I"⟩
abbrev cX12_debtless : ByteArray := prog_14_method_106_code
def yX12_debtless : MethodName := ⟨RX12, "debtless", "()I"⟩
abbrev cX12_after : ByteArray := prog_14_method_107_code
def yX12_after : MethodName := ⟨RX12, "after", "(II)I"⟩
abbrev cX12_latest : ByteArray := prog_14_method_108_code
def yX12_latest : MethodName := ⟨RX12, "latest", "(I)I"⟩
abbrev cX12_draw : ByteArray := prog_14_method_109_code
def yX12_draw : MethodName := ⟨RX12, "draw", "(I)I"⟩
abbrev cX12_centuryBy : ByteArray := prog_14_method_110_code
def yX12_centuryBy : MethodName := ⟨RX12, "centuryBy", "(III)V"⟩
abbrev cX12_isCentury : ByteArray := prog_14_method_111_code
def yX12_isCentury : MethodName := ⟨RX12, "isCentury", "(II)Z"⟩
abbrev cX12_century : ByteArray := prog_14_method_112_code
def yX12_century : MethodName := ⟨RX12, "century", "(IIII)I"⟩
abbrev cX12_span : ByteArray := prog_14_method_113_code
def yX12_span : MethodName := ⟨RX12, "span", "(IIIIII)I"⟩
abbrev cX12_puts : ByteArray := prog_14_method_114_code
def yX12_puts : MethodName := ⟨RX12, "puts", "([IIZ)I"⟩
abbrev cX12_putsAll : ByteArray := prog_14_method_115_code
def yX12_putsAll : MethodName := ⟨RX12, "putsAll", "([IZ)V"⟩
abbrev cX12_image : ByteArray := prog_14_method_116_code
def yX12_image : MethodName := ⟨RX12, "image", "()I"⟩
abbrev cX12_restore : ByteArray := prog_14_method_117_code
def yX12_restore : MethodName := ⟨RX12, "restore", "()I"⟩
abbrev cX12_status : ByteArray := prog_14_method_118_code
def yX12_status : MethodName := ⟨RX12, "status", "(I)I"⟩
abbrev cX12_count : ByteArray := prog_14_method_119_code
def yX12_count : MethodName := ⟨RX12, "count", "(I)I"⟩
def RJx145de : String := "java/io/Serializable"
def TJx145de : u_T := fun k => match k with
  | _ => ("", "", "", false)
def tyJx145de : Nat → FieldType := fun k => match k with
  | _ => .int
abbrev wsJx145de0 : List Cond := u_ws RJx145de TJx145de 0
theorem nmJx145de : ∀ a, a < 0 → ∀ b, b < 0 → a ≠ b → (TJx145de a).2.1 ≠ (TJx145de b).2.1 := by decide +kernel
theorem tyJx145de_ok : ∀ k, k < 0 → parseFieldDescriptor (TJx145de k).2.2.1 = some (tyJx145de k) := by decide +kernel
def RJx9f9b0 : String := "java/lang/CharSequence"
def TJx9f9b0 : u_T := fun k => match k with
  | _ => ("", "", "", false)
def tyJx9f9b0 : Nat → FieldType := fun k => match k with
  | _ => .int
abbrev wsJx9f9b00 : List Cond := u_ws RJx9f9b0 TJx9f9b0 0
theorem nmJx9f9b0 : ∀ a, a < 0 → ∀ b, b < 0 → a ≠ b → (TJx9f9b0 a).2.1 ≠ (TJx9f9b0 b).2.1 := by decide +kernel
theorem tyJx9f9b0_ok : ∀ k, k < 0 → parseFieldDescriptor (TJx9f9b0 k).2.2.1 = some (tyJx9f9b0 k) := by decide +kernel
def RJxb160c : String := "java/lang/Comparable"
def TJxb160c : u_T := fun k => match k with
  | _ => ("", "", "", false)
def tyJxb160c : Nat → FieldType := fun k => match k with
  | _ => .int
abbrev wsJxb160c0 : List Cond := u_ws RJxb160c TJxb160c 0
theorem nmJxb160c : ∀ a, a < 0 → ∀ b, b < 0 → a ≠ b → (TJxb160c a).2.1 ≠ (TJxb160c b).2.1 := by decide +kernel
theorem tyJxb160c_ok : ∀ k, k < 0 → parseFieldDescriptor (TJxb160c k).2.2.1 = some (tyJxb160c k) := by decide +kernel
def RJ6 : String := "java/lang/Integer"
def TJ6 : u_T := fun k => match k with
  | _ => ("", "", "", false)
def tyJ6 : Nat → FieldType := fun k => match k with
  | _ => .int
abbrev wsJ60 : List Cond := u_ws RJ6 TJ6 0
theorem nmJ6 : ∀ a, a < 0 → ∀ b, b < 0 → a ≠ b → (TJ6 a).2.1 ≠ (TJ6 b).2.1 := by decide +kernel
theorem tyJ6_ok : ∀ k, k < 0 → parseFieldDescriptor (TJ6 k).2.2.1 = some (tyJ6 k) := by decide +kernel
abbrev cJ6_bitCount_0f7a4 : ByteArray := prog_20_method_49_code
def yJ6_bitCount_0f7a4 : MethodName := ⟨RJ6, "bitCount", "(I)I"⟩
def RJ9 : String := "java/lang/Math"
def TJ9 : u_T := fun k => match k with
  | _ => ("", "", "", false)
def tyJ9 : Nat → FieldType := fun k => match k with
  | _ => .int
abbrev wsJ90 : List Cond := u_ws RJ9 TJ9 0
theorem nmJ9 : ∀ a, a < 0 → ∀ b, b < 0 → a ≠ b → (TJ9 a).2.1 ≠ (TJ9 b).2.1 := by decide +kernel
theorem tyJ9_ok : ∀ k, k < 0 → parseFieldDescriptor (TJ9 k).2.2.1 = some (tyJ9 k) := by decide +kernel
abbrev cJ9_max_7cf53 : ByteArray := prog_21_method_65_code
def yJ9_max_7cf53 : MethodName := ⟨RJ9, "max", "(II)I"⟩
abbrev cJ9_min_7cf53 : ByteArray := prog_21_method_69_code
def yJ9_min_7cf53 : MethodName := ⟨RJ9, "min", "(II)I"⟩
def RJ0 : String := "java/lang/String"
def TJ0 : u_T := fun k => match k with
  | _ => ("", "", "", false)
def tyJ0 : Nat → FieldType := fun k => match k with
  | _ => .int
abbrev wsJ00 : List Cond := u_ws RJ0 TJ0 0
theorem nmJ0 : ∀ a, a < 0 → ∀ b, b < 0 → a ≠ b → (TJ0 a).2.1 ≠ (TJ0 b).2.1 := by decide +kernel
theorem tyJ0_ok : ∀ k, k < 0 → parseFieldDescriptor (TJ0 k).2.2.1 = some (tyJ0 k) := by decide +kernel
abbrev cJ0_length_8abf5 : ByteArray := prog_23_method_54_code
def yJ0_length_8abf5 : MethodName := ⟨RJ0, "length", "()I"⟩
abbrev cJ0_charAt_5068e : ByteArray := prog_23_method_56_code
def yJ0_charAt_5068e : MethodName := ⟨RJ0, "charAt", "(I)C"⟩
abbrev cJ0_coder_7d493 : ByteArray := prog_23_method_152_code
def yJ0_coder_7d493 : MethodName := ⟨RJ0, "coder", "()B"⟩
abbrev cJ0_isLatin1_aae02 : ByteArray := prog_23_method_154_code
def yJ0_isLatin1_aae02 : MethodName := ⟨RJ0, "isLatin1", "()Z"⟩
abbrev cJ0_checkIndex_df160 : ByteArray := prog_23_method_155_code
def yJ0_checkIndex_df160 : MethodName := ⟨RJ0, "checkIndex", "(II)V"⟩
def RJ1 : String := "java/lang/StringLatin1"
def TJ1 : u_T := fun k => match k with
  | _ => ("", "", "", false)
def tyJ1 : Nat → FieldType := fun k => match k with
  | _ => .int
abbrev wsJ10 : List Cond := u_ws RJ1 TJ1 0
theorem nmJ1 : ∀ a, a < 0 → ∀ b, b < 0 → a ≠ b → (TJ1 a).2.1 ≠ (TJ1 b).2.1 := by decide +kernel
theorem tyJ1_ok : ∀ k, k < 0 → parseFieldDescriptor (TJ1 k).2.2.1 = some (tyJ1 k) := by decide +kernel
abbrev cJ1_charAt_3b067 : ByteArray := prog_24_method_2_code
def yJ1_charAt_3b067 : MethodName := ⟨RJ1, "charAt", "([BI)C"⟩
def RJ2 : String := "java/lang/StringUTF16"
def TJ2 : u_T := fun k => match k with
  | _ => ("", "", "", false)
def tyJ2 : Nat → FieldType := fun k => match k with
  | _ => .int
abbrev wsJ20 : List Cond := u_ws RJ2 TJ2 0
theorem nmJ2 : ∀ a, a < 0 → ∀ b, b < 0 → a ≠ b → (TJ2 a).2.1 ≠ (TJ2 b).2.1 := by decide +kernel
theorem tyJ2_ok : ∀ k, k < 0 → parseFieldDescriptor (TJ2 k).2.2.1 = some (tyJ2 k) := by decide +kernel
abbrev cJ2_getChar_3b067 : ByteArray := prog_25_method_5_code
def yJ2_getChar_3b067 : MethodName := ⟨RJ2, "getChar", "([BI)C"⟩
abbrev cJ2_length_9d52b : ByteArray := prog_25_method_6_code
def yJ2_length_9d52b : MethodName := ⟨RJ2, "length", "([B)I"⟩
abbrev cJ2_charAt_3b067 : ByteArray := prog_25_method_83_code
def yJ2_charAt_3b067 : MethodName := ⟨RJ2, "charAt", "([BI)C"⟩
abbrev cJ2_checkIndex_2214a : ByteArray := prog_25_method_91_code
def yJ2_checkIndex_2214a : MethodName := ⟨RJ2, "checkIndex", "(I[B)V"⟩
def RJxfd54e : String := "java/lang/constant/Constable"
def TJxfd54e : u_T := fun k => match k with
  | _ => ("", "", "", false)
def tyJxfd54e : Nat → FieldType := fun k => match k with
  | _ => .int
abbrev wsJxfd54e0 : List Cond := u_ws RJxfd54e TJxfd54e 0
theorem nmJxfd54e : ∀ a, a < 0 → ∀ b, b < 0 → a ≠ b → (TJxfd54e a).2.1 ≠ (TJxfd54e b).2.1 := by decide +kernel
theorem tyJxfd54e_ok : ∀ k, k < 0 → parseFieldDescriptor (TJxfd54e k).2.2.1 = some (tyJxfd54e k) := by decide +kernel
def RJx3cf43 : String := "java/lang/constant/ConstantDesc"
def TJx3cf43 : u_T := fun k => match k with
  | _ => ("", "", "", false)
def tyJx3cf43 : Nat → FieldType := fun k => match k with
  | _ => .int
abbrev wsJx3cf430 : List Cond := u_ws RJx3cf43 TJx3cf43 0
theorem nmJx3cf43 : ∀ a, a < 0 → ∀ b, b < 0 → a ≠ b → (TJx3cf43 a).2.1 ≠ (TJx3cf43 b).2.1 := by decide +kernel
theorem tyJx3cf43_ok : ∀ k, k < 0 → parseFieldDescriptor (TJx3cf43 k).2.2.1 = some (tyJx3cf43 k) := by decide +kernel
def RJ3 : String := "jdk/internal/util/Preconditions"
def TJ3 : u_T := fun k => match k with
  | _ => ("", "", "", false)
def tyJ3 : Nat → FieldType := fun k => match k with
  | _ => .int
abbrev wsJ30 : List Cond := u_ws RJ3 TJ3 0
theorem nmJ3 : ∀ a, a < 0 → ∀ b, b < 0 → a ≠ b → (TJ3 a).2.1 ≠ (TJ3 b).2.1 := by decide +kernel
theorem tyJ3_ok : ∀ k, k < 0 → parseFieldDescriptor (TJ3 k).2.2.1 = some (tyJ3 k) := by decide +kernel
abbrev cJ3_checkIndex_8e157 : ByteArray := prog_30_method_11_code
def yJ3_checkIndex_8e157 : MethodName := ⟨RJ3, "checkIndex", "(IILjava/util/function/BiFunction;)I"⟩
def RL : String := "BorrowedStonesLaw"
abbrev cL_peninsula : ByteArray := method_3_code
def yL_peninsula : MethodName := ⟨RL, "peninsula", "(LBorrowedStones;I[J)I"⟩
abbrev cL_law : ByteArray := method_4_code
def yL_law : MethodName := ⟨RL, "law", "(LBorrowedStones;I[J)I"⟩
abbrev cL_work : ByteArray := method_5_code
def yL_work : MethodName := ⟨RL, "work", "(LBorrowedStones;I[J)I"⟩
abbrev cL_book : ByteArray := method_6_code
def yL_book : MethodName := ⟨RL, "book", "(LBorrowedStones;I[J)I"⟩
abbrev cL_told : ByteArray := method_7_code
def yL_told : MethodName := ⟨RL, "told", "(LBorrowedStones;I[J)I"⟩
abbrev cL_person : ByteArray := method_8_code
def yL_person : MethodName := ⟨RL, "person", "(LBorrowedStones;II[J)I"⟩
abbrev cL_will : ByteArray := method_9_code
def yL_will : MethodName := ⟨RL, "will", "(LBorrowedStones;II[J)I"⟩
abbrev cL_lends : ByteArray := method_10_code
def yL_lends : MethodName := ⟨RL, "lends", "(LBorrowedStones;II[J)I"⟩
abbrev cL_would : ByteArray := method_11_code
def yL_would : MethodName := ⟨RL, "would", "(LBorrowedStones;IIIIIIII[J)I"⟩
abbrev cL_lender : ByteArray := method_12_code
def yL_lender : MethodName := ⟨RL, "lender", "(LBorrowedStones;I[J)I"⟩
abbrev cL_ahead : ByteArray := method_13_code
def yL_ahead : MethodName := ⟨RL, "ahead", "(LBorrowedStones;II[J)I"⟩
abbrev cL_truly : ByteArray := method_14_code
def yL_truly : MethodName := ⟨RL, "truly", "(LBorrowedStones;I[J)I"⟩
abbrev cL_chain : ByteArray := method_15_code
def yL_chain : MethodName := ⟨RL, "chain", "(LBorrowedStones;I[J)I"⟩
abbrev cL_served : ByteArray := method_16_code
def yL_served : MethodName := ⟨RL, "served", "(LBorrowedStones;II[J)I"⟩
abbrev cL_giver : ByteArray := method_17_code
def yL_giver : MethodName := ⟨RL, "giver", "(LBorrowedStones;II[J)I"⟩
abbrev cL_order : ByteArray := method_18_code
def yL_order : MethodName := ⟨RL, "order", "(LBorrowedStones;II[J)I"⟩
abbrev cL_fits : ByteArray := method_19_code
def yL_fits : MethodName := ⟨RL, "fits", "(LBorrowedStones;II[J)I"⟩
abbrev cL_look : ByteArray := method_20_code
def yL_look : MethodName := ⟨RL, "look", "(LBorrowedStones;II[J)I"⟩
abbrev cL_neighbours : ByteArray := method_21_code
def yL_neighbours : MethodName := ⟨RL, "neighbours", "(LBorrowedStones;III[J)I"⟩
abbrev cL_home : ByteArray := method_22_code
def yL_home : MethodName := ⟨RL, "home", "(LBorrowedStones;IIII[J)I"⟩
abbrev cL_flowers : ByteArray := method_23_code
def yL_flowers : MethodName := ⟨RL, "flowers", "(LBorrowedStones;III[J)I"⟩
abbrev cL_honoured : ByteArray := method_24_code
def yL_honoured : MethodName := ⟨RL, "honoured", "(LBorrowedStones;I[J)I"⟩
abbrev cL_sued : ByteArray := method_25_code
def yL_sued : MethodName := ⟨RL, "sued", "(LBorrowedStones;I[J)I"⟩
abbrev cL_free : ByteArray := method_26_code
def yL_free : MethodName := ⟨RL, "free", "(LBorrowedStones;I[J)I"⟩
abbrev cL_kin : ByteArray := method_27_code
def yL_kin : MethodName := ⟨RL, "kin", "(LBorrowedStones;I[J)I"⟩
abbrev cL_willing : ByteArray := method_28_code
def yL_willing : MethodName := ⟨RL, "willing", "(LBorrowedStones;I[J)I"⟩
abbrev cL_below : ByteArray := method_29_code
def yL_below : MethodName := ⟨RL, "below", "(LBorrowedStones;I[J)I"⟩
abbrev cL_after : ByteArray := method_30_code
def yL_after : MethodName := ⟨RL, "after", "(LBorrowedStones;II[J)I"⟩
abbrev cL_latest : ByteArray := method_31_code
def yL_latest : MethodName := ⟨RL, "latest", "(LBorrowedStones;I[J)I"⟩
abbrev cL_century : ByteArray := method_32_code
def yL_century : MethodName := ⟨RL, "century", "(LBorrowedStones;IIII[J)I"⟩
abbrev cL_span : ByteArray := method_33_code
def yL_span : MethodName := ⟨RL, "span", "(LBorrowedStones;IIIIII[J)I"⟩
abbrev cL_law_ : ByteArray := code
def yL_law_ : MethodName := ⟨RL, "law", "([I)Z"⟩
abbrev vwCl : List vw_C := [(RX0, TX0, 2), (RX1, TX1, 5), (RX2, TX2, 4), (RX3, TX3, 3), (RX4, TX4, 7), (RX5, TX5, 4), (RX7, TX7, 6), (RX8, TX8, 9), (RX9, TX9, 8), (RX10, TX10, 8), (RX11, TX11, 19), (RX12, TX12, 48)]
end
section
theorem dX12_init_0 : decode cX12_init 0 = .ok (.aload_n 0, 1) := by decide +kernel
theorem dX12_init_1 : decode cX12_init 1 = .ok (.invokespecial 1, 3) := by decide +kernel
theorem dX12_init_4 : decode cX12_init 4 = .ok (.aload_n 0, 1) := by decide +kernel
theorem dX12_init_5 : decode cX12_init 5 = .ok (.iconst (-1), 1) := by decide +kernel
theorem dX12_init_6 : decode cX12_init 6 = .ok (.putfield 9, 3) := by decide +kernel
theorem dX12_init_9 : decode cX12_init 9 = .ok (.aload_n 0, 1) := by decide +kernel
theorem dX12_init_10 : decode cX12_init 10 = .ok (.sipush 600, 3) := by decide +kernel
theorem dX12_init_13 : decode cX12_init 13 = .ok (.newarray .int, 2) := by decide +kernel
theorem dX12_init_15 : decode cX12_init 15 = .ok (.putfield 13, 3) := by decide +kernel
theorem dX12_init_18 : decode cX12_init 18 = .ok (.aload_n 0, 1) := by decide +kernel
theorem dX12_init_19 : decode cX12_init 19 = .ok (.iconst 2, 1) := by decide +kernel
theorem dX12_init_20 : decode cX12_init 20 = .ok (.newarray .int, 2) := by decide +kernel
theorem dX12_init_22 : decode cX12_init 22 = .ok (.putfield 17, 3) := by decide +kernel
theorem dX12_init_25 : decode cX12_init 25 = .ok (.aload_n 0, 1) := by decide +kernel
theorem dX12_init_26 : decode cX12_init 26 = .ok (.iconst 2, 1) := by decide +kernel
theorem dX12_init_27 : decode cX12_init 27 = .ok (.newarray .int, 2) := by decide +kernel
theorem dX12_init_29 : decode cX12_init 29 = .ok (.putfield 20, 3) := by decide +kernel
theorem dX12_init_32 : decode cX12_init 32 = .ok (.aload_n 0, 1) := by decide +kernel
theorem dX12_init_33 : decode cX12_init 33 = .ok (.iconst 2, 1) := by decide +kernel
theorem dX12_init_34 : decode cX12_init 34 = .ok (.newarray .int, 2) := by decide +kernel
theorem dX12_init_36 : decode cX12_init 36 = .ok (.putfield 23, 3) := by decide +kernel
theorem dX12_init_39 : decode cX12_init 39 = .ok (.aload_n 0, 1) := by decide +kernel
theorem dX12_init_40 : decode cX12_init 40 = .ok (.bipush 8, 2) := by decide +kernel
theorem dX12_init_42 : decode cX12_init 42 = .ok (.iconst 2, 1) := by decide +kernel
theorem dX12_init_43 : decode cX12_init 43 = .ok (.multianewarray 26 2, 4) := by decide +kernel
theorem dX12_init_47 : decode cX12_init 47 = .ok (.putfield 28, 3) := by decide +kernel
theorem dX12_init_50 : decode cX12_init 50 = .ok (.aload_n 0, 1) := by decide +kernel
theorem dX12_init_51 : decode cX12_init 51 = .ok (.bipush 8, 2) := by decide +kernel
theorem dX12_init_53 : decode cX12_init 53 = .ok (.iconst 2, 1) := by decide +kernel
theorem dX12_init_54 : decode cX12_init 54 = .ok (.multianewarray 26 2, 4) := by decide +kernel
theorem dX12_init_58 : decode cX12_init 58 = .ok (.putfield 31, 3) := by decide +kernel
theorem dX12_init_61 : decode cX12_init 61 = .ok (.aload_n 0, 1) := by decide +kernel
theorem dX12_init_62 : decode cX12_init 62 = .ok (.bipush 8, 2) := by decide +kernel
theorem dX12_init_64 : decode cX12_init 64 = .ok (.newarray .int, 2) := by decide +kernel
theorem dX12_init_66 : decode cX12_init 66 = .ok (.putfield 34, 3) := by decide +kernel
theorem dX12_init_69 : decode cX12_init 69 = .ok (.aload_n 0, 1) := by decide +kernel
theorem dX12_init_70 : decode cX12_init 70 = .ok (.bipush 8, 2) := by decide +kernel
theorem dX12_init_72 : decode cX12_init 72 = .ok (.newarray .int, 2) := by decide +kernel
theorem dX12_init_74 : decode cX12_init 74 = .ok (.putfield 37, 3) := by decide +kernel
theorem dX12_init_77 : decode cX12_init 77 = .ok (.aload_n 0, 1) := by decide +kernel
theorem dX12_init_78 : decode cX12_init 78 = .ok (.sipush 160, 3) := by decide +kernel
theorem dX12_init_81 : decode cX12_init 81 = .ok (.iconst 2, 1) := by decide +kernel
theorem dX12_init_82 : decode cX12_init 82 = .ok (.multianewarray 26 2, 4) := by decide +kernel
theorem dX12_init_86 : decode cX12_init 86 = .ok (.putfield 40, 3) := by decide +kernel
theorem dX12_init_89 : decode cX12_init 89 = .ok (.aload_n 0, 1) := by decide +kernel
theorem dX12_init_90 : decode cX12_init 90 = .ok (.sipush 160, 3) := by decide +kernel
theorem dX12_init_93 : decode cX12_init 93 = .ok (.iconst 2, 1) := by decide +kernel
theorem dX12_init_94 : decode cX12_init 94 = .ok (.multianewarray 26 2, 4) := by decide +kernel
theorem dX12_init_98 : decode cX12_init 98 = .ok (.putfield 43, 3) := by decide +kernel
theorem dX12_init_101 : decode cX12_init 101 = .ok (.aload_n 0, 1) := by decide +kernel
theorem dX12_init_102 : decode cX12_init 102 = .ok (.bipush 8, 2) := by decide +kernel
theorem dX12_init_104 : decode cX12_init 104 = .ok (.iconst 2, 1) := by decide +kernel
theorem dX12_init_105 : decode cX12_init 105 = .ok (.multianewarray 26 2, 4) := by decide +kernel
theorem dX12_init_109 : decode cX12_init 109 = .ok (.putfield 46, 3) := by decide +kernel
theorem dX12_init_112 : decode cX12_init 112 = .ok (.aload_n 0, 1) := by decide +kernel
theorem dX12_init_113 : decode cX12_init 113 = .ok (.bipush 8, 2) := by decide +kernel
theorem dX12_init_115 : decode cX12_init 115 = .ok (.iconst 2, 1) := by decide +kernel
theorem dX12_init_116 : decode cX12_init 116 = .ok (.multianewarray 26 2, 4) := by decide +kernel
theorem dX12_init_120 : decode cX12_init 120 = .ok (.putfield 49, 3) := by decide +kernel
theorem dX12_init_123 : decode cX12_init 123 = .ok (.aload_n 0, 1) := by decide +kernel
theorem dX12_init_124 : decode cX12_init 124 = .ok (.sipush 160, 3) := by decide +kernel
theorem dX12_init_127 : decode cX12_init 127 = .ok (.newarray .int, 2) := by decide +kernel
theorem dX12_init_129 : decode cX12_init 129 = .ok (.putfield 52, 3) := by decide +kernel
theorem dX12_init_132 : decode cX12_init 132 = .ok (.aload_n 0, 1) := by decide +kernel
theorem dX12_init_133 : decode cX12_init 133 = .ok (.bipush 8, 2) := by decide +kernel
theorem dX12_init_135 : decode cX12_init 135 = .ok (.newarray .int, 2) := by decide +kernel
theorem dX12_init_137 : decode cX12_init 137 = .ok (.putfield 55, 3) := by decide +kernel
theorem dX12_init_140 : decode cX12_init 140 = .ok (.aload_n 0, 1) := by decide +kernel
theorem dX12_init_141 : decode cX12_init 141 = .ok (.bipush 80, 2) := by decide +kernel
theorem dX12_init_143 : decode cX12_init 143 = .ok (.iconst 4, 1) := by decide +kernel
theorem dX12_init_144 : decode cX12_init 144 = .ok (.multianewarray 26 2, 4) := by decide +kernel
theorem dX12_init_148 : decode cX12_init 148 = .ok (.putfield 58, 3) := by decide +kernel
theorem dX12_init_151 : decode cX12_init 151 = .ok (.aload_n 0, 1) := by decide +kernel
theorem dX12_init_152 : decode cX12_init 152 = .ok (.bipush 26, 2) := by decide +kernel
theorem dX12_init_154 : decode cX12_init 154 = .ok (.newarray .int, 2) := by decide +kernel
theorem dX12_init_156 : decode cX12_init 156 = .ok (.putfield 61, 3) := by decide +kernel
theorem dX12_init_159 : decode cX12_init 159 = .ok (.aload_n 0, 1) := by decide +kernel
theorem dX12_init_160 : decode cX12_init 160 = .ok (.bipush 26, 2) := by decide +kernel
theorem dX12_init_162 : decode cX12_init 162 = .ok (.newarray .int, 2) := by decide +kernel
theorem dX12_init_164 : decode cX12_init 164 = .ok (.putfield 64, 3) := by decide +kernel
theorem dX12_init_167 : decode cX12_init 167 = .ok (.aload_n 0, 1) := by decide +kernel
theorem dX12_init_168 : decode cX12_init 168 = .ok (.bipush 16, 2) := by decide +kernel
theorem dX12_init_170 : decode cX12_init 170 = .ok (.bipush 26, 2) := by decide +kernel
theorem dX12_init_172 : decode cX12_init 172 = .ok (.multianewarray 26 2, 4) := by decide +kernel
theorem dX12_init_176 : decode cX12_init 176 = .ok (.putfield 67, 3) := by decide +kernel
theorem dX12_init_179 : decode cX12_init 179 = .ok (.aload_n 0, 1) := by decide +kernel
theorem dX12_init_180 : decode cX12_init 180 = .ok (.iconst 3, 1) := by decide +kernel
theorem dX12_init_181 : decode cX12_init 181 = .ok (.sipush 443, 3) := by decide +kernel
theorem dX12_init_184 : decode cX12_init 184 = .ok (.multianewarray 26 2, 4) := by decide +kernel
theorem dX12_init_188 : decode cX12_init 188 = .ok (.putfield 70, 3) := by decide +kernel
theorem dX12_init_191 : decode cX12_init 191 = .ok (.aload_n 0, 1) := by decide +kernel
theorem dX12_init_192 : decode cX12_init 192 = .ok (.bipush 8, 2) := by decide +kernel
theorem dX12_init_194 : decode cX12_init 194 = .ok (.newarray .int, 2) := by decide +kernel
theorem dX12_init_196 : decode cX12_init 196 = .ok (.putfield 73, 3) := by decide +kernel
theorem dX12_init_199 : decode cX12_init 199 = .ok (.aload_n 0, 1) := by decide +kernel
theorem dX12_init_200 : decode cX12_init 200 = .ok (.bipush 8, 2) := by decide +kernel
theorem dX12_init_202 : decode cX12_init 202 = .ok (.newarray .int, 2) := by decide +kernel
theorem dX12_init_204 : decode cX12_init 204 = .ok (.putfield 76, 3) := by decide +kernel
theorem dX12_init_207 : decode cX12_init 207 = .ok (.aload_n 0, 1) := by decide +kernel
theorem dX12_init_208 : decode cX12_init 208 = .ok (.bipush 8, 2) := by decide +kernel
theorem dX12_init_210 : decode cX12_init 210 = .ok (.newarray .int, 2) := by decide +kernel
theorem dX12_init_212 : decode cX12_init 212 = .ok (.putfield 79, 3) := by decide +kernel
theorem dX12_init_215 : decode cX12_init 215 = .ok (.aload_n 0, 1) := by decide +kernel
theorem dX12_init_216 : decode cX12_init 216 = .ok (.bipush 8, 2) := by decide +kernel
theorem dX12_init_218 : decode cX12_init 218 = .ok (.newarray .int, 2) := by decide +kernel
theorem dX12_init_220 : decode cX12_init 220 = .ok (.putfield 82, 3) := by decide +kernel
theorem dX12_init_223 : decode cX12_init 223 = .ok (.aload_n 0, 1) := by decide +kernel
theorem dX12_init_224 : decode cX12_init 224 = .ok (.bipush 9, 2) := by decide +kernel
theorem dX12_init_226 : decode cX12_init 226 = .ok (.newarray .int, 2) := by decide +kernel
theorem dX12_init_228 : decode cX12_init 228 = .ok (.putfield 85, 3) := by decide +kernel
theorem dX12_init_231 : decode cX12_init 231 = .ok (.aload_n 0, 1) := by decide +kernel
theorem dX12_init_232 : decode cX12_init 232 = .ok (.bipush 14, 2) := by decide +kernel
theorem dX12_init_234 : decode cX12_init 234 = .ok (.newarray .long, 2) := by decide +kernel
theorem dX12_init_236 : decode cX12_init 236 = .ok (.putfield 88, 3) := by decide +kernel
theorem dX12_init_239 : decode cX12_init 239 = .ok (.aload_n 0, 1) := by decide +kernel
theorem dX12_init_240 : decode cX12_init 240 = .ok (.invokevirtual 92, 3) := by decide +kernel
theorem dX12_init_243 : decode cX12_init 243 = .ok (.aload_n 0, 1) := by decide +kernel
theorem dX12_init_244 : decode cX12_init 244 = .ok (.invokevirtual 95, 3) := by decide +kernel
theorem dX12_init_247 : decode cX12_init 247 = .ok (.return_, 1) := by decide +kernel
theorem dX12_tellsNothing_0 : decode cX12_tellsNothing 0 = .ok (.aload_n 0, 1) := by decide +kernel
theorem dX12_tellsNothing_1 : decode cX12_tellsNothing 1 = .ok (.getfield 20, 3) := by decide +kernel
theorem dX12_tellsNothing_4 : decode cX12_tellsNothing 4 = .ok (.iconst 0, 1) := by decide +kernel
theorem dX12_tellsNothing_5 : decode cX12_tellsNothing 5 = .ok (.iconst 0, 1) := by decide +kernel
theorem dX12_tellsNothing_6 : decode cX12_tellsNothing 6 = .ok (.iastore, 1) := by decide +kernel
theorem dX12_tellsNothing_7 : decode cX12_tellsNothing 7 = .ok (.aload_n 0, 1) := by decide +kernel
theorem dX12_tellsNothing_8 : decode cX12_tellsNothing 8 = .ok (.getfield 20, 3) := by decide +kernel
theorem dX12_tellsNothing_11 : decode cX12_tellsNothing 11 = .ok (.iconst 1, 1) := by decide +kernel
theorem dX12_tellsNothing_12 : decode cX12_tellsNothing 12 = .ok (.iconst 3, 1) := by decide +kernel
theorem dX12_tellsNothing_13 : decode cX12_tellsNothing 13 = .ok (.iastore, 1) := by decide +kernel
theorem dX12_tellsNothing_14 : decode cX12_tellsNothing 14 = .ok (.iconst 0, 1) := by decide +kernel
theorem dX12_tellsNothing_15 : decode cX12_tellsNothing 15 = .ok (.istore_n 1, 1) := by decide +kernel
theorem dX12_tellsNothing_16 : decode cX12_tellsNothing 16 = .ok (.iload_n 1, 1) := by decide +kernel
theorem dX12_tellsNothing_17 : decode cX12_tellsNothing 17 = .ok (.bipush 8, 2) := by decide +kernel
theorem dX12_tellsNothing_19 : decode cX12_tellsNothing 19 = .ok (.if_icmp .ge 16, 3) := by decide +kernel
theorem dX12_tellsNothing_22 : decode cX12_tellsNothing 22 = .ok (.aload_n 0, 1) := by decide +kernel
theorem dX12_tellsNothing_23 : decode cX12_tellsNothing 23 = .ok (.getfield 34, 3) := by decide +kernel
theorem dX12_tellsNothing_26 : decode cX12_tellsNothing 26 = .ok (.iload_n 1, 1) := by decide +kernel
theorem dX12_tellsNothing_27 : decode cX12_tellsNothing 27 = .ok (.iconst 0, 1) := by decide +kernel
theorem dX12_tellsNothing_28 : decode cX12_tellsNothing 28 = .ok (.iastore, 1) := by decide +kernel
theorem dX12_tellsNothing_29 : decode cX12_tellsNothing 29 = .ok (.iinc 1 1, 3) := by decide +kernel
theorem dX12_tellsNothing_32 : decode cX12_tellsNothing 32 = .ok (.goto (-16), 3) := by decide +kernel
theorem dX12_tellsNothing_35 : decode cX12_tellsNothing 35 = .ok (.return_, 1) := by decide +kernel
theorem dX12_thrown_0 : decode cX12_thrown 0 = .ok (.aload_n 0, 1) := by decide +kernel
theorem dX12_thrown_1 : decode cX12_thrown 1 = .ok (.getfield 98, 3) := by decide +kernel
theorem dX12_thrown_4 : decode cX12_thrown 4 = .ok (.ireturn, 1) := by decide +kernel
theorem dX12_bad_0 : decode cX12_bad 0 = .ok (.iload_n 1, 1) := by decide +kernel
theorem dX12_bad_1 : decode cX12_bad 1 = .ok (.ifCond .eq 25, 3) := by decide +kernel
theorem dX12_bad_4 : decode cX12_bad 4 = .ok (.aload_n 0, 1) := by decide +kernel
theorem dX12_bad_5 : decode cX12_bad 5 = .ok (.getfield 98, 3) := by decide +kernel
theorem dX12_bad_8 : decode cX12_bad 8 = .ok (.ifCond .ne 18, 3) := by decide +kernel
theorem dX12_bad_11 : decode cX12_bad 11 = .ok (.aload_n 0, 1) := by decide +kernel
theorem dX12_bad_12 : decode cX12_bad 12 = .ok (.iload_n 2, 1) := by decide +kernel
theorem dX12_bad_13 : decode cX12_bad 13 = .ok (.putfield 98, 3) := by decide +kernel
theorem dX12_bad_16 : decode cX12_bad 16 = .ok (.aload_n 0, 1) := by decide +kernel
theorem dX12_bad_17 : decode cX12_bad 17 = .ok (.getfield 17, 3) := by decide +kernel
theorem dX12_bad_20 : decode cX12_bad 20 = .ok (.iload_n 3, 1) := by decide +kernel
theorem dX12_bad_21 : decode cX12_bad 21 = .ok (.dup2, 1) := by decide +kernel
theorem dX12_bad_22 : decode cX12_bad 22 = .ok (.iaload, 1) := by decide +kernel
theorem dX12_bad_23 : decode cX12_bad 23 = .ok (.iconst 1, 1) := by decide +kernel
theorem dX12_bad_24 : decode cX12_bad 24 = .ok (.iadd, 1) := by decide +kernel
theorem dX12_bad_25 : decode cX12_bad 25 = .ok (.iastore, 1) := by decide +kernel
theorem dX12_bad_26 : decode cX12_bad 26 = .ok (.aload_n 0, 1) := by decide +kernel
theorem dX12_bad_27 : decode cX12_bad 27 = .ok (.getfield 98, 3) := by decide +kernel
theorem dX12_bad_30 : decode cX12_bad 30 = .ok (.ifCond .eq 7, 3) := by decide +kernel
theorem dX12_bad_33 : decode cX12_bad 33 = .ok (.iconst 1, 1) := by decide +kernel
theorem dX12_bad_34 : decode cX12_bad 34 = .ok (.goto 4, 3) := by decide +kernel
theorem dX12_bad_37 : decode cX12_bad 37 = .ok (.iconst 0, 1) := by decide +kernel
theorem dX12_bad_38 : decode cX12_bad 38 = .ok (.ireturn, 1) := by decide +kernel
theorem dX12_in_0 : decode cX12_in 0 = .ok (.iload_n 0, 1) := by decide +kernel
theorem dX12_in_1 : decode cX12_in 1 = .ok (.iload_n 1, 1) := by decide +kernel
theorem dX12_in_2 : decode cX12_in 2 = .ok (.if_icmp .lt 12, 3) := by decide +kernel
theorem dX12_in_5 : decode cX12_in 5 = .ok (.iload_n 0, 1) := by decide +kernel
theorem dX12_in_6 : decode cX12_in 6 = .ok (.iload_n 2, 1) := by decide +kernel
theorem dX12_in_7 : decode cX12_in 7 = .ok (.if_icmp .gt 7, 3) := by decide +kernel
theorem dX12_in_10 : decode cX12_in 10 = .ok (.iconst 1, 1) := by decide +kernel
theorem dX12_in_11 : decode cX12_in 11 = .ok (.goto 4, 3) := by decide +kernel
theorem dX12_in_14 : decode cX12_in 14 = .ok (.iconst 0, 1) := by decide +kernel
theorem dX12_in_15 : decode cX12_in 15 = .ok (.ireturn, 1) := by decide +kernel
theorem dX12_less_0 : decode cX12_less 0 = .ok (.iload_n 0, 1) := by decide +kernel
theorem dX12_less_1 : decode cX12_less 1 = .ok (.iload_n 1, 1) := by decide +kernel
theorem dX12_less_2 : decode cX12_less 2 = .ok (.if_icmp .ge 7, 3) := by decide +kernel
theorem dX12_less_5 : decode cX12_less 5 = .ok (.iload_n 0, 1) := by decide +kernel
theorem dX12_less_6 : decode cX12_less 6 = .ok (.goto 4, 3) := by decide +kernel
theorem dX12_less_9 : decode cX12_less 9 = .ok (.iload_n 1, 1) := by decide +kernel
theorem dX12_less_10 : decode cX12_less 10 = .ok (.ireturn, 1) := by decide +kernel
theorem dX12_more_0 : decode cX12_more 0 = .ok (.iload_n 0, 1) := by decide +kernel
theorem dX12_more_1 : decode cX12_more 1 = .ok (.iload_n 1, 1) := by decide +kernel
theorem dX12_more_2 : decode cX12_more 2 = .ok (.if_icmp .le 7, 3) := by decide +kernel
theorem dX12_more_5 : decode cX12_more 5 = .ok (.iload_n 0, 1) := by decide +kernel
theorem dX12_more_6 : decode cX12_more 6 = .ok (.goto 4, 3) := by decide +kernel
theorem dX12_more_9 : decode cX12_more 9 = .ok (.iload_n 1, 1) := by decide +kernel
theorem dX12_more_10 : decode cX12_more 10 = .ok (.ireturn, 1) := by decide +kernel
theorem dX12_has_0 : decode cX12_has 0 = .ok (.iload_n 0, 1) := by decide +kernel
theorem dX12_has_1 : decode cX12_has 1 = .ok (.iload_n 1, 1) := by decide +kernel
theorem dX12_has_2 : decode cX12_has 2 = .ok (.ishr, 1) := by decide +kernel
theorem dX12_has_3 : decode cX12_has 3 = .ok (.iconst 1, 1) := by decide +kernel
theorem dX12_has_4 : decode cX12_has 4 = .ok (.iand, 1) := by decide +kernel
theorem dX12_has_5 : decode cX12_has 5 = .ok (.iconst 1, 1) := by decide +kernel
theorem dX12_has_6 : decode cX12_has 6 = .ok (.if_icmp .ne 7, 3) := by decide +kernel
theorem dX12_has_9 : decode cX12_has 9 = .ok (.iconst 1, 1) := by decide +kernel
theorem dX12_has_10 : decode cX12_has 10 = .ok (.goto 4, 3) := by decide +kernel
theorem dX12_has_13 : decode cX12_has 13 = .ok (.iconst 0, 1) := by decide +kernel
theorem dX12_has_14 : decode cX12_has 14 = .ok (.ireturn, 1) := by decide +kernel
theorem dX12_feed_0 : decode cX12_feed 0 = .ok (.aload_n 0, 1) := by decide +kernel
theorem dX12_feed_1 : decode cX12_feed 1 = .ok (.iconst 0, 1) := by decide +kernel
theorem dX12_feed_2 : decode cX12_feed 2 = .ok (.putfield 98, 3) := by decide +kernel
theorem dX12_feed_5 : decode cX12_feed 5 = .ok (.aload_n 0, 1) := by decide +kernel
theorem dX12_feed_6 : decode cX12_feed 6 = .ok (.getfield 101, 3) := by decide +kernel
theorem dX12_feed_9 : decode cX12_feed 9 = .ok (.bipush 20, 2) := by decide +kernel
theorem dX12_feed_11 : decode cX12_feed 11 = .ok (.iadd, 1) := by decide +kernel
theorem dX12_feed_12 : decode cX12_feed 12 = .ok (.sipush 600, 3) := by decide +kernel
theorem dX12_feed_15 : decode cX12_feed 15 = .ok (.if_icmp .le 5, 3) := by decide +kernel
theorem dX12_feed_18 : decode cX12_feed 18 = .ok (.iconst (-1), 1) := by decide +kernel
theorem dX12_feed_19 : decode cX12_feed 19 = .ok (.ireturn, 1) := by decide +kernel
theorem dX12_feed_20 : decode cX12_feed 20 = .ok (.iconst 0, 1) := by decide +kernel
theorem dX12_feed_21 : decode cX12_feed 21 = .ok (.istore 6, 2) := by decide +kernel
theorem dX12_feed_23 : decode cX12_feed 23 = .ok (.iload 6, 2) := by decide +kernel
theorem dX12_feed_25 : decode cX12_feed 25 = .ok (.bipush 20, 2) := by decide +kernel
theorem dX12_feed_27 : decode cX12_feed 27 = .ok (.if_icmp .ge 93, 3) := by decide +kernel
theorem dX12_feed_30 : decode cX12_feed 30 = .ok (.iload 6, 2) := by decide +kernel
theorem dX12_feed_32 : decode cX12_feed 32 = .ok (.iconst 4, 1) := by decide +kernel
theorem dX12_feed_33 : decode cX12_feed 33 = .ok (.if_icmp .ge 7, 3) := by decide +kernel
theorem dX12_feed_36 : decode cX12_feed 36 = .ok (.iload_n 1, 1) := by decide +kernel
theorem dX12_feed_37 : decode cX12_feed 37 = .ok (.goto 39, 3) := by decide +kernel
theorem dX12_feed_40 : decode cX12_feed 40 = .ok (.iload 6, 2) := by decide +kernel
theorem dX12_feed_42 : decode cX12_feed 42 = .ok (.bipush 8, 2) := by decide +kernel
theorem dX12_feed_44 : decode cX12_feed 44 = .ok (.if_icmp .ge 7, 3) := by decide +kernel
theorem dX12_feed_47 : decode cX12_feed 47 = .ok (.iload_n 2, 1) := by decide +kernel
theorem dX12_feed_48 : decode cX12_feed 48 = .ok (.goto 28, 3) := by decide +kernel
theorem dX12_feed_51 : decode cX12_feed 51 = .ok (.iload 6, 2) := by decide +kernel
theorem dX12_feed_53 : decode cX12_feed 53 = .ok (.bipush 12, 2) := by decide +kernel
theorem dX12_feed_55 : decode cX12_feed 55 = .ok (.if_icmp .ge 7, 3) := by decide +kernel
theorem dX12_feed_58 : decode cX12_feed 58 = .ok (.iload_n 3, 1) := by decide +kernel
theorem dX12_feed_59 : decode cX12_feed 59 = .ok (.goto 17, 3) := by decide +kernel
theorem dX12_feed_62 : decode cX12_feed 62 = .ok (.iload 6, 2) := by decide +kernel
theorem dX12_feed_64 : decode cX12_feed 64 = .ok (.bipush 16, 2) := by decide +kernel
theorem dX12_feed_66 : decode cX12_feed 66 = .ok (.if_icmp .ge 8, 3) := by decide +kernel
theorem dX12_feed_69 : decode cX12_feed 69 = .ok (.iload 4, 2) := by decide +kernel
theorem dX12_feed_71 : decode cX12_feed 71 = .ok (.goto 5, 3) := by decide +kernel
theorem dX12_feed_74 : decode cX12_feed 74 = .ok (.iload 5, 2) := by decide +kernel
theorem dX12_feed_76 : decode cX12_feed 76 = .ok (.istore 7, 2) := by decide +kernel
theorem dX12_feed_78 : decode cX12_feed 78 = .ok (.aload_n 0, 1) := by decide +kernel
theorem dX12_feed_79 : decode cX12_feed 79 = .ok (.getfield 13, 3) := by decide +kernel
theorem dX12_feed_82 : decode cX12_feed 82 = .ok (.aload_n 0, 1) := by decide +kernel
theorem dX12_feed_83 : decode cX12_feed 83 = .ok (.getfield 101, 3) := by decide +kernel
theorem dX12_feed_86 : decode cX12_feed 86 = .ok (.iload 7, 2) := by decide +kernel
theorem dX12_feed_88 : decode cX12_feed 88 = .ok (.bipush 24, 2) := by decide +kernel
theorem dX12_feed_90 : decode cX12_feed 90 = .ok (.bipush 8, 2) := by decide +kernel
theorem dX12_feed_92 : decode cX12_feed 92 = .ok (.iload 6, 2) := by decide +kernel
theorem dX12_feed_94 : decode cX12_feed 94 = .ok (.iconst 4, 1) := by decide +kernel
theorem dX12_feed_95 : decode cX12_feed 95 = .ok (.irem, 1) := by decide +kernel
theorem dX12_feed_96 : decode cX12_feed 96 = .ok (.imul, 1) := by decide +kernel
theorem dX12_feed_97 : decode cX12_feed 97 = .ok (.isub, 1) := by decide +kernel
theorem dX12_feed_98 : decode cX12_feed 98 = .ok (.ishr, 1) := by decide +kernel
theorem dX12_feed_99 : decode cX12_feed 99 = .ok (.sipush 255, 3) := by decide +kernel
theorem dX12_feed_102 : decode cX12_feed 102 = .ok (.iand, 1) := by decide +kernel
theorem dX12_feed_103 : decode cX12_feed 103 = .ok (.iastore, 1) := by decide +kernel
theorem dX12_feed_104 : decode cX12_feed 104 = .ok (.aload_n 0, 1) := by decide +kernel
theorem dX12_feed_105 : decode cX12_feed 105 = .ok (.dup, 1) := by decide +kernel
theorem dX12_feed_106 : decode cX12_feed 106 = .ok (.getfield 101, 3) := by decide +kernel
theorem dX12_feed_109 : decode cX12_feed 109 = .ok (.iconst 1, 1) := by decide +kernel
theorem dX12_feed_110 : decode cX12_feed 110 = .ok (.iadd, 1) := by decide +kernel
theorem dX12_feed_111 : decode cX12_feed 111 = .ok (.putfield 101, 3) := by decide +kernel
theorem dX12_feed_114 : decode cX12_feed 114 = .ok (.iinc 6 1, 3) := by decide +kernel
theorem dX12_feed_117 : decode cX12_feed 117 = .ok (.goto (-94), 3) := by decide +kernel
theorem dX12_feed_120 : decode cX12_feed 120 = .ok (.aload_n 0, 1) := by decide +kernel
theorem dX12_feed_121 : decode cX12_feed 121 = .ok (.getfield 101, 3) := by decide +kernel
theorem dX12_feed_124 : decode cX12_feed 124 = .ok (.ireturn, 1) := by decide +kernel
theorem dX12_byteAt_0 : decode cX12_byteAt 0 = .ok (.iload_n 1, 1) := by decide +kernel
theorem dX12_byteAt_1 : decode cX12_byteAt 1 = .ok (.aload_n 0, 1) := by decide +kernel
theorem dX12_byteAt_2 : decode cX12_byteAt 2 = .ok (.getfield 104, 3) := by decide +kernel
theorem dX12_byteAt_5 : decode cX12_byteAt 5 = .ok (.if_icmp .lt 7, 3) := by decide +kernel
theorem dX12_byteAt_8 : decode cX12_byteAt 8 = .ok (.iconst (-1), 1) := by decide +kernel
theorem dX12_byteAt_9 : decode cX12_byteAt 9 = .ok (.goto 9, 3) := by decide +kernel
theorem dX12_byteAt_12 : decode cX12_byteAt 12 = .ok (.aload_n 0, 1) := by decide +kernel
theorem dX12_byteAt_13 : decode cX12_byteAt 13 = .ok (.getfield 13, 3) := by decide +kernel
theorem dX12_byteAt_16 : decode cX12_byteAt 16 = .ok (.iload_n 1, 1) := by decide +kernel
theorem dX12_byteAt_17 : decode cX12_byteAt 17 = .ok (.iaload, 1) := by decide +kernel
theorem dX12_byteAt_18 : decode cX12_byteAt 18 = .ok (.ireturn, 1) := by decide +kernel
theorem dX12_blanks_0 : decode cX12_blanks 0 = .ok (.aload_n 0, 1) := by decide +kernel
theorem dX12_blanks_1 : decode cX12_blanks 1 = .ok (.aload_n 0, 1) := by decide +kernel
theorem dX12_blanks_2 : decode cX12_blanks 2 = .ok (.getfield 107, 3) := by decide +kernel
theorem dX12_blanks_5 : decode cX12_blanks 5 = .ok (.invokevirtual 110, 3) := by decide +kernel
theorem dX12_blanks_8 : decode cX12_blanks 8 = .ok (.bipush 32, 2) := by decide +kernel
theorem dX12_blanks_10 : decode cX12_blanks 10 = .ok (.if_icmp .ne 16, 3) := by decide +kernel
theorem dX12_blanks_13 : decode cX12_blanks 13 = .ok (.aload_n 0, 1) := by decide +kernel
theorem dX12_blanks_14 : decode cX12_blanks 14 = .ok (.dup, 1) := by decide +kernel
theorem dX12_blanks_15 : decode cX12_blanks 15 = .ok (.getfield 107, 3) := by decide +kernel
theorem dX12_blanks_18 : decode cX12_blanks 18 = .ok (.iconst 1, 1) := by decide +kernel
theorem dX12_blanks_19 : decode cX12_blanks 19 = .ok (.iadd, 1) := by decide +kernel
theorem dX12_blanks_20 : decode cX12_blanks 20 = .ok (.putfield 107, 3) := by decide +kernel
theorem dX12_blanks_23 : decode cX12_blanks 23 = .ok (.goto (-23), 3) := by decide +kernel
theorem dX12_blanks_26 : decode cX12_blanks 26 = .ok (.return_, 1) := by decide +kernel
theorem dX12_wrong_0 : decode cX12_wrong 0 = .ok (.aload_n 0, 1) := by decide +kernel
theorem dX12_wrong_1 : decode cX12_wrong 1 = .ok (.getfield 114, 3) := by decide +kernel
theorem dX12_wrong_4 : decode cX12_wrong 4 = .ok (.ifCond .ne 13, 3) := by decide +kernel
theorem dX12_wrong_7 : decode cX12_wrong 7 = .ok (.aload_n 0, 1) := by decide +kernel
theorem dX12_wrong_8 : decode cX12_wrong 8 = .ok (.iload_n 1, 1) := by decide +kernel
theorem dX12_wrong_9 : decode cX12_wrong 9 = .ok (.putfield 114, 3) := by decide +kernel
theorem dX12_wrong_12 : decode cX12_wrong 12 = .ok (.aload_n 0, 1) := by decide +kernel
theorem dX12_wrong_13 : decode cX12_wrong 13 = .ok (.iload_n 2, 1) := by decide +kernel
theorem dX12_wrong_14 : decode cX12_wrong 14 = .ok (.putfield 117, 3) := by decide +kernel
theorem dX12_wrong_17 : decode cX12_wrong 17 = .ok (.return_, 1) := by decide +kernel
theorem dX12_isDigit_0 : decode cX12_isDigit 0 = .ok (.iload_n 0, 1) := by decide +kernel
theorem dX12_isDigit_1 : decode cX12_isDigit 1 = .ok (.bipush 48, 2) := by decide +kernel
theorem dX12_isDigit_3 : decode cX12_isDigit 3 = .ok (.if_icmp .lt 13, 3) := by decide +kernel
theorem dX12_isDigit_6 : decode cX12_isDigit 6 = .ok (.iload_n 0, 1) := by decide +kernel
theorem dX12_isDigit_7 : decode cX12_isDigit 7 = .ok (.bipush 57, 2) := by decide +kernel
theorem dX12_isDigit_9 : decode cX12_isDigit 9 = .ok (.if_icmp .gt 7, 3) := by decide +kernel
theorem dX12_isDigit_12 : decode cX12_isDigit 12 = .ok (.iconst 1, 1) := by decide +kernel
theorem dX12_isDigit_13 : decode cX12_isDigit 13 = .ok (.goto 4, 3) := by decide +kernel
theorem dX12_isDigit_16 : decode cX12_isDigit 16 = .ok (.iconst 0, 1) := by decide +kernel
theorem dX12_isDigit_17 : decode cX12_isDigit 17 = .ok (.ireturn, 1) := by decide +kernel
theorem dX12_isSmall_0 : decode cX12_isSmall 0 = .ok (.iload_n 0, 1) := by decide +kernel
theorem dX12_isSmall_1 : decode cX12_isSmall 1 = .ok (.bipush 97, 2) := by decide +kernel
theorem dX12_isSmall_3 : decode cX12_isSmall 3 = .ok (.if_icmp .lt 13, 3) := by decide +kernel
theorem dX12_isSmall_6 : decode cX12_isSmall 6 = .ok (.iload_n 0, 1) := by decide +kernel
theorem dX12_isSmall_7 : decode cX12_isSmall 7 = .ok (.bipush 122, 2) := by decide +kernel
theorem dX12_isSmall_9 : decode cX12_isSmall 9 = .ok (.if_icmp .gt 7, 3) := by decide +kernel
theorem dX12_isSmall_12 : decode cX12_isSmall 12 = .ok (.iconst 1, 1) := by decide +kernel
theorem dX12_isSmall_13 : decode cX12_isSmall 13 = .ok (.goto 4, 3) := by decide +kernel
theorem dX12_isSmall_16 : decode cX12_isSmall 16 = .ok (.iconst 0, 1) := by decide +kernel
theorem dX12_isSmall_17 : decode cX12_isSmall 17 = .ok (.ireturn, 1) := by decide +kernel
theorem dX12_number_0 : decode cX12_number 0 = .ok (.aload_n 0, 1) := by decide +kernel
theorem dX12_number_1 : decode cX12_number 1 = .ok (.getfield 114, 3) := by decide +kernel
theorem dX12_number_4 : decode cX12_number 4 = .ok (.ifCond .eq 5, 3) := by decide +kernel
theorem dX12_number_7 : decode cX12_number 7 = .ok (.iconst 0, 1) := by decide +kernel
theorem dX12_number_8 : decode cX12_number 8 = .ok (.ireturn, 1) := by decide +kernel
theorem dX12_number_9 : decode cX12_number 9 = .ok (.aload_n 0, 1) := by decide +kernel
theorem dX12_number_10 : decode cX12_number 10 = .ok (.invokevirtual 120, 3) := by decide +kernel
theorem dX12_number_13 : decode cX12_number 13 = .ok (.aload_n 0, 1) := by decide +kernel
theorem dX12_number_14 : decode cX12_number 14 = .ok (.getfield 107, 3) := by decide +kernel
theorem dX12_number_17 : decode cX12_number 17 = .ok (.istore_n 3, 1) := by decide +kernel
theorem dX12_number_18 : decode cX12_number 18 = .ok (.iconst 0, 1) := by decide +kernel
theorem dX12_number_19 : decode cX12_number 19 = .ok (.istore 4, 2) := by decide +kernel
theorem dX12_number_21 : decode cX12_number 21 = .ok (.aload_n 0, 1) := by decide +kernel
theorem dX12_number_22 : decode cX12_number 22 = .ok (.aload_n 0, 1) := by decide +kernel
theorem dX12_number_23 : decode cX12_number 23 = .ok (.getfield 107, 3) := by decide +kernel
theorem dX12_number_26 : decode cX12_number 26 = .ok (.invokevirtual 110, 3) := by decide +kernel
theorem dX12_number_29 : decode cX12_number 29 = .ok (.invokestatic 123, 3) := by decide +kernel
theorem dX12_number_32 : decode cX12_number 32 = .ok (.ifCond .ne 12, 3) := by decide +kernel
theorem dX12_number_35 : decode cX12_number 35 = .ok (.aload_n 0, 1) := by decide +kernel
theorem dX12_number_36 : decode cX12_number 36 = .ok (.iconst 1, 1) := by decide +kernel
theorem dX12_number_37 : decode cX12_number 37 = .ok (.aload_n 0, 1) := by decide +kernel
theorem dX12_number_38 : decode cX12_number 38 = .ok (.getfield 107, 3) := by decide +kernel
theorem dX12_number_41 : decode cX12_number 41 = .ok (.invokevirtual 127, 3) := by decide +kernel
theorem dX12_number_44 : decode cX12_number 44 = .ok (.aload_n 0, 1) := by decide +kernel
theorem dX12_number_45 : decode cX12_number 45 = .ok (.aload_n 0, 1) := by decide +kernel
theorem dX12_number_46 : decode cX12_number 46 = .ok (.getfield 107, 3) := by decide +kernel
theorem dX12_number_49 : decode cX12_number 49 = .ok (.invokevirtual 110, 3) := by decide +kernel
theorem dX12_number_52 : decode cX12_number 52 = .ok (.invokestatic 123, 3) := by decide +kernel
theorem dX12_number_55 : decode cX12_number 55 = .ok (.ifCond .eq 51, 3) := by decide +kernel
theorem dX12_number_58 : decode cX12_number 58 = .ok (.bipush 10, 2) := by decide +kernel
theorem dX12_number_60 : decode cX12_number 60 = .ok (.iload 4, 2) := by decide +kernel
theorem dX12_number_62 : decode cX12_number 62 = .ok (.imul, 1) := by decide +kernel
theorem dX12_number_63 : decode cX12_number 63 = .ok (.aload_n 0, 1) := by decide +kernel
theorem dX12_number_64 : decode cX12_number 64 = .ok (.aload_n 0, 1) := by decide +kernel
theorem dX12_number_65 : decode cX12_number 65 = .ok (.getfield 107, 3) := by decide +kernel
theorem dX12_number_68 : decode cX12_number 68 = .ok (.invokevirtual 110, 3) := by decide +kernel
theorem dX12_number_71 : decode cX12_number 71 = .ok (.iadd, 1) := by decide +kernel
theorem dX12_number_72 : decode cX12_number 72 = .ok (.bipush 48, 2) := by decide +kernel
theorem dX12_number_74 : decode cX12_number 74 = .ok (.isub, 1) := by decide +kernel
theorem dX12_number_75 : decode cX12_number 75 = .ok (.istore 4, 2) := by decide +kernel
theorem dX12_number_77 : decode cX12_number 77 = .ok (.iload 4, 2) := by decide +kernel
theorem dX12_number_79 : decode cX12_number 79 = .ok (.ldc 131, 2) := by decide +kernel
theorem dX12_number_81 : decode cX12_number 81 = .ok (.if_icmp .le 8, 3) := by decide +kernel
theorem dX12_number_84 : decode cX12_number 84 = .ok (.ldc 131, 2) := by decide +kernel
theorem dX12_number_86 : decode cX12_number 86 = .ok (.goto 5, 3) := by decide +kernel
theorem dX12_number_89 : decode cX12_number 89 = .ok (.iload 4, 2) := by decide +kernel
theorem dX12_number_91 : decode cX12_number 91 = .ok (.istore 4, 2) := by decide +kernel
theorem dX12_number_93 : decode cX12_number 93 = .ok (.aload_n 0, 1) := by decide +kernel
theorem dX12_number_94 : decode cX12_number 94 = .ok (.dup, 1) := by decide +kernel
theorem dX12_number_95 : decode cX12_number 95 = .ok (.getfield 107, 3) := by decide +kernel
theorem dX12_number_98 : decode cX12_number 98 = .ok (.iconst 1, 1) := by decide +kernel
theorem dX12_number_99 : decode cX12_number 99 = .ok (.iadd, 1) := by decide +kernel
theorem dX12_number_100 : decode cX12_number 100 = .ok (.putfield 107, 3) := by decide +kernel
theorem dX12_number_103 : decode cX12_number 103 = .ok (.goto (-59), 3) := by decide +kernel
theorem dX12_number_106 : decode cX12_number 106 = .ok (.iload 4, 2) := by decide +kernel
theorem dX12_number_108 : decode cX12_number 108 = .ok (.iload_n 1, 1) := by decide +kernel
theorem dX12_number_109 : decode cX12_number 109 = .ok (.iload_n 2, 1) := by decide +kernel
theorem dX12_number_110 : decode cX12_number 110 = .ok (.invokestatic 132, 3) := by decide +kernel
theorem dX12_number_113 : decode cX12_number 113 = .ok (.ifCond .ne 9, 3) := by decide +kernel
theorem dX12_number_116 : decode cX12_number 116 = .ok (.aload_n 0, 1) := by decide +kernel
theorem dX12_number_117 : decode cX12_number 117 = .ok (.iconst 2, 1) := by decide +kernel
theorem dX12_number_118 : decode cX12_number 118 = .ok (.iload_n 3, 1) := by decide +kernel
theorem dX12_number_119 : decode cX12_number 119 = .ok (.invokevirtual 127, 3) := by decide +kernel
theorem dX12_number_122 : decode cX12_number 122 = .ok (.aload_n 0, 1) := by decide +kernel
theorem dX12_number_123 : decode cX12_number 123 = .ok (.getfield 114, 3) := by decide +kernel
theorem dX12_number_126 : decode cX12_number 126 = .ok (.ifCond .ne 8, 3) := by decide +kernel
theorem dX12_number_129 : decode cX12_number 129 = .ok (.iload 4, 2) := by decide +kernel
theorem dX12_number_131 : decode cX12_number 131 = .ok (.goto 4, 3) := by decide +kernel
theorem dX12_number_134 : decode cX12_number 134 = .ok (.iconst 0, 1) := by decide +kernel
theorem dX12_number_135 : decode cX12_number 135 = .ok (.ireturn, 1) := by decide +kernel
theorem dX12_wordHere_0 : decode cX12_wordHere 0 = .ok (.aload_n 0, 1) := by decide +kernel
theorem dX12_wordHere_1 : decode cX12_wordHere 1 = .ok (.invokevirtual 120, 3) := by decide +kernel
theorem dX12_wordHere_4 : decode cX12_wordHere 4 = .ok (.iconst 0, 1) := by decide +kernel
theorem dX12_wordHere_5 : decode cX12_wordHere 5 = .ok (.istore_n 1, 1) := by decide +kernel
theorem dX12_wordHere_6 : decode cX12_wordHere 6 = .ok (.iconst 0, 1) := by decide +kernel
theorem dX12_wordHere_7 : decode cX12_wordHere 7 = .ok (.istore_n 2, 1) := by decide +kernel
theorem dX12_wordHere_8 : decode cX12_wordHere 8 = .ok (.aload_n 0, 1) := by decide +kernel
theorem dX12_wordHere_9 : decode cX12_wordHere 9 = .ok (.aload_n 0, 1) := by decide +kernel
theorem dX12_wordHere_10 : decode cX12_wordHere 10 = .ok (.getfield 107, 3) := by decide +kernel
theorem dX12_wordHere_13 : decode cX12_wordHere 13 = .ok (.iload_n 2, 1) := by decide +kernel
theorem dX12_wordHere_14 : decode cX12_wordHere 14 = .ok (.iadd, 1) := by decide +kernel
theorem dX12_wordHere_15 : decode cX12_wordHere 15 = .ok (.invokevirtual 110, 3) := by decide +kernel
theorem dX12_wordHere_18 : decode cX12_wordHere 18 = .ok (.invokestatic 136, 3) := by decide +kernel
theorem dX12_wordHere_21 : decode cX12_wordHere 21 = .ok (.ifCond .eq 40, 3) := by decide +kernel
theorem dX12_wordHere_24 : decode cX12_wordHere 24 = .ok (.iload_n 2, 1) := by decide +kernel
theorem dX12_wordHere_25 : decode cX12_wordHere 25 = .ok (.bipush 6, 2) := by decide +kernel
theorem dX12_wordHere_27 : decode cX12_wordHere 27 = .ok (.if_icmp .ge 26, 3) := by decide +kernel
theorem dX12_wordHere_30 : decode cX12_wordHere 30 = .ok (.bipush 27, 2) := by decide +kernel
theorem dX12_wordHere_32 : decode cX12_wordHere 32 = .ok (.iload_n 1, 1) := by decide +kernel
theorem dX12_wordHere_33 : decode cX12_wordHere 33 = .ok (.imul, 1) := by decide +kernel
theorem dX12_wordHere_34 : decode cX12_wordHere 34 = .ok (.aload_n 0, 1) := by decide +kernel
theorem dX12_wordHere_35 : decode cX12_wordHere 35 = .ok (.aload_n 0, 1) := by decide +kernel
theorem dX12_wordHere_36 : decode cX12_wordHere 36 = .ok (.getfield 107, 3) := by decide +kernel
theorem dX12_wordHere_39 : decode cX12_wordHere 39 = .ok (.iload_n 2, 1) := by decide +kernel
theorem dX12_wordHere_40 : decode cX12_wordHere 40 = .ok (.iadd, 1) := by decide +kernel
theorem dX12_wordHere_41 : decode cX12_wordHere 41 = .ok (.invokevirtual 110, 3) := by decide +kernel
theorem dX12_wordHere_44 : decode cX12_wordHere 44 = .ok (.iadd, 1) := by decide +kernel
theorem dX12_wordHere_45 : decode cX12_wordHere 45 = .ok (.bipush 97, 2) := by decide +kernel
theorem dX12_wordHere_47 : decode cX12_wordHere 47 = .ok (.isub, 1) := by decide +kernel
theorem dX12_wordHere_48 : decode cX12_wordHere 48 = .ok (.iconst 1, 1) := by decide +kernel
theorem dX12_wordHere_49 : decode cX12_wordHere 49 = .ok (.iadd, 1) := by decide +kernel
theorem dX12_wordHere_50 : decode cX12_wordHere 50 = .ok (.goto 4, 3) := by decide +kernel
theorem dX12_wordHere_53 : decode cX12_wordHere 53 = .ok (.iload_n 1, 1) := by decide +kernel
theorem dX12_wordHere_54 : decode cX12_wordHere 54 = .ok (.istore_n 1, 1) := by decide +kernel
theorem dX12_wordHere_55 : decode cX12_wordHere 55 = .ok (.iinc 2 1, 3) := by decide +kernel
theorem dX12_wordHere_58 : decode cX12_wordHere 58 = .ok (.goto (-50), 3) := by decide +kernel
theorem dX12_wordHere_61 : decode cX12_wordHere 61 = .ok (.iload_n 2, 1) := by decide +kernel
theorem dX12_wordHere_62 : decode cX12_wordHere 62 = .ok (.bipush 6, 2) := by decide +kernel
theorem dX12_wordHere_64 : decode cX12_wordHere 64 = .ok (.if_icmp .le 7, 3) := by decide +kernel
theorem dX12_wordHere_67 : decode cX12_wordHere 67 = .ok (.iconst (-1), 1) := by decide +kernel
theorem dX12_wordHere_68 : decode cX12_wordHere 68 = .ok (.goto 4, 3) := by decide +kernel
theorem dX12_wordHere_71 : decode cX12_wordHere 71 = .ok (.iload_n 1, 1) := by decide +kernel
theorem dX12_wordHere_72 : decode cX12_wordHere 72 = .ok (.ireturn, 1) := by decide +kernel
theorem dX12_six_0 : decode cX12_six 0 = .ok (.bipush 27, 2) := by decide +kernel
theorem dX12_six_2 : decode cX12_six 2 = .ok (.bipush 27, 2) := by decide +kernel
theorem dX12_six_4 : decode cX12_six 4 = .ok (.iload_n 0, 1) := by decide +kernel
theorem dX12_six_5 : decode cX12_six 5 = .ok (.imul, 1) := by decide +kernel
theorem dX12_six_6 : decode cX12_six 6 = .ok (.iload_n 1, 1) := by decide +kernel
theorem dX12_six_7 : decode cX12_six 7 = .ok (.iadd, 1) := by decide +kernel
theorem dX12_six_8 : decode cX12_six 8 = .ok (.imul, 1) := by decide +kernel
theorem dX12_six_9 : decode cX12_six 9 = .ok (.iload_n 2, 1) := by decide +kernel
theorem dX12_six_10 : decode cX12_six 10 = .ok (.iadd, 1) := by decide +kernel
theorem dX12_six_11 : decode cX12_six 11 = .ok (.istore 6, 2) := by decide +kernel
theorem dX12_six_13 : decode cX12_six 13 = .ok (.iload_n 3, 1) := by decide +kernel
theorem dX12_six_14 : decode cX12_six 14 = .ok (.ifCond .ne 8, 3) := by decide +kernel
theorem dX12_six_17 : decode cX12_six 17 = .ok (.iload 6, 2) := by decide +kernel
theorem dX12_six_19 : decode cX12_six 19 = .ok (.goto 10, 3) := by decide +kernel
theorem dX12_six_22 : decode cX12_six 22 = .ok (.bipush 27, 2) := by decide +kernel
theorem dX12_six_24 : decode cX12_six 24 = .ok (.iload 6, 2) := by decide +kernel
theorem dX12_six_26 : decode cX12_six 26 = .ok (.imul, 1) := by decide +kernel
theorem dX12_six_27 : decode cX12_six 27 = .ok (.iload_n 3, 1) := by decide +kernel
theorem dX12_six_28 : decode cX12_six 28 = .ok (.iadd, 1) := by decide +kernel
theorem dX12_six_29 : decode cX12_six 29 = .ok (.istore 6, 2) := by decide +kernel
theorem dX12_six_31 : decode cX12_six 31 = .ok (.iload 4, 2) := by decide +kernel
theorem dX12_six_33 : decode cX12_six 33 = .ok (.ifCond .ne 8, 3) := by decide +kernel
theorem dX12_six_36 : decode cX12_six 36 = .ok (.iload 6, 2) := by decide +kernel
theorem dX12_six_38 : decode cX12_six 38 = .ok (.goto 11, 3) := by decide +kernel
theorem dX12_six_41 : decode cX12_six 41 = .ok (.bipush 27, 2) := by decide +kernel
theorem dX12_six_43 : decode cX12_six 43 = .ok (.iload 6, 2) := by decide +kernel
theorem dX12_six_45 : decode cX12_six 45 = .ok (.imul, 1) := by decide +kernel
theorem dX12_six_46 : decode cX12_six 46 = .ok (.iload 4, 2) := by decide +kernel
theorem dX12_six_48 : decode cX12_six 48 = .ok (.iadd, 1) := by decide +kernel
theorem dX12_six_49 : decode cX12_six 49 = .ok (.istore 6, 2) := by decide +kernel
theorem dX12_six_51 : decode cX12_six 51 = .ok (.iload 5, 2) := by decide +kernel
theorem dX12_six_53 : decode cX12_six 53 = .ok (.ifCond .ne 8, 3) := by decide +kernel
theorem dX12_six_56 : decode cX12_six 56 = .ok (.iload 6, 2) := by decide +kernel
theorem dX12_six_58 : decode cX12_six 58 = .ok (.goto 11, 3) := by decide +kernel
theorem dX12_six_61 : decode cX12_six 61 = .ok (.bipush 27, 2) := by decide +kernel
theorem dX12_six_63 : decode cX12_six 63 = .ok (.iload 6, 2) := by decide +kernel
theorem dX12_six_65 : decode cX12_six 65 = .ok (.imul, 1) := by decide +kernel
theorem dX12_six_66 : decode cX12_six 66 = .ok (.iload 5, 2) := by decide +kernel
theorem dX12_six_68 : decode cX12_six 68 = .ok (.iadd, 1) := by decide +kernel
theorem dX12_six_69 : decode cX12_six 69 = .ok (.ireturn, 1) := by decide +kernel
theorem dX12_isWord_0 : decode cX12_isWord 0 = .ok (.aload_n 0, 1) := by decide +kernel
theorem dX12_isWord_1 : decode cX12_isWord 1 = .ok (.getfield 114, 3) := by decide +kernel
theorem dX12_isWord_4 : decode cX12_isWord 4 = .ok (.ifCond .ne 26, 3) := by decide +kernel
theorem dX12_isWord_7 : decode cX12_isWord 7 = .ok (.aload_n 0, 1) := by decide +kernel
theorem dX12_isWord_8 : decode cX12_isWord 8 = .ok (.invokevirtual 139, 3) := by decide +kernel
theorem dX12_isWord_11 : decode cX12_isWord 11 = .ok (.iload_n 1, 1) := by decide +kernel
theorem dX12_isWord_12 : decode cX12_isWord 12 = .ok (.iload_n 2, 1) := by decide +kernel
theorem dX12_isWord_13 : decode cX12_isWord 13 = .ok (.iload_n 3, 1) := by decide +kernel
theorem dX12_isWord_14 : decode cX12_isWord 14 = .ok (.iload 4, 2) := by decide +kernel
theorem dX12_isWord_16 : decode cX12_isWord 16 = .ok (.iload 5, 2) := by decide +kernel
theorem dX12_isWord_18 : decode cX12_isWord 18 = .ok (.iload 6, 2) := by decide +kernel
theorem dX12_isWord_20 : decode cX12_isWord 20 = .ok (.invokestatic 143, 3) := by decide +kernel
theorem dX12_isWord_23 : decode cX12_isWord 23 = .ok (.if_icmp .ne 7, 3) := by decide +kernel
theorem dX12_isWord_26 : decode cX12_isWord 26 = .ok (.iconst 1, 1) := by decide +kernel
theorem dX12_isWord_27 : decode cX12_isWord 27 = .ok (.goto 4, 3) := by decide +kernel
theorem dX12_isWord_30 : decode cX12_isWord 30 = .ok (.iconst 0, 1) := by decide +kernel
theorem dX12_isWord_31 : decode cX12_isWord 31 = .ok (.ireturn, 1) := by decide +kernel
theorem dX12_skipWord_0 : decode cX12_skipWord 0 = .ok (.aload_n 0, 1) := by decide +kernel
theorem dX12_skipWord_1 : decode cX12_skipWord 1 = .ok (.aload_n 0, 1) := by decide +kernel
theorem dX12_skipWord_2 : decode cX12_skipWord 2 = .ok (.getfield 107, 3) := by decide +kernel
theorem dX12_skipWord_5 : decode cX12_skipWord 5 = .ok (.invokevirtual 110, 3) := by decide +kernel
theorem dX12_skipWord_8 : decode cX12_skipWord 8 = .ok (.invokestatic 136, 3) := by decide +kernel
theorem dX12_skipWord_11 : decode cX12_skipWord 11 = .ok (.ifCond .eq 16, 3) := by decide +kernel
theorem dX12_skipWord_14 : decode cX12_skipWord 14 = .ok (.aload_n 0, 1) := by decide +kernel
theorem dX12_skipWord_15 : decode cX12_skipWord 15 = .ok (.dup, 1) := by decide +kernel
theorem dX12_skipWord_16 : decode cX12_skipWord 16 = .ok (.getfield 107, 3) := by decide +kernel
theorem dX12_skipWord_19 : decode cX12_skipWord 19 = .ok (.iconst 1, 1) := by decide +kernel
theorem dX12_skipWord_20 : decode cX12_skipWord 20 = .ok (.iadd, 1) := by decide +kernel
theorem dX12_skipWord_21 : decode cX12_skipWord 21 = .ok (.putfield 107, 3) := by decide +kernel
theorem dX12_skipWord_24 : decode cX12_skipWord 24 = .ok (.goto (-24), 3) := by decide +kernel
theorem dX12_skipWord_27 : decode cX12_skipWord 27 = .ok (.return_, 1) := by decide +kernel
theorem dX12_takes_0 : decode cX12_takes 0 = .ok (.aload_n 0, 1) := by decide +kernel
theorem dX12_takes_1 : decode cX12_takes 1 = .ok (.iload_n 1, 1) := by decide +kernel
theorem dX12_takes_2 : decode cX12_takes 2 = .ok (.iload_n 2, 1) := by decide +kernel
theorem dX12_takes_3 : decode cX12_takes 3 = .ok (.iload_n 3, 1) := by decide +kernel
theorem dX12_takes_4 : decode cX12_takes 4 = .ok (.iload 4, 2) := by decide +kernel
theorem dX12_takes_6 : decode cX12_takes 6 = .ok (.iload 5, 2) := by decide +kernel
theorem dX12_takes_8 : decode cX12_takes 8 = .ok (.iload 6, 2) := by decide +kernel
theorem dX12_takes_10 : decode cX12_takes 10 = .ok (.invokevirtual 147, 3) := by decide +kernel
theorem dX12_takes_13 : decode cX12_takes 13 = .ok (.istore 7, 2) := by decide +kernel
theorem dX12_takes_15 : decode cX12_takes 15 = .ok (.iload 7, 2) := by decide +kernel
theorem dX12_takes_17 : decode cX12_takes 17 = .ok (.ifCond .eq 7, 3) := by decide +kernel
theorem dX12_takes_20 : decode cX12_takes 20 = .ok (.aload_n 0, 1) := by decide +kernel
theorem dX12_takes_21 : decode cX12_takes 21 = .ok (.invokevirtual 151, 3) := by decide +kernel
theorem dX12_takes_24 : decode cX12_takes 24 = .ok (.iload 7, 2) := by decide +kernel
theorem dX12_takes_26 : decode cX12_takes 26 = .ok (.ireturn, 1) := by decide +kernel
theorem dX12_sign_0 : decode cX12_sign 0 = .ok (.aload_n 0, 1) := by decide +kernel
theorem dX12_sign_1 : decode cX12_sign 1 = .ok (.getfield 114, 3) := by decide +kernel
theorem dX12_sign_4 : decode cX12_sign 4 = .ok (.ifCond .eq 4, 3) := by decide +kernel
theorem dX12_sign_7 : decode cX12_sign 7 = .ok (.return_, 1) := by decide +kernel
theorem dX12_sign_8 : decode cX12_sign 8 = .ok (.aload_n 0, 1) := by decide +kernel
theorem dX12_sign_9 : decode cX12_sign 9 = .ok (.invokevirtual 120, 3) := by decide +kernel
theorem dX12_sign_12 : decode cX12_sign 12 = .ok (.aload_n 0, 1) := by decide +kernel
theorem dX12_sign_13 : decode cX12_sign 13 = .ok (.aload_n 0, 1) := by decide +kernel
theorem dX12_sign_14 : decode cX12_sign 14 = .ok (.getfield 107, 3) := by decide +kernel
theorem dX12_sign_17 : decode cX12_sign 17 = .ok (.invokevirtual 110, 3) := by decide +kernel
theorem dX12_sign_20 : decode cX12_sign 20 = .ok (.iload_n 1, 1) := by decide +kernel
theorem dX12_sign_21 : decode cX12_sign 21 = .ok (.if_icmp .ne 16, 3) := by decide +kernel
theorem dX12_sign_24 : decode cX12_sign 24 = .ok (.aload_n 0, 1) := by decide +kernel
theorem dX12_sign_25 : decode cX12_sign 25 = .ok (.dup, 1) := by decide +kernel
theorem dX12_sign_26 : decode cX12_sign 26 = .ok (.getfield 107, 3) := by decide +kernel
theorem dX12_sign_29 : decode cX12_sign 29 = .ok (.iconst 1, 1) := by decide +kernel
theorem dX12_sign_30 : decode cX12_sign 30 = .ok (.iadd, 1) := by decide +kernel
theorem dX12_sign_31 : decode cX12_sign 31 = .ok (.putfield 107, 3) := by decide +kernel
theorem dX12_sign_34 : decode cX12_sign 34 = .ok (.goto 12, 3) := by decide +kernel
theorem dX12_sign_37 : decode cX12_sign 37 = .ok (.aload_n 0, 1) := by decide +kernel
theorem dX12_sign_38 : decode cX12_sign 38 = .ok (.iconst 1, 1) := by decide +kernel
theorem dX12_sign_39 : decode cX12_sign 39 = .ok (.aload_n 0, 1) := by decide +kernel
theorem dX12_sign_40 : decode cX12_sign 40 = .ok (.getfield 107, 3) := by decide +kernel
theorem dX12_sign_43 : decode cX12_sign 43 = .ok (.invokevirtual 127, 3) := by decide +kernel
theorem dX12_sign_46 : decode cX12_sign 46 = .ok (.return_, 1) := by decide +kernel
theorem dX12_takesSign_0 : decode cX12_takesSign 0 = .ok (.aload_n 0, 1) := by decide +kernel
theorem dX12_takesSign_1 : decode cX12_takesSign 1 = .ok (.getfield 114, 3) := by decide +kernel
theorem dX12_takesSign_4 : decode cX12_takesSign 4 = .ok (.ifCond .eq 5, 3) := by decide +kernel
theorem dX12_takesSign_7 : decode cX12_takesSign 7 = .ok (.iconst 0, 1) := by decide +kernel
theorem dX12_takesSign_8 : decode cX12_takesSign 8 = .ok (.ireturn, 1) := by decide +kernel
theorem dX12_takesSign_9 : decode cX12_takesSign 9 = .ok (.aload_n 0, 1) := by decide +kernel
theorem dX12_takesSign_10 : decode cX12_takesSign 10 = .ok (.invokevirtual 120, 3) := by decide +kernel
theorem dX12_takesSign_13 : decode cX12_takesSign 13 = .ok (.aload_n 0, 1) := by decide +kernel
theorem dX12_takesSign_14 : decode cX12_takesSign 14 = .ok (.aload_n 0, 1) := by decide +kernel
theorem dX12_takesSign_15 : decode cX12_takesSign 15 = .ok (.getfield 107, 3) := by decide +kernel
theorem dX12_takesSign_18 : decode cX12_takesSign 18 = .ok (.invokevirtual 110, 3) := by decide +kernel
theorem dX12_takesSign_21 : decode cX12_takesSign 21 = .ok (.iload_n 1, 1) := by decide +kernel
theorem dX12_takesSign_22 : decode cX12_takesSign 22 = .ok (.if_icmp .ne 7, 3) := by decide +kernel
theorem dX12_takesSign_25 : decode cX12_takesSign 25 = .ok (.iconst 1, 1) := by decide +kernel
theorem dX12_takesSign_26 : decode cX12_takesSign 26 = .ok (.goto 4, 3) := by decide +kernel
theorem dX12_takesSign_29 : decode cX12_takesSign 29 = .ok (.iconst 0, 1) := by decide +kernel
theorem dX12_takesSign_30 : decode cX12_takesSign 30 = .ok (.istore_n 2, 1) := by decide +kernel
theorem dX12_takesSign_31 : decode cX12_takesSign 31 = .ok (.iload_n 2, 1) := by decide +kernel
theorem dX12_takesSign_32 : decode cX12_takesSign 32 = .ok (.ifCond .eq 13, 3) := by decide +kernel
theorem dX12_takesSign_35 : decode cX12_takesSign 35 = .ok (.aload_n 0, 1) := by decide +kernel
theorem dX12_takesSign_36 : decode cX12_takesSign 36 = .ok (.dup, 1) := by decide +kernel
theorem dX12_takesSign_37 : decode cX12_takesSign 37 = .ok (.getfield 107, 3) := by decide +kernel
theorem dX12_takesSign_40 : decode cX12_takesSign 40 = .ok (.iconst 1, 1) := by decide +kernel
theorem dX12_takesSign_41 : decode cX12_takesSign 41 = .ok (.iadd, 1) := by decide +kernel
theorem dX12_takesSign_42 : decode cX12_takesSign 42 = .ok (.putfield 107, 3) := by decide +kernel
theorem dX12_takesSign_45 : decode cX12_takesSign 45 = .ok (.iload_n 2, 1) := by decide +kernel
theorem dX12_takesSign_46 : decode cX12_takesSign 46 = .ok (.ireturn, 1) := by decide +kernel
theorem dX12_starts_0 : decode cX12_starts 0 = .ok (.aload_n 0, 1) := by decide +kernel
theorem dX12_starts_1 : decode cX12_starts 1 = .ok (.iconst 0, 1) := by decide +kernel
theorem dX12_starts_2 : decode cX12_starts 2 = .ok (.putfield 101, 3) := by decide +kernel
theorem dX12_starts_5 : decode cX12_starts 5 = .ok (.aload_n 0, 1) := by decide +kernel
theorem dX12_starts_6 : decode cX12_starts 6 = .ok (.iload_n 1, 1) := by decide +kernel
theorem dX12_starts_7 : decode cX12_starts 7 = .ok (.putfield 104, 3) := by decide +kernel
theorem dX12_starts_10 : decode cX12_starts 10 = .ok (.aload_n 0, 1) := by decide +kernel
theorem dX12_starts_11 : decode cX12_starts 11 = .ok (.iconst 0, 1) := by decide +kernel
theorem dX12_starts_12 : decode cX12_starts 12 = .ok (.putfield 107, 3) := by decide +kernel
theorem dX12_starts_15 : decode cX12_starts 15 = .ok (.aload_n 0, 1) := by decide +kernel
theorem dX12_starts_16 : decode cX12_starts 16 = .ok (.iconst 0, 1) := by decide +kernel
theorem dX12_starts_17 : decode cX12_starts 17 = .ok (.putfield 114, 3) := by decide +kernel
theorem dX12_starts_20 : decode cX12_starts 20 = .ok (.aload_n 0, 1) := by decide +kernel
theorem dX12_starts_21 : decode cX12_starts 21 = .ok (.iconst (-1), 1) := by decide +kernel
theorem dX12_starts_22 : decode cX12_starts 22 = .ok (.putfield 117, 3) := by decide +kernel
theorem dX12_starts_25 : decode cX12_starts 25 = .ok (.aload_n 0, 1) := by decide +kernel
theorem dX12_starts_26 : decode cX12_starts 26 = .ok (.iconst 0, 1) := by decide +kernel
theorem dX12_starts_27 : decode cX12_starts 27 = .ok (.putfield 154, 3) := by decide +kernel
theorem dX12_starts_30 : decode cX12_starts 30 = .ok (.aload_n 0, 1) := by decide +kernel
theorem dX12_starts_31 : decode cX12_starts 31 = .ok (.iconst 0, 1) := by decide +kernel
theorem dX12_starts_32 : decode cX12_starts 32 = .ok (.putfield 157, 3) := by decide +kernel
theorem dX12_starts_35 : decode cX12_starts 35 = .ok (.aload_n 0, 1) := by decide +kernel
theorem dX12_starts_36 : decode cX12_starts 36 = .ok (.invokevirtual 120, 3) := by decide +kernel
theorem dX12_starts_39 : decode cX12_starts 39 = .ok (.return_, 1) := by decide +kernel
theorem dX12_ends_0 : decode cX12_ends 0 = .ok (.aload_n 0, 1) := by decide +kernel
theorem dX12_ends_1 : decode cX12_ends 1 = .ok (.aload_n 0, 1) := by decide +kernel
theorem dX12_ends_2 : decode cX12_ends 2 = .ok (.getfield 117, 3) := by decide +kernel
theorem dX12_ends_5 : decode cX12_ends 5 = .ok (.putfield 9, 3) := by decide +kernel
theorem dX12_ends_8 : decode cX12_ends 8 = .ok (.aload_n 0, 1) := by decide +kernel
theorem dX12_ends_9 : decode cX12_ends 9 = .ok (.getfield 114, 3) := by decide +kernel
theorem dX12_ends_12 : decode cX12_ends 12 = .ok (.bipush 10, 2) := by decide +kernel
theorem dX12_ends_14 : decode cX12_ends 14 = .ok (.isub, 1) := by decide +kernel
theorem dX12_ends_15 : decode cX12_ends 15 = .ok (.ireturn, 1) := by decide +kernel
theorem dX12_kindHere_0 : decode cX12_kindHere 0 = .ok (.aload_n 0, 1) := by decide +kernel
theorem dX12_kindHere_1 : decode cX12_kindHere 1 = .ok (.bipush 16, 2) := by decide +kernel
theorem dX12_kindHere_3 : decode cX12_kindHere 3 = .ok (.iconst 5, 1) := by decide +kernel
theorem dX12_kindHere_4 : decode cX12_kindHere 4 = .ok (.bipush 18, 2) := by decide +kernel
theorem dX12_kindHere_6 : decode cX12_kindHere 6 = .ok (.bipush 19, 2) := by decide +kernel
theorem dX12_kindHere_8 : decode cX12_kindHere 8 = .ok (.bipush 15, 2) := by decide +kernel
theorem dX12_kindHere_10 : decode cX12_kindHere 10 = .ok (.bipush 14, 2) := by decide +kernel
theorem dX12_kindHere_12 : decode cX12_kindHere 12 = .ok (.invokevirtual 147, 3) := by decide +kernel
theorem dX12_kindHere_15 : decode cX12_kindHere 15 = .ok (.ifCond .eq 5, 3) := by decide +kernel
theorem dX12_kindHere_18 : decode cX12_kindHere 18 = .ok (.iconst 0, 1) := by decide +kernel
theorem dX12_kindHere_19 : decode cX12_kindHere 19 = .ok (.ireturn, 1) := by decide +kernel
theorem dX12_kindHere_20 : decode cX12_kindHere 20 = .ok (.aload_n 0, 1) := by decide +kernel
theorem dX12_kindHere_21 : decode cX12_kindHere 21 = .ok (.bipush 6, 2) := by decide +kernel
theorem dX12_kindHere_23 : decode cX12_kindHere 23 = .ok (.bipush 18, 2) := by decide +kernel
theorem dX12_kindHere_25 : decode cX12_kindHere 25 = .ok (.bipush 9, 2) := by decide +kernel
theorem dX12_kindHere_27 : decode cX12_kindHere 27 = .ok (.iconst 5, 1) := by decide +kernel
theorem dX12_kindHere_28 : decode cX12_kindHere 28 = .ok (.bipush 14, 2) := by decide +kernel
theorem dX12_kindHere_30 : decode cX12_kindHere 30 = .ok (.iconst 4, 1) := by decide +kernel
theorem dX12_kindHere_31 : decode cX12_kindHere 31 = .ok (.invokevirtual 147, 3) := by decide +kernel
theorem dX12_kindHere_34 : decode cX12_kindHere 34 = .ok (.ifCond .eq 5, 3) := by decide +kernel
theorem dX12_kindHere_37 : decode cX12_kindHere 37 = .ok (.iconst 1, 1) := by decide +kernel
theorem dX12_kindHere_38 : decode cX12_kindHere 38 = .ok (.ireturn, 1) := by decide +kernel
theorem dX12_kindHere_39 : decode cX12_kindHere 39 = .ok (.aload_n 0, 1) := by decide +kernel
theorem dX12_kindHere_40 : decode cX12_kindHere 40 = .ok (.bipush 13, 2) := by decide +kernel
theorem dX12_kindHere_42 : decode cX12_kindHere 42 = .ok (.bipush 15, 2) := by decide +kernel
theorem dX12_kindHere_44 : decode cX12_kindHere 44 = .ok (.bipush 19, 2) := by decide +kernel
theorem dX12_kindHere_46 : decode cX12_kindHere 46 = .ok (.bipush 20, 2) := by decide +kernel
theorem dX12_kindHere_48 : decode cX12_kindHere 48 = .ok (.iconst 0, 1) := by decide +kernel
theorem dX12_kindHere_49 : decode cX12_kindHere 49 = .ok (.iconst 0, 1) := by decide +kernel
theorem dX12_kindHere_50 : decode cX12_kindHere 50 = .ok (.invokevirtual 147, 3) := by decide +kernel
theorem dX12_kindHere_53 : decode cX12_kindHere 53 = .ok (.ifCond .eq 7, 3) := by decide +kernel
theorem dX12_kindHere_56 : decode cX12_kindHere 56 = .ok (.iconst 2, 1) := by decide +kernel
theorem dX12_kindHere_57 : decode cX12_kindHere 57 = .ok (.goto 4, 3) := by decide +kernel
theorem dX12_kindHere_60 : decode cX12_kindHere 60 = .ok (.iconst (-1), 1) := by decide +kernel
theorem dX12_kindHere_61 : decode cX12_kindHere 61 = .ok (.ireturn, 1) := by decide +kernel
theorem dX12_friends_0 : decode cX12_friends 0 = .ok (.aload_n 0, 1) := by decide +kernel
theorem dX12_friends_1 : decode cX12_friends 1 = .ok (.iconst 0, 1) := by decide +kernel
theorem dX12_friends_2 : decode cX12_friends 2 = .ok (.aload_n 0, 1) := by decide +kernel
theorem dX12_friends_3 : decode cX12_friends 3 = .ok (.getfield 20, 3) := by decide +kernel
theorem dX12_friends_6 : decode cX12_friends 6 = .ok (.iconst 0, 1) := by decide +kernel
theorem dX12_friends_7 : decode cX12_friends 7 = .ok (.iaload, 1) := by decide +kernel
theorem dX12_friends_8 : decode cX12_friends 8 = .ok (.iconst 1, 1) := by decide +kernel
theorem dX12_friends_9 : decode cX12_friends 9 = .ok (.isub, 1) := by decide +kernel
theorem dX12_friends_10 : decode cX12_friends 10 = .ok (.invokevirtual 160, 3) := by decide +kernel
theorem dX12_friends_13 : decode cX12_friends 13 = .ok (.istore_n 1, 1) := by decide +kernel
theorem dX12_friends_14 : decode cX12_friends 14 = .ok (.aload_n 0, 1) := by decide +kernel
theorem dX12_friends_15 : decode cX12_friends 15 = .ok (.invokevirtual 120, 3) := by decide +kernel
theorem dX12_friends_18 : decode cX12_friends 18 = .ok (.aload_n 0, 1) := by decide +kernel
theorem dX12_friends_19 : decode cX12_friends 19 = .ok (.getfield 107, 3) := by decide +kernel
theorem dX12_friends_22 : decode cX12_friends 22 = .ok (.istore_n 2, 1) := by decide +kernel
theorem dX12_friends_23 : decode cX12_friends 23 = .ok (.aload_n 0, 1) := by decide +kernel
theorem dX12_friends_24 : decode cX12_friends 24 = .ok (.iconst 0, 1) := by decide +kernel
theorem dX12_friends_25 : decode cX12_friends 25 = .ok (.aload_n 0, 1) := by decide +kernel
theorem dX12_friends_26 : decode cX12_friends 26 = .ok (.getfield 20, 3) := by decide +kernel
theorem dX12_friends_29 : decode cX12_friends 29 = .ok (.iconst 0, 1) := by decide +kernel
theorem dX12_friends_30 : decode cX12_friends 30 = .ok (.iaload, 1) := by decide +kernel
theorem dX12_friends_31 : decode cX12_friends 31 = .ok (.iconst 1, 1) := by decide +kernel
theorem dX12_friends_32 : decode cX12_friends 32 = .ok (.isub, 1) := by decide +kernel
theorem dX12_friends_33 : decode cX12_friends 33 = .ok (.invokevirtual 160, 3) := by decide +kernel
theorem dX12_friends_36 : decode cX12_friends 36 = .ok (.istore_n 3, 1) := by decide +kernel
theorem dX12_friends_37 : decode cX12_friends 37 = .ok (.aload_n 0, 1) := by decide +kernel
theorem dX12_friends_38 : decode cX12_friends 38 = .ok (.getfield 114, 3) := by decide +kernel
theorem dX12_friends_41 : decode cX12_friends 41 = .ok (.ifCond .ne 14, 3) := by decide +kernel
theorem dX12_friends_44 : decode cX12_friends 44 = .ok (.iload_n 1, 1) := by decide +kernel
theorem dX12_friends_45 : decode cX12_friends 45 = .ok (.iload_n 3, 1) := by decide +kernel
theorem dX12_friends_46 : decode cX12_friends 46 = .ok (.if_icmp .ne 9, 3) := by decide +kernel
theorem dX12_friends_49 : decode cX12_friends 49 = .ok (.aload_n 0, 1) := by decide +kernel
theorem dX12_friends_50 : decode cX12_friends 50 = .ok (.iconst 2, 1) := by decide +kernel
theorem dX12_friends_51 : decode cX12_friends 51 = .ok (.iload_n 2, 1) := by decide +kernel
theorem dX12_friends_52 : decode cX12_friends 52 = .ok (.invokevirtual 127, 3) := by decide +kernel
theorem dX12_friends_55 : decode cX12_friends 55 = .ok (.aload_n 0, 1) := by decide +kernel
theorem dX12_friends_56 : decode cX12_friends 56 = .ok (.getfield 114, 3) := by decide +kernel
theorem dX12_friends_59 : decode cX12_friends 59 = .ok (.ifCond .eq 4, 3) := by decide +kernel
theorem dX12_friends_62 : decode cX12_friends 62 = .ok (.return_, 1) := by decide +kernel
theorem dX12_friends_63 : decode cX12_friends 63 = .ok (.aload_n 0, 1) := by decide +kernel
theorem dX12_friends_64 : decode cX12_friends 64 = .ok (.getfield 34, 3) := by decide +kernel
theorem dX12_friends_67 : decode cX12_friends 67 = .ok (.iload_n 1, 1) := by decide +kernel
theorem dX12_friends_68 : decode cX12_friends 68 = .ok (.dup2, 1) := by decide +kernel
theorem dX12_friends_69 : decode cX12_friends 69 = .ok (.iaload, 1) := by decide +kernel
theorem dX12_friends_70 : decode cX12_friends 70 = .ok (.iconst 1, 1) := by decide +kernel
theorem dX12_friends_71 : decode cX12_friends 71 = .ok (.iload_n 3, 1) := by decide +kernel
theorem dX12_friends_72 : decode cX12_friends 72 = .ok (.ishl, 1) := by decide +kernel
theorem dX12_friends_73 : decode cX12_friends 73 = .ok (.ior, 1) := by decide +kernel
theorem dX12_friends_74 : decode cX12_friends 74 = .ok (.iastore, 1) := by decide +kernel
theorem dX12_friends_75 : decode cX12_friends 75 = .ok (.aload_n 0, 1) := by decide +kernel
theorem dX12_friends_76 : decode cX12_friends 76 = .ok (.getfield 34, 3) := by decide +kernel
theorem dX12_friends_79 : decode cX12_friends 79 = .ok (.iload_n 3, 1) := by decide +kernel
theorem dX12_friends_80 : decode cX12_friends 80 = .ok (.dup2, 1) := by decide +kernel
theorem dX12_friends_81 : decode cX12_friends 81 = .ok (.iaload, 1) := by decide +kernel
theorem dX12_friends_82 : decode cX12_friends 82 = .ok (.iconst 1, 1) := by decide +kernel
theorem dX12_friends_83 : decode cX12_friends 83 = .ok (.iload_n 1, 1) := by decide +kernel
theorem dX12_friends_84 : decode cX12_friends 84 = .ok (.ishl, 1) := by decide +kernel
theorem dX12_friends_85 : decode cX12_friends 85 = .ok (.ior, 1) := by decide +kernel
theorem dX12_friends_86 : decode cX12_friends 86 = .ok (.iastore, 1) := by decide +kernel
theorem dX12_friends_87 : decode cX12_friends 87 = .ok (.return_, 1) := by decide +kernel
theorem dX12_clause_0 : decode cX12_clause 0 = .ok (.aload_n 0, 1) := by decide +kernel
theorem dX12_clause_1 : decode cX12_clause 1 = .ok (.invokevirtual 164, 3) := by decide +kernel
theorem dX12_clause_4 : decode cX12_clause 4 = .ok (.istore_n 1, 1) := by decide +kernel
theorem dX12_clause_5 : decode cX12_clause 5 = .ok (.iload_n 1, 1) := by decide +kernel
theorem dX12_clause_6 : decode cX12_clause 6 = .ok (.iconst (-1), 1) := by decide +kernel
theorem dX12_clause_7 : decode cX12_clause 7 = .ok (.if_icmp .ne 15, 3) := by decide +kernel
theorem dX12_clause_10 : decode cX12_clause 10 = .ok (.aload_n 0, 1) := by decide +kernel
theorem dX12_clause_11 : decode cX12_clause 11 = .ok (.iconst 1, 1) := by decide +kernel
theorem dX12_clause_12 : decode cX12_clause 12 = .ok (.aload_n 0, 1) := by decide +kernel
theorem dX12_clause_13 : decode cX12_clause 13 = .ok (.getfield 107, 3) := by decide +kernel
theorem dX12_clause_16 : decode cX12_clause 16 = .ok (.invokevirtual 127, 3) := by decide +kernel
theorem dX12_clause_19 : decode cX12_clause 19 = .ok (.goto 36, 3) := by decide +kernel
theorem dX12_clause_22 : decode cX12_clause 22 = .ok (.aload_n 0, 1) := by decide +kernel
theorem dX12_clause_23 : decode cX12_clause 23 = .ok (.getfield 154, 3) := by decide +kernel
theorem dX12_clause_26 : decode cX12_clause 26 = .ok (.bipush 60, 2) := by decide +kernel
theorem dX12_clause_28 : decode cX12_clause 28 = .ok (.if_icmp .eq 18, 3) := by decide +kernel
theorem dX12_clause_31 : decode cX12_clause 31 = .ok (.iload_n 1, 1) := by decide +kernel
theorem dX12_clause_32 : decode cX12_clause 32 = .ok (.ifCond .ne 23, 3) := by decide +kernel
theorem dX12_clause_35 : decode cX12_clause 35 = .ok (.aload_n 0, 1) := by decide +kernel
theorem dX12_clause_36 : decode cX12_clause 36 = .ok (.getfield 20, 3) := by decide +kernel
theorem dX12_clause_39 : decode cX12_clause 39 = .ok (.iconst 0, 1) := by decide +kernel
theorem dX12_clause_40 : decode cX12_clause 40 = .ok (.iaload, 1) := by decide +kernel
theorem dX12_clause_41 : decode cX12_clause 41 = .ok (.bipush 8, 2) := by decide +kernel
theorem dX12_clause_43 : decode cX12_clause 43 = .ok (.if_icmp .ne 12, 3) := by decide +kernel
theorem dX12_clause_46 : decode cX12_clause 46 = .ok (.aload_n 0, 1) := by decide +kernel
theorem dX12_clause_47 : decode cX12_clause 47 = .ok (.iconst 3, 1) := by decide +kernel
theorem dX12_clause_48 : decode cX12_clause 48 = .ok (.aload_n 0, 1) := by decide +kernel
theorem dX12_clause_49 : decode cX12_clause 49 = .ok (.getfield 107, 3) := by decide +kernel
theorem dX12_clause_52 : decode cX12_clause 52 = .ok (.invokevirtual 127, 3) := by decide +kernel
theorem dX12_clause_55 : decode cX12_clause 55 = .ok (.aload_n 0, 1) := by decide +kernel
theorem dX12_clause_56 : decode cX12_clause 56 = .ok (.getfield 114, 3) := by decide +kernel
theorem dX12_clause_59 : decode cX12_clause 59 = .ok (.ifCond .eq 4, 3) := by decide +kernel
theorem dX12_clause_62 : decode cX12_clause 62 = .ok (.return_, 1) := by decide +kernel
theorem dX12_clause_63 : decode cX12_clause 63 = .ok (.aload_n 0, 1) := by decide +kernel
theorem dX12_clause_64 : decode cX12_clause 64 = .ok (.invokevirtual 151, 3) := by decide +kernel
theorem dX12_clause_67 : decode cX12_clause 67 = .ok (.aload_n 0, 1) := by decide +kernel
theorem dX12_clause_68 : decode cX12_clause 68 = .ok (.dup, 1) := by decide +kernel
theorem dX12_clause_69 : decode cX12_clause 69 = .ok (.getfield 154, 3) := by decide +kernel
theorem dX12_clause_72 : decode cX12_clause 72 = .ok (.iconst 1, 1) := by decide +kernel
theorem dX12_clause_73 : decode cX12_clause 73 = .ok (.iadd, 1) := by decide +kernel
theorem dX12_clause_74 : decode cX12_clause 74 = .ok (.putfield 154, 3) := by decide +kernel
theorem dX12_clause_77 : decode cX12_clause 77 = .ok (.iload_n 1, 1) := by decide +kernel
theorem dX12_clause_78 : decode cX12_clause 78 = .ok (.ifCond .ne 43, 3) := by decide +kernel
theorem dX12_clause_81 : decode cX12_clause 81 = .ok (.aload_n 0, 1) := by decide +kernel
theorem dX12_clause_82 : decode cX12_clause 82 = .ok (.getfield 28, 3) := by decide +kernel
theorem dX12_clause_85 : decode cX12_clause 85 = .ok (.aload_n 0, 1) := by decide +kernel
theorem dX12_clause_86 : decode cX12_clause 86 = .ok (.getfield 20, 3) := by decide +kernel
theorem dX12_clause_89 : decode cX12_clause 89 = .ok (.iconst 0, 1) := by decide +kernel
theorem dX12_clause_90 : decode cX12_clause 90 = .ok (.iaload, 1) := by decide +kernel
theorem dX12_clause_91 : decode cX12_clause 91 = .ok (.aaload, 1) := by decide +kernel
theorem dX12_clause_92 : decode cX12_clause 92 = .ok (.iconst 0, 1) := by decide +kernel
theorem dX12_clause_93 : decode cX12_clause 93 = .ok (.aload_n 0, 1) := by decide +kernel
theorem dX12_clause_94 : decode cX12_clause 94 = .ok (.iconst 0, 1) := by decide +kernel
theorem dX12_clause_95 : decode cX12_clause 95 = .ok (.bipush 9, 2) := by decide +kernel
theorem dX12_clause_97 : decode cX12_clause 97 = .ok (.invokevirtual 160, 3) := by decide +kernel
theorem dX12_clause_100 : decode cX12_clause 100 = .ok (.iastore, 1) := by decide +kernel
theorem dX12_clause_101 : decode cX12_clause 101 = .ok (.aload_n 0, 1) := by decide +kernel
theorem dX12_clause_102 : decode cX12_clause 102 = .ok (.getfield 28, 3) := by decide +kernel
theorem dX12_clause_105 : decode cX12_clause 105 = .ok (.aload_n 0, 1) := by decide +kernel
theorem dX12_clause_106 : decode cX12_clause 106 = .ok (.getfield 20, 3) := by decide +kernel
theorem dX12_clause_109 : decode cX12_clause 109 = .ok (.iconst 0, 1) := by decide +kernel
theorem dX12_clause_110 : decode cX12_clause 110 = .ok (.iaload, 1) := by decide +kernel
theorem dX12_clause_111 : decode cX12_clause 111 = .ok (.aaload, 1) := by decide +kernel
theorem dX12_clause_112 : decode cX12_clause 112 = .ok (.iconst 1, 1) := by decide +kernel
theorem dX12_clause_113 : decode cX12_clause 113 = .ok (.aload_n 0, 1) := by decide +kernel
theorem dX12_clause_114 : decode cX12_clause 114 = .ok (.iconst 0, 1) := by decide +kernel
theorem dX12_clause_115 : decode cX12_clause 115 = .ok (.bipush 60, 2) := by decide +kernel
theorem dX12_clause_117 : decode cX12_clause 117 = .ok (.invokevirtual 160, 3) := by decide +kernel
theorem dX12_clause_120 : decode cX12_clause 120 = .ok (.iastore, 1) := by decide +kernel
theorem dX12_clause_121 : decode cX12_clause 121 = .ok (.iload_n 1, 1) := by decide +kernel
theorem dX12_clause_122 : decode cX12_clause 122 = .ok (.iconst 1, 1) := by decide +kernel
theorem dX12_clause_123 : decode cX12_clause 123 = .ok (.if_icmp .ne 7, 3) := by decide +kernel
theorem dX12_clause_126 : decode cX12_clause 126 = .ok (.aload_n 0, 1) := by decide +kernel
theorem dX12_clause_127 : decode cX12_clause 127 = .ok (.invokevirtual 167, 3) := by decide +kernel
theorem dX12_clause_130 : decode cX12_clause 130 = .ok (.iload_n 1, 1) := by decide +kernel
theorem dX12_clause_131 : decode cX12_clause 131 = .ok (.iconst 2, 1) := by decide +kernel
theorem dX12_clause_132 : decode cX12_clause 132 = .ok (.if_icmp .ne 15, 3) := by decide +kernel
theorem dX12_clause_135 : decode cX12_clause 135 = .ok (.aload_n 0, 1) := by decide +kernel
theorem dX12_clause_136 : decode cX12_clause 136 = .ok (.getfield 20, 3) := by decide +kernel
theorem dX12_clause_139 : decode cX12_clause 139 = .ok (.iconst 1, 1) := by decide +kernel
theorem dX12_clause_140 : decode cX12_clause 140 = .ok (.aload_n 0, 1) := by decide +kernel
theorem dX12_clause_141 : decode cX12_clause 141 = .ok (.iconst 1, 1) := by decide +kernel
theorem dX12_clause_142 : decode cX12_clause 142 = .ok (.iconst 4, 1) := by decide +kernel
theorem dX12_clause_143 : decode cX12_clause 143 = .ok (.invokevirtual 160, 3) := by decide +kernel
theorem dX12_clause_146 : decode cX12_clause 146 = .ok (.iastore, 1) := by decide +kernel
theorem dX12_clause_147 : decode cX12_clause 147 = .ok (.aload_n 0, 1) := by decide +kernel
theorem dX12_clause_148 : decode cX12_clause 148 = .ok (.bipush 59, 2) := by decide +kernel
theorem dX12_clause_150 : decode cX12_clause 150 = .ok (.invokevirtual 170, 3) := by decide +kernel
theorem dX12_clause_153 : decode cX12_clause 153 = .ok (.iload_n 1, 1) := by decide +kernel
theorem dX12_clause_154 : decode cX12_clause 154 = .ok (.ifCond .ne 24, 3) := by decide +kernel
theorem dX12_clause_157 : decode cX12_clause 157 = .ok (.aload_n 0, 1) := by decide +kernel
theorem dX12_clause_158 : decode cX12_clause 158 = .ok (.getfield 20, 3) := by decide +kernel
theorem dX12_clause_161 : decode cX12_clause 161 = .ok (.iconst 0, 1) := by decide +kernel
theorem dX12_clause_162 : decode cX12_clause 162 = .ok (.dup2, 1) := by decide +kernel
theorem dX12_clause_163 : decode cX12_clause 163 = .ok (.iaload, 1) := by decide +kernel
theorem dX12_clause_164 : decode cX12_clause 164 = .ok (.aload_n 0, 1) := by decide +kernel
theorem dX12_clause_165 : decode cX12_clause 165 = .ok (.getfield 114, 3) := by decide +kernel
theorem dX12_clause_168 : decode cX12_clause 168 = .ok (.ifCond .ne 7, 3) := by decide +kernel
theorem dX12_clause_171 : decode cX12_clause 171 = .ok (.iconst 1, 1) := by decide +kernel
theorem dX12_clause_172 : decode cX12_clause 172 = .ok (.goto 4, 3) := by decide +kernel
theorem dX12_clause_175 : decode cX12_clause 175 = .ok (.iconst 0, 1) := by decide +kernel
theorem dX12_clause_176 : decode cX12_clause 176 = .ok (.iadd, 1) := by decide +kernel
theorem dX12_clause_177 : decode cX12_clause 177 = .ok (.iastore, 1) := by decide +kernel
theorem dX12_clause_178 : decode cX12_clause 178 = .ok (.return_, 1) := by decide +kernel
theorem dX12_peninsula_0 : decode cX12_peninsula 0 = .ok (.aload_n 0, 1) := by decide +kernel
theorem dX12_peninsula_1 : decode cX12_peninsula 1 = .ok (.iconst 0, 1) := by decide +kernel
theorem dX12_peninsula_2 : decode cX12_peninsula 2 = .ok (.putfield 98, 3) := by decide +kernel
theorem dX12_peninsula_5 : decode cX12_peninsula 5 = .ok (.aload_n 0, 1) := by decide +kernel
theorem dX12_peninsula_6 : decode cX12_peninsula 6 = .ok (.iload_n 1, 1) := by decide +kernel
theorem dX12_peninsula_7 : decode cX12_peninsula 7 = .ok (.iconst 0, 1) := by decide +kernel
theorem dX12_peninsula_8 : decode cX12_peninsula 8 = .ok (.aload_n 0, 1) := by decide +kernel
theorem dX12_peninsula_9 : decode cX12_peninsula 9 = .ok (.getfield 101, 3) := by decide +kernel
theorem dX12_peninsula_12 : decode cX12_peninsula 12 = .ok (.invokestatic 132, 3) := by decide +kernel
theorem dX12_peninsula_15 : decode cX12_peninsula 15 = .ok (.ifCond .ne 7, 3) := by decide +kernel
theorem dX12_peninsula_18 : decode cX12_peninsula 18 = .ok (.iconst 1, 1) := by decide +kernel
theorem dX12_peninsula_19 : decode cX12_peninsula 19 = .ok (.goto 4, 3) := by decide +kernel
theorem dX12_peninsula_22 : decode cX12_peninsula 22 = .ok (.iconst 0, 1) := by decide +kernel
theorem dX12_peninsula_23 : decode cX12_peninsula 23 = .ok (.iconst 1, 1) := by decide +kernel
theorem dX12_peninsula_24 : decode cX12_peninsula 24 = .ok (.iconst 1, 1) := by decide +kernel
theorem dX12_peninsula_25 : decode cX12_peninsula 25 = .ok (.invokevirtual 174, 3) := by decide +kernel
theorem dX12_peninsula_28 : decode cX12_peninsula 28 = .ok (.ifCond .eq 5, 3) := by decide +kernel
theorem dX12_peninsula_31 : decode cX12_peninsula 31 = .ok (.iconst 0, 1) := by decide +kernel
theorem dX12_peninsula_32 : decode cX12_peninsula 32 = .ok (.ireturn, 1) := by decide +kernel
theorem dX12_peninsula_33 : decode cX12_peninsula 33 = .ok (.aload_n 0, 1) := by decide +kernel
theorem dX12_peninsula_34 : decode cX12_peninsula 34 = .ok (.iload_n 1, 1) := by decide +kernel
theorem dX12_peninsula_35 : decode cX12_peninsula 35 = .ok (.invokevirtual 178, 3) := by decide +kernel
theorem dX12_peninsula_38 : decode cX12_peninsula 38 = .ok (.aload_n 0, 1) := by decide +kernel
theorem dX12_peninsula_39 : decode cX12_peninsula 39 = .ok (.invokevirtual 92, 3) := by decide +kernel
theorem dX12_peninsula_42 : decode cX12_peninsula 42 = .ok (.aload_n 0, 1) := by decide +kernel
theorem dX12_peninsula_43 : decode cX12_peninsula 43 = .ok (.getfield 114, 3) := by decide +kernel
theorem dX12_peninsula_46 : decode cX12_peninsula 46 = .ok (.ifCond .ne 25, 3) := by decide +kernel
theorem dX12_peninsula_49 : decode cX12_peninsula 49 = .ok (.aload_n 0, 1) := by decide +kernel
theorem dX12_peninsula_50 : decode cX12_peninsula 50 = .ok (.getfield 107, 3) := by decide +kernel
theorem dX12_peninsula_53 : decode cX12_peninsula 53 = .ok (.aload_n 0, 1) := by decide +kernel
theorem dX12_peninsula_54 : decode cX12_peninsula 54 = .ok (.getfield 104, 3) := by decide +kernel
theorem dX12_peninsula_57 : decode cX12_peninsula 57 = .ok (.if_icmp .ge 14, 3) := by decide +kernel
theorem dX12_peninsula_60 : decode cX12_peninsula 60 = .ok (.aload_n 0, 1) := by decide +kernel
theorem dX12_peninsula_61 : decode cX12_peninsula 61 = .ok (.invokevirtual 181, 3) := by decide +kernel
theorem dX12_peninsula_64 : decode cX12_peninsula 64 = .ok (.aload_n 0, 1) := by decide +kernel
theorem dX12_peninsula_65 : decode cX12_peninsula 65 = .ok (.invokevirtual 120, 3) := by decide +kernel
theorem dX12_peninsula_68 : decode cX12_peninsula 68 = .ok (.goto (-26), 3) := by decide +kernel
theorem dX12_peninsula_71 : decode cX12_peninsula 71 = .ok (.aload_n 0, 1) := by decide +kernel
theorem dX12_peninsula_72 : decode cX12_peninsula 72 = .ok (.getfield 114, 3) := by decide +kernel
theorem dX12_peninsula_75 : decode cX12_peninsula 75 = .ok (.ifCond .eq 8, 3) := by decide +kernel
theorem dX12_peninsula_78 : decode cX12_peninsula 78 = .ok (.aload_n 0, 1) := by decide +kernel
theorem dX12_peninsula_79 : decode cX12_peninsula 79 = .ok (.invokevirtual 184, 3) := by decide +kernel
theorem dX12_peninsula_82 : decode cX12_peninsula 82 = .ok (.ireturn, 1) := by decide +kernel
theorem dX12_peninsula_83 : decode cX12_peninsula 83 = .ok (.aload_n 0, 1) := by decide +kernel
theorem dX12_peninsula_84 : decode cX12_peninsula 84 = .ok (.iconst (-1), 1) := by decide +kernel
theorem dX12_peninsula_85 : decode cX12_peninsula 85 = .ok (.putfield 9, 3) := by decide +kernel
theorem dX12_peninsula_88 : decode cX12_peninsula 88 = .ok (.aload_n 0, 1) := by decide +kernel
theorem dX12_peninsula_89 : decode cX12_peninsula 89 = .ok (.invokevirtual 95, 3) := by decide +kernel
theorem dX12_peninsula_92 : decode cX12_peninsula 92 = .ok (.aload_n 0, 1) := by decide +kernel
theorem dX12_peninsula_93 : decode cX12_peninsula 93 = .ok (.getfield 23, 3) := by decide +kernel
theorem dX12_peninsula_96 : decode cX12_peninsula 96 = .ok (.iconst 0, 1) := by decide +kernel
theorem dX12_peninsula_97 : decode cX12_peninsula 97 = .ok (.iaload, 1) := by decide +kernel
theorem dX12_peninsula_98 : decode cX12_peninsula 98 = .ok (.ireturn, 1) := by decide +kernel
theorem dX12_lays_0 : decode cX12_lays 0 = .ok (.iconst 0, 1) := by decide +kernel
theorem dX12_lays_1 : decode cX12_lays 1 = .ok (.istore_n 3, 1) := by decide +kernel
theorem dX12_lays_2 : decode cX12_lays 2 = .ok (.iload_n 3, 1) := by decide +kernel
theorem dX12_lays_3 : decode cX12_lays 3 = .ok (.iload_n 2, 1) := by decide +kernel
theorem dX12_lays_4 : decode cX12_lays 4 = .ok (.if_icmp .ge 39, 3) := by decide +kernel
theorem dX12_lays_7 : decode cX12_lays 7 = .ok (.iconst 0, 1) := by decide +kernel
theorem dX12_lays_8 : decode cX12_lays 8 = .ok (.istore 4, 2) := by decide +kernel
theorem dX12_lays_10 : decode cX12_lays 10 = .ok (.iload 4, 2) := by decide +kernel
theorem dX12_lays_12 : decode cX12_lays 12 = .ok (.aload_n 1, 1) := by decide +kernel
theorem dX12_lays_13 : decode cX12_lays 13 = .ok (.iload_n 3, 1) := by decide +kernel
theorem dX12_lays_14 : decode cX12_lays 14 = .ok (.aaload, 1) := by decide +kernel
theorem dX12_lays_15 : decode cX12_lays 15 = .ok (.arraylength, 1) := by decide +kernel
theorem dX12_lays_16 : decode cX12_lays 16 = .ok (.if_icmp .ge 21, 3) := by decide +kernel
theorem dX12_lays_19 : decode cX12_lays 19 = .ok (.aload_n 1, 1) := by decide +kernel
theorem dX12_lays_20 : decode cX12_lays 20 = .ok (.iload_n 3, 1) := by decide +kernel
theorem dX12_lays_21 : decode cX12_lays 21 = .ok (.aaload, 1) := by decide +kernel
theorem dX12_lays_22 : decode cX12_lays 22 = .ok (.iload 4, 2) := by decide +kernel
theorem dX12_lays_24 : decode cX12_lays 24 = .ok (.aload_n 0, 1) := by decide +kernel
theorem dX12_lays_25 : decode cX12_lays 25 = .ok (.iload_n 3, 1) := by decide +kernel
theorem dX12_lays_26 : decode cX12_lays 26 = .ok (.aaload, 1) := by decide +kernel
theorem dX12_lays_27 : decode cX12_lays 27 = .ok (.iload 4, 2) := by decide +kernel
theorem dX12_lays_29 : decode cX12_lays 29 = .ok (.iaload, 1) := by decide +kernel
theorem dX12_lays_30 : decode cX12_lays 30 = .ok (.iastore, 1) := by decide +kernel
theorem dX12_lays_31 : decode cX12_lays 31 = .ok (.iinc 4 1, 3) := by decide +kernel
theorem dX12_lays_34 : decode cX12_lays 34 = .ok (.goto (-24), 3) := by decide +kernel
theorem dX12_lays_37 : decode cX12_lays 37 = .ok (.iinc 3 1, 3) := by decide +kernel
theorem dX12_lays_40 : decode cX12_lays 40 = .ok (.goto (-38), 3) := by decide +kernel
theorem dX12_lays_43 : decode cX12_lays 43 = .ok (.return_, 1) := by decide +kernel
theorem dX12_copies_0 : decode cX12_copies 0 = .ok (.iconst 0, 1) := by decide +kernel
theorem dX12_copies_1 : decode cX12_copies 1 = .ok (.istore_n 2, 1) := by decide +kernel
theorem dX12_copies_2 : decode cX12_copies 2 = .ok (.iload_n 2, 1) := by decide +kernel
theorem dX12_copies_3 : decode cX12_copies 3 = .ok (.bipush 26, 2) := by decide +kernel
theorem dX12_copies_5 : decode cX12_copies 5 = .ok (.if_icmp .ge 15, 3) := by decide +kernel
theorem dX12_copies_8 : decode cX12_copies 8 = .ok (.aload_n 1, 1) := by decide +kernel
theorem dX12_copies_9 : decode cX12_copies 9 = .ok (.iload_n 2, 1) := by decide +kernel
theorem dX12_copies_10 : decode cX12_copies 10 = .ok (.aload_n 0, 1) := by decide +kernel
theorem dX12_copies_11 : decode cX12_copies 11 = .ok (.iload_n 2, 1) := by decide +kernel
theorem dX12_copies_12 : decode cX12_copies 12 = .ok (.iaload, 1) := by decide +kernel
theorem dX12_copies_13 : decode cX12_copies 13 = .ok (.iastore, 1) := by decide +kernel
theorem dX12_copies_14 : decode cX12_copies 14 = .ok (.iinc 2 1, 3) := by decide +kernel
theorem dX12_copies_17 : decode cX12_copies 17 = .ok (.goto (-15), 3) := by decide +kernel
theorem dX12_copies_20 : decode cX12_copies 20 = .ok (.return_, 1) := by decide +kernel
theorem dX12_beginsAnew_0 : decode cX12_beginsAnew 0 = .ok (.iconst 0, 1) := by decide +kernel
theorem dX12_beginsAnew_1 : decode cX12_beginsAnew 1 = .ok (.istore_n 1, 1) := by decide +kernel
theorem dX12_beginsAnew_2 : decode cX12_beginsAnew 2 = .ok (.iload_n 1, 1) := by decide +kernel
theorem dX12_beginsAnew_3 : decode cX12_beginsAnew 3 = .ok (.iconst 2, 1) := by decide +kernel
theorem dX12_beginsAnew_4 : decode cX12_beginsAnew 4 = .ok (.if_icmp .ge 21, 3) := by decide +kernel
theorem dX12_beginsAnew_7 : decode cX12_beginsAnew 7 = .ok (.aload_n 0, 1) := by decide +kernel
theorem dX12_beginsAnew_8 : decode cX12_beginsAnew 8 = .ok (.getfield 23, 3) := by decide +kernel
theorem dX12_beginsAnew_11 : decode cX12_beginsAnew 11 = .ok (.iload_n 1, 1) := by decide +kernel
theorem dX12_beginsAnew_12 : decode cX12_beginsAnew 12 = .ok (.aload_n 0, 1) := by decide +kernel
theorem dX12_beginsAnew_13 : decode cX12_beginsAnew 13 = .ok (.getfield 20, 3) := by decide +kernel
theorem dX12_beginsAnew_16 : decode cX12_beginsAnew 16 = .ok (.iload_n 1, 1) := by decide +kernel
theorem dX12_beginsAnew_17 : decode cX12_beginsAnew 17 = .ok (.iaload, 1) := by decide +kernel
theorem dX12_beginsAnew_18 : decode cX12_beginsAnew 18 = .ok (.iastore, 1) := by decide +kernel
theorem dX12_beginsAnew_19 : decode cX12_beginsAnew 19 = .ok (.iinc 1 1, 3) := by decide +kernel
theorem dX12_beginsAnew_22 : decode cX12_beginsAnew 22 = .ok (.goto (-20), 3) := by decide +kernel
theorem dX12_beginsAnew_25 : decode cX12_beginsAnew 25 = .ok (.aload_n 0, 1) := by decide +kernel
theorem dX12_beginsAnew_26 : decode cX12_beginsAnew 26 = .ok (.getfield 28, 3) := by decide +kernel
theorem dX12_beginsAnew_29 : decode cX12_beginsAnew 29 = .ok (.aload_n 0, 1) := by decide +kernel
theorem dX12_beginsAnew_30 : decode cX12_beginsAnew 30 = .ok (.getfield 31, 3) := by decide +kernel
theorem dX12_beginsAnew_33 : decode cX12_beginsAnew 33 = .ok (.aload_n 0, 1) := by decide +kernel
theorem dX12_beginsAnew_34 : decode cX12_beginsAnew 34 = .ok (.getfield 23, 3) := by decide +kernel
theorem dX12_beginsAnew_37 : decode cX12_beginsAnew 37 = .ok (.iconst 0, 1) := by decide +kernel
theorem dX12_beginsAnew_38 : decode cX12_beginsAnew 38 = .ok (.iaload, 1) := by decide +kernel
theorem dX12_beginsAnew_39 : decode cX12_beginsAnew 39 = .ok (.invokestatic 187, 3) := by decide +kernel
theorem dX12_beginsAnew_42 : decode cX12_beginsAnew 42 = .ok (.iconst 0, 1) := by decide +kernel
theorem dX12_beginsAnew_43 : decode cX12_beginsAnew 43 = .ok (.istore_n 1, 1) := by decide +kernel
theorem dX12_beginsAnew_44 : decode cX12_beginsAnew 44 = .ok (.iload_n 1, 1) := by decide +kernel
theorem dX12_beginsAnew_45 : decode cX12_beginsAnew 45 = .ok (.bipush 8, 2) := by decide +kernel
theorem dX12_beginsAnew_47 : decode cX12_beginsAnew 47 = .ok (.if_icmp .ge 71, 3) := by decide +kernel
theorem dX12_beginsAnew_50 : decode cX12_beginsAnew 50 = .ok (.aload_n 0, 1) := by decide +kernel
theorem dX12_beginsAnew_51 : decode cX12_beginsAnew 51 = .ok (.getfield 37, 3) := by decide +kernel
theorem dX12_beginsAnew_54 : decode cX12_beginsAnew 54 = .ok (.iload_n 1, 1) := by decide +kernel
theorem dX12_beginsAnew_55 : decode cX12_beginsAnew 55 = .ok (.aload_n 0, 1) := by decide +kernel
theorem dX12_beginsAnew_56 : decode cX12_beginsAnew 56 = .ok (.getfield 34, 3) := by decide +kernel
theorem dX12_beginsAnew_59 : decode cX12_beginsAnew 59 = .ok (.iload_n 1, 1) := by decide +kernel
theorem dX12_beginsAnew_60 : decode cX12_beginsAnew 60 = .ok (.iaload, 1) := by decide +kernel
theorem dX12_beginsAnew_61 : decode cX12_beginsAnew 61 = .ok (.iastore, 1) := by decide +kernel
theorem dX12_beginsAnew_62 : decode cX12_beginsAnew 62 = .ok (.aload_n 0, 1) := by decide +kernel
theorem dX12_beginsAnew_63 : decode cX12_beginsAnew 63 = .ok (.getfield 61, 3) := by decide +kernel
theorem dX12_beginsAnew_66 : decode cX12_beginsAnew 66 = .ok (.iconst 0, 1) := by decide +kernel
theorem dX12_beginsAnew_67 : decode cX12_beginsAnew 67 = .ok (.iload_n 1, 1) := by decide +kernel
theorem dX12_beginsAnew_68 : decode cX12_beginsAnew 68 = .ok (.iadd, 1) := by decide +kernel
theorem dX12_beginsAnew_69 : decode cX12_beginsAnew 69 = .ok (.iload_n 1, 1) := by decide +kernel
theorem dX12_beginsAnew_70 : decode cX12_beginsAnew 70 = .ok (.aload_n 0, 1) := by decide +kernel
theorem dX12_beginsAnew_71 : decode cX12_beginsAnew 71 = .ok (.getfield 23, 3) := by decide +kernel
theorem dX12_beginsAnew_74 : decode cX12_beginsAnew 74 = .ok (.iconst 0, 1) := by decide +kernel
theorem dX12_beginsAnew_75 : decode cX12_beginsAnew 75 = .ok (.iaload, 1) := by decide +kernel
theorem dX12_beginsAnew_76 : decode cX12_beginsAnew 76 = .ok (.if_icmp .ge 14, 3) := by decide +kernel
theorem dX12_beginsAnew_79 : decode cX12_beginsAnew 79 = .ok (.aload_n 0, 1) := by decide +kernel
theorem dX12_beginsAnew_80 : decode cX12_beginsAnew 80 = .ok (.getfield 31, 3) := by decide +kernel
theorem dX12_beginsAnew_83 : decode cX12_beginsAnew 83 = .ok (.iload_n 1, 1) := by decide +kernel
theorem dX12_beginsAnew_84 : decode cX12_beginsAnew 84 = .ok (.aaload, 1) := by decide +kernel
theorem dX12_beginsAnew_85 : decode cX12_beginsAnew 85 = .ok (.iconst 1, 1) := by decide +kernel
theorem dX12_beginsAnew_86 : decode cX12_beginsAnew 86 = .ok (.iaload, 1) := by decide +kernel
theorem dX12_beginsAnew_87 : decode cX12_beginsAnew 87 = .ok (.goto 4, 3) := by decide +kernel
theorem dX12_beginsAnew_90 : decode cX12_beginsAnew 90 = .ok (.iconst 0, 1) := by decide +kernel
theorem dX12_beginsAnew_91 : decode cX12_beginsAnew 91 = .ok (.iastore, 1) := by decide +kernel
theorem dX12_beginsAnew_92 : decode cX12_beginsAnew 92 = .ok (.aload_n 0, 1) := by decide +kernel
theorem dX12_beginsAnew_93 : decode cX12_beginsAnew 93 = .ok (.getfield 61, 3) := by decide +kernel
theorem dX12_beginsAnew_96 : decode cX12_beginsAnew 96 = .ok (.bipush 8, 2) := by decide +kernel
theorem dX12_beginsAnew_98 : decode cX12_beginsAnew 98 = .ok (.iload_n 1, 1) := by decide +kernel
theorem dX12_beginsAnew_99 : decode cX12_beginsAnew 99 = .ok (.iadd, 1) := by decide +kernel
theorem dX12_beginsAnew_100 : decode cX12_beginsAnew 100 = .ok (.iconst (-1), 1) := by decide +kernel
theorem dX12_beginsAnew_101 : decode cX12_beginsAnew 101 = .ok (.iastore, 1) := by decide +kernel
theorem dX12_beginsAnew_102 : decode cX12_beginsAnew 102 = .ok (.aload_n 0, 1) := by decide +kernel
theorem dX12_beginsAnew_103 : decode cX12_beginsAnew 103 = .ok (.getfield 61, 3) := by decide +kernel
theorem dX12_beginsAnew_106 : decode cX12_beginsAnew 106 = .ok (.bipush 16, 2) := by decide +kernel
theorem dX12_beginsAnew_108 : decode cX12_beginsAnew 108 = .ok (.iload_n 1, 1) := by decide +kernel
theorem dX12_beginsAnew_109 : decode cX12_beginsAnew 109 = .ok (.iadd, 1) := by decide +kernel
theorem dX12_beginsAnew_110 : decode cX12_beginsAnew 110 = .ok (.iconst (-1), 1) := by decide +kernel
theorem dX12_beginsAnew_111 : decode cX12_beginsAnew 111 = .ok (.iastore, 1) := by decide +kernel
theorem dX12_beginsAnew_112 : decode cX12_beginsAnew 112 = .ok (.iinc 1 1, 3) := by decide +kernel
theorem dX12_beginsAnew_115 : decode cX12_beginsAnew 115 = .ok (.goto (-71), 3) := by decide +kernel
theorem dX12_beginsAnew_118 : decode cX12_beginsAnew 118 = .ok (.aload_n 0, 1) := by decide +kernel
theorem dX12_beginsAnew_119 : decode cX12_beginsAnew 119 = .ok (.getfield 61, 3) := by decide +kernel
theorem dX12_beginsAnew_122 : decode cX12_beginsAnew 122 = .ok (.bipush 24, 2) := by decide +kernel
theorem dX12_beginsAnew_124 : decode cX12_beginsAnew 124 = .ok (.iconst 1, 1) := by decide +kernel
theorem dX12_beginsAnew_125 : decode cX12_beginsAnew 125 = .ok (.aload_n 0, 1) := by decide +kernel
theorem dX12_beginsAnew_126 : decode cX12_beginsAnew 126 = .ok (.getfield 23, 3) := by decide +kernel
theorem dX12_beginsAnew_129 : decode cX12_beginsAnew 129 = .ok (.iconst 0, 1) := by decide +kernel
theorem dX12_beginsAnew_130 : decode cX12_beginsAnew 130 = .ok (.iaload, 1) := by decide +kernel
theorem dX12_beginsAnew_131 : decode cX12_beginsAnew 131 = .ok (.ishl, 1) := by decide +kernel
theorem dX12_beginsAnew_132 : decode cX12_beginsAnew 132 = .ok (.iconst 1, 1) := by decide +kernel
theorem dX12_beginsAnew_133 : decode cX12_beginsAnew 133 = .ok (.isub, 1) := by decide +kernel
theorem dX12_beginsAnew_134 : decode cX12_beginsAnew 134 = .ok (.iastore, 1) := by decide +kernel
theorem dX12_beginsAnew_135 : decode cX12_beginsAnew 135 = .ok (.aload_n 0, 1) := by decide +kernel
theorem dX12_beginsAnew_136 : decode cX12_beginsAnew 136 = .ok (.getfield 61, 3) := by decide +kernel
theorem dX12_beginsAnew_139 : decode cX12_beginsAnew 139 = .ok (.bipush 25, 2) := by decide +kernel
theorem dX12_beginsAnew_141 : decode cX12_beginsAnew 141 = .ok (.iconst 0, 1) := by decide +kernel
theorem dX12_beginsAnew_142 : decode cX12_beginsAnew 142 = .ok (.iastore, 1) := by decide +kernel
theorem dX12_beginsAnew_143 : decode cX12_beginsAnew 143 = .ok (.aload_n 0, 1) := by decide +kernel
theorem dX12_beginsAnew_144 : decode cX12_beginsAnew 144 = .ok (.iconst 0, 1) := by decide +kernel
theorem dX12_beginsAnew_145 : decode cX12_beginsAnew 145 = .ok (.putfield 191, 3) := by decide +kernel
theorem dX12_beginsAnew_148 : decode cX12_beginsAnew 148 = .ok (.aload_n 0, 1) := by decide +kernel
theorem dX12_beginsAnew_149 : decode cX12_beginsAnew 149 = .ok (.iconst 0, 1) := by decide +kernel
theorem dX12_beginsAnew_150 : decode cX12_beginsAnew 150 = .ok (.putfield 194, 3) := by decide +kernel
theorem dX12_beginsAnew_153 : decode cX12_beginsAnew 153 = .ok (.aload_n 0, 1) := by decide +kernel
theorem dX12_beginsAnew_154 : decode cX12_beginsAnew 154 = .ok (.iconst 0, 1) := by decide +kernel
theorem dX12_beginsAnew_155 : decode cX12_beginsAnew 155 = .ok (.putfield 197, 3) := by decide +kernel
theorem dX12_beginsAnew_158 : decode cX12_beginsAnew 158 = .ok (.aload_n 0, 1) := by decide +kernel
theorem dX12_beginsAnew_159 : decode cX12_beginsAnew 159 = .ok (.iconst 0, 1) := by decide +kernel
theorem dX12_beginsAnew_160 : decode cX12_beginsAnew 160 = .ok (.putfield 200, 3) := by decide +kernel
theorem dX12_beginsAnew_163 : decode cX12_beginsAnew 163 = .ok (.aload_n 0, 1) := by decide +kernel
theorem dX12_beginsAnew_164 : decode cX12_beginsAnew 164 = .ok (.iconst 0, 1) := by decide +kernel
theorem dX12_beginsAnew_165 : decode cX12_beginsAnew 165 = .ok (.putfield 203, 3) := by decide +kernel
theorem dX12_beginsAnew_168 : decode cX12_beginsAnew 168 = .ok (.return_, 1) := by decide +kernel
theorem dX12_notes_0 : decode cX12_notes 0 = .ok (.aload_n 0, 1) := by decide +kernel
theorem dX12_notes_1 : decode cX12_notes 1 = .ok (.getfield 114, 3) := by decide +kernel
theorem dX12_notes_4 : decode cX12_notes 4 = .ok (.ifCond .eq 4, 3) := by decide +kernel
theorem dX12_notes_7 : decode cX12_notes 7 = .ok (.return_, 1) := by decide +kernel
theorem dX12_notes_8 : decode cX12_notes 8 = .ok (.aload_n 0, 1) := by decide +kernel
theorem dX12_notes_9 : decode cX12_notes 9 = .ok (.getfield 43, 3) := by decide +kernel
theorem dX12_notes_12 : decode cX12_notes 12 = .ok (.aload_n 0, 1) := by decide +kernel
theorem dX12_notes_13 : decode cX12_notes 13 = .ok (.getfield 206, 3) := by decide +kernel
theorem dX12_notes_16 : decode cX12_notes 16 = .ok (.aaload, 1) := by decide +kernel
theorem dX12_notes_17 : decode cX12_notes 17 = .ok (.iconst 0, 1) := by decide +kernel
theorem dX12_notes_18 : decode cX12_notes 18 = .ok (.iload_n 1, 1) := by decide +kernel
theorem dX12_notes_19 : decode cX12_notes 19 = .ok (.iastore, 1) := by decide +kernel
theorem dX12_notes_20 : decode cX12_notes 20 = .ok (.aload_n 0, 1) := by decide +kernel
theorem dX12_notes_21 : decode cX12_notes 21 = .ok (.getfield 43, 3) := by decide +kernel
theorem dX12_notes_24 : decode cX12_notes 24 = .ok (.aload_n 0, 1) := by decide +kernel
theorem dX12_notes_25 : decode cX12_notes 25 = .ok (.getfield 206, 3) := by decide +kernel
theorem dX12_notes_28 : decode cX12_notes 28 = .ok (.aaload, 1) := by decide +kernel
theorem dX12_notes_29 : decode cX12_notes 29 = .ok (.iconst 1, 1) := by decide +kernel
theorem dX12_notes_30 : decode cX12_notes 30 = .ok (.iload_n 2, 1) := by decide +kernel
theorem dX12_notes_31 : decode cX12_notes 31 = .ok (.iastore, 1) := by decide +kernel
theorem dX12_notes_32 : decode cX12_notes 32 = .ok (.aload_n 0, 1) := by decide +kernel
theorem dX12_notes_33 : decode cX12_notes 33 = .ok (.dup, 1) := by decide +kernel
theorem dX12_notes_34 : decode cX12_notes 34 = .ok (.getfield 206, 3) := by decide +kernel
theorem dX12_notes_37 : decode cX12_notes 37 = .ok (.iconst 1, 1) := by decide +kernel
theorem dX12_notes_38 : decode cX12_notes 38 = .ok (.iadd, 1) := by decide +kernel
theorem dX12_notes_39 : decode cX12_notes 39 = .ok (.putfield 206, 3) := by decide +kernel
theorem dX12_notes_42 : decode cX12_notes 42 = .ok (.return_, 1) := by decide +kernel
theorem dX12_opensOne_0 : decode cX12_opensOne 0 = .ok (.aload_n 0, 1) := by decide +kernel
theorem dX12_opensOne_1 : decode cX12_opensOne 1 = .ok (.getfield 114, 3) := by decide +kernel
theorem dX12_opensOne_4 : decode cX12_opensOne 4 = .ok (.ifCond .ne 24, 3) := by decide +kernel
theorem dX12_opensOne_7 : decode cX12_opensOne 7 = .ok (.aload_n 0, 1) := by decide +kernel
theorem dX12_opensOne_8 : decode cX12_opensOne 8 = .ok (.getfield 157, 3) := by decide +kernel
theorem dX12_opensOne_11 : decode cX12_opensOne 11 = .ok (.bipush 6, 2) := by decide +kernel
theorem dX12_opensOne_13 : decode cX12_opensOne 13 = .ok (.if_icmp .ne 15, 3) := by decide +kernel
theorem dX12_opensOne_16 : decode cX12_opensOne 16 = .ok (.aload_n 0, 1) := by decide +kernel
theorem dX12_opensOne_17 : decode cX12_opensOne 17 = .ok (.iconst 3, 1) := by decide +kernel
theorem dX12_opensOne_18 : decode cX12_opensOne 18 = .ok (.aload_n 0, 1) := by decide +kernel
theorem dX12_opensOne_19 : decode cX12_opensOne 19 = .ok (.getfield 107, 3) := by decide +kernel
theorem dX12_opensOne_22 : decode cX12_opensOne 22 = .ok (.invokevirtual 127, 3) := by decide +kernel
theorem dX12_opensOne_25 : decode cX12_opensOne 25 = .ok (.goto 20, 3) := by decide +kernel
theorem dX12_opensOne_28 : decode cX12_opensOne 28 = .ok (.aload_n 0, 1) := by decide +kernel
theorem dX12_opensOne_29 : decode cX12_opensOne 29 = .ok (.getfield 114, 3) := by decide +kernel
theorem dX12_opensOne_32 : decode cX12_opensOne 32 = .ok (.ifCond .ne 13, 3) := by decide +kernel
theorem dX12_opensOne_35 : decode cX12_opensOne 35 = .ok (.aload_n 0, 1) := by decide +kernel
theorem dX12_opensOne_36 : decode cX12_opensOne 36 = .ok (.dup, 1) := by decide +kernel
theorem dX12_opensOne_37 : decode cX12_opensOne 37 = .ok (.getfield 157, 3) := by decide +kernel
theorem dX12_opensOne_40 : decode cX12_opensOne 40 = .ok (.iconst 1, 1) := by decide +kernel
theorem dX12_opensOne_41 : decode cX12_opensOne 41 = .ok (.iadd, 1) := by decide +kernel
theorem dX12_opensOne_42 : decode cX12_opensOne 42 = .ok (.putfield 157, 3) := by decide +kernel
theorem dX12_opensOne_45 : decode cX12_opensOne 45 = .ok (.aload_n 0, 1) := by decide +kernel
theorem dX12_opensOne_46 : decode cX12_opensOne 46 = .ok (.getfield 114, 3) := by decide +kernel
theorem dX12_opensOne_49 : decode cX12_opensOne 49 = .ok (.ifCond .ne 7, 3) := by decide +kernel
theorem dX12_opensOne_52 : decode cX12_opensOne 52 = .ok (.iconst 1, 1) := by decide +kernel
theorem dX12_opensOne_53 : decode cX12_opensOne 53 = .ok (.goto 4, 3) := by decide +kernel
theorem dX12_opensOne_56 : decode cX12_opensOne 56 = .ok (.iconst 0, 1) := by decide +kernel
theorem dX12_opensOne_57 : decode cX12_opensOne 57 = .ok (.ireturn, 1) := by decide +kernel
theorem dX12_sum_0 : decode cX12_sum 0 = .ok (.aload_n 0, 1) := by decide +kernel
theorem dX12_sum_1 : decode cX12_sum 1 = .ok (.invokevirtual 209, 3) := by decide +kernel
theorem dX12_sum_4 : decode cX12_sum 4 = .ok (.aload_n 0, 1) := by decide +kernel
theorem dX12_sum_5 : decode cX12_sum 5 = .ok (.getfield 114, 3) := by decide +kernel
theorem dX12_sum_8 : decode cX12_sum 8 = .ok (.ifCond .ne 50, 3) := by decide +kernel
theorem dX12_sum_11 : decode cX12_sum 11 = .ok (.aload_n 0, 1) := by decide +kernel
theorem dX12_sum_12 : decode cX12_sum 12 = .ok (.bipush 43, 2) := by decide +kernel
theorem dX12_sum_14 : decode cX12_sum 14 = .ok (.invokevirtual 212, 3) := by decide +kernel
theorem dX12_sum_17 : decode cX12_sum 17 = .ok (.ifCond .eq 7, 3) := by decide +kernel
theorem dX12_sum_20 : decode cX12_sum 20 = .ok (.iconst 2, 1) := by decide +kernel
theorem dX12_sum_21 : decode cX12_sum 21 = .ok (.goto 17, 3) := by decide +kernel
theorem dX12_sum_24 : decode cX12_sum 24 = .ok (.aload_n 0, 1) := by decide +kernel
theorem dX12_sum_25 : decode cX12_sum 25 = .ok (.bipush 45, 2) := by decide +kernel
theorem dX12_sum_27 : decode cX12_sum 27 = .ok (.invokevirtual 212, 3) := by decide +kernel
theorem dX12_sum_30 : decode cX12_sum 30 = .ok (.ifCond .eq 7, 3) := by decide +kernel
theorem dX12_sum_33 : decode cX12_sum 33 = .ok (.iconst 3, 1) := by decide +kernel
theorem dX12_sum_34 : decode cX12_sum 34 = .ok (.goto 4, 3) := by decide +kernel
theorem dX12_sum_37 : decode cX12_sum 37 = .ok (.iconst (-1), 1) := by decide +kernel
theorem dX12_sum_38 : decode cX12_sum 38 = .ok (.istore_n 1, 1) := by decide +kernel
theorem dX12_sum_39 : decode cX12_sum 39 = .ok (.iload_n 1, 1) := by decide +kernel
theorem dX12_sum_40 : decode cX12_sum 40 = .ok (.iconst (-1), 1) := by decide +kernel
theorem dX12_sum_41 : decode cX12_sum 41 = .ok (.if_icmp .ne 4, 3) := by decide +kernel
theorem dX12_sum_44 : decode cX12_sum 44 = .ok (.return_, 1) := by decide +kernel
theorem dX12_sum_45 : decode cX12_sum 45 = .ok (.aload_n 0, 1) := by decide +kernel
theorem dX12_sum_46 : decode cX12_sum 46 = .ok (.invokevirtual 209, 3) := by decide +kernel
theorem dX12_sum_49 : decode cX12_sum 49 = .ok (.aload_n 0, 1) := by decide +kernel
theorem dX12_sum_50 : decode cX12_sum 50 = .ok (.iload_n 1, 1) := by decide +kernel
theorem dX12_sum_51 : decode cX12_sum 51 = .ok (.iconst 0, 1) := by decide +kernel
theorem dX12_sum_52 : decode cX12_sum 52 = .ok (.invokevirtual 215, 3) := by decide +kernel
theorem dX12_sum_55 : decode cX12_sum 55 = .ok (.goto (-51), 3) := by decide +kernel
theorem dX12_sum_58 : decode cX12_sum 58 = .ok (.return_, 1) := by decide +kernel
theorem dX12_product_0 : decode cX12_product 0 = .ok (.aload_n 0, 1) := by decide +kernel
theorem dX12_product_1 : decode cX12_product 1 = .ok (.invokevirtual 218, 3) := by decide +kernel
theorem dX12_product_4 : decode cX12_product 4 = .ok (.aload_n 0, 1) := by decide +kernel
theorem dX12_product_5 : decode cX12_product 5 = .ok (.getfield 114, 3) := by decide +kernel
theorem dX12_product_8 : decode cX12_product 8 = .ok (.ifCond .ne 64, 3) := by decide +kernel
theorem dX12_product_11 : decode cX12_product 11 = .ok (.aload_n 0, 1) := by decide +kernel
theorem dX12_product_12 : decode cX12_product 12 = .ok (.bipush 42, 2) := by decide +kernel
theorem dX12_product_14 : decode cX12_product 14 = .ok (.invokevirtual 212, 3) := by decide +kernel
theorem dX12_product_17 : decode cX12_product 17 = .ok (.ifCond .eq 7, 3) := by decide +kernel
theorem dX12_product_20 : decode cX12_product 20 = .ok (.iconst 4, 1) := by decide +kernel
theorem dX12_product_21 : decode cX12_product 21 = .ok (.goto 31, 3) := by decide +kernel
theorem dX12_product_24 : decode cX12_product 24 = .ok (.aload_n 0, 1) := by decide +kernel
theorem dX12_product_25 : decode cX12_product 25 = .ok (.bipush 47, 2) := by decide +kernel
theorem dX12_product_27 : decode cX12_product 27 = .ok (.invokevirtual 212, 3) := by decide +kernel
theorem dX12_product_30 : decode cX12_product 30 = .ok (.ifCond .eq 7, 3) := by decide +kernel
theorem dX12_product_33 : decode cX12_product 33 = .ok (.iconst 5, 1) := by decide +kernel
theorem dX12_product_34 : decode cX12_product 34 = .ok (.goto 18, 3) := by decide +kernel
theorem dX12_product_37 : decode cX12_product 37 = .ok (.aload_n 0, 1) := by decide +kernel
theorem dX12_product_38 : decode cX12_product 38 = .ok (.bipush 37, 2) := by decide +kernel
theorem dX12_product_40 : decode cX12_product 40 = .ok (.invokevirtual 212, 3) := by decide +kernel
theorem dX12_product_43 : decode cX12_product 43 = .ok (.ifCond .eq 8, 3) := by decide +kernel
theorem dX12_product_46 : decode cX12_product 46 = .ok (.bipush 6, 2) := by decide +kernel
theorem dX12_product_48 : decode cX12_product 48 = .ok (.goto 4, 3) := by decide +kernel
theorem dX12_product_51 : decode cX12_product 51 = .ok (.iconst (-1), 1) := by decide +kernel
theorem dX12_product_52 : decode cX12_product 52 = .ok (.istore_n 1, 1) := by decide +kernel
theorem dX12_product_53 : decode cX12_product 53 = .ok (.iload_n 1, 1) := by decide +kernel
theorem dX12_product_54 : decode cX12_product 54 = .ok (.iconst (-1), 1) := by decide +kernel
theorem dX12_product_55 : decode cX12_product 55 = .ok (.if_icmp .ne 4, 3) := by decide +kernel
theorem dX12_product_58 : decode cX12_product 58 = .ok (.return_, 1) := by decide +kernel
theorem dX12_product_59 : decode cX12_product 59 = .ok (.aload_n 0, 1) := by decide +kernel
theorem dX12_product_60 : decode cX12_product 60 = .ok (.invokevirtual 218, 3) := by decide +kernel
theorem dX12_product_63 : decode cX12_product 63 = .ok (.aload_n 0, 1) := by decide +kernel
theorem dX12_product_64 : decode cX12_product 64 = .ok (.iload_n 1, 1) := by decide +kernel
theorem dX12_product_65 : decode cX12_product 65 = .ok (.iconst 0, 1) := by decide +kernel
theorem dX12_product_66 : decode cX12_product 66 = .ok (.invokevirtual 215, 3) := by decide +kernel
theorem dX12_product_69 : decode cX12_product 69 = .ok (.goto (-65), 3) := by decide +kernel
theorem dX12_product_72 : decode cX12_product 72 = .ok (.return_, 1) := by decide +kernel
theorem dX12_knownHere_0 : decode cX12_knownHere 0 = .ok (.aload_n 0, 1) := by decide +kernel
theorem dX12_knownHere_1 : decode cX12_knownHere 1 = .ok (.bipush 11, 2) := by decide +kernel
theorem dX12_knownHere_3 : decode cX12_knownHere 3 = .ok (.bipush 9, 2) := by decide +kernel
theorem dX12_knownHere_5 : decode cX12_knownHere 5 = .ok (.bipush 14, 2) := by decide +kernel
theorem dX12_knownHere_7 : decode cX12_knownHere 7 = .ok (.iconst 4, 1) := by decide +kernel
theorem dX12_knownHere_8 : decode cX12_knownHere 8 = .ok (.iconst 0, 1) := by decide +kernel
theorem dX12_knownHere_9 : decode cX12_knownHere 9 = .ok (.iconst 0, 1) := by decide +kernel
theorem dX12_knownHere_10 : decode cX12_knownHere 10 = .ok (.invokevirtual 221, 3) := by decide +kernel
theorem dX12_knownHere_13 : decode cX12_knownHere 13 = .ok (.ifCond .eq 5, 3) := by decide +kernel
theorem dX12_knownHere_16 : decode cX12_knownHere 16 = .ok (.iconst 0, 1) := by decide +kernel
theorem dX12_knownHere_17 : decode cX12_knownHere 17 = .ok (.ireturn, 1) := by decide +kernel
theorem dX12_knownHere_18 : decode cX12_knownHere 18 = .ok (.aload_n 0, 1) := by decide +kernel
theorem dX12_knownHere_19 : decode cX12_knownHere 19 = .ok (.iconst 4, 1) := by decide +kernel
theorem dX12_knownHere_20 : decode cX12_knownHere 20 = .ok (.iconst 5, 1) := by decide +kernel
theorem dX12_knownHere_21 : decode cX12_knownHere 21 = .ok (.iconst 2, 1) := by decide +kernel
theorem dX12_knownHere_22 : decode cX12_knownHere 22 = .ok (.bipush 20, 2) := by decide +kernel
theorem dX12_knownHere_24 : decode cX12_knownHere 24 = .ok (.bipush 19, 2) := by decide +kernel
theorem dX12_knownHere_26 : decode cX12_knownHere 26 = .ok (.iconst 0, 1) := by decide +kernel
theorem dX12_knownHere_27 : decode cX12_knownHere 27 = .ok (.invokevirtual 221, 3) := by decide +kernel
theorem dX12_knownHere_30 : decode cX12_knownHere 30 = .ok (.ifCond .eq 5, 3) := by decide +kernel
theorem dX12_knownHere_33 : decode cX12_knownHere 33 = .ok (.iconst 1, 1) := by decide +kernel
theorem dX12_knownHere_34 : decode cX12_knownHere 34 = .ok (.ireturn, 1) := by decide +kernel
theorem dX12_knownHere_35 : decode cX12_knownHere 35 = .ok (.aload_n 0, 1) := by decide +kernel
theorem dX12_knownHere_36 : decode cX12_knownHere 36 = .ok (.bipush 19, 2) := by decide +kernel
theorem dX12_knownHere_38 : decode cX12_knownHere 38 = .ok (.bipush 20, 2) := by decide +kernel
theorem dX12_knownHere_40 : decode cX12_knownHere 40 = .ok (.bipush 15, 2) := by decide +kernel
theorem dX12_knownHere_42 : decode cX12_knownHere 42 = .ok (.bipush 14, 2) := by decide +kernel
theorem dX12_knownHere_44 : decode cX12_knownHere 44 = .ok (.iconst 5, 1) := by decide +kernel
theorem dX12_knownHere_45 : decode cX12_knownHere 45 = .ok (.bipush 19, 2) := by decide +kernel
theorem dX12_knownHere_47 : decode cX12_knownHere 47 = .ok (.invokevirtual 221, 3) := by decide +kernel
theorem dX12_knownHere_50 : decode cX12_knownHere 50 = .ok (.ifCond .eq 5, 3) := by decide +kernel
theorem dX12_knownHere_53 : decode cX12_knownHere 53 = .ok (.iconst 2, 1) := by decide +kernel
theorem dX12_knownHere_54 : decode cX12_knownHere 54 = .ok (.ireturn, 1) := by decide +kernel
theorem dX12_knownHere_55 : decode cX12_knownHere 55 = .ok (.aload_n 0, 1) := by decide +kernel
theorem dX12_knownHere_56 : decode cX12_knownHere 56 = .ok (.bipush 6, 2) := by decide +kernel
theorem dX12_knownHere_58 : decode cX12_knownHere 58 = .ok (.bipush 18, 2) := by decide +kernel
theorem dX12_knownHere_60 : decode cX12_knownHere 60 = .ok (.bipush 9, 2) := by decide +kernel
theorem dX12_knownHere_62 : decode cX12_knownHere 62 = .ok (.iconst 5, 1) := by decide +kernel
theorem dX12_knownHere_63 : decode cX12_knownHere 63 = .ok (.bipush 14, 2) := by decide +kernel
theorem dX12_knownHere_65 : decode cX12_knownHere 65 = .ok (.iconst 4, 1) := by decide +kernel
theorem dX12_knownHere_66 : decode cX12_knownHere 66 = .ok (.invokevirtual 221, 3) := by decide +kernel
theorem dX12_knownHere_69 : decode cX12_knownHere 69 = .ok (.ifCond .eq 5, 3) := by decide +kernel
theorem dX12_knownHere_72 : decode cX12_knownHere 72 = .ok (.iconst 3, 1) := by decide +kernel
theorem dX12_knownHere_73 : decode cX12_knownHere 73 = .ok (.ireturn, 1) := by decide +kernel
theorem dX12_knownHere_74 : decode cX12_knownHere 74 = .ok (.aload_n 0, 1) := by decide +kernel
theorem dX12_knownHere_75 : decode cX12_knownHere 75 = .ok (.bipush 15, 2) := by decide +kernel
theorem dX12_knownHere_77 : decode cX12_knownHere 77 = .ok (.bipush 23, 2) := by decide +kernel
theorem dX12_knownHere_79 : decode cX12_knownHere 79 = .ok (.iconst 5, 1) := by decide +kernel
theorem dX12_knownHere_80 : decode cX12_knownHere 80 = .ok (.iconst 4, 1) := by decide +kernel
theorem dX12_knownHere_81 : decode cX12_knownHere 81 = .ok (.iconst 0, 1) := by decide +kernel
theorem dX12_knownHere_82 : decode cX12_knownHere 82 = .ok (.iconst 0, 1) := by decide +kernel
theorem dX12_knownHere_83 : decode cX12_knownHere 83 = .ok (.invokevirtual 221, 3) := by decide +kernel
theorem dX12_knownHere_86 : decode cX12_knownHere 86 = .ok (.ifCond .eq 5, 3) := by decide +kernel
theorem dX12_knownHere_89 : decode cX12_knownHere 89 = .ok (.iconst 4, 1) := by decide +kernel
theorem dX12_knownHere_90 : decode cX12_knownHere 90 = .ok (.ireturn, 1) := by decide +kernel
theorem dX12_knownHere_91 : decode cX12_knownHere 91 = .ok (.aload_n 0, 1) := by decide +kernel
theorem dX12_knownHere_92 : decode cX12_knownHere 92 = .ok (.iconst 4, 1) := by decide +kernel
theorem dX12_knownHere_93 : decode cX12_knownHere 93 = .ok (.iconst 5, 1) := by decide +kernel
theorem dX12_knownHere_94 : decode cX12_knownHere 94 = .ok (.iconst 1, 1) := by decide +kernel
theorem dX12_knownHere_95 : decode cX12_knownHere 95 = .ok (.iconst 4, 1) := by decide +kernel
theorem dX12_knownHere_96 : decode cX12_knownHere 96 = .ok (.iconst 0, 1) := by decide +kernel
theorem dX12_knownHere_97 : decode cX12_knownHere 97 = .ok (.iconst 0, 1) := by decide +kernel
theorem dX12_knownHere_98 : decode cX12_knownHere 98 = .ok (.invokevirtual 221, 3) := by decide +kernel
theorem dX12_knownHere_101 : decode cX12_knownHere 101 = .ok (.ifCond .eq 5, 3) := by decide +kernel
theorem dX12_knownHere_104 : decode cX12_knownHere 104 = .ok (.iconst 5, 1) := by decide +kernel
theorem dX12_knownHere_105 : decode cX12_knownHere 105 = .ok (.ireturn, 1) := by decide +kernel
theorem dX12_knownHere_106 : decode cX12_knownHere 106 = .ok (.aload_n 0, 1) := by decide +kernel
theorem dX12_knownHere_107 : decode cX12_knownHere 107 = .ok (.bipush 25, 2) := by decide +kernel
theorem dX12_knownHere_109 : decode cX12_knownHere 109 = .ok (.iconst 5, 1) := by decide +kernel
theorem dX12_knownHere_110 : decode cX12_knownHere 110 = .ok (.iconst 1, 1) := by decide +kernel
theorem dX12_knownHere_111 : decode cX12_knownHere 111 = .ok (.bipush 18, 2) := by decide +kernel
theorem dX12_knownHere_113 : decode cX12_knownHere 113 = .ok (.iconst 0, 1) := by decide +kernel
theorem dX12_knownHere_114 : decode cX12_knownHere 114 = .ok (.iconst 0, 1) := by decide +kernel
theorem dX12_knownHere_115 : decode cX12_knownHere 115 = .ok (.invokevirtual 221, 3) := by decide +kernel
theorem dX12_knownHere_118 : decode cX12_knownHere 118 = .ok (.ifCond .eq 6, 3) := by decide +kernel
theorem dX12_knownHere_121 : decode cX12_knownHere 121 = .ok (.bipush 6, 2) := by decide +kernel
theorem dX12_knownHere_123 : decode cX12_knownHere 123 = .ok (.ireturn, 1) := by decide +kernel
theorem dX12_knownHere_124 : decode cX12_knownHere 124 = .ok (.aload_n 0, 1) := by decide +kernel
theorem dX12_knownHere_125 : decode cX12_knownHere 125 = .ok (.bipush 16, 2) := by decide +kernel
theorem dX12_knownHere_127 : decode cX12_knownHere 127 = .ok (.iconst 5, 1) := by decide +kernel
theorem dX12_knownHere_128 : decode cX12_knownHere 128 = .ok (.bipush 18, 2) := by decide +kernel
theorem dX12_knownHere_130 : decode cX12_knownHere 130 = .ok (.bipush 19, 2) := by decide +kernel
theorem dX12_knownHere_132 : decode cX12_knownHere 132 = .ok (.bipush 15, 2) := by decide +kernel
theorem dX12_knownHere_134 : decode cX12_knownHere 134 = .ok (.bipush 14, 2) := by decide +kernel
theorem dX12_knownHere_136 : decode cX12_knownHere 136 = .ok (.invokevirtual 221, 3) := by decide +kernel
theorem dX12_knownHere_139 : decode cX12_knownHere 139 = .ok (.ifCond .eq 8, 3) := by decide +kernel
theorem dX12_knownHere_142 : decode cX12_knownHere 142 = .ok (.bipush 7, 2) := by decide +kernel
theorem dX12_knownHere_144 : decode cX12_knownHere 144 = .ok (.goto 4, 3) := by decide +kernel
theorem dX12_knownHere_147 : decode cX12_knownHere 147 = .ok (.iconst (-1), 1) := by decide +kernel
theorem dX12_knownHere_148 : decode cX12_knownHere 148 = .ok (.ireturn, 1) := by decide +kernel
theorem dX12_one_0 : decode cX12_one 0 = .ok (.aload_n 0, 1) := by decide +kernel
theorem dX12_one_1 : decode cX12_one 1 = .ok (.getfield 114, 3) := by decide +kernel
theorem dX12_one_4 : decode cX12_one 4 = .ok (.ifCond .eq 4, 3) := by decide +kernel
theorem dX12_one_7 : decode cX12_one 7 = .ok (.return_, 1) := by decide +kernel
theorem dX12_one_8 : decode cX12_one 8 = .ok (.aload_n 0, 1) := by decide +kernel
theorem dX12_one_9 : decode cX12_one 9 = .ok (.invokevirtual 120, 3) := by decide +kernel
theorem dX12_one_12 : decode cX12_one 12 = .ok (.aload_n 0, 1) := by decide +kernel
theorem dX12_one_13 : decode cX12_one 13 = .ok (.bipush 12, 2) := by decide +kernel
theorem dX12_one_15 : decode cX12_one 15 = .ok (.iconst 5, 1) := by decide +kernel
theorem dX12_one_16 : decode cX12_one 16 = .ok (.iconst 1, 1) := by decide +kernel
theorem dX12_one_17 : decode cX12_one 17 = .ok (.bipush 19, 2) := by decide +kernel
theorem dX12_one_19 : decode cX12_one 19 = .ok (.bipush 20, 2) := by decide +kernel
theorem dX12_one_21 : decode cX12_one 21 = .ok (.iconst 0, 1) := by decide +kernel
theorem dX12_one_22 : decode cX12_one 22 = .ok (.invokevirtual 147, 3) := by decide +kernel
theorem dX12_one_25 : decode cX12_one 25 = .ok (.ifCond .eq 8, 3) := by decide +kernel
theorem dX12_one_28 : decode cX12_one 28 = .ok (.bipush 7, 2) := by decide +kernel
theorem dX12_one_30 : decode cX12_one 30 = .ok (.goto 26, 3) := by decide +kernel
theorem dX12_one_33 : decode cX12_one 33 = .ok (.aload_n 0, 1) := by decide +kernel
theorem dX12_one_34 : decode cX12_one 34 = .ok (.bipush 13, 2) := by decide +kernel
theorem dX12_one_36 : decode cX12_one 36 = .ok (.bipush 15, 2) := by decide +kernel
theorem dX12_one_38 : decode cX12_one 38 = .ok (.bipush 19, 2) := by decide +kernel
theorem dX12_one_40 : decode cX12_one 40 = .ok (.bipush 20, 2) := by decide +kernel
theorem dX12_one_42 : decode cX12_one 42 = .ok (.iconst 0, 1) := by decide +kernel
theorem dX12_one_43 : decode cX12_one 43 = .ok (.iconst 0, 1) := by decide +kernel
theorem dX12_one_44 : decode cX12_one 44 = .ok (.invokevirtual 147, 3) := by decide +kernel
theorem dX12_one_47 : decode cX12_one 47 = .ok (.ifCond .eq 8, 3) := by decide +kernel
theorem dX12_one_50 : decode cX12_one 50 = .ok (.bipush 8, 2) := by decide +kernel
theorem dX12_one_52 : decode cX12_one 52 = .ok (.goto 4, 3) := by decide +kernel
theorem dX12_one_55 : decode cX12_one 55 = .ok (.iconst (-1), 1) := by decide +kernel
theorem dX12_one_56 : decode cX12_one 56 = .ok (.istore_n 1, 1) := by decide +kernel
theorem dX12_one_57 : decode cX12_one 57 = .ok (.iload_n 1, 1) := by decide +kernel
theorem dX12_one_58 : decode cX12_one 58 = .ok (.iconst (-1), 1) := by decide +kernel
theorem dX12_one_59 : decode cX12_one 59 = .ok (.if_icmp .eq 58, 3) := by decide +kernel
theorem dX12_one_62 : decode cX12_one 62 = .ok (.aload_n 0, 1) := by decide +kernel
theorem dX12_one_63 : decode cX12_one 63 = .ok (.invokevirtual 224, 3) := by decide +kernel
theorem dX12_one_66 : decode cX12_one 66 = .ok (.ifCond .ne 4, 3) := by decide +kernel
theorem dX12_one_69 : decode cX12_one 69 = .ok (.return_, 1) := by decide +kernel
theorem dX12_one_70 : decode cX12_one 70 = .ok (.aload_n 0, 1) := by decide +kernel
theorem dX12_one_71 : decode cX12_one 71 = .ok (.invokevirtual 151, 3) := by decide +kernel
theorem dX12_one_74 : decode cX12_one 74 = .ok (.aload_n 0, 1) := by decide +kernel
theorem dX12_one_75 : decode cX12_one 75 = .ok (.bipush 91, 2) := by decide +kernel
theorem dX12_one_77 : decode cX12_one 77 = .ok (.invokevirtual 170, 3) := by decide +kernel
theorem dX12_one_80 : decode cX12_one 80 = .ok (.aload_n 0, 1) := by decide +kernel
theorem dX12_one_81 : decode cX12_one 81 = .ok (.invokevirtual 228, 3) := by decide +kernel
theorem dX12_one_84 : decode cX12_one 84 = .ok (.aload_n 0, 1) := by decide +kernel
theorem dX12_one_85 : decode cX12_one 85 = .ok (.bipush 44, 2) := by decide +kernel
theorem dX12_one_87 : decode cX12_one 87 = .ok (.invokevirtual 170, 3) := by decide +kernel
theorem dX12_one_90 : decode cX12_one 90 = .ok (.aload_n 0, 1) := by decide +kernel
theorem dX12_one_91 : decode cX12_one 91 = .ok (.invokevirtual 228, 3) := by decide +kernel
theorem dX12_one_94 : decode cX12_one 94 = .ok (.aload_n 0, 1) := by decide +kernel
theorem dX12_one_95 : decode cX12_one 95 = .ok (.bipush 93, 2) := by decide +kernel
theorem dX12_one_97 : decode cX12_one 97 = .ok (.invokevirtual 170, 3) := by decide +kernel
theorem dX12_one_100 : decode cX12_one 100 = .ok (.aload_n 0, 1) := by decide +kernel
theorem dX12_one_101 : decode cX12_one 101 = .ok (.iload_n 1, 1) := by decide +kernel
theorem dX12_one_102 : decode cX12_one 102 = .ok (.iconst 0, 1) := by decide +kernel
theorem dX12_one_103 : decode cX12_one 103 = .ok (.invokevirtual 215, 3) := by decide +kernel
theorem dX12_one_106 : decode cX12_one 106 = .ok (.aload_n 0, 1) := by decide +kernel
theorem dX12_one_107 : decode cX12_one 107 = .ok (.dup, 1) := by decide +kernel
theorem dX12_one_108 : decode cX12_one 108 = .ok (.getfield 157, 3) := by decide +kernel
theorem dX12_one_111 : decode cX12_one 111 = .ok (.iconst 1, 1) := by decide +kernel
theorem dX12_one_112 : decode cX12_one 112 = .ok (.isub, 1) := by decide +kernel
theorem dX12_one_113 : decode cX12_one 113 = .ok (.putfield 157, 3) := by decide +kernel
theorem dX12_one_116 : decode cX12_one 116 = .ok (.return_, 1) := by decide +kernel
theorem dX12_one_117 : decode cX12_one 117 = .ok (.aload_n 0, 1) := by decide +kernel
theorem dX12_one_118 : decode cX12_one 118 = .ok (.aload_n 0, 1) := by decide +kernel
theorem dX12_one_119 : decode cX12_one 119 = .ok (.getfield 107, 3) := by decide +kernel
theorem dX12_one_122 : decode cX12_one 122 = .ok (.invokevirtual 110, 3) := by decide +kernel
theorem dX12_one_125 : decode cX12_one 125 = .ok (.bipush 40, 2) := by decide +kernel
theorem dX12_one_127 : decode cX12_one 127 = .ok (.if_icmp .ne 42, 3) := by decide +kernel
theorem dX12_one_130 : decode cX12_one 130 = .ok (.aload_n 0, 1) := by decide +kernel
theorem dX12_one_131 : decode cX12_one 131 = .ok (.invokevirtual 224, 3) := by decide +kernel
theorem dX12_one_134 : decode cX12_one 134 = .ok (.ifCond .ne 4, 3) := by decide +kernel
theorem dX12_one_137 : decode cX12_one 137 = .ok (.return_, 1) := by decide +kernel
theorem dX12_one_138 : decode cX12_one 138 = .ok (.aload_n 0, 1) := by decide +kernel
theorem dX12_one_139 : decode cX12_one 139 = .ok (.dup, 1) := by decide +kernel
theorem dX12_one_140 : decode cX12_one 140 = .ok (.getfield 107, 3) := by decide +kernel
theorem dX12_one_143 : decode cX12_one 143 = .ok (.iconst 1, 1) := by decide +kernel
theorem dX12_one_144 : decode cX12_one 144 = .ok (.iadd, 1) := by decide +kernel
theorem dX12_one_145 : decode cX12_one 145 = .ok (.putfield 107, 3) := by decide +kernel
theorem dX12_one_148 : decode cX12_one 148 = .ok (.aload_n 0, 1) := by decide +kernel
theorem dX12_one_149 : decode cX12_one 149 = .ok (.invokevirtual 228, 3) := by decide +kernel
theorem dX12_one_152 : decode cX12_one 152 = .ok (.aload_n 0, 1) := by decide +kernel
theorem dX12_one_153 : decode cX12_one 153 = .ok (.bipush 41, 2) := by decide +kernel
theorem dX12_one_155 : decode cX12_one 155 = .ok (.invokevirtual 170, 3) := by decide +kernel
theorem dX12_one_158 : decode cX12_one 158 = .ok (.aload_n 0, 1) := by decide +kernel
theorem dX12_one_159 : decode cX12_one 159 = .ok (.dup, 1) := by decide +kernel
theorem dX12_one_160 : decode cX12_one 160 = .ok (.getfield 157, 3) := by decide +kernel
theorem dX12_one_163 : decode cX12_one 163 = .ok (.iconst 1, 1) := by decide +kernel
theorem dX12_one_164 : decode cX12_one 164 = .ok (.isub, 1) := by decide +kernel
theorem dX12_one_165 : decode cX12_one 165 = .ok (.putfield 157, 3) := by decide +kernel
theorem dX12_one_168 : decode cX12_one 168 = .ok (.return_, 1) := by decide +kernel
theorem dX12_one_169 : decode cX12_one 169 = .ok (.aload_n 0, 1) := by decide +kernel
theorem dX12_one_170 : decode cX12_one 170 = .ok (.invokevirtual 231, 3) := by decide +kernel
theorem dX12_one_173 : decode cX12_one 173 = .ok (.istore_n 2, 1) := by decide +kernel
theorem dX12_one_174 : decode cX12_one 174 = .ok (.iload_n 2, 1) := by decide +kernel
theorem dX12_one_175 : decode cX12_one 175 = .ok (.iconst (-1), 1) := by decide +kernel
theorem dX12_one_176 : decode cX12_one 176 = .ok (.if_icmp .eq 12, 3) := by decide +kernel
theorem dX12_one_179 : decode cX12_one 179 = .ok (.aload_n 0, 1) := by decide +kernel
theorem dX12_one_180 : decode cX12_one 180 = .ok (.iconst 1, 1) := by decide +kernel
theorem dX12_one_181 : decode cX12_one 181 = .ok (.iload_n 2, 1) := by decide +kernel
theorem dX12_one_182 : decode cX12_one 182 = .ok (.invokevirtual 215, 3) := by decide +kernel
theorem dX12_one_185 : decode cX12_one 185 = .ok (.goto 16, 3) := by decide +kernel
theorem dX12_one_188 : decode cX12_one 188 = .ok (.aload_n 0, 1) := by decide +kernel
theorem dX12_one_189 : decode cX12_one 189 = .ok (.iconst 0, 1) := by decide +kernel
theorem dX12_one_190 : decode cX12_one 190 = .ok (.aload_n 0, 1) := by decide +kernel
theorem dX12_one_191 : decode cX12_one 191 = .ok (.iconst 0, 1) := by decide +kernel
theorem dX12_one_192 : decode cX12_one 192 = .ok (.sipush 999, 3) := by decide +kernel
theorem dX12_one_195 : decode cX12_one 195 = .ok (.invokevirtual 160, 3) := by decide +kernel
theorem dX12_one_198 : decode cX12_one 198 = .ok (.invokevirtual 215, 3) := by decide +kernel
theorem dX12_one_201 : decode cX12_one 201 = .ok (.return_, 1) := by decide +kernel
theorem dX12_law_0 : decode cX12_law 0 = .ok (.aload_n 0, 1) := by decide +kernel
theorem dX12_law_1 : decode cX12_law 1 = .ok (.iconst 0, 1) := by decide +kernel
theorem dX12_law_2 : decode cX12_law 2 = .ok (.putfield 98, 3) := by decide +kernel
theorem dX12_law_5 : decode cX12_law 5 = .ok (.aload_n 0, 1) := by decide +kernel
theorem dX12_law_6 : decode cX12_law 6 = .ok (.iload_n 1, 1) := by decide +kernel
theorem dX12_law_7 : decode cX12_law 7 = .ok (.iconst 0, 1) := by decide +kernel
theorem dX12_law_8 : decode cX12_law 8 = .ok (.aload_n 0, 1) := by decide +kernel
theorem dX12_law_9 : decode cX12_law 9 = .ok (.getfield 101, 3) := by decide +kernel
theorem dX12_law_12 : decode cX12_law 12 = .ok (.invokestatic 132, 3) := by decide +kernel
theorem dX12_law_15 : decode cX12_law 15 = .ok (.ifCond .eq 10, 3) := by decide +kernel
theorem dX12_law_18 : decode cX12_law 18 = .ok (.iload_n 1, 1) := by decide +kernel
theorem dX12_law_19 : decode cX12_law 19 = .ok (.sipush 150, 3) := by decide +kernel
theorem dX12_law_22 : decode cX12_law 22 = .ok (.if_icmp .le 7, 3) := by decide +kernel
theorem dX12_law_25 : decode cX12_law 25 = .ok (.iconst 1, 1) := by decide +kernel
theorem dX12_law_26 : decode cX12_law 26 = .ok (.goto 4, 3) := by decide +kernel
theorem dX12_law_29 : decode cX12_law 29 = .ok (.iconst 0, 1) := by decide +kernel
theorem dX12_law_30 : decode cX12_law 30 = .ok (.iconst 1, 1) := by decide +kernel
theorem dX12_law_31 : decode cX12_law 31 = .ok (.iconst 1, 1) := by decide +kernel
theorem dX12_law_32 : decode cX12_law 32 = .ok (.invokevirtual 174, 3) := by decide +kernel
theorem dX12_law_35 : decode cX12_law 35 = .ok (.ifCond .eq 5, 3) := by decide +kernel
theorem dX12_law_38 : decode cX12_law 38 = .ok (.iconst 0, 1) := by decide +kernel
theorem dX12_law_39 : decode cX12_law 39 = .ok (.ireturn, 1) := by decide +kernel
theorem dX12_law_40 : decode cX12_law 40 = .ok (.aload_n 0, 1) := by decide +kernel
theorem dX12_law_41 : decode cX12_law 41 = .ok (.iload_n 1, 1) := by decide +kernel
theorem dX12_law_42 : decode cX12_law 42 = .ok (.invokevirtual 178, 3) := by decide +kernel
theorem dX12_law_45 : decode cX12_law 45 = .ok (.aload_n 0, 1) := by decide +kernel
theorem dX12_law_46 : decode cX12_law 46 = .ok (.iconst 0, 1) := by decide +kernel
theorem dX12_law_47 : decode cX12_law 47 = .ok (.putfield 206, 3) := by decide +kernel
theorem dX12_law_50 : decode cX12_law 50 = .ok (.aload_n 0, 1) := by decide +kernel
theorem dX12_law_51 : decode cX12_law 51 = .ok (.invokevirtual 228, 3) := by decide +kernel
theorem dX12_law_54 : decode cX12_law 54 = .ok (.aload_n 0, 1) := by decide +kernel
theorem dX12_law_55 : decode cX12_law 55 = .ok (.invokevirtual 120, 3) := by decide +kernel
theorem dX12_law_58 : decode cX12_law 58 = .ok (.aload_n 0, 1) := by decide +kernel
theorem dX12_law_59 : decode cX12_law 59 = .ok (.getfield 114, 3) := by decide +kernel
theorem dX12_law_62 : decode cX12_law 62 = .ok (.ifCond .ne 23, 3) := by decide +kernel
theorem dX12_law_65 : decode cX12_law 65 = .ok (.aload_n 0, 1) := by decide +kernel
theorem dX12_law_66 : decode cX12_law 66 = .ok (.getfield 107, 3) := by decide +kernel
theorem dX12_law_69 : decode cX12_law 69 = .ok (.aload_n 0, 1) := by decide +kernel
theorem dX12_law_70 : decode cX12_law 70 = .ok (.getfield 104, 3) := by decide +kernel
theorem dX12_law_73 : decode cX12_law 73 = .ok (.if_icmp .ge 12, 3) := by decide +kernel
theorem dX12_law_76 : decode cX12_law 76 = .ok (.aload_n 0, 1) := by decide +kernel
theorem dX12_law_77 : decode cX12_law 77 = .ok (.iconst 1, 1) := by decide +kernel
theorem dX12_law_78 : decode cX12_law 78 = .ok (.aload_n 0, 1) := by decide +kernel
theorem dX12_law_79 : decode cX12_law 79 = .ok (.getfield 107, 3) := by decide +kernel
theorem dX12_law_82 : decode cX12_law 82 = .ok (.invokevirtual 127, 3) := by decide +kernel
theorem dX12_law_85 : decode cX12_law 85 = .ok (.aload_n 0, 1) := by decide +kernel
theorem dX12_law_86 : decode cX12_law 86 = .ok (.getfield 114, 3) := by decide +kernel
theorem dX12_law_89 : decode cX12_law 89 = .ok (.ifCond .eq 8, 3) := by decide +kernel
theorem dX12_law_92 : decode cX12_law 92 = .ok (.aload_n 0, 1) := by decide +kernel
theorem dX12_law_93 : decode cX12_law 93 = .ok (.invokevirtual 184, 3) := by decide +kernel
theorem dX12_law_96 : decode cX12_law 96 = .ok (.ireturn, 1) := by decide +kernel
theorem dX12_law_97 : decode cX12_law 97 = .ok (.aload_n 0, 1) := by decide +kernel
theorem dX12_law_98 : decode cX12_law 98 = .ok (.iconst (-1), 1) := by decide +kernel
theorem dX12_law_99 : decode cX12_law 99 = .ok (.putfield 9, 3) := by decide +kernel
theorem dX12_law_102 : decode cX12_law 102 = .ok (.aload_n 0, 1) := by decide +kernel
theorem dX12_law_103 : decode cX12_law 103 = .ok (.aload_n 0, 1) := by decide +kernel
theorem dX12_law_104 : decode cX12_law 104 = .ok (.getfield 206, 3) := by decide +kernel
theorem dX12_law_107 : decode cX12_law 107 = .ok (.putfield 191, 3) := by decide +kernel
theorem dX12_law_110 : decode cX12_law 110 = .ok (.aload_n 0, 1) := by decide +kernel
theorem dX12_law_111 : decode cX12_law 111 = .ok (.getfield 43, 3) := by decide +kernel
theorem dX12_law_114 : decode cX12_law 114 = .ok (.aload_n 0, 1) := by decide +kernel
theorem dX12_law_115 : decode cX12_law 115 = .ok (.getfield 40, 3) := by decide +kernel
theorem dX12_law_118 : decode cX12_law 118 = .ok (.aload_n 0, 1) := by decide +kernel
theorem dX12_law_119 : decode cX12_law 119 = .ok (.getfield 191, 3) := by decide +kernel
theorem dX12_law_122 : decode cX12_law 122 = .ok (.invokestatic 187, 3) := by decide +kernel
theorem dX12_law_125 : decode cX12_law 125 = .ok (.iconst 1, 1) := by decide +kernel
theorem dX12_law_126 : decode cX12_law 126 = .ok (.ireturn, 1) := by decide +kernel
theorem dX12_by_0 : decode cX12_by 0 = .ok (.iload_n 0, 1) := by decide +kernel
theorem dX12_by_1 : decode cX12_by 1 = .ok (.tableswitch 96 2 7 #[39, 43, 47, 51, 73, 90], 39) := by decide +kernel
theorem dX12_by_40 : decode cX12_by 40 = .ok (.iload_n 1, 1) := by decide +kernel
theorem dX12_by_41 : decode cX12_by 41 = .ok (.iload_n 2, 1) := by decide +kernel
theorem dX12_by_42 : decode cX12_by 42 = .ok (.iadd, 1) := by decide +kernel
theorem dX12_by_43 : decode cX12_by 43 = .ok (.ireturn, 1) := by decide +kernel
theorem dX12_by_44 : decode cX12_by 44 = .ok (.iload_n 1, 1) := by decide +kernel
theorem dX12_by_45 : decode cX12_by 45 = .ok (.iload_n 2, 1) := by decide +kernel
theorem dX12_by_46 : decode cX12_by 46 = .ok (.isub, 1) := by decide +kernel
theorem dX12_by_47 : decode cX12_by 47 = .ok (.ireturn, 1) := by decide +kernel
theorem dX12_by_48 : decode cX12_by 48 = .ok (.iload_n 1, 1) := by decide +kernel
theorem dX12_by_49 : decode cX12_by 49 = .ok (.iload_n 2, 1) := by decide +kernel
theorem dX12_by_50 : decode cX12_by 50 = .ok (.imul, 1) := by decide +kernel
theorem dX12_by_51 : decode cX12_by 51 = .ok (.ireturn, 1) := by decide +kernel
theorem dX12_by_52 : decode cX12_by 52 = .ok (.iload_n 2, 1) := by decide +kernel
theorem dX12_by_53 : decode cX12_by 53 = .ok (.ifCond .ne 7, 3) := by decide +kernel
theorem dX12_by_56 : decode cX12_by 56 = .ok (.iconst 0, 1) := by decide +kernel
theorem dX12_by_57 : decode cX12_by 57 = .ok (.goto 16, 3) := by decide +kernel
theorem dX12_by_60 : decode cX12_by 60 = .ok (.iload_n 2, 1) := by decide +kernel
theorem dX12_by_61 : decode cX12_by 61 = .ok (.iconst (-1), 1) := by decide +kernel
theorem dX12_by_62 : decode cX12_by 62 = .ok (.if_icmp .ne 8, 3) := by decide +kernel
theorem dX12_by_65 : decode cX12_by 65 = .ok (.iload_n 1, 1) := by decide +kernel
theorem dX12_by_66 : decode cX12_by 66 = .ok (.ineg, 1) := by decide +kernel
theorem dX12_by_67 : decode cX12_by 67 = .ok (.goto 6, 3) := by decide +kernel
theorem dX12_by_70 : decode cX12_by 70 = .ok (.iload_n 1, 1) := by decide +kernel
theorem dX12_by_71 : decode cX12_by 71 = .ok (.iload_n 2, 1) := by decide +kernel
theorem dX12_by_72 : decode cX12_by 72 = .ok (.idiv, 1) := by decide +kernel
theorem dX12_by_73 : decode cX12_by 73 = .ok (.ireturn, 1) := by decide +kernel
theorem dX12_by_74 : decode cX12_by 74 = .ok (.iload_n 2, 1) := by decide +kernel
theorem dX12_by_75 : decode cX12_by 75 = .ok (.ifCond .eq 8, 3) := by decide +kernel
theorem dX12_by_78 : decode cX12_by 78 = .ok (.iload_n 2, 1) := by decide +kernel
theorem dX12_by_79 : decode cX12_by 79 = .ok (.iconst (-1), 1) := by decide +kernel
theorem dX12_by_80 : decode cX12_by 80 = .ok (.if_icmp .ne 7, 3) := by decide +kernel
theorem dX12_by_83 : decode cX12_by 83 = .ok (.iconst 0, 1) := by decide +kernel
theorem dX12_by_84 : decode cX12_by 84 = .ok (.goto 6, 3) := by decide +kernel
theorem dX12_by_87 : decode cX12_by 87 = .ok (.iload_n 1, 1) := by decide +kernel
theorem dX12_by_88 : decode cX12_by 88 = .ok (.iload_n 2, 1) := by decide +kernel
theorem dX12_by_89 : decode cX12_by 89 = .ok (.irem, 1) := by decide +kernel
theorem dX12_by_90 : decode cX12_by 90 = .ok (.ireturn, 1) := by decide +kernel
theorem dX12_by_91 : decode cX12_by 91 = .ok (.iload_n 1, 1) := by decide +kernel
theorem dX12_by_92 : decode cX12_by 92 = .ok (.iload_n 2, 1) := by decide +kernel
theorem dX12_by_93 : decode cX12_by 93 = .ok (.invokestatic 234, 3) := by decide +kernel
theorem dX12_by_96 : decode cX12_by 96 = .ok (.ireturn, 1) := by decide +kernel
theorem dX12_by_97 : decode cX12_by 97 = .ok (.iload_n 1, 1) := by decide +kernel
theorem dX12_by_98 : decode cX12_by 98 = .ok (.iload_n 2, 1) := by decide +kernel
theorem dX12_by_99 : decode cX12_by 99 = .ok (.invokestatic 237, 3) := by decide +kernel
theorem dX12_by_102 : decode cX12_by 102 = .ok (.ireturn, 1) := by decide +kernel
theorem dX12_byLaw_0 : decode cX12_byLaw 0 = .ok (.iconst 0, 1) := by decide +kernel
theorem dX12_byLaw_1 : decode cX12_byLaw 1 = .ok (.istore_n 1, 1) := by decide +kernel
theorem dX12_byLaw_2 : decode cX12_byLaw 2 = .ok (.aload_n 0, 1) := by decide +kernel
theorem dX12_byLaw_3 : decode cX12_byLaw 3 = .ok (.getfield 52, 3) := by decide +kernel
theorem dX12_byLaw_6 : decode cX12_byLaw 6 = .ok (.iconst 0, 1) := by decide +kernel
theorem dX12_byLaw_7 : decode cX12_byLaw 7 = .ok (.iconst 3, 1) := by decide +kernel
theorem dX12_byLaw_8 : decode cX12_byLaw 8 = .ok (.aload_n 0, 1) := by decide +kernel
theorem dX12_byLaw_9 : decode cX12_byLaw 9 = .ok (.getfield 55, 3) := by decide +kernel
theorem dX12_byLaw_12 : decode cX12_byLaw 12 = .ok (.iconst 0, 1) := by decide +kernel
theorem dX12_byLaw_13 : decode cX12_byLaw 13 = .ok (.iaload, 1) := by decide +kernel
theorem dX12_byLaw_14 : decode cX12_byLaw 14 = .ok (.imul, 1) := by decide +kernel
theorem dX12_byLaw_15 : decode cX12_byLaw 15 = .ok (.bipush 9, 2) := by decide +kernel
theorem dX12_byLaw_17 : decode cX12_byLaw 17 = .ok (.aload_n 0, 1) := by decide +kernel
theorem dX12_byLaw_18 : decode cX12_byLaw 18 = .ok (.getfield 55, 3) := by decide +kernel
theorem dX12_byLaw_21 : decode cX12_byLaw 21 = .ok (.iconst 3, 1) := by decide +kernel
theorem dX12_byLaw_22 : decode cX12_byLaw 22 = .ok (.iaload, 1) := by decide +kernel
theorem dX12_byLaw_23 : decode cX12_byLaw 23 = .ok (.imul, 1) := by decide +kernel
theorem dX12_byLaw_24 : decode cX12_byLaw 24 = .ok (.iadd, 1) := by decide +kernel
theorem dX12_byLaw_25 : decode cX12_byLaw 25 = .ok (.iconst 5, 1) := by decide +kernel
theorem dX12_byLaw_26 : decode cX12_byLaw 26 = .ok (.aload_n 0, 1) := by decide +kernel
theorem dX12_byLaw_27 : decode cX12_byLaw 27 = .ok (.getfield 55, 3) := by decide +kernel
theorem dX12_byLaw_30 : decode cX12_byLaw 30 = .ok (.iconst 2, 1) := by decide +kernel
theorem dX12_byLaw_31 : decode cX12_byLaw 31 = .ok (.iaload, 1) := by decide +kernel
theorem dX12_byLaw_32 : decode cX12_byLaw 32 = .ok (.imul, 1) := by decide +kernel
theorem dX12_byLaw_33 : decode cX12_byLaw 33 = .ok (.isub, 1) := by decide +kernel
theorem dX12_byLaw_34 : decode cX12_byLaw 34 = .ok (.iastore, 1) := by decide +kernel
theorem dX12_byLaw_35 : decode cX12_byLaw 35 = .ok (.iconst 0, 1) := by decide +kernel
theorem dX12_byLaw_36 : decode cX12_byLaw 36 = .ok (.istore_n 2, 1) := by decide +kernel
theorem dX12_byLaw_37 : decode cX12_byLaw 37 = .ok (.iload_n 2, 1) := by decide +kernel
theorem dX12_byLaw_38 : decode cX12_byLaw 38 = .ok (.aload_n 0, 1) := by decide +kernel
theorem dX12_byLaw_39 : decode cX12_byLaw 39 = .ok (.getfield 191, 3) := by decide +kernel
theorem dX12_byLaw_42 : decode cX12_byLaw 42 = .ok (.if_icmp .ge 104, 3) := by decide +kernel
theorem dX12_byLaw_45 : decode cX12_byLaw 45 = .ok (.aload_n 0, 1) := by decide +kernel
theorem dX12_byLaw_46 : decode cX12_byLaw 46 = .ok (.getfield 40, 3) := by decide +kernel
theorem dX12_byLaw_49 : decode cX12_byLaw 49 = .ok (.iload_n 2, 1) := by decide +kernel
theorem dX12_byLaw_50 : decode cX12_byLaw 50 = .ok (.aaload, 1) := by decide +kernel
theorem dX12_byLaw_51 : decode cX12_byLaw 51 = .ok (.iconst 0, 1) := by decide +kernel
theorem dX12_byLaw_52 : decode cX12_byLaw 52 = .ok (.iaload, 1) := by decide +kernel
theorem dX12_byLaw_53 : decode cX12_byLaw 53 = .ok (.iconst 2, 1) := by decide +kernel
theorem dX12_byLaw_54 : decode cX12_byLaw 54 = .ok (.if_icmp .ge 50, 3) := by decide +kernel
theorem dX12_byLaw_57 : decode cX12_byLaw 57 = .ok (.aload_n 0, 1) := by decide +kernel
theorem dX12_byLaw_58 : decode cX12_byLaw 58 = .ok (.getfield 52, 3) := by decide +kernel
theorem dX12_byLaw_61 : decode cX12_byLaw 61 = .ok (.iload_n 1, 1) := by decide +kernel
theorem dX12_byLaw_62 : decode cX12_byLaw 62 = .ok (.aload_n 0, 1) := by decide +kernel
theorem dX12_byLaw_63 : decode cX12_byLaw 63 = .ok (.getfield 40, 3) := by decide +kernel
theorem dX12_byLaw_66 : decode cX12_byLaw 66 = .ok (.iload_n 2, 1) := by decide +kernel
theorem dX12_byLaw_67 : decode cX12_byLaw 67 = .ok (.aaload, 1) := by decide +kernel
theorem dX12_byLaw_68 : decode cX12_byLaw 68 = .ok (.iconst 0, 1) := by decide +kernel
theorem dX12_byLaw_69 : decode cX12_byLaw 69 = .ok (.iaload, 1) := by decide +kernel
theorem dX12_byLaw_70 : decode cX12_byLaw 70 = .ok (.ifCond .ne 14, 3) := by decide +kernel
theorem dX12_byLaw_73 : decode cX12_byLaw 73 = .ok (.aload_n 0, 1) := by decide +kernel
theorem dX12_byLaw_74 : decode cX12_byLaw 74 = .ok (.getfield 40, 3) := by decide +kernel
theorem dX12_byLaw_77 : decode cX12_byLaw 77 = .ok (.iload_n 2, 1) := by decide +kernel
theorem dX12_byLaw_78 : decode cX12_byLaw 78 = .ok (.aaload, 1) := by decide +kernel
theorem dX12_byLaw_79 : decode cX12_byLaw 79 = .ok (.iconst 1, 1) := by decide +kernel
theorem dX12_byLaw_80 : decode cX12_byLaw 80 = .ok (.iaload, 1) := by decide +kernel
theorem dX12_byLaw_81 : decode cX12_byLaw 81 = .ok (.goto 16, 3) := by decide +kernel
theorem dX12_byLaw_84 : decode cX12_byLaw 84 = .ok (.aload_n 0, 1) := by decide +kernel
theorem dX12_byLaw_85 : decode cX12_byLaw 85 = .ok (.getfield 55, 3) := by decide +kernel
theorem dX12_byLaw_88 : decode cX12_byLaw 88 = .ok (.aload_n 0, 1) := by decide +kernel
theorem dX12_byLaw_89 : decode cX12_byLaw 89 = .ok (.getfield 40, 3) := by decide +kernel
theorem dX12_byLaw_92 : decode cX12_byLaw 92 = .ok (.iload_n 2, 1) := by decide +kernel
theorem dX12_byLaw_93 : decode cX12_byLaw 93 = .ok (.aaload, 1) := by decide +kernel
theorem dX12_byLaw_94 : decode cX12_byLaw 94 = .ok (.iconst 1, 1) := by decide +kernel
theorem dX12_byLaw_95 : decode cX12_byLaw 95 = .ok (.iaload, 1) := by decide +kernel
theorem dX12_byLaw_96 : decode cX12_byLaw 96 = .ok (.iaload, 1) := by decide +kernel
theorem dX12_byLaw_97 : decode cX12_byLaw 97 = .ok (.iastore, 1) := by decide +kernel
theorem dX12_byLaw_98 : decode cX12_byLaw 98 = .ok (.iinc 1 1, 3) := by decide +kernel
theorem dX12_byLaw_101 : decode cX12_byLaw 101 = .ok (.goto 39, 3) := by decide +kernel
theorem dX12_byLaw_104 : decode cX12_byLaw 104 = .ok (.iinc 1 (-1), 3) := by decide +kernel
theorem dX12_byLaw_107 : decode cX12_byLaw 107 = .ok (.aload_n 0, 1) := by decide +kernel
theorem dX12_byLaw_108 : decode cX12_byLaw 108 = .ok (.getfield 52, 3) := by decide +kernel
theorem dX12_byLaw_111 : decode cX12_byLaw 111 = .ok (.iload_n 1, 1) := by decide +kernel
theorem dX12_byLaw_112 : decode cX12_byLaw 112 = .ok (.iconst 1, 1) := by decide +kernel
theorem dX12_byLaw_113 : decode cX12_byLaw 113 = .ok (.isub, 1) := by decide +kernel
theorem dX12_byLaw_114 : decode cX12_byLaw 114 = .ok (.aload_n 0, 1) := by decide +kernel
theorem dX12_byLaw_115 : decode cX12_byLaw 115 = .ok (.getfield 40, 3) := by decide +kernel
theorem dX12_byLaw_118 : decode cX12_byLaw 118 = .ok (.iload_n 2, 1) := by decide +kernel
theorem dX12_byLaw_119 : decode cX12_byLaw 119 = .ok (.aaload, 1) := by decide +kernel
theorem dX12_byLaw_120 : decode cX12_byLaw 120 = .ok (.iconst 0, 1) := by decide +kernel
theorem dX12_byLaw_121 : decode cX12_byLaw 121 = .ok (.iaload, 1) := by decide +kernel
theorem dX12_byLaw_122 : decode cX12_byLaw 122 = .ok (.aload_n 0, 1) := by decide +kernel
theorem dX12_byLaw_123 : decode cX12_byLaw 123 = .ok (.getfield 52, 3) := by decide +kernel
theorem dX12_byLaw_126 : decode cX12_byLaw 126 = .ok (.iload_n 1, 1) := by decide +kernel
theorem dX12_byLaw_127 : decode cX12_byLaw 127 = .ok (.iconst 1, 1) := by decide +kernel
theorem dX12_byLaw_128 : decode cX12_byLaw 128 = .ok (.isub, 1) := by decide +kernel
theorem dX12_byLaw_129 : decode cX12_byLaw 129 = .ok (.iaload, 1) := by decide +kernel
theorem dX12_byLaw_130 : decode cX12_byLaw 130 = .ok (.aload_n 0, 1) := by decide +kernel
theorem dX12_byLaw_131 : decode cX12_byLaw 131 = .ok (.getfield 52, 3) := by decide +kernel
theorem dX12_byLaw_134 : decode cX12_byLaw 134 = .ok (.iload_n 1, 1) := by decide +kernel
theorem dX12_byLaw_135 : decode cX12_byLaw 135 = .ok (.iaload, 1) := by decide +kernel
theorem dX12_byLaw_136 : decode cX12_byLaw 136 = .ok (.invokestatic 240, 3) := by decide +kernel
theorem dX12_byLaw_139 : decode cX12_byLaw 139 = .ok (.iastore, 1) := by decide +kernel
theorem dX12_byLaw_140 : decode cX12_byLaw 140 = .ok (.iinc 2 1, 3) := by decide +kernel
theorem dX12_byLaw_143 : decode cX12_byLaw 143 = .ok (.goto (-106), 3) := by decide +kernel
theorem dX12_byLaw_146 : decode cX12_byLaw 146 = .ok (.bipush 99, 2) := by decide +kernel
theorem dX12_byLaw_148 : decode cX12_byLaw 148 = .ok (.iconst 0, 1) := by decide +kernel
theorem dX12_byLaw_149 : decode cX12_byLaw 149 = .ok (.aload_n 0, 1) := by decide +kernel
theorem dX12_byLaw_150 : decode cX12_byLaw 150 = .ok (.getfield 52, 3) := by decide +kernel
theorem dX12_byLaw_153 : decode cX12_byLaw 153 = .ok (.iconst 0, 1) := by decide +kernel
theorem dX12_byLaw_154 : decode cX12_byLaw 154 = .ok (.iaload, 1) := by decide +kernel
theorem dX12_byLaw_155 : decode cX12_byLaw 155 = .ok (.invokestatic 237, 3) := by decide +kernel
theorem dX12_byLaw_158 : decode cX12_byLaw 158 = .ok (.invokestatic 234, 3) := by decide +kernel
theorem dX12_byLaw_161 : decode cX12_byLaw 161 = .ok (.ireturn, 1) := by decide +kernel
theorem dX12_stepHere_0 : decode cX12_stepHere 0 = .ok (.aload_n 0, 1) := by decide +kernel
theorem dX12_stepHere_1 : decode cX12_stepHere 1 = .ok (.iconst 4, 1) := by decide +kernel
theorem dX12_stepHere_2 : decode cX12_stepHere 2 = .ok (.bipush 9, 2) := by decide +kernel
theorem dX12_stepHere_4 : decode cX12_stepHere 4 = .ok (.iconst 5, 1) := by decide +kernel
theorem dX12_stepHere_5 : decode cX12_stepHere 5 = .ok (.iconst 0, 1) := by decide +kernel
theorem dX12_stepHere_6 : decode cX12_stepHere 6 = .ok (.iconst 0, 1) := by decide +kernel
theorem dX12_stepHere_7 : decode cX12_stepHere 7 = .ok (.iconst 0, 1) := by decide +kernel
theorem dX12_stepHere_8 : decode cX12_stepHere 8 = .ok (.invokevirtual 147, 3) := by decide +kernel
theorem dX12_stepHere_11 : decode cX12_stepHere 11 = .ok (.ifCond .eq 5, 3) := by decide +kernel
theorem dX12_stepHere_14 : decode cX12_stepHere 14 = .ok (.iconst 0, 1) := by decide +kernel
theorem dX12_stepHere_15 : decode cX12_stepHere 15 = .ok (.ireturn, 1) := by decide +kernel
theorem dX12_stepHere_16 : decode cX12_stepHere 16 = .ok (.aload_n 0, 1) := by decide +kernel
theorem dX12_stepHere_17 : decode cX12_stepHere 17 = .ok (.bipush 12, 2) := by decide +kernel
theorem dX12_stepHere_19 : decode cX12_stepHere 19 = .ok (.iconst 5, 1) := by decide +kernel
theorem dX12_stepHere_20 : decode cX12_stepHere 20 = .ok (.bipush 14, 2) := by decide +kernel
theorem dX12_stepHere_22 : decode cX12_stepHere 22 = .ok (.iconst 4, 1) := by decide +kernel
theorem dX12_stepHere_23 : decode cX12_stepHere 23 = .ok (.iconst 0, 1) := by decide +kernel
theorem dX12_stepHere_24 : decode cX12_stepHere 24 = .ok (.iconst 0, 1) := by decide +kernel
theorem dX12_stepHere_25 : decode cX12_stepHere 25 = .ok (.invokevirtual 147, 3) := by decide +kernel
theorem dX12_stepHere_28 : decode cX12_stepHere 28 = .ok (.ifCond .eq 5, 3) := by decide +kernel
theorem dX12_stepHere_31 : decode cX12_stepHere 31 = .ok (.iconst 1, 1) := by decide +kernel
theorem dX12_stepHere_32 : decode cX12_stepHere 32 = .ok (.ireturn, 1) := by decide +kernel
theorem dX12_stepHere_33 : decode cX12_stepHere 33 = .ok (.aload_n 0, 1) := by decide +kernel
theorem dX12_stepHere_34 : decode cX12_stepHere 34 = .ok (.bipush 16, 2) := by decide +kernel
theorem dX12_stepHere_36 : decode cX12_stepHere 36 = .ok (.iconst 1, 1) := by decide +kernel
theorem dX12_stepHere_37 : decode cX12_stepHere 37 = .ok (.bipush 25, 2) := by decide +kernel
theorem dX12_stepHere_39 : decode cX12_stepHere 39 = .ok (.iconst 0, 1) := by decide +kernel
theorem dX12_stepHere_40 : decode cX12_stepHere 40 = .ok (.iconst 0, 1) := by decide +kernel
theorem dX12_stepHere_41 : decode cX12_stepHere 41 = .ok (.iconst 0, 1) := by decide +kernel
theorem dX12_stepHere_42 : decode cX12_stepHere 42 = .ok (.invokevirtual 147, 3) := by decide +kernel
theorem dX12_stepHere_45 : decode cX12_stepHere 45 = .ok (.ifCond .eq 5, 3) := by decide +kernel
theorem dX12_stepHere_48 : decode cX12_stepHere 48 = .ok (.iconst 2, 1) := by decide +kernel
theorem dX12_stepHere_49 : decode cX12_stepHere 49 = .ok (.ireturn, 1) := by decide +kernel
theorem dX12_stepHere_50 : decode cX12_stepHere 50 = .ok (.aload_n 0, 1) := by decide +kernel
theorem dX12_stepHere_51 : decode cX12_stepHere 51 = .ok (.bipush 15, 2) := by decide +kernel
theorem dX12_stepHere_53 : decode cX12_stepHere 53 = .ok (.bipush 23, 2) := by decide +kernel
theorem dX12_stepHere_55 : decode cX12_stepHere 55 = .ok (.iconst 5, 1) := by decide +kernel
theorem dX12_stepHere_56 : decode cX12_stepHere 56 = .ok (.iconst 0, 1) := by decide +kernel
theorem dX12_stepHere_57 : decode cX12_stepHere 57 = .ok (.iconst 0, 1) := by decide +kernel
theorem dX12_stepHere_58 : decode cX12_stepHere 58 = .ok (.iconst 0, 1) := by decide +kernel
theorem dX12_stepHere_59 : decode cX12_stepHere 59 = .ok (.invokevirtual 147, 3) := by decide +kernel
theorem dX12_stepHere_62 : decode cX12_stepHere 62 = .ok (.ifCond .eq 5, 3) := by decide +kernel
theorem dX12_stepHere_65 : decode cX12_stepHere 65 = .ok (.iconst 3, 1) := by decide +kernel
theorem dX12_stepHere_66 : decode cX12_stepHere 66 = .ok (.ireturn, 1) := by decide +kernel
theorem dX12_stepHere_67 : decode cX12_stepHere 67 = .ok (.aload_n 0, 1) := by decide +kernel
theorem dX12_stepHere_68 : decode cX12_stepHere 68 = .ok (.bipush 25, 2) := by decide +kernel
theorem dX12_stepHere_70 : decode cX12_stepHere 70 = .ok (.iconst 5, 1) := by decide +kernel
theorem dX12_stepHere_71 : decode cX12_stepHere 71 = .ok (.iconst 1, 1) := by decide +kernel
theorem dX12_stepHere_72 : decode cX12_stepHere 72 = .ok (.bipush 18, 2) := by decide +kernel
theorem dX12_stepHere_74 : decode cX12_stepHere 74 = .ok (.iconst 0, 1) := by decide +kernel
theorem dX12_stepHere_75 : decode cX12_stepHere 75 = .ok (.iconst 0, 1) := by decide +kernel
theorem dX12_stepHere_76 : decode cX12_stepHere 76 = .ok (.invokevirtual 147, 3) := by decide +kernel
theorem dX12_stepHere_79 : decode cX12_stepHere 79 = .ok (.ifCond .eq 5, 3) := by decide +kernel
theorem dX12_stepHere_82 : decode cX12_stepHere 82 = .ok (.iconst 4, 1) := by decide +kernel
theorem dX12_stepHere_83 : decode cX12_stepHere 83 = .ok (.ireturn, 1) := by decide +kernel
theorem dX12_stepHere_84 : decode cX12_stepHere 84 = .ok (.aload_n 0, 1) := by decide +kernel
theorem dX12_stepHere_85 : decode cX12_stepHere 85 = .ok (.iconst 1, 1) := by decide +kernel
theorem dX12_stepHere_86 : decode cX12_stepHere 86 = .ok (.bipush 7, 2) := by decide +kernel
theorem dX12_stepHere_88 : decode cX12_stepHere 88 = .ok (.iconst 1, 1) := by decide +kernel
theorem dX12_stepHere_89 : decode cX12_stepHere 89 = .ok (.bipush 9, 2) := by decide +kernel
theorem dX12_stepHere_91 : decode cX12_stepHere 91 = .ok (.bipush 14, 2) := by decide +kernel
theorem dX12_stepHere_93 : decode cX12_stepHere 93 = .ok (.iconst 0, 1) := by decide +kernel
theorem dX12_stepHere_94 : decode cX12_stepHere 94 = .ok (.invokevirtual 147, 3) := by decide +kernel
theorem dX12_stepHere_97 : decode cX12_stepHere 97 = .ok (.ifCond .eq 7, 3) := by decide +kernel
theorem dX12_stepHere_100 : decode cX12_stepHere 100 = .ok (.iconst 5, 1) := by decide +kernel
theorem dX12_stepHere_101 : decode cX12_stepHere 101 = .ok (.goto 4, 3) := by decide +kernel
theorem dX12_stepHere_104 : decode cX12_stepHere 104 = .ok (.iconst (-1), 1) := by decide +kernel
theorem dX12_stepHere_105 : decode cX12_stepHere 105 = .ok (.ireturn, 1) := by decide +kernel
theorem dX12_readsStep_0 : decode cX12_readsStep 0 = .ok (.aload_n 0, 1) := by decide +kernel
theorem dX12_readsStep_1 : decode cX12_readsStep 1 = .ok (.invokevirtual 244, 3) := by decide +kernel
theorem dX12_readsStep_4 : decode cX12_readsStep 4 = .ok (.istore_n 1, 1) := by decide +kernel
theorem dX12_readsStep_5 : decode cX12_readsStep 5 = .ok (.iload_n 1, 1) := by decide +kernel
theorem dX12_readsStep_6 : decode cX12_readsStep 6 = .ok (.iconst (-1), 1) := by decide +kernel
theorem dX12_readsStep_7 : decode cX12_readsStep 7 = .ok (.if_icmp .ne 12, 3) := by decide +kernel
theorem dX12_readsStep_10 : decode cX12_readsStep 10 = .ok (.aload_n 0, 1) := by decide +kernel
theorem dX12_readsStep_11 : decode cX12_readsStep 11 = .ok (.iconst 1, 1) := by decide +kernel
theorem dX12_readsStep_12 : decode cX12_readsStep 12 = .ok (.aload_n 0, 1) := by decide +kernel
theorem dX12_readsStep_13 : decode cX12_readsStep 13 = .ok (.getfield 107, 3) := by decide +kernel
theorem dX12_readsStep_16 : decode cX12_readsStep 16 = .ok (.invokevirtual 127, 3) := by decide +kernel
theorem dX12_readsStep_19 : decode cX12_readsStep 19 = .ok (.iload_n 1, 1) := by decide +kernel
theorem dX12_readsStep_20 : decode cX12_readsStep 20 = .ok (.iconst 5, 1) := by decide +kernel
theorem dX12_readsStep_21 : decode cX12_readsStep 21 = .ok (.if_icmp .ne 11, 3) := by decide +kernel
theorem dX12_readsStep_24 : decode cX12_readsStep 24 = .ok (.aload_n 0, 1) := by decide +kernel
theorem dX12_readsStep_25 : decode cX12_readsStep 25 = .ok (.invokevirtual 224, 3) := by decide +kernel
theorem dX12_readsStep_28 : decode cX12_readsStep 28 = .ok (.ifCond .ne 4, 3) := by decide +kernel
theorem dX12_readsStep_31 : decode cX12_readsStep 31 = .ok (.return_, 1) := by decide +kernel
theorem dX12_readsStep_32 : decode cX12_readsStep 32 = .ok (.aload_n 0, 1) := by decide +kernel
theorem dX12_readsStep_33 : decode cX12_readsStep 33 = .ok (.getfield 114, 3) := by decide +kernel
theorem dX12_readsStep_36 : decode cX12_readsStep 36 = .ok (.ifCond .eq 4, 3) := by decide +kernel
theorem dX12_readsStep_39 : decode cX12_readsStep 39 = .ok (.return_, 1) := by decide +kernel
theorem dX12_readsStep_40 : decode cX12_readsStep 40 = .ok (.aload_n 0, 1) := by decide +kernel
theorem dX12_readsStep_41 : decode cX12_readsStep 41 = .ok (.invokevirtual 151, 3) := by decide +kernel
theorem dX12_readsStep_44 : decode cX12_readsStep 44 = .ok (.aload_n 0, 1) := by decide +kernel
theorem dX12_readsStep_45 : decode cX12_readsStep 45 = .ok (.getfield 58, 3) := by decide +kernel
theorem dX12_readsStep_48 : decode cX12_readsStep 48 = .ok (.aload_n 0, 1) := by decide +kernel
theorem dX12_readsStep_49 : decode cX12_readsStep 49 = .ok (.getfield 247, 3) := by decide +kernel
theorem dX12_readsStep_52 : decode cX12_readsStep 52 = .ok (.aaload, 1) := by decide +kernel
theorem dX12_readsStep_53 : decode cX12_readsStep 53 = .ok (.astore_n 2, 1) := by decide +kernel
theorem dX12_readsStep_54 : decode cX12_readsStep 54 = .ok (.aload_n 0, 1) := by decide +kernel
theorem dX12_readsStep_55 : decode cX12_readsStep 55 = .ok (.dup, 1) := by decide +kernel
theorem dX12_readsStep_56 : decode cX12_readsStep 56 = .ok (.getfield 247, 3) := by decide +kernel
theorem dX12_readsStep_59 : decode cX12_readsStep 59 = .ok (.iconst 1, 1) := by decide +kernel
theorem dX12_readsStep_60 : decode cX12_readsStep 60 = .ok (.iadd, 1) := by decide +kernel
theorem dX12_readsStep_61 : decode cX12_readsStep 61 = .ok (.putfield 247, 3) := by decide +kernel
theorem dX12_readsStep_64 : decode cX12_readsStep 64 = .ok (.aload_n 2, 1) := by decide +kernel
theorem dX12_readsStep_65 : decode cX12_readsStep 65 = .ok (.iconst 0, 1) := by decide +kernel
theorem dX12_readsStep_66 : decode cX12_readsStep 66 = .ok (.iload_n 1, 1) := by decide +kernel
theorem dX12_readsStep_67 : decode cX12_readsStep 67 = .ok (.iastore, 1) := by decide +kernel
theorem dX12_readsStep_68 : decode cX12_readsStep 68 = .ok (.iload_n 1, 1) := by decide +kernel
theorem dX12_readsStep_69 : decode cX12_readsStep 69 = .ok (.iconst 4, 1) := by decide +kernel
theorem dX12_readsStep_70 : decode cX12_readsStep 70 = .ok (.if_icmp .ge 19, 3) := by decide +kernel
theorem dX12_readsStep_73 : decode cX12_readsStep 73 = .ok (.aload_n 2, 1) := by decide +kernel
theorem dX12_readsStep_74 : decode cX12_readsStep 74 = .ok (.iconst 1, 1) := by decide +kernel
theorem dX12_readsStep_75 : decode cX12_readsStep 75 = .ok (.aload_n 0, 1) := by decide +kernel
theorem dX12_readsStep_76 : decode cX12_readsStep 76 = .ok (.iconst 0, 1) := by decide +kernel
theorem dX12_readsStep_77 : decode cX12_readsStep 77 = .ok (.aload_n 0, 1) := by decide +kernel
theorem dX12_readsStep_78 : decode cX12_readsStep 78 = .ok (.getfield 23, 3) := by decide +kernel
theorem dX12_readsStep_81 : decode cX12_readsStep 81 = .ok (.iconst 0, 1) := by decide +kernel
theorem dX12_readsStep_82 : decode cX12_readsStep 82 = .ok (.iaload, 1) := by decide +kernel
theorem dX12_readsStep_83 : decode cX12_readsStep 83 = .ok (.iconst 1, 1) := by decide +kernel
theorem dX12_readsStep_84 : decode cX12_readsStep 84 = .ok (.isub, 1) := by decide +kernel
theorem dX12_readsStep_85 : decode cX12_readsStep 85 = .ok (.invokevirtual 160, 3) := by decide +kernel
theorem dX12_readsStep_88 : decode cX12_readsStep 88 = .ok (.iastore, 1) := by decide +kernel
theorem dX12_readsStep_89 : decode cX12_readsStep 89 = .ok (.iload_n 1, 1) := by decide +kernel
theorem dX12_readsStep_90 : decode cX12_readsStep 90 = .ok (.iconst 1, 1) := by decide +kernel
theorem dX12_readsStep_91 : decode cX12_readsStep 91 = .ok (.if_icmp .ne 19, 3) := by decide +kernel
theorem dX12_readsStep_94 : decode cX12_readsStep 94 = .ok (.aload_n 2, 1) := by decide +kernel
theorem dX12_readsStep_95 : decode cX12_readsStep 95 = .ok (.iconst 2, 1) := by decide +kernel
theorem dX12_readsStep_96 : decode cX12_readsStep 96 = .ok (.aload_n 0, 1) := by decide +kernel
theorem dX12_readsStep_97 : decode cX12_readsStep 97 = .ok (.iconst 0, 1) := by decide +kernel
theorem dX12_readsStep_98 : decode cX12_readsStep 98 = .ok (.aload_n 0, 1) := by decide +kernel
theorem dX12_readsStep_99 : decode cX12_readsStep 99 = .ok (.getfield 23, 3) := by decide +kernel
theorem dX12_readsStep_102 : decode cX12_readsStep 102 = .ok (.iconst 0, 1) := by decide +kernel
theorem dX12_readsStep_103 : decode cX12_readsStep 103 = .ok (.iaload, 1) := by decide +kernel
theorem dX12_readsStep_104 : decode cX12_readsStep 104 = .ok (.iconst 1, 1) := by decide +kernel
theorem dX12_readsStep_105 : decode cX12_readsStep 105 = .ok (.isub, 1) := by decide +kernel
theorem dX12_readsStep_106 : decode cX12_readsStep 106 = .ok (.invokevirtual 160, 3) := by decide +kernel
theorem dX12_readsStep_109 : decode cX12_readsStep 109 = .ok (.iastore, 1) := by decide +kernel
theorem dX12_readsStep_110 : decode cX12_readsStep 110 = .ok (.iload_n 1, 1) := by decide +kernel
theorem dX12_readsStep_111 : decode cX12_readsStep 111 = .ok (.iconst 2, 1) := by decide +kernel
theorem dX12_readsStep_112 : decode cX12_readsStep 112 = .ok (.if_icmp .eq 8, 3) := by decide +kernel
theorem dX12_readsStep_115 : decode cX12_readsStep 115 = .ok (.iload_n 1, 1) := by decide +kernel
theorem dX12_readsStep_116 : decode cX12_readsStep 116 = .ok (.iconst 3, 1) := by decide +kernel
theorem dX12_readsStep_117 : decode cX12_readsStep 117 = .ok (.if_icmp .ne 13, 3) := by decide +kernel
theorem dX12_readsStep_120 : decode cX12_readsStep 120 = .ok (.aload_n 2, 1) := by decide +kernel
theorem dX12_readsStep_121 : decode cX12_readsStep 121 = .ok (.iconst 2, 1) := by decide +kernel
theorem dX12_readsStep_122 : decode cX12_readsStep 122 = .ok (.aload_n 0, 1) := by decide +kernel
theorem dX12_readsStep_123 : decode cX12_readsStep 123 = .ok (.iconst 1, 1) := by decide +kernel
theorem dX12_readsStep_124 : decode cX12_readsStep 124 = .ok (.bipush 60, 2) := by decide +kernel
theorem dX12_readsStep_126 : decode cX12_readsStep 126 = .ok (.invokevirtual 160, 3) := by decide +kernel
theorem dX12_readsStep_129 : decode cX12_readsStep 129 = .ok (.iastore, 1) := by decide +kernel
theorem dX12_readsStep_130 : decode cX12_readsStep 130 = .ok (.iload_n 1, 1) := by decide +kernel
theorem dX12_readsStep_131 : decode cX12_readsStep 131 = .ok (.iconst 5, 1) := by decide +kernel
theorem dX12_readsStep_132 : decode cX12_readsStep 132 = .ok (.if_icmp .ne 70, 3) := by decide +kernel
theorem dX12_readsStep_135 : decode cX12_readsStep 135 = .ok (.aload_n 2, 1) := by decide +kernel
theorem dX12_readsStep_136 : decode cX12_readsStep 136 = .ok (.iconst 1, 1) := by decide +kernel
theorem dX12_readsStep_137 : decode cX12_readsStep 137 = .ok (.aload_n 0, 1) := by decide +kernel
theorem dX12_readsStep_138 : decode cX12_readsStep 138 = .ok (.iconst 0, 1) := by decide +kernel
theorem dX12_readsStep_139 : decode cX12_readsStep 139 = .ok (.bipush 60, 2) := by decide +kernel
theorem dX12_readsStep_141 : decode cX12_readsStep 141 = .ok (.invokevirtual 160, 3) := by decide +kernel
theorem dX12_readsStep_144 : decode cX12_readsStep 144 = .ok (.iastore, 1) := by decide +kernel
theorem dX12_readsStep_145 : decode cX12_readsStep 145 = .ok (.aload_n 0, 1) := by decide +kernel
theorem dX12_readsStep_146 : decode cX12_readsStep 146 = .ok (.bipush 91, 2) := by decide +kernel
theorem dX12_readsStep_148 : decode cX12_readsStep 148 = .ok (.invokevirtual 170, 3) := by decide +kernel
theorem dX12_readsStep_151 : decode cX12_readsStep 151 = .ok (.aload_n 0, 1) := by decide +kernel
theorem dX12_readsStep_152 : decode cX12_readsStep 152 = .ok (.invokevirtual 120, 3) := by decide +kernel
theorem dX12_readsStep_155 : decode cX12_readsStep 155 = .ok (.aload_n 0, 1) := by decide +kernel
theorem dX12_readsStep_156 : decode cX12_readsStep 156 = .ok (.getfield 114, 3) := by decide +kernel
theorem dX12_readsStep_159 : decode cX12_readsStep 159 = .ok (.ifCond .ne 27, 3) := by decide +kernel
theorem dX12_readsStep_162 : decode cX12_readsStep 162 = .ok (.aload_n 0, 1) := by decide +kernel
theorem dX12_readsStep_163 : decode cX12_readsStep 163 = .ok (.aload_n 0, 1) := by decide +kernel
theorem dX12_readsStep_164 : decode cX12_readsStep 164 = .ok (.getfield 107, 3) := by decide +kernel
theorem dX12_readsStep_167 : decode cX12_readsStep 167 = .ok (.invokevirtual 110, 3) := by decide +kernel
theorem dX12_readsStep_170 : decode cX12_readsStep 170 = .ok (.bipush 93, 2) := by decide +kernel
theorem dX12_readsStep_172 : decode cX12_readsStep 172 = .ok (.if_icmp .eq 14, 3) := by decide +kernel
theorem dX12_readsStep_175 : decode cX12_readsStep 175 = .ok (.aload_n 0, 1) := by decide +kernel
theorem dX12_readsStep_176 : decode cX12_readsStep 176 = .ok (.invokevirtual 250, 3) := by decide +kernel
theorem dX12_readsStep_179 : decode cX12_readsStep 179 = .ok (.aload_n 0, 1) := by decide +kernel
theorem dX12_readsStep_180 : decode cX12_readsStep 180 = .ok (.invokevirtual 120, 3) := by decide +kernel
theorem dX12_readsStep_183 : decode cX12_readsStep 183 = .ok (.goto (-28), 3) := by decide +kernel
theorem dX12_readsStep_186 : decode cX12_readsStep 186 = .ok (.aload_n 0, 1) := by decide +kernel
theorem dX12_readsStep_187 : decode cX12_readsStep 187 = .ok (.bipush 93, 2) := by decide +kernel
theorem dX12_readsStep_189 : decode cX12_readsStep 189 = .ok (.invokevirtual 170, 3) := by decide +kernel
theorem dX12_readsStep_192 : decode cX12_readsStep 192 = .ok (.aload_n 0, 1) := by decide +kernel
theorem dX12_readsStep_193 : decode cX12_readsStep 193 = .ok (.dup, 1) := by decide +kernel
theorem dX12_readsStep_194 : decode cX12_readsStep 194 = .ok (.getfield 157, 3) := by decide +kernel
theorem dX12_readsStep_197 : decode cX12_readsStep 197 = .ok (.iconst 1, 1) := by decide +kernel
theorem dX12_readsStep_198 : decode cX12_readsStep 198 = .ok (.isub, 1) := by decide +kernel
theorem dX12_readsStep_199 : decode cX12_readsStep 199 = .ok (.putfield 157, 3) := by decide +kernel
theorem dX12_readsStep_202 : decode cX12_readsStep 202 = .ok (.aload_n 2, 1) := by decide +kernel
theorem dX12_readsStep_203 : decode cX12_readsStep 203 = .ok (.iconst 3, 1) := by decide +kernel
theorem dX12_readsStep_204 : decode cX12_readsStep 204 = .ok (.aload_n 0, 1) := by decide +kernel
theorem dX12_readsStep_205 : decode cX12_readsStep 205 = .ok (.getfield 247, 3) := by decide +kernel
theorem dX12_readsStep_208 : decode cX12_readsStep 208 = .ok (.iastore, 1) := by decide +kernel
theorem dX12_readsStep_209 : decode cX12_readsStep 209 = .ok (.aload_n 0, 1) := by decide +kernel
theorem dX12_readsStep_210 : decode cX12_readsStep 210 = .ok (.bipush 59, 2) := by decide +kernel
theorem dX12_readsStep_212 : decode cX12_readsStep 212 = .ok (.invokevirtual 170, 3) := by decide +kernel
theorem dX12_readsStep_215 : decode cX12_readsStep 215 = .ok (.return_, 1) := by decide +kernel
theorem dX12_book_0 : decode cX12_book 0 = .ok (.aload_n 0, 1) := by decide +kernel
theorem dX12_book_1 : decode cX12_book 1 = .ok (.iconst 0, 1) := by decide +kernel
theorem dX12_book_2 : decode cX12_book 2 = .ok (.putfield 98, 3) := by decide +kernel
theorem dX12_book_5 : decode cX12_book 5 = .ok (.aload_n 0, 1) := by decide +kernel
theorem dX12_book_6 : decode cX12_book 6 = .ok (.iload_n 1, 1) := by decide +kernel
theorem dX12_book_7 : decode cX12_book 7 = .ok (.iconst 0, 1) := by decide +kernel
theorem dX12_book_8 : decode cX12_book 8 = .ok (.aload_n 0, 1) := by decide +kernel
theorem dX12_book_9 : decode cX12_book 9 = .ok (.getfield 101, 3) := by decide +kernel
theorem dX12_book_12 : decode cX12_book 12 = .ok (.invokestatic 132, 3) := by decide +kernel
theorem dX12_book_15 : decode cX12_book 15 = .ok (.ifCond .eq 9, 3) := by decide +kernel
theorem dX12_book_18 : decode cX12_book 18 = .ok (.iload_n 1, 1) := by decide +kernel
theorem dX12_book_19 : decode cX12_book 19 = .ok (.bipush 60, 2) := by decide +kernel
theorem dX12_book_21 : decode cX12_book 21 = .ok (.if_icmp .le 7, 3) := by decide +kernel
theorem dX12_book_24 : decode cX12_book 24 = .ok (.iconst 1, 1) := by decide +kernel
theorem dX12_book_25 : decode cX12_book 25 = .ok (.goto 4, 3) := by decide +kernel
theorem dX12_book_28 : decode cX12_book 28 = .ok (.iconst 0, 1) := by decide +kernel
theorem dX12_book_29 : decode cX12_book 29 = .ok (.iconst 1, 1) := by decide +kernel
theorem dX12_book_30 : decode cX12_book 30 = .ok (.iconst 1, 1) := by decide +kernel
theorem dX12_book_31 : decode cX12_book 31 = .ok (.invokevirtual 174, 3) := by decide +kernel
theorem dX12_book_34 : decode cX12_book 34 = .ok (.ifCond .eq 5, 3) := by decide +kernel
theorem dX12_book_37 : decode cX12_book 37 = .ok (.iconst 0, 1) := by decide +kernel
theorem dX12_book_38 : decode cX12_book 38 = .ok (.ireturn, 1) := by decide +kernel
theorem dX12_book_39 : decode cX12_book 39 = .ok (.aload_n 0, 1) := by decide +kernel
theorem dX12_book_40 : decode cX12_book 40 = .ok (.iload_n 1, 1) := by decide +kernel
theorem dX12_book_41 : decode cX12_book 41 = .ok (.invokevirtual 178, 3) := by decide +kernel
theorem dX12_book_44 : decode cX12_book 44 = .ok (.iconst 0, 1) := by decide +kernel
theorem dX12_book_45 : decode cX12_book 45 = .ok (.istore_n 2, 1) := by decide +kernel
theorem dX12_book_46 : decode cX12_book 46 = .ok (.iconst 0, 1) := by decide +kernel
theorem dX12_book_47 : decode cX12_book 47 = .ok (.istore_n 3, 1) := by decide +kernel
theorem dX12_book_48 : decode cX12_book 48 = .ok (.aload_n 0, 1) := by decide +kernel
theorem dX12_book_49 : decode cX12_book 49 = .ok (.getfield 114, 3) := by decide +kernel
theorem dX12_book_52 : decode cX12_book 52 = .ok (.ifCond .ne 121, 3) := by decide +kernel
theorem dX12_book_55 : decode cX12_book 55 = .ok (.aload_n 0, 1) := by decide +kernel
theorem dX12_book_56 : decode cX12_book 56 = .ok (.getfield 107, 3) := by decide +kernel
theorem dX12_book_59 : decode cX12_book 59 = .ok (.aload_n 0, 1) := by decide +kernel
theorem dX12_book_60 : decode cX12_book 60 = .ok (.getfield 104, 3) := by decide +kernel
theorem dX12_book_63 : decode cX12_book 63 = .ok (.if_icmp .ge 110, 3) := by decide +kernel
theorem dX12_book_66 : decode cX12_book 66 = .ok (.aload_n 0, 1) := by decide +kernel
theorem dX12_book_67 : decode cX12_book 67 = .ok (.invokevirtual 120, 3) := by decide +kernel
theorem dX12_book_70 : decode cX12_book 70 = .ok (.aload_n 0, 1) := by decide +kernel
theorem dX12_book_71 : decode cX12_book 71 = .ok (.getfield 107, 3) := by decide +kernel
theorem dX12_book_74 : decode cX12_book 74 = .ok (.istore 4, 2) := by decide +kernel
theorem dX12_book_76 : decode cX12_book 76 = .ok (.aload_n 0, 1) := by decide +kernel
theorem dX12_book_77 : decode cX12_book 77 = .ok (.iconst 0, 1) := by decide +kernel
theorem dX12_book_78 : decode cX12_book 78 = .ok (.aload_n 0, 1) := by decide +kernel
theorem dX12_book_79 : decode cX12_book 79 = .ok (.getfield 23, 3) := by decide +kernel
theorem dX12_book_82 : decode cX12_book 82 = .ok (.iconst 0, 1) := by decide +kernel
theorem dX12_book_83 : decode cX12_book 83 = .ok (.iaload, 1) := by decide +kernel
theorem dX12_book_84 : decode cX12_book 84 = .ok (.iconst 1, 1) := by decide +kernel
theorem dX12_book_85 : decode cX12_book 85 = .ok (.isub, 1) := by decide +kernel
theorem dX12_book_86 : decode cX12_book 86 = .ok (.invokevirtual 160, 3) := by decide +kernel
theorem dX12_book_89 : decode cX12_book 89 = .ok (.istore 5, 2) := by decide +kernel
theorem dX12_book_91 : decode cX12_book 91 = .ok (.aload_n 0, 1) := by decide +kernel
theorem dX12_book_92 : decode cX12_book 92 = .ok (.getfield 114, 3) := by decide +kernel
theorem dX12_book_95 : decode cX12_book 95 = .ok (.ifCond .ne 19, 3) := by decide +kernel
theorem dX12_book_98 : decode cX12_book 98 = .ok (.iload_n 3, 1) := by decide +kernel
theorem dX12_book_99 : decode cX12_book 99 = .ok (.iload 5, 2) := by decide +kernel
theorem dX12_book_101 : decode cX12_book 101 = .ok (.invokestatic 253, 3) := by decide +kernel
theorem dX12_book_104 : decode cX12_book 104 = .ok (.ifCond .eq 10, 3) := by decide +kernel
theorem dX12_book_107 : decode cX12_book 107 = .ok (.aload_n 0, 1) := by decide +kernel
theorem dX12_book_108 : decode cX12_book 108 = .ok (.iconst 2, 1) := by decide +kernel
theorem dX12_book_109 : decode cX12_book 109 = .ok (.iload 4, 2) := by decide +kernel
theorem dX12_book_111 : decode cX12_book 111 = .ok (.invokevirtual 127, 3) := by decide +kernel
theorem dX12_book_114 : decode cX12_book 114 = .ok (.aload_n 0, 1) := by decide +kernel
theorem dX12_book_115 : decode cX12_book 115 = .ok (.iconst 0, 1) := by decide +kernel
theorem dX12_book_116 : decode cX12_book 116 = .ok (.bipush 8, 2) := by decide +kernel
theorem dX12_book_118 : decode cX12_book 118 = .ok (.invokevirtual 160, 3) := by decide +kernel
theorem dX12_book_121 : decode cX12_book 121 = .ok (.istore 6, 2) := by decide +kernel
theorem dX12_book_123 : decode cX12_book 123 = .ok (.aload_n 0, 1) := by decide +kernel
theorem dX12_book_124 : decode cX12_book 124 = .ok (.bipush 59, 2) := by decide +kernel
theorem dX12_book_126 : decode cX12_book 126 = .ok (.invokevirtual 170, 3) := by decide +kernel
theorem dX12_book_129 : decode cX12_book 129 = .ok (.aload_n 0, 1) := by decide +kernel
theorem dX12_book_130 : decode cX12_book 130 = .ok (.getfield 114, 3) := by decide +kernel
theorem dX12_book_133 : decode cX12_book 133 = .ok (.ifCond .ne 33, 3) := by decide +kernel
theorem dX12_book_136 : decode cX12_book 136 = .ok (.iload_n 3, 1) := by decide +kernel
theorem dX12_book_137 : decode cX12_book 137 = .ok (.iconst 1, 1) := by decide +kernel
theorem dX12_book_138 : decode cX12_book 138 = .ok (.iload 5, 2) := by decide +kernel
theorem dX12_book_140 : decode cX12_book 140 = .ok (.ishl, 1) := by decide +kernel
theorem dX12_book_141 : decode cX12_book 141 = .ok (.ior, 1) := by decide +kernel
theorem dX12_book_142 : decode cX12_book 142 = .ok (.istore_n 3, 1) := by decide +kernel
theorem dX12_book_143 : decode cX12_book 143 = .ok (.aload_n 0, 1) := by decide +kernel
theorem dX12_book_144 : decode cX12_book 144 = .ok (.getfield 49, 3) := by decide +kernel
theorem dX12_book_147 : decode cX12_book 147 = .ok (.iload_n 2, 1) := by decide +kernel
theorem dX12_book_148 : decode cX12_book 148 = .ok (.aaload, 1) := by decide +kernel
theorem dX12_book_149 : decode cX12_book 149 = .ok (.iconst 0, 1) := by decide +kernel
theorem dX12_book_150 : decode cX12_book 150 = .ok (.iload 5, 2) := by decide +kernel
theorem dX12_book_152 : decode cX12_book 152 = .ok (.iastore, 1) := by decide +kernel
theorem dX12_book_153 : decode cX12_book 153 = .ok (.aload_n 0, 1) := by decide +kernel
theorem dX12_book_154 : decode cX12_book 154 = .ok (.getfield 49, 3) := by decide +kernel
theorem dX12_book_157 : decode cX12_book 157 = .ok (.iload_n 2, 1) := by decide +kernel
theorem dX12_book_158 : decode cX12_book 158 = .ok (.aaload, 1) := by decide +kernel
theorem dX12_book_159 : decode cX12_book 159 = .ok (.iconst 1, 1) := by decide +kernel
theorem dX12_book_160 : decode cX12_book 160 = .ok (.iload 6, 2) := by decide +kernel
theorem dX12_book_162 : decode cX12_book 162 = .ok (.iastore, 1) := by decide +kernel
theorem dX12_book_163 : decode cX12_book 163 = .ok (.iinc 2 1, 3) := by decide +kernel
theorem dX12_book_166 : decode cX12_book 166 = .ok (.aload_n 0, 1) := by decide +kernel
theorem dX12_book_167 : decode cX12_book 167 = .ok (.invokevirtual 120, 3) := by decide +kernel
theorem dX12_book_170 : decode cX12_book 170 = .ok (.goto (-122), 3) := by decide +kernel
theorem dX12_book_173 : decode cX12_book 173 = .ok (.aload_n 0, 1) := by decide +kernel
theorem dX12_book_174 : decode cX12_book 174 = .ok (.getfield 114, 3) := by decide +kernel
theorem dX12_book_177 : decode cX12_book 177 = .ok (.ifCond .eq 8, 3) := by decide +kernel
theorem dX12_book_180 : decode cX12_book 180 = .ok (.aload_n 0, 1) := by decide +kernel
theorem dX12_book_181 : decode cX12_book 181 = .ok (.invokevirtual 184, 3) := by decide +kernel
theorem dX12_book_184 : decode cX12_book 184 = .ok (.ireturn, 1) := by decide +kernel
theorem dX12_book_185 : decode cX12_book 185 = .ok (.aload_n 0, 1) := by decide +kernel
theorem dX12_book_186 : decode cX12_book 186 = .ok (.iconst (-1), 1) := by decide +kernel
theorem dX12_book_187 : decode cX12_book 187 = .ok (.putfield 9, 3) := by decide +kernel
theorem dX12_book_190 : decode cX12_book 190 = .ok (.aload_n 0, 1) := by decide +kernel
theorem dX12_book_191 : decode cX12_book 191 = .ok (.iload_n 2, 1) := by decide +kernel
theorem dX12_book_192 : decode cX12_book 192 = .ok (.putfield 194, 3) := by decide +kernel
theorem dX12_book_195 : decode cX12_book 195 = .ok (.aload_n 0, 1) := by decide +kernel
theorem dX12_book_196 : decode cX12_book 196 = .ok (.getfield 49, 3) := by decide +kernel
theorem dX12_book_199 : decode cX12_book 199 = .ok (.aload_n 0, 1) := by decide +kernel
theorem dX12_book_200 : decode cX12_book 200 = .ok (.getfield 46, 3) := by decide +kernel
theorem dX12_book_203 : decode cX12_book 203 = .ok (.iload_n 2, 1) := by decide +kernel
theorem dX12_book_204 : decode cX12_book 204 = .ok (.invokestatic 187, 3) := by decide +kernel
theorem dX12_book_207 : decode cX12_book 207 = .ok (.iload_n 2, 1) := by decide +kernel
theorem dX12_book_208 : decode cX12_book 208 = .ok (.ireturn, 1) := by decide +kernel
theorem dX12_fault_0 : decode cX12_fault 0 = .ok (.aload_n 0, 1) := by decide +kernel
theorem dX12_fault_1 : decode cX12_fault 1 = .ok (.iconst 0, 1) := by decide +kernel
theorem dX12_fault_2 : decode cX12_fault 2 = .ok (.putfield 98, 3) := by decide +kernel
theorem dX12_fault_5 : decode cX12_fault 5 = .ok (.aload_n 0, 1) := by decide +kernel
theorem dX12_fault_6 : decode cX12_fault 6 = .ok (.getfield 9, 3) := by decide +kernel
theorem dX12_fault_9 : decode cX12_fault 9 = .ok (.ireturn, 1) := by decide +kernel
theorem dX12_willBy_0 : decode cX12_willBy 0 = .ok (.aload_n 0, 1) := by decide +kernel
theorem dX12_willBy_1 : decode cX12_willBy 1 = .ok (.getfield 55, 3) := by decide +kernel
theorem dX12_willBy_4 : decode cX12_willBy 4 = .ok (.iconst 0, 1) := by decide +kernel
theorem dX12_willBy_5 : decode cX12_willBy 5 = .ok (.iload_n 1, 1) := by decide +kernel
theorem dX12_willBy_6 : decode cX12_willBy 6 = .ok (.iastore, 1) := by decide +kernel
theorem dX12_willBy_7 : decode cX12_willBy 7 = .ok (.aload_n 0, 1) := by decide +kernel
theorem dX12_willBy_8 : decode cX12_willBy 8 = .ok (.getfield 55, 3) := by decide +kernel
theorem dX12_willBy_11 : decode cX12_willBy 11 = .ok (.iconst 1, 1) := by decide +kernel
theorem dX12_willBy_12 : decode cX12_willBy 12 = .ok (.iload_n 2, 1) := by decide +kernel
theorem dX12_willBy_13 : decode cX12_willBy 13 = .ok (.iastore, 1) := by decide +kernel
theorem dX12_willBy_14 : decode cX12_willBy 14 = .ok (.aload_n 0, 1) := by decide +kernel
theorem dX12_willBy_15 : decode cX12_willBy 15 = .ok (.getfield 55, 3) := by decide +kernel
theorem dX12_willBy_18 : decode cX12_willBy 18 = .ok (.iconst 2, 1) := by decide +kernel
theorem dX12_willBy_19 : decode cX12_willBy 19 = .ok (.iload_n 3, 1) := by decide +kernel
theorem dX12_willBy_20 : decode cX12_willBy 20 = .ok (.iastore, 1) := by decide +kernel
theorem dX12_willBy_21 : decode cX12_willBy 21 = .ok (.aload_n 0, 1) := by decide +kernel
theorem dX12_willBy_22 : decode cX12_willBy 22 = .ok (.getfield 55, 3) := by decide +kernel
theorem dX12_willBy_25 : decode cX12_willBy 25 = .ok (.iconst 3, 1) := by decide +kernel
theorem dX12_willBy_26 : decode cX12_willBy 26 = .ok (.iload 4, 2) := by decide +kernel
theorem dX12_willBy_28 : decode cX12_willBy 28 = .ok (.iastore, 1) := by decide +kernel
theorem dX12_willBy_29 : decode cX12_willBy 29 = .ok (.aload_n 0, 1) := by decide +kernel
theorem dX12_willBy_30 : decode cX12_willBy 30 = .ok (.getfield 55, 3) := by decide +kernel
theorem dX12_willBy_33 : decode cX12_willBy 33 = .ok (.iconst 4, 1) := by decide +kernel
theorem dX12_willBy_34 : decode cX12_willBy 34 = .ok (.iload 5, 2) := by decide +kernel
theorem dX12_willBy_36 : decode cX12_willBy 36 = .ok (.iastore, 1) := by decide +kernel
theorem dX12_willBy_37 : decode cX12_willBy 37 = .ok (.aload_n 0, 1) := by decide +kernel
theorem dX12_willBy_38 : decode cX12_willBy 38 = .ok (.getfield 55, 3) := by decide +kernel
theorem dX12_willBy_41 : decode cX12_willBy 41 = .ok (.iconst 5, 1) := by decide +kernel
theorem dX12_willBy_42 : decode cX12_willBy 42 = .ok (.iload 6, 2) := by decide +kernel
theorem dX12_willBy_44 : decode cX12_willBy 44 = .ok (.iastore, 1) := by decide +kernel
theorem dX12_willBy_45 : decode cX12_willBy 45 = .ok (.aload_n 0, 1) := by decide +kernel
theorem dX12_willBy_46 : decode cX12_willBy 46 = .ok (.getfield 55, 3) := by decide +kernel
theorem dX12_willBy_49 : decode cX12_willBy 49 = .ok (.bipush 6, 2) := by decide +kernel
theorem dX12_willBy_51 : decode cX12_willBy 51 = .ok (.iload 7, 2) := by decide +kernel
theorem dX12_willBy_53 : decode cX12_willBy 53 = .ok (.iastore, 1) := by decide +kernel
theorem dX12_willBy_54 : decode cX12_willBy 54 = .ok (.aload_n 0, 1) := by decide +kernel
theorem dX12_willBy_55 : decode cX12_willBy 55 = .ok (.getfield 55, 3) := by decide +kernel
theorem dX12_willBy_58 : decode cX12_willBy 58 = .ok (.bipush 7, 2) := by decide +kernel
theorem dX12_willBy_60 : decode cX12_willBy 60 = .ok (.iload 8, 2) := by decide +kernel
theorem dX12_willBy_62 : decode cX12_willBy 62 = .ok (.iastore, 1) := by decide +kernel
theorem dX12_willBy_63 : decode cX12_willBy 63 = .ok (.aload_n 0, 1) := by decide +kernel
theorem dX12_willBy_64 : decode cX12_willBy 64 = .ok (.invokevirtual 257, 3) := by decide +kernel
theorem dX12_willBy_67 : decode cX12_willBy 67 = .ok (.ireturn, 1) := by decide +kernel
theorem dX12_ones_0 : decode cX12_ones 0 = .ok (.iconst 0, 1) := by decide +kernel
theorem dX12_ones_1 : decode cX12_ones 1 = .ok (.istore_n 1, 1) := by decide +kernel
theorem dX12_ones_2 : decode cX12_ones 2 = .ok (.iconst 0, 1) := by decide +kernel
theorem dX12_ones_3 : decode cX12_ones 3 = .ok (.istore_n 2, 1) := by decide +kernel
theorem dX12_ones_4 : decode cX12_ones 4 = .ok (.iload_n 2, 1) := by decide +kernel
theorem dX12_ones_5 : decode cX12_ones 5 = .ok (.bipush 8, 2) := by decide +kernel
theorem dX12_ones_7 : decode cX12_ones 7 = .ok (.if_icmp .ge 17, 3) := by decide +kernel
theorem dX12_ones_10 : decode cX12_ones 10 = .ok (.iload_n 1, 1) := by decide +kernel
theorem dX12_ones_11 : decode cX12_ones 11 = .ok (.iload_n 0, 1) := by decide +kernel
theorem dX12_ones_12 : decode cX12_ones 12 = .ok (.iload_n 2, 1) := by decide +kernel
theorem dX12_ones_13 : decode cX12_ones 13 = .ok (.ishr, 1) := by decide +kernel
theorem dX12_ones_14 : decode cX12_ones 14 = .ok (.iconst 1, 1) := by decide +kernel
theorem dX12_ones_15 : decode cX12_ones 15 = .ok (.iand, 1) := by decide +kernel
theorem dX12_ones_16 : decode cX12_ones 16 = .ok (.iadd, 1) := by decide +kernel
theorem dX12_ones_17 : decode cX12_ones 17 = .ok (.istore_n 1, 1) := by decide +kernel
theorem dX12_ones_18 : decode cX12_ones 18 = .ok (.iinc 2 1, 3) := by decide +kernel
theorem dX12_ones_21 : decode cX12_ones 21 = .ok (.goto (-17), 3) := by decide +kernel
theorem dX12_ones_24 : decode cX12_ones 24 = .ok (.iload_n 1, 1) := by decide +kernel
theorem dX12_ones_25 : decode cX12_ones 25 = .ok (.ireturn, 1) := by decide +kernel
theorem dX12_stonesOf_0 : decode cX12_stonesOf 0 = .ok (.iconst 0, 1) := by decide +kernel
theorem dX12_stonesOf_1 : decode cX12_stonesOf 1 = .ok (.istore_n 3, 1) := by decide +kernel
theorem dX12_stonesOf_2 : decode cX12_stonesOf 2 = .ok (.iconst 0, 1) := by decide +kernel
theorem dX12_stonesOf_3 : decode cX12_stonesOf 3 = .ok (.istore 4, 2) := by decide +kernel
theorem dX12_stonesOf_5 : decode cX12_stonesOf 5 = .ok (.iload 4, 2) := by decide +kernel
theorem dX12_stonesOf_7 : decode cX12_stonesOf 7 = .ok (.aload_n 0, 1) := by decide +kernel
theorem dX12_stonesOf_8 : decode cX12_stonesOf 8 = .ok (.getfield 23, 3) := by decide +kernel
theorem dX12_stonesOf_11 : decode cX12_stonesOf 11 = .ok (.iconst 0, 1) := by decide +kernel
theorem dX12_stonesOf_12 : decode cX12_stonesOf 12 = .ok (.iaload, 1) := by decide +kernel
theorem dX12_stonesOf_13 : decode cX12_stonesOf 13 = .ok (.if_icmp .ge 31, 3) := by decide +kernel
theorem dX12_stonesOf_16 : decode cX12_stonesOf 16 = .ok (.iload_n 3, 1) := by decide +kernel
theorem dX12_stonesOf_17 : decode cX12_stonesOf 17 = .ok (.aload_n 1, 1) := by decide +kernel
theorem dX12_stonesOf_18 : decode cX12_stonesOf 18 = .ok (.bipush 8, 2) := by decide +kernel
theorem dX12_stonesOf_20 : decode cX12_stonesOf 20 = .ok (.iload 4, 2) := by decide +kernel
theorem dX12_stonesOf_22 : decode cX12_stonesOf 22 = .ok (.iadd, 1) := by decide +kernel
theorem dX12_stonesOf_23 : decode cX12_stonesOf 23 = .ok (.iaload, 1) := by decide +kernel
theorem dX12_stonesOf_24 : decode cX12_stonesOf 24 = .ok (.iload_n 2, 1) := by decide +kernel
theorem dX12_stonesOf_25 : decode cX12_stonesOf 25 = .ok (.if_icmp .ne 10, 3) := by decide +kernel
theorem dX12_stonesOf_28 : decode cX12_stonesOf 28 = .ok (.iconst 1, 1) := by decide +kernel
theorem dX12_stonesOf_29 : decode cX12_stonesOf 29 = .ok (.iload 4, 2) := by decide +kernel
theorem dX12_stonesOf_31 : decode cX12_stonesOf 31 = .ok (.ishl, 1) := by decide +kernel
theorem dX12_stonesOf_32 : decode cX12_stonesOf 32 = .ok (.goto 4, 3) := by decide +kernel
theorem dX12_stonesOf_35 : decode cX12_stonesOf 35 = .ok (.iconst 0, 1) := by decide +kernel
theorem dX12_stonesOf_36 : decode cX12_stonesOf 36 = .ok (.ior, 1) := by decide +kernel
theorem dX12_stonesOf_37 : decode cX12_stonesOf 37 = .ok (.istore_n 3, 1) := by decide +kernel
theorem dX12_stonesOf_38 : decode cX12_stonesOf 38 = .ok (.iinc 4 1, 3) := by decide +kernel
theorem dX12_stonesOf_41 : decode cX12_stonesOf 41 = .ok (.goto (-36), 3) := by decide +kernel
theorem dX12_stonesOf_44 : decode cX12_stonesOf 44 = .ok (.iload_n 3, 1) := by decide +kernel
theorem dX12_stonesOf_45 : decode cX12_stonesOf 45 = .ok (.ireturn, 1) := by decide +kernel
theorem dX12_stones_0 : decode cX12_stones 0 = .ok (.aload_n 0, 1) := by decide +kernel
theorem dX12_stones_1 : decode cX12_stones 1 = .ok (.aload_n 1, 1) := by decide +kernel
theorem dX12_stones_2 : decode cX12_stones 2 = .ok (.iload_n 2, 1) := by decide +kernel
theorem dX12_stones_3 : decode cX12_stones 3 = .ok (.invokevirtual 260, 3) := by decide +kernel
theorem dX12_stones_6 : decode cX12_stones 6 = .ok (.invokestatic 264, 3) := by decide +kernel
theorem dX12_stones_9 : decode cX12_stones 9 = .ok (.ireturn, 1) := by decide +kernel
theorem dX12_everybody_0 : decode cX12_everybody 0 = .ok (.iconst 1, 1) := by decide +kernel
theorem dX12_everybody_1 : decode cX12_everybody 1 = .ok (.aload_n 0, 1) := by decide +kernel
theorem dX12_everybody_2 : decode cX12_everybody 2 = .ok (.getfield 23, 3) := by decide +kernel
theorem dX12_everybody_5 : decode cX12_everybody 5 = .ok (.iconst 0, 1) := by decide +kernel
theorem dX12_everybody_6 : decode cX12_everybody 6 = .ok (.iaload, 1) := by decide +kernel
theorem dX12_everybody_7 : decode cX12_everybody 7 = .ok (.ishl, 1) := by decide +kernel
theorem dX12_everybody_8 : decode cX12_everybody 8 = .ok (.iconst 1, 1) := by decide +kernel
theorem dX12_everybody_9 : decode cX12_everybody 9 = .ok (.isub, 1) := by decide +kernel
theorem dX12_everybody_10 : decode cX12_everybody 10 = .ok (.ireturn, 1) := by decide +kernel
theorem dX12_willOf_0 : decode cX12_willOf 0 = .ok (.aload_n 0, 1) := by decide +kernel
theorem dX12_willOf_1 : decode cX12_willOf 1 = .ok (.aload_n 0, 1) := by decide +kernel
theorem dX12_willOf_2 : decode cX12_willOf 2 = .ok (.getfield 31, 3) := by decide +kernel
theorem dX12_willOf_5 : decode cX12_willOf 5 = .ok (.iload_n 2, 1) := by decide +kernel
theorem dX12_willOf_6 : decode cX12_willOf 6 = .ok (.aaload, 1) := by decide +kernel
theorem dX12_willOf_7 : decode cX12_willOf 7 = .ok (.iconst 0, 1) := by decide +kernel
theorem dX12_willOf_8 : decode cX12_willOf 8 = .ok (.iaload, 1) := by decide +kernel
theorem dX12_willOf_9 : decode cX12_willOf 9 = .ok (.aload_n 1, 1) := by decide +kernel
theorem dX12_willOf_10 : decode cX12_willOf 10 = .ok (.iconst 0, 1) := by decide +kernel
theorem dX12_willOf_11 : decode cX12_willOf 11 = .ok (.iload_n 2, 1) := by decide +kernel
theorem dX12_willOf_12 : decode cX12_willOf 12 = .ok (.iadd, 1) := by decide +kernel
theorem dX12_willOf_13 : decode cX12_willOf 13 = .ok (.iaload, 1) := by decide +kernel
theorem dX12_willOf_14 : decode cX12_willOf 14 = .ok (.aload_n 0, 1) := by decide +kernel
theorem dX12_willOf_15 : decode cX12_willOf 15 = .ok (.aload_n 1, 1) := by decide +kernel
theorem dX12_willOf_16 : decode cX12_willOf 16 = .ok (.iload_n 2, 1) := by decide +kernel
theorem dX12_willOf_17 : decode cX12_willOf 17 = .ok (.invokevirtual 267, 3) := by decide +kernel
theorem dX12_willOf_20 : decode cX12_willOf 20 = .ok (.aload_n 0, 1) := by decide +kernel
theorem dX12_willOf_21 : decode cX12_willOf 21 = .ok (.getfield 37, 3) := by decide +kernel
theorem dX12_willOf_24 : decode cX12_willOf 24 = .ok (.iload_n 2, 1) := by decide +kernel
theorem dX12_willOf_25 : decode cX12_willOf 25 = .ok (.iaload, 1) := by decide +kernel
theorem dX12_willOf_26 : decode cX12_willOf 26 = .ok (.iload_n 3, 1) := by decide +kernel
theorem dX12_willOf_27 : decode cX12_willOf 27 = .ok (.ishr, 1) := by decide +kernel
theorem dX12_willOf_28 : decode cX12_willOf 28 = .ok (.iconst 1, 1) := by decide +kernel
theorem dX12_willOf_29 : decode cX12_willOf 29 = .ok (.iand, 1) := by decide +kernel
theorem dX12_willOf_30 : decode cX12_willOf 30 = .ok (.aload_n 1, 1) := by decide +kernel
theorem dX12_willOf_31 : decode cX12_willOf 31 = .ok (.iconst 0, 1) := by decide +kernel
theorem dX12_willOf_32 : decode cX12_willOf 32 = .ok (.iload_n 3, 1) := by decide +kernel
theorem dX12_willOf_33 : decode cX12_willOf 33 = .ok (.iadd, 1) := by decide +kernel
theorem dX12_willOf_34 : decode cX12_willOf 34 = .ok (.iaload, 1) := by decide +kernel
theorem dX12_willOf_35 : decode cX12_willOf 35 = .ok (.aload_n 0, 1) := by decide +kernel
theorem dX12_willOf_36 : decode cX12_willOf 36 = .ok (.getfield 23, 3) := by decide +kernel
theorem dX12_willOf_39 : decode cX12_willOf 39 = .ok (.iconst 0, 1) := by decide +kernel
theorem dX12_willOf_40 : decode cX12_willOf 40 = .ok (.iaload, 1) := by decide +kernel
theorem dX12_willOf_41 : decode cX12_willOf 41 = .ok (.aload_n 1, 1) := by decide +kernel
theorem dX12_willOf_42 : decode cX12_willOf 42 = .ok (.bipush 24, 2) := by decide +kernel
theorem dX12_willOf_44 : decode cX12_willOf 44 = .ok (.iaload, 1) := by decide +kernel
theorem dX12_willOf_45 : decode cX12_willOf 45 = .ok (.invokestatic 264, 3) := by decide +kernel
theorem dX12_willOf_48 : decode cX12_willOf 48 = .ok (.isub, 1) := by decide +kernel
theorem dX12_willOf_49 : decode cX12_willOf 49 = .ok (.aload_n 1, 1) := by decide +kernel
theorem dX12_willOf_50 : decode cX12_willOf 50 = .ok (.bipush 25, 2) := by decide +kernel
theorem dX12_willOf_52 : decode cX12_willOf 52 = .ok (.iaload, 1) := by decide +kernel
theorem dX12_willOf_53 : decode cX12_willOf 53 = .ok (.iload_n 2, 1) := by decide +kernel
theorem dX12_willOf_54 : decode cX12_willOf 54 = .ok (.invokevirtual 270, 3) := by decide +kernel
theorem dX12_willOf_57 : decode cX12_willOf 57 = .ok (.ireturn, 1) := by decide +kernel
theorem dX12_isLent_0 : decode cX12_isLent 0 = .ok (.aload_n 1, 1) := by decide +kernel
theorem dX12_isLent_1 : decode cX12_isLent 1 = .ok (.bipush 24, 2) := by decide +kernel
theorem dX12_isLent_3 : decode cX12_isLent 3 = .ok (.iaload, 1) := by decide +kernel
theorem dX12_isLent_4 : decode cX12_isLent 4 = .ok (.iload_n 2, 1) := by decide +kernel
theorem dX12_isLent_5 : decode cX12_isLent 5 = .ok (.invokestatic 253, 3) := by decide +kernel
theorem dX12_isLent_8 : decode cX12_isLent 8 = .ok (.ifCond .eq 39, 3) := by decide +kernel
theorem dX12_isLent_11 : decode cX12_isLent 11 = .ok (.iload_n 2, 1) := by decide +kernel
theorem dX12_isLent_12 : decode cX12_isLent 12 = .ok (.iload_n 3, 1) := by decide +kernel
theorem dX12_isLent_13 : decode cX12_isLent 13 = .ok (.if_icmp .eq 34, 3) := by decide +kernel
theorem dX12_isLent_16 : decode cX12_isLent 16 = .ok (.aload_n 0, 1) := by decide +kernel
theorem dX12_isLent_17 : decode cX12_isLent 17 = .ok (.aload_n 1, 1) := by decide +kernel
theorem dX12_isLent_18 : decode cX12_isLent 18 = .ok (.iload_n 2, 1) := by decide +kernel
theorem dX12_isLent_19 : decode cX12_isLent 19 = .ok (.invokevirtual 267, 3) := by decide +kernel
theorem dX12_isLent_22 : decode cX12_isLent 22 = .ok (.aload_n 0, 1) := by decide +kernel
theorem dX12_isLent_23 : decode cX12_isLent 23 = .ok (.getfield 23, 3) := by decide +kernel
theorem dX12_isLent_26 : decode cX12_isLent 26 = .ok (.iconst 1, 1) := by decide +kernel
theorem dX12_isLent_27 : decode cX12_isLent 27 = .ok (.iaload, 1) := by decide +kernel
theorem dX12_isLent_28 : decode cX12_isLent 28 = .ok (.if_icmp .ge 19, 3) := by decide +kernel
theorem dX12_isLent_31 : decode cX12_isLent 31 = .ok (.aload_n 0, 1) := by decide +kernel
theorem dX12_isLent_32 : decode cX12_isLent 32 = .ok (.aload_n 1, 1) := by decide +kernel
theorem dX12_isLent_33 : decode cX12_isLent 33 = .ok (.iload_n 2, 1) := by decide +kernel
theorem dX12_isLent_34 : decode cX12_isLent 34 = .ok (.iload_n 3, 1) := by decide +kernel
theorem dX12_isLent_35 : decode cX12_isLent 35 = .ok (.invokevirtual 274, 3) := by decide +kernel
theorem dX12_isLent_38 : decode cX12_isLent 38 = .ok (.bipush 10, 2) := by decide +kernel
theorem dX12_isLent_40 : decode cX12_isLent 40 = .ok (.if_icmp .lt 7, 3) := by decide +kernel
theorem dX12_isLent_43 : decode cX12_isLent 43 = .ok (.iconst 1, 1) := by decide +kernel
theorem dX12_isLent_44 : decode cX12_isLent 44 = .ok (.goto 4, 3) := by decide +kernel
theorem dX12_isLent_47 : decode cX12_isLent 47 = .ok (.iconst 0, 1) := by decide +kernel
theorem dX12_isLent_48 : decode cX12_isLent 48 = .ok (.ireturn, 1) := by decide +kernel
theorem dX12_lenderOf_0 : decode cX12_lenderOf 0 = .ok (.iconst (-1), 1) := by decide +kernel
theorem dX12_lenderOf_1 : decode cX12_lenderOf 1 = .ok (.istore_n 3, 1) := by decide +kernel
theorem dX12_lenderOf_2 : decode cX12_lenderOf 2 = .ok (.iconst (-1), 1) := by decide +kernel
theorem dX12_lenderOf_3 : decode cX12_lenderOf 3 = .ok (.istore 4, 2) := by decide +kernel
theorem dX12_lenderOf_5 : decode cX12_lenderOf 5 = .ok (.iconst 0, 1) := by decide +kernel
theorem dX12_lenderOf_6 : decode cX12_lenderOf 6 = .ok (.istore 5, 2) := by decide +kernel
theorem dX12_lenderOf_8 : decode cX12_lenderOf 8 = .ok (.iload 5, 2) := by decide +kernel
theorem dX12_lenderOf_10 : decode cX12_lenderOf 10 = .ok (.aload_n 0, 1) := by decide +kernel
theorem dX12_lenderOf_11 : decode cX12_lenderOf 11 = .ok (.getfield 23, 3) := by decide +kernel
theorem dX12_lenderOf_14 : decode cX12_lenderOf 14 = .ok (.iconst 0, 1) := by decide +kernel
theorem dX12_lenderOf_15 : decode cX12_lenderOf 15 = .ok (.iaload, 1) := by decide +kernel
theorem dX12_lenderOf_16 : decode cX12_lenderOf 16 = .ok (.if_icmp .ge 49, 3) := by decide +kernel
theorem dX12_lenderOf_19 : decode cX12_lenderOf 19 = .ok (.aload_n 0, 1) := by decide +kernel
theorem dX12_lenderOf_20 : decode cX12_lenderOf 20 = .ok (.aload_n 1, 1) := by decide +kernel
theorem dX12_lenderOf_21 : decode cX12_lenderOf 21 = .ok (.iload 5, 2) := by decide +kernel
theorem dX12_lenderOf_23 : decode cX12_lenderOf 23 = .ok (.iload_n 2, 1) := by decide +kernel
theorem dX12_lenderOf_24 : decode cX12_lenderOf 24 = .ok (.invokevirtual 278, 3) := by decide +kernel
theorem dX12_lenderOf_27 : decode cX12_lenderOf 27 = .ok (.ifCond .eq 32, 3) := by decide +kernel
theorem dX12_lenderOf_30 : decode cX12_lenderOf 30 = .ok (.aload_n 0, 1) := by decide +kernel
theorem dX12_lenderOf_31 : decode cX12_lenderOf 31 = .ok (.aload_n 1, 1) := by decide +kernel
theorem dX12_lenderOf_32 : decode cX12_lenderOf 32 = .ok (.iload 5, 2) := by decide +kernel
theorem dX12_lenderOf_34 : decode cX12_lenderOf 34 = .ok (.iload_n 2, 1) := by decide +kernel
theorem dX12_lenderOf_35 : decode cX12_lenderOf 35 = .ok (.invokevirtual 274, 3) := by decide +kernel
theorem dX12_lenderOf_38 : decode cX12_lenderOf 38 = .ok (.iload 4, 2) := by decide +kernel
theorem dX12_lenderOf_40 : decode cX12_lenderOf 40 = .ok (.if_icmp .gt 6, 3) := by decide +kernel
theorem dX12_lenderOf_43 : decode cX12_lenderOf 43 = .ok (.goto 16, 3) := by decide +kernel
theorem dX12_lenderOf_46 : decode cX12_lenderOf 46 = .ok (.iload 5, 2) := by decide +kernel
theorem dX12_lenderOf_48 : decode cX12_lenderOf 48 = .ok (.istore_n 3, 1) := by decide +kernel
theorem dX12_lenderOf_49 : decode cX12_lenderOf 49 = .ok (.aload_n 0, 1) := by decide +kernel
theorem dX12_lenderOf_50 : decode cX12_lenderOf 50 = .ok (.aload_n 1, 1) := by decide +kernel
theorem dX12_lenderOf_51 : decode cX12_lenderOf 51 = .ok (.iload 5, 2) := by decide +kernel
theorem dX12_lenderOf_53 : decode cX12_lenderOf 53 = .ok (.iload_n 2, 1) := by decide +kernel
theorem dX12_lenderOf_54 : decode cX12_lenderOf 54 = .ok (.invokevirtual 274, 3) := by decide +kernel
theorem dX12_lenderOf_57 : decode cX12_lenderOf 57 = .ok (.istore 4, 2) := by decide +kernel
theorem dX12_lenderOf_59 : decode cX12_lenderOf 59 = .ok (.iinc 5 1, 3) := by decide +kernel
theorem dX12_lenderOf_62 : decode cX12_lenderOf 62 = .ok (.goto (-54), 3) := by decide +kernel
theorem dX12_lenderOf_65 : decode cX12_lenderOf 65 = .ok (.iload_n 3, 1) := by decide +kernel
theorem dX12_lenderOf_66 : decode cX12_lenderOf 66 = .ok (.ireturn, 1) := by decide +kernel
theorem dX12_lies_0 : decode cX12_lies 0 = .ok (.aload_n 0, 1) := by decide +kernel
theorem dX12_lies_1 : decode cX12_lies 1 = .ok (.bipush 8, 2) := by decide +kernel
theorem dX12_lies_3 : decode cX12_lies 3 = .ok (.iload_n 1, 1) := by decide +kernel
theorem dX12_lies_4 : decode cX12_lies 4 = .ok (.iadd, 1) := by decide +kernel
theorem dX12_lies_5 : decode cX12_lies 5 = .ok (.iload_n 2, 1) := by decide +kernel
theorem dX12_lies_6 : decode cX12_lies 6 = .ok (.iastore, 1) := by decide +kernel
theorem dX12_lies_7 : decode cX12_lies 7 = .ok (.aload_n 0, 1) := by decide +kernel
theorem dX12_lies_8 : decode cX12_lies 8 = .ok (.iconst 0, 1) := by decide +kernel
theorem dX12_lies_9 : decode cX12_lies 9 = .ok (.iload_n 2, 1) := by decide +kernel
theorem dX12_lies_10 : decode cX12_lies 10 = .ok (.iadd, 1) := by decide +kernel
theorem dX12_lies_11 : decode cX12_lies 11 = .ok (.sipush 999, 3) := by decide +kernel
theorem dX12_lies_14 : decode cX12_lies 14 = .ok (.aload_n 0, 1) := by decide +kernel
theorem dX12_lies_15 : decode cX12_lies 15 = .ok (.iconst 0, 1) := by decide +kernel
theorem dX12_lies_16 : decode cX12_lies 16 = .ok (.iload_n 2, 1) := by decide +kernel
theorem dX12_lies_17 : decode cX12_lies 17 = .ok (.iadd, 1) := by decide +kernel
theorem dX12_lies_18 : decode cX12_lies 18 = .ok (.iaload, 1) := by decide +kernel
theorem dX12_lies_19 : decode cX12_lies 19 = .ok (.aload_n 0, 1) := by decide +kernel
theorem dX12_lies_20 : decode cX12_lies 20 = .ok (.iconst 0, 1) := by decide +kernel
theorem dX12_lies_21 : decode cX12_lies 21 = .ok (.iload_n 1, 1) := by decide +kernel
theorem dX12_lies_22 : decode cX12_lies 22 = .ok (.iadd, 1) := by decide +kernel
theorem dX12_lies_23 : decode cX12_lies 23 = .ok (.iaload, 1) := by decide +kernel
theorem dX12_lies_24 : decode cX12_lies 24 = .ok (.iadd, 1) := by decide +kernel
theorem dX12_lies_25 : decode cX12_lies 25 = .ok (.invokestatic 234, 3) := by decide +kernel
theorem dX12_lies_28 : decode cX12_lies 28 = .ok (.iastore, 1) := by decide +kernel
theorem dX12_lies_29 : decode cX12_lies 29 = .ok (.aload_n 0, 1) := by decide +kernel
theorem dX12_lies_30 : decode cX12_lies 30 = .ok (.iconst 0, 1) := by decide +kernel
theorem dX12_lies_31 : decode cX12_lies 31 = .ok (.iload_n 1, 1) := by decide +kernel
theorem dX12_lies_32 : decode cX12_lies 32 = .ok (.iadd, 1) := by decide +kernel
theorem dX12_lies_33 : decode cX12_lies 33 = .ok (.iconst 0, 1) := by decide +kernel
theorem dX12_lies_34 : decode cX12_lies 34 = .ok (.iastore, 1) := by decide +kernel
theorem dX12_lies_35 : decode cX12_lies 35 = .ok (.return_, 1) := by decide +kernel
theorem dX12_dies_0 : decode cX12_dies 0 = .ok (.aload_n 1, 1) := by decide +kernel
theorem dX12_dies_1 : decode cX12_dies 1 = .ok (.bipush 24, 2) := by decide +kernel
theorem dX12_dies_3 : decode cX12_dies 3 = .ok (.iaload, 1) := by decide +kernel
theorem dX12_dies_4 : decode cX12_dies 4 = .ok (.iload_n 2, 1) := by decide +kernel
theorem dX12_dies_5 : decode cX12_dies 5 = .ok (.invokestatic 253, 3) := by decide +kernel
theorem dX12_dies_8 : decode cX12_dies 8 = .ok (.ifCond .ne 5, 3) := by decide +kernel
theorem dX12_dies_11 : decode cX12_dies 11 = .ok (.iconst 0, 1) := by decide +kernel
theorem dX12_dies_12 : decode cX12_dies 12 = .ok (.ireturn, 1) := by decide +kernel
theorem dX12_dies_13 : decode cX12_dies 13 = .ok (.aload_n 1, 1) := by decide +kernel
theorem dX12_dies_14 : decode cX12_dies 14 = .ok (.bipush 24, 2) := by decide +kernel
theorem dX12_dies_16 : decode cX12_dies 16 = .ok (.dup2, 1) := by decide +kernel
theorem dX12_dies_17 : decode cX12_dies 17 = .ok (.iaload, 1) := by decide +kernel
theorem dX12_dies_18 : decode cX12_dies 18 = .ok (.iconst 1, 1) := by decide +kernel
theorem dX12_dies_19 : decode cX12_dies 19 = .ok (.iload_n 2, 1) := by decide +kernel
theorem dX12_dies_20 : decode cX12_dies 20 = .ok (.ishl, 1) := by decide +kernel
theorem dX12_dies_21 : decode cX12_dies 21 = .ok (.iconst (-1), 1) := by decide +kernel
theorem dX12_dies_22 : decode cX12_dies 22 = .ok (.ixor, 1) := by decide +kernel
theorem dX12_dies_23 : decode cX12_dies 23 = .ok (.iand, 1) := by decide +kernel
theorem dX12_dies_24 : decode cX12_dies 24 = .ok (.iastore, 1) := by decide +kernel
theorem dX12_dies_25 : decode cX12_dies 25 = .ok (.aload_n 1, 1) := by decide +kernel
theorem dX12_dies_26 : decode cX12_dies 26 = .ok (.bipush 16, 2) := by decide +kernel
theorem dX12_dies_28 : decode cX12_dies 28 = .ok (.iload_n 2, 1) := by decide +kernel
theorem dX12_dies_29 : decode cX12_dies 29 = .ok (.iadd, 1) := by decide +kernel
theorem dX12_dies_30 : decode cX12_dies 30 = .ok (.aload_n 1, 1) := by decide +kernel
theorem dX12_dies_31 : decode cX12_dies 31 = .ok (.bipush 25, 2) := by decide +kernel
theorem dX12_dies_33 : decode cX12_dies 33 = .ok (.iaload, 1) := by decide +kernel
theorem dX12_dies_34 : decode cX12_dies 34 = .ok (.iastore, 1) := by decide +kernel
theorem dX12_dies_35 : decode cX12_dies 35 = .ok (.aload_n 0, 1) := by decide +kernel
theorem dX12_dies_36 : decode cX12_dies 36 = .ok (.aload_n 1, 1) := by decide +kernel
theorem dX12_dies_37 : decode cX12_dies 37 = .ok (.iload_n 2, 1) := by decide +kernel
theorem dX12_dies_38 : decode cX12_dies 38 = .ok (.invokevirtual 282, 3) := by decide +kernel
theorem dX12_dies_41 : decode cX12_dies 41 = .ok (.istore_n 3, 1) := by decide +kernel
theorem dX12_dies_42 : decode cX12_dies 42 = .ok (.iload_n 3, 1) := by decide +kernel
theorem dX12_dies_43 : decode cX12_dies 43 = .ok (.iconst (-1), 1) := by decide +kernel
theorem dX12_dies_44 : decode cX12_dies 44 = .ok (.if_icmp .eq 9, 3) := by decide +kernel
theorem dX12_dies_47 : decode cX12_dies 47 = .ok (.aload_n 1, 1) := by decide +kernel
theorem dX12_dies_48 : decode cX12_dies 48 = .ok (.iload_n 2, 1) := by decide +kernel
theorem dX12_dies_49 : decode cX12_dies 49 = .ok (.iload_n 3, 1) := by decide +kernel
theorem dX12_dies_50 : decode cX12_dies 50 = .ok (.invokestatic 285, 3) := by decide +kernel
theorem dX12_dies_53 : decode cX12_dies 53 = .ok (.iconst 1, 1) := by decide +kernel
theorem dX12_dies_54 : decode cX12_dies 54 = .ok (.ireturn, 1) := by decide +kernel
theorem dX12_lendsLate_0 : decode cX12_lendsLate 0 = .ok (.aload_n 1, 1) := by decide +kernel
theorem dX12_lendsLate_1 : decode cX12_lendsLate 1 = .ok (.bipush 24, 2) := by decide +kernel
theorem dX12_lendsLate_3 : decode cX12_lendsLate 3 = .ok (.iaload, 1) := by decide +kernel
theorem dX12_lendsLate_4 : decode cX12_lendsLate 4 = .ok (.iload_n 3, 1) := by decide +kernel
theorem dX12_lendsLate_5 : decode cX12_lendsLate 5 = .ok (.invokestatic 253, 3) := by decide +kernel
theorem dX12_lendsLate_8 : decode cX12_lendsLate 8 = .ok (.ifCond .ne 23, 3) := by decide +kernel
theorem dX12_lendsLate_11 : decode cX12_lendsLate 11 = .ok (.aload_n 1, 1) := by decide +kernel
theorem dX12_lendsLate_12 : decode cX12_lendsLate 12 = .ok (.bipush 8, 2) := by decide +kernel
theorem dX12_lendsLate_14 : decode cX12_lendsLate 14 = .ok (.iload_n 3, 1) := by decide +kernel
theorem dX12_lendsLate_15 : decode cX12_lendsLate 15 = .ok (.iadd, 1) := by decide +kernel
theorem dX12_lendsLate_16 : decode cX12_lendsLate 16 = .ok (.iaload, 1) := by decide +kernel
theorem dX12_lendsLate_17 : decode cX12_lendsLate 17 = .ok (.iconst (-1), 1) := by decide +kernel
theorem dX12_lendsLate_18 : decode cX12_lendsLate 18 = .ok (.if_icmp .ne 13, 3) := by decide +kernel
theorem dX12_lendsLate_21 : decode cX12_lendsLate 21 = .ok (.aload_n 0, 1) := by decide +kernel
theorem dX12_lendsLate_22 : decode cX12_lendsLate 22 = .ok (.aload_n 1, 1) := by decide +kernel
theorem dX12_lendsLate_23 : decode cX12_lendsLate 23 = .ok (.iload_n 2, 1) := by decide +kernel
theorem dX12_lendsLate_24 : decode cX12_lendsLate 24 = .ok (.iload_n 3, 1) := by decide +kernel
theorem dX12_lendsLate_25 : decode cX12_lendsLate 25 = .ok (.invokevirtual 278, 3) := by decide +kernel
theorem dX12_lendsLate_28 : decode cX12_lendsLate 28 = .ok (.ifCond .ne 5, 3) := by decide +kernel
theorem dX12_lendsLate_31 : decode cX12_lendsLate 31 = .ok (.iconst 0, 1) := by decide +kernel
theorem dX12_lendsLate_32 : decode cX12_lendsLate 32 = .ok (.ireturn, 1) := by decide +kernel
theorem dX12_lendsLate_33 : decode cX12_lendsLate 33 = .ok (.aload_n 1, 1) := by decide +kernel
theorem dX12_lendsLate_34 : decode cX12_lendsLate 34 = .ok (.iload_n 3, 1) := by decide +kernel
theorem dX12_lendsLate_35 : decode cX12_lendsLate 35 = .ok (.iload_n 2, 1) := by decide +kernel
theorem dX12_lendsLate_36 : decode cX12_lendsLate 36 = .ok (.invokestatic 285, 3) := by decide +kernel
theorem dX12_lendsLate_39 : decode cX12_lendsLate 39 = .ok (.iconst 1, 1) := by decide +kernel
theorem dX12_lendsLate_40 : decode cX12_lendsLate 40 = .ok (.ireturn, 1) := by decide +kernel
theorem dX12_becomes_0 : decode cX12_becomes 0 = .ok (.aload_n 0, 1) := by decide +kernel
theorem dX12_becomes_1 : decode cX12_becomes 1 = .ok (.iload_n 1, 1) := by decide +kernel
theorem dX12_becomes_2 : decode cX12_becomes 2 = .ok (.iaload, 1) := by decide +kernel
theorem dX12_becomes_3 : decode cX12_becomes 3 = .ok (.iload_n 2, 1) := by decide +kernel
theorem dX12_becomes_4 : decode cX12_becomes 4 = .ok (.if_icmp .ne 5, 3) := by decide +kernel
theorem dX12_becomes_7 : decode cX12_becomes 7 = .ok (.iconst 0, 1) := by decide +kernel
theorem dX12_becomes_8 : decode cX12_becomes 8 = .ok (.ireturn, 1) := by decide +kernel
theorem dX12_becomes_9 : decode cX12_becomes 9 = .ok (.aload_n 0, 1) := by decide +kernel
theorem dX12_becomes_10 : decode cX12_becomes 10 = .ok (.iload_n 1, 1) := by decide +kernel
theorem dX12_becomes_11 : decode cX12_becomes 11 = .ok (.iload_n 2, 1) := by decide +kernel
theorem dX12_becomes_12 : decode cX12_becomes 12 = .ok (.iastore, 1) := by decide +kernel
theorem dX12_becomes_13 : decode cX12_becomes 13 = .ok (.iconst 1, 1) := by decide +kernel
theorem dX12_becomes_14 : decode cX12_becomes 14 = .ok (.ireturn, 1) := by decide +kernel
theorem dX12_yearEnds_0 : decode cX12_yearEnds 0 = .ok (.iconst 0, 1) := by decide +kernel
theorem dX12_yearEnds_1 : decode cX12_yearEnds 1 = .ok (.istore_n 2, 1) := by decide +kernel
theorem dX12_yearEnds_2 : decode cX12_yearEnds 2 = .ok (.iload_n 2, 1) := by decide +kernel
theorem dX12_yearEnds_3 : decode cX12_yearEnds 3 = .ok (.aload_n 0, 1) := by decide +kernel
theorem dX12_yearEnds_4 : decode cX12_yearEnds 4 = .ok (.getfield 23, 3) := by decide +kernel
theorem dX12_yearEnds_7 : decode cX12_yearEnds 7 = .ok (.iconst 0, 1) := by decide +kernel
theorem dX12_yearEnds_8 : decode cX12_yearEnds 8 = .ok (.iaload, 1) := by decide +kernel
theorem dX12_yearEnds_9 : decode cX12_yearEnds 9 = .ok (.if_icmp .ge 50, 3) := by decide +kernel
theorem dX12_yearEnds_12 : decode cX12_yearEnds 12 = .ok (.aload_n 1, 1) := by decide +kernel
theorem dX12_yearEnds_13 : decode cX12_yearEnds 13 = .ok (.iconst 0, 1) := by decide +kernel
theorem dX12_yearEnds_14 : decode cX12_yearEnds 14 = .ok (.iload_n 2, 1) := by decide +kernel
theorem dX12_yearEnds_15 : decode cX12_yearEnds 15 = .ok (.iadd, 1) := by decide +kernel
theorem dX12_yearEnds_16 : decode cX12_yearEnds 16 = .ok (.dup2, 1) := by decide +kernel
theorem dX12_yearEnds_17 : decode cX12_yearEnds 17 = .ok (.iaload, 1) := by decide +kernel
theorem dX12_yearEnds_18 : decode cX12_yearEnds 18 = .ok (.aload_n 1, 1) := by decide +kernel
theorem dX12_yearEnds_19 : decode cX12_yearEnds 19 = .ok (.bipush 24, 2) := by decide +kernel
theorem dX12_yearEnds_21 : decode cX12_yearEnds 21 = .ok (.iaload, 1) := by decide +kernel
theorem dX12_yearEnds_22 : decode cX12_yearEnds 22 = .ok (.iload_n 2, 1) := by decide +kernel
theorem dX12_yearEnds_23 : decode cX12_yearEnds 23 = .ok (.invokestatic 253, 3) := by decide +kernel
theorem dX12_yearEnds_26 : decode cX12_yearEnds 26 = .ok (.ifCond .eq 24, 3) := by decide +kernel
theorem dX12_yearEnds_29 : decode cX12_yearEnds 29 = .ok (.sipush 999, 3) := by decide +kernel
theorem dX12_yearEnds_32 : decode cX12_yearEnds 32 = .ok (.aload_n 1, 1) := by decide +kernel
theorem dX12_yearEnds_33 : decode cX12_yearEnds 33 = .ok (.iconst 0, 1) := by decide +kernel
theorem dX12_yearEnds_34 : decode cX12_yearEnds 34 = .ok (.iload_n 2, 1) := by decide +kernel
theorem dX12_yearEnds_35 : decode cX12_yearEnds 35 = .ok (.iadd, 1) := by decide +kernel
theorem dX12_yearEnds_36 : decode cX12_yearEnds 36 = .ok (.iaload, 1) := by decide +kernel
theorem dX12_yearEnds_37 : decode cX12_yearEnds 37 = .ok (.isub, 1) := by decide +kernel
theorem dX12_yearEnds_38 : decode cX12_yearEnds 38 = .ok (.aload_n 0, 1) := by decide +kernel
theorem dX12_yearEnds_39 : decode cX12_yearEnds 39 = .ok (.aload_n 1, 1) := by decide +kernel
theorem dX12_yearEnds_40 : decode cX12_yearEnds 40 = .ok (.iload_n 2, 1) := by decide +kernel
theorem dX12_yearEnds_41 : decode cX12_yearEnds 41 = .ok (.invokevirtual 267, 3) := by decide +kernel
theorem dX12_yearEnds_44 : decode cX12_yearEnds 44 = .ok (.invokestatic 234, 3) := by decide +kernel
theorem dX12_yearEnds_47 : decode cX12_yearEnds 47 = .ok (.goto 4, 3) := by decide +kernel
theorem dX12_yearEnds_50 : decode cX12_yearEnds 50 = .ok (.iconst 0, 1) := by decide +kernel
theorem dX12_yearEnds_51 : decode cX12_yearEnds 51 = .ok (.iadd, 1) := by decide +kernel
theorem dX12_yearEnds_52 : decode cX12_yearEnds 52 = .ok (.iastore, 1) := by decide +kernel
theorem dX12_yearEnds_53 : decode cX12_yearEnds 53 = .ok (.iinc 2 1, 3) := by decide +kernel
theorem dX12_yearEnds_56 : decode cX12_yearEnds 56 = .ok (.goto (-54), 3) := by decide +kernel
theorem dX12_yearEnds_59 : decode cX12_yearEnds 59 = .ok (.aload_n 1, 1) := by decide +kernel
theorem dX12_yearEnds_60 : decode cX12_yearEnds 60 = .ok (.bipush 25, 2) := by decide +kernel
theorem dX12_yearEnds_62 : decode cX12_yearEnds 62 = .ok (.dup2, 1) := by decide +kernel
theorem dX12_yearEnds_63 : decode cX12_yearEnds 63 = .ok (.iaload, 1) := by decide +kernel
theorem dX12_yearEnds_64 : decode cX12_yearEnds 64 = .ok (.iconst 1, 1) := by decide +kernel
theorem dX12_yearEnds_65 : decode cX12_yearEnds 65 = .ok (.iadd, 1) := by decide +kernel
theorem dX12_yearEnds_66 : decode cX12_yearEnds 66 = .ok (.iastore, 1) := by decide +kernel
theorem dX12_yearEnds_67 : decode cX12_yearEnds 67 = .ok (.return_, 1) := by decide +kernel
theorem dX12_does_0 : decode cX12_does 0 = .ok (.aload_n 2, 1) := by decide +kernel
theorem dX12_does_1 : decode cX12_does 1 = .ok (.iconst 1, 1) := by decide +kernel
theorem dX12_does_2 : decode cX12_does 2 = .ok (.iaload, 1) := by decide +kernel
theorem dX12_does_3 : decode cX12_does 3 = .ok (.istore_n 3, 1) := by decide +kernel
theorem dX12_does_4 : decode cX12_does 4 = .ok (.aload_n 2, 1) := by decide +kernel
theorem dX12_does_5 : decode cX12_does 5 = .ok (.iconst 0, 1) := by decide +kernel
theorem dX12_does_6 : decode cX12_does 6 = .ok (.iaload, 1) := by decide +kernel
theorem dX12_does_7 : decode cX12_does 7 = .ok (.tableswitch 109 0 3 #[29, 36, 46, 67], 29) := by decide +kernel
theorem dX12_does_36 : decode cX12_does 36 = .ok (.aload_n 0, 1) := by decide +kernel
theorem dX12_does_37 : decode cX12_does 37 = .ok (.aload_n 1, 1) := by decide +kernel
theorem dX12_does_38 : decode cX12_does 38 = .ok (.iload_n 3, 1) := by decide +kernel
theorem dX12_does_39 : decode cX12_does 39 = .ok (.invokevirtual 289, 3) := by decide +kernel
theorem dX12_does_42 : decode cX12_does 42 = .ok (.ireturn, 1) := by decide +kernel
theorem dX12_does_43 : decode cX12_does 43 = .ok (.aload_n 0, 1) := by decide +kernel
theorem dX12_does_44 : decode cX12_does 44 = .ok (.aload_n 1, 1) := by decide +kernel
theorem dX12_does_45 : decode cX12_does 45 = .ok (.iload_n 3, 1) := by decide +kernel
theorem dX12_does_46 : decode cX12_does 46 = .ok (.aload_n 2, 1) := by decide +kernel
theorem dX12_does_47 : decode cX12_does 47 = .ok (.iconst 2, 1) := by decide +kernel
theorem dX12_does_48 : decode cX12_does 48 = .ok (.iaload, 1) := by decide +kernel
theorem dX12_does_49 : decode cX12_does 49 = .ok (.invokevirtual 293, 3) := by decide +kernel
theorem dX12_does_52 : decode cX12_does 52 = .ok (.ireturn, 1) := by decide +kernel
theorem dX12_does_53 : decode cX12_does 53 = .ok (.aload_n 1, 1) := by decide +kernel
theorem dX12_does_54 : decode cX12_does 54 = .ok (.iconst 0, 1) := by decide +kernel
theorem dX12_does_55 : decode cX12_does 55 = .ok (.iload_n 3, 1) := by decide +kernel
theorem dX12_does_56 : decode cX12_does 56 = .ok (.iadd, 1) := by decide +kernel
theorem dX12_does_57 : decode cX12_does 57 = .ok (.iconst 0, 1) := by decide +kernel
theorem dX12_does_58 : decode cX12_does 58 = .ok (.aload_n 1, 1) := by decide +kernel
theorem dX12_does_59 : decode cX12_does 59 = .ok (.iconst 0, 1) := by decide +kernel
theorem dX12_does_60 : decode cX12_does 60 = .ok (.iload_n 3, 1) := by decide +kernel
theorem dX12_does_61 : decode cX12_does 61 = .ok (.iadd, 1) := by decide +kernel
theorem dX12_does_62 : decode cX12_does 62 = .ok (.iaload, 1) := by decide +kernel
theorem dX12_does_63 : decode cX12_does 63 = .ok (.aload_n 2, 1) := by decide +kernel
theorem dX12_does_64 : decode cX12_does 64 = .ok (.iconst 2, 1) := by decide +kernel
theorem dX12_does_65 : decode cX12_does 65 = .ok (.iaload, 1) := by decide +kernel
theorem dX12_does_66 : decode cX12_does 66 = .ok (.isub, 1) := by decide +kernel
theorem dX12_does_67 : decode cX12_does 67 = .ok (.invokestatic 237, 3) := by decide +kernel
theorem dX12_does_70 : decode cX12_does 70 = .ok (.invokestatic 296, 3) := by decide +kernel
theorem dX12_does_73 : decode cX12_does 73 = .ok (.ireturn, 1) := by decide +kernel
theorem dX12_does_74 : decode cX12_does 74 = .ok (.aload_n 1, 1) := by decide +kernel
theorem dX12_does_75 : decode cX12_does 75 = .ok (.bipush 24, 2) := by decide +kernel
theorem dX12_does_77 : decode cX12_does 77 = .ok (.iaload, 1) := by decide +kernel
theorem dX12_does_78 : decode cX12_does 78 = .ok (.iload_n 3, 1) := by decide +kernel
theorem dX12_does_79 : decode cX12_does 79 = .ok (.invokestatic 253, 3) := by decide +kernel
theorem dX12_does_82 : decode cX12_does 82 = .ok (.ifCond .eq 32, 3) := by decide +kernel
theorem dX12_does_85 : decode cX12_does 85 = .ok (.aload_n 1, 1) := by decide +kernel
theorem dX12_does_86 : decode cX12_does 86 = .ok (.iconst 0, 1) := by decide +kernel
theorem dX12_does_87 : decode cX12_does 87 = .ok (.iload_n 3, 1) := by decide +kernel
theorem dX12_does_88 : decode cX12_does 88 = .ok (.iadd, 1) := by decide +kernel
theorem dX12_does_89 : decode cX12_does 89 = .ok (.sipush 999, 3) := by decide +kernel
theorem dX12_does_92 : decode cX12_does 92 = .ok (.aload_n 1, 1) := by decide +kernel
theorem dX12_does_93 : decode cX12_does 93 = .ok (.iconst 0, 1) := by decide +kernel
theorem dX12_does_94 : decode cX12_does 94 = .ok (.iload_n 3, 1) := by decide +kernel
theorem dX12_does_95 : decode cX12_does 95 = .ok (.iadd, 1) := by decide +kernel
theorem dX12_does_96 : decode cX12_does 96 = .ok (.iaload, 1) := by decide +kernel
theorem dX12_does_97 : decode cX12_does 97 = .ok (.aload_n 2, 1) := by decide +kernel
theorem dX12_does_98 : decode cX12_does 98 = .ok (.iconst 2, 1) := by decide +kernel
theorem dX12_does_99 : decode cX12_does 99 = .ok (.iaload, 1) := by decide +kernel
theorem dX12_does_100 : decode cX12_does 100 = .ok (.iadd, 1) := by decide +kernel
theorem dX12_does_101 : decode cX12_does 101 = .ok (.invokestatic 234, 3) := by decide +kernel
theorem dX12_does_104 : decode cX12_does 104 = .ok (.invokestatic 296, 3) := by decide +kernel
theorem dX12_does_107 : decode cX12_does 107 = .ok (.ifCond .eq 7, 3) := by decide +kernel
theorem dX12_does_110 : decode cX12_does 110 = .ok (.iconst 1, 1) := by decide +kernel
theorem dX12_does_111 : decode cX12_does 111 = .ok (.goto 4, 3) := by decide +kernel
theorem dX12_does_114 : decode cX12_does 114 = .ok (.iconst 0, 1) := by decide +kernel
theorem dX12_does_115 : decode cX12_does 115 = .ok (.ireturn, 1) := by decide +kernel
theorem dX12_does_116 : decode cX12_does 116 = .ok (.aload_n 1, 1) := by decide +kernel
theorem dX12_does_117 : decode cX12_does 117 = .ok (.bipush 25, 2) := by decide +kernel
theorem dX12_does_119 : decode cX12_does 119 = .ok (.iaload, 1) := by decide +kernel
theorem dX12_does_120 : decode cX12_does 120 = .ok (.sipush 900, 3) := by decide +kernel
theorem dX12_does_123 : decode cX12_does 123 = .ok (.if_icmp .lt 5, 3) := by decide +kernel
theorem dX12_does_126 : decode cX12_does 126 = .ok (.iconst 0, 1) := by decide +kernel
theorem dX12_does_127 : decode cX12_does 127 = .ok (.ireturn, 1) := by decide +kernel
theorem dX12_does_128 : decode cX12_does 128 = .ok (.aload_n 0, 1) := by decide +kernel
theorem dX12_does_129 : decode cX12_does 129 = .ok (.aload_n 1, 1) := by decide +kernel
theorem dX12_does_130 : decode cX12_does 130 = .ok (.invokevirtual 299, 3) := by decide +kernel
theorem dX12_does_133 : decode cX12_does 133 = .ok (.iconst 1, 1) := by decide +kernel
theorem dX12_does_134 : decode cX12_does 134 = .ok (.ireturn, 1) := by decide +kernel
theorem dX12_goes_0 : decode cX12_goes 0 = .ok (.iload_n 1, 1) := by decide +kernel
theorem dX12_goes_1 : decode cX12_goes 1 = .ok (.istore_n 3, 1) := by decide +kernel
theorem dX12_goes_2 : decode cX12_goes 2 = .ok (.iload_n 3, 1) := by decide +kernel
theorem dX12_goes_3 : decode cX12_goes 3 = .ok (.iload_n 2, 1) := by decide +kernel
theorem dX12_goes_4 : decode cX12_goes 4 = .ok (.if_icmp .ge 151, 3) := by decide +kernel
theorem dX12_goes_7 : decode cX12_goes 7 = .ok (.aload_n 0, 1) := by decide +kernel
theorem dX12_goes_8 : decode cX12_goes 8 = .ok (.getfield 303, 3) := by decide +kernel
theorem dX12_goes_11 : decode cX12_goes 11 = .ok (.sipush 200, 3) := by decide +kernel
theorem dX12_goes_14 : decode cX12_goes 14 = .ok (.if_icmp .ge 141, 3) := by decide +kernel
theorem dX12_goes_17 : decode cX12_goes 17 = .ok (.aload_n 0, 1) := by decide +kernel
theorem dX12_goes_18 : decode cX12_goes 18 = .ok (.dup, 1) := by decide +kernel
theorem dX12_goes_19 : decode cX12_goes 19 = .ok (.getfield 303, 3) := by decide +kernel
theorem dX12_goes_22 : decode cX12_goes 22 = .ok (.iconst 1, 1) := by decide +kernel
theorem dX12_goes_23 : decode cX12_goes 23 = .ok (.iadd, 1) := by decide +kernel
theorem dX12_goes_24 : decode cX12_goes 24 = .ok (.putfield 303, 3) := by decide +kernel
theorem dX12_goes_27 : decode cX12_goes 27 = .ok (.aload_n 0, 1) := by decide +kernel
theorem dX12_goes_28 : decode cX12_goes 28 = .ok (.getfield 58, 3) := by decide +kernel
theorem dX12_goes_31 : decode cX12_goes 31 = .ok (.iload_n 3, 1) := by decide +kernel
theorem dX12_goes_32 : decode cX12_goes 32 = .ok (.aaload, 1) := by decide +kernel
theorem dX12_goes_33 : decode cX12_goes 33 = .ok (.iconst 0, 1) := by decide +kernel
theorem dX12_goes_34 : decode cX12_goes 34 = .ok (.iaload, 1) := by decide +kernel
theorem dX12_goes_35 : decode cX12_goes 35 = .ok (.iconst 5, 1) := by decide +kernel
theorem dX12_goes_36 : decode cX12_goes 36 = .ok (.if_icmp .ne 53, 3) := by decide +kernel
theorem dX12_goes_39 : decode cX12_goes 39 = .ok (.iconst 0, 1) := by decide +kernel
theorem dX12_goes_40 : decode cX12_goes 40 = .ok (.istore 4, 2) := by decide +kernel
theorem dX12_goes_42 : decode cX12_goes 42 = .ok (.iload 4, 2) := by decide +kernel
theorem dX12_goes_44 : decode cX12_goes 44 = .ok (.aload_n 0, 1) := by decide +kernel
theorem dX12_goes_45 : decode cX12_goes 45 = .ok (.getfield 58, 3) := by decide +kernel
theorem dX12_goes_48 : decode cX12_goes 48 = .ok (.iload_n 3, 1) := by decide +kernel
theorem dX12_goes_49 : decode cX12_goes 49 = .ok (.aaload, 1) := by decide +kernel
theorem dX12_goes_50 : decode cX12_goes 50 = .ok (.iconst 1, 1) := by decide +kernel
theorem dX12_goes_51 : decode cX12_goes 51 = .ok (.iaload, 1) := by decide +kernel
theorem dX12_goes_52 : decode cX12_goes 52 = .ok (.if_icmp .ge 34, 3) := by decide +kernel
theorem dX12_goes_55 : decode cX12_goes 55 = .ok (.aload_n 0, 1) := by decide +kernel
theorem dX12_goes_56 : decode cX12_goes 56 = .ok (.getfield 303, 3) := by decide +kernel
theorem dX12_goes_59 : decode cX12_goes 59 = .ok (.sipush 200, 3) := by decide +kernel
theorem dX12_goes_62 : decode cX12_goes 62 = .ok (.if_icmp .ge 24, 3) := by decide +kernel
theorem dX12_goes_65 : decode cX12_goes 65 = .ok (.aload_n 0, 1) := by decide +kernel
theorem dX12_goes_66 : decode cX12_goes 66 = .ok (.iload_n 3, 1) := by decide +kernel
theorem dX12_goes_67 : decode cX12_goes 67 = .ok (.iconst 1, 1) := by decide +kernel
theorem dX12_goes_68 : decode cX12_goes 68 = .ok (.iadd, 1) := by decide +kernel
theorem dX12_goes_69 : decode cX12_goes 69 = .ok (.aload_n 0, 1) := by decide +kernel
theorem dX12_goes_70 : decode cX12_goes 70 = .ok (.getfield 58, 3) := by decide +kernel
theorem dX12_goes_73 : decode cX12_goes 73 = .ok (.iload_n 3, 1) := by decide +kernel
theorem dX12_goes_74 : decode cX12_goes 74 = .ok (.aaload, 1) := by decide +kernel
theorem dX12_goes_75 : decode cX12_goes 75 = .ok (.iconst 3, 1) := by decide +kernel
theorem dX12_goes_76 : decode cX12_goes 76 = .ok (.iaload, 1) := by decide +kernel
theorem dX12_goes_77 : decode cX12_goes 77 = .ok (.invokevirtual 306, 3) := by decide +kernel
theorem dX12_goes_80 : decode cX12_goes 80 = .ok (.iinc 4 1, 3) := by decide +kernel
theorem dX12_goes_83 : decode cX12_goes 83 = .ok (.goto (-41), 3) := by decide +kernel
theorem dX12_goes_86 : decode cX12_goes 86 = .ok (.goto 57, 3) := by decide +kernel
theorem dX12_goes_89 : decode cX12_goes 89 = .ok (.aload_n 0, 1) := by decide +kernel
theorem dX12_goes_90 : decode cX12_goes 90 = .ok (.aload_n 0, 1) := by decide +kernel
theorem dX12_goes_91 : decode cX12_goes 91 = .ok (.getfield 61, 3) := by decide +kernel
theorem dX12_goes_94 : decode cX12_goes 94 = .ok (.aload_n 0, 1) := by decide +kernel
theorem dX12_goes_95 : decode cX12_goes 95 = .ok (.getfield 58, 3) := by decide +kernel
theorem dX12_goes_98 : decode cX12_goes 98 = .ok (.iload_n 3, 1) := by decide +kernel
theorem dX12_goes_99 : decode cX12_goes 99 = .ok (.aaload, 1) := by decide +kernel
theorem dX12_goes_100 : decode cX12_goes 100 = .ok (.invokevirtual 309, 3) := by decide +kernel
theorem dX12_goes_103 : decode cX12_goes 103 = .ok (.istore 4, 2) := by decide +kernel
theorem dX12_goes_105 : decode cX12_goes 105 = .ok (.aload_n 0, 1) := by decide +kernel
theorem dX12_goes_106 : decode cX12_goes 106 = .ok (.dup, 1) := by decide +kernel
theorem dX12_goes_107 : decode cX12_goes 107 = .ok (.getfield 313, 3) := by decide +kernel
theorem dX12_goes_110 : decode cX12_goes 110 = .ok (.iload 4, 2) := by decide +kernel
theorem dX12_goes_112 : decode cX12_goes 112 = .ok (.ifCond .eq 7, 3) := by decide +kernel
theorem dX12_goes_115 : decode cX12_goes 115 = .ok (.iconst 1, 1) := by decide +kernel
theorem dX12_goes_116 : decode cX12_goes 116 = .ok (.goto 4, 3) := by decide +kernel
theorem dX12_goes_119 : decode cX12_goes 119 = .ok (.iconst 0, 1) := by decide +kernel
theorem dX12_goes_120 : decode cX12_goes 120 = .ok (.iadd, 1) := by decide +kernel
theorem dX12_goes_121 : decode cX12_goes 121 = .ok (.putfield 313, 3) := by decide +kernel
theorem dX12_goes_124 : decode cX12_goes 124 = .ok (.aload_n 0, 1) := by decide +kernel
theorem dX12_goes_125 : decode cX12_goes 125 = .ok (.dup, 1) := by decide +kernel
theorem dX12_goes_126 : decode cX12_goes 126 = .ok (.getfield 200, 3) := by decide +kernel
theorem dX12_goes_129 : decode cX12_goes 129 = .ok (.iload 4, 2) := by decide +kernel
theorem dX12_goes_131 : decode cX12_goes 131 = .ok (.ifCond .eq 7, 3) := by decide +kernel
theorem dX12_goes_134 : decode cX12_goes 134 = .ok (.iconst 0, 1) := by decide +kernel
theorem dX12_goes_135 : decode cX12_goes 135 = .ok (.goto 4, 3) := by decide +kernel
theorem dX12_goes_138 : decode cX12_goes 138 = .ok (.iconst 1, 1) := by decide +kernel
theorem dX12_goes_139 : decode cX12_goes 139 = .ok (.iadd, 1) := by decide +kernel
theorem dX12_goes_140 : decode cX12_goes 140 = .ok (.putfield 200, 3) := by decide +kernel
theorem dX12_goes_143 : decode cX12_goes 143 = .ok (.aload_n 0, 1) := by decide +kernel
theorem dX12_goes_144 : decode cX12_goes 144 = .ok (.getfield 58, 3) := by decide +kernel
theorem dX12_goes_147 : decode cX12_goes 147 = .ok (.iload_n 3, 1) := by decide +kernel
theorem dX12_goes_148 : decode cX12_goes 148 = .ok (.aaload, 1) := by decide +kernel
theorem dX12_goes_149 : decode cX12_goes 149 = .ok (.iconst 3, 1) := by decide +kernel
theorem dX12_goes_150 : decode cX12_goes 150 = .ok (.iaload, 1) := by decide +kernel
theorem dX12_goes_151 : decode cX12_goes 151 = .ok (.istore_n 3, 1) := by decide +kernel
theorem dX12_goes_152 : decode cX12_goes 152 = .ok (.goto (-150), 3) := by decide +kernel
theorem dX12_goes_155 : decode cX12_goes 155 = .ok (.return_, 1) := by decide +kernel
theorem dX12_work_0 : decode cX12_work 0 = .ok (.aload_n 0, 1) := by decide +kernel
theorem dX12_work_1 : decode cX12_work 1 = .ok (.iconst 0, 1) := by decide +kernel
theorem dX12_work_2 : decode cX12_work 2 = .ok (.putfield 98, 3) := by decide +kernel
theorem dX12_work_5 : decode cX12_work 5 = .ok (.aload_n 0, 1) := by decide +kernel
theorem dX12_work_6 : decode cX12_work 6 = .ok (.iload_n 1, 1) := by decide +kernel
theorem dX12_work_7 : decode cX12_work 7 = .ok (.iconst 0, 1) := by decide +kernel
theorem dX12_work_8 : decode cX12_work 8 = .ok (.aload_n 0, 1) := by decide +kernel
theorem dX12_work_9 : decode cX12_work 9 = .ok (.getfield 101, 3) := by decide +kernel
theorem dX12_work_12 : decode cX12_work 12 = .ok (.invokestatic 132, 3) := by decide +kernel
theorem dX12_work_15 : decode cX12_work 15 = .ok (.ifCond .eq 10, 3) := by decide +kernel
theorem dX12_work_18 : decode cX12_work 18 = .ok (.iload_n 1, 1) := by decide +kernel
theorem dX12_work_19 : decode cX12_work 19 = .ok (.sipush 150, 3) := by decide +kernel
theorem dX12_work_22 : decode cX12_work 22 = .ok (.if_icmp .le 7, 3) := by decide +kernel
theorem dX12_work_25 : decode cX12_work 25 = .ok (.iconst 1, 1) := by decide +kernel
theorem dX12_work_26 : decode cX12_work 26 = .ok (.goto 4, 3) := by decide +kernel
theorem dX12_work_29 : decode cX12_work 29 = .ok (.iconst 0, 1) := by decide +kernel
theorem dX12_work_30 : decode cX12_work 30 = .ok (.iconst 1, 1) := by decide +kernel
theorem dX12_work_31 : decode cX12_work 31 = .ok (.iconst 1, 1) := by decide +kernel
theorem dX12_work_32 : decode cX12_work 32 = .ok (.invokevirtual 174, 3) := by decide +kernel
theorem dX12_work_35 : decode cX12_work 35 = .ok (.ifCond .eq 5, 3) := by decide +kernel
theorem dX12_work_38 : decode cX12_work 38 = .ok (.iconst 0, 1) := by decide +kernel
theorem dX12_work_39 : decode cX12_work 39 = .ok (.ireturn, 1) := by decide +kernel
theorem dX12_work_40 : decode cX12_work 40 = .ok (.aload_n 0, 1) := by decide +kernel
theorem dX12_work_41 : decode cX12_work 41 = .ok (.getfield 197, 3) := by decide +kernel
theorem dX12_work_44 : decode cX12_work 44 = .ok (.bipush 16, 2) := by decide +kernel
theorem dX12_work_46 : decode cX12_work 46 = .ok (.if_icmp .ne 16, 3) := by decide +kernel
theorem dX12_work_49 : decode cX12_work 49 = .ok (.aload_n 0, 1) := by decide +kernel
theorem dX12_work_50 : decode cX12_work 50 = .ok (.iconst 0, 1) := by decide +kernel
theorem dX12_work_51 : decode cX12_work 51 = .ok (.putfield 101, 3) := by decide +kernel
theorem dX12_work_54 : decode cX12_work 54 = .ok (.aload_n 0, 1) := by decide +kernel
theorem dX12_work_55 : decode cX12_work 55 = .ok (.iconst (-1), 1) := by decide +kernel
theorem dX12_work_56 : decode cX12_work 56 = .ok (.putfield 9, 3) := by decide +kernel
theorem dX12_work_59 : decode cX12_work 59 = .ok (.bipush (-20), 2) := by decide +kernel
theorem dX12_work_61 : decode cX12_work 61 = .ok (.ireturn, 1) := by decide +kernel
theorem dX12_work_62 : decode cX12_work 62 = .ok (.aload_n 0, 1) := by decide +kernel
theorem dX12_work_63 : decode cX12_work 63 = .ok (.iload_n 1, 1) := by decide +kernel
theorem dX12_work_64 : decode cX12_work 64 = .ok (.invokevirtual 178, 3) := by decide +kernel
theorem dX12_work_67 : decode cX12_work 67 = .ok (.aload_n 0, 1) := by decide +kernel
theorem dX12_work_68 : decode cX12_work 68 = .ok (.iconst 0, 1) := by decide +kernel
theorem dX12_work_69 : decode cX12_work 69 = .ok (.putfield 247, 3) := by decide +kernel
theorem dX12_work_72 : decode cX12_work 72 = .ok (.aload_n 0, 1) := by decide +kernel
theorem dX12_work_73 : decode cX12_work 73 = .ok (.getfield 114, 3) := by decide +kernel
theorem dX12_work_76 : decode cX12_work 76 = .ok (.ifCond .ne 25, 3) := by decide +kernel
theorem dX12_work_79 : decode cX12_work 79 = .ok (.aload_n 0, 1) := by decide +kernel
theorem dX12_work_80 : decode cX12_work 80 = .ok (.getfield 107, 3) := by decide +kernel
theorem dX12_work_83 : decode cX12_work 83 = .ok (.aload_n 0, 1) := by decide +kernel
theorem dX12_work_84 : decode cX12_work 84 = .ok (.getfield 104, 3) := by decide +kernel
theorem dX12_work_87 : decode cX12_work 87 = .ok (.if_icmp .ge 14, 3) := by decide +kernel
theorem dX12_work_90 : decode cX12_work 90 = .ok (.aload_n 0, 1) := by decide +kernel
theorem dX12_work_91 : decode cX12_work 91 = .ok (.invokevirtual 250, 3) := by decide +kernel
theorem dX12_work_94 : decode cX12_work 94 = .ok (.aload_n 0, 1) := by decide +kernel
theorem dX12_work_95 : decode cX12_work 95 = .ok (.invokevirtual 120, 3) := by decide +kernel
theorem dX12_work_98 : decode cX12_work 98 = .ok (.goto (-26), 3) := by decide +kernel
theorem dX12_work_101 : decode cX12_work 101 = .ok (.aload_n 0, 1) := by decide +kernel
theorem dX12_work_102 : decode cX12_work 102 = .ok (.getfield 114, 3) := by decide +kernel
theorem dX12_work_105 : decode cX12_work 105 = .ok (.ifCond .eq 8, 3) := by decide +kernel
theorem dX12_work_108 : decode cX12_work 108 = .ok (.aload_n 0, 1) := by decide +kernel
theorem dX12_work_109 : decode cX12_work 109 = .ok (.invokevirtual 184, 3) := by decide +kernel
theorem dX12_work_112 : decode cX12_work 112 = .ok (.ireturn, 1) := by decide +kernel
theorem dX12_work_113 : decode cX12_work 113 = .ok (.aload_n 0, 1) := by decide +kernel
theorem dX12_work_114 : decode cX12_work 114 = .ok (.iconst (-1), 1) := by decide +kernel
theorem dX12_work_115 : decode cX12_work 115 = .ok (.putfield 9, 3) := by decide +kernel
theorem dX12_work_118 : decode cX12_work 118 = .ok (.aload_n 0, 1) := by decide +kernel
theorem dX12_work_119 : decode cX12_work 119 = .ok (.getfield 61, 3) := by decide +kernel
theorem dX12_work_122 : decode cX12_work 122 = .ok (.aload_n 0, 1) := by decide +kernel
theorem dX12_work_123 : decode cX12_work 123 = .ok (.getfield 67, 3) := by decide +kernel
theorem dX12_work_126 : decode cX12_work 126 = .ok (.aload_n 0, 1) := by decide +kernel
theorem dX12_work_127 : decode cX12_work 127 = .ok (.getfield 197, 3) := by decide +kernel
theorem dX12_work_130 : decode cX12_work 130 = .ok (.aaload, 1) := by decide +kernel
theorem dX12_work_131 : decode cX12_work 131 = .ok (.invokestatic 316, 3) := by decide +kernel
theorem dX12_work_134 : decode cX12_work 134 = .ok (.aload_n 0, 1) := by decide +kernel
theorem dX12_work_135 : decode cX12_work 135 = .ok (.dup, 1) := by decide +kernel
theorem dX12_work_136 : decode cX12_work 136 = .ok (.getfield 197, 3) := by decide +kernel
theorem dX12_work_139 : decode cX12_work 139 = .ok (.iconst 1, 1) := by decide +kernel
theorem dX12_work_140 : decode cX12_work 140 = .ok (.iadd, 1) := by decide +kernel
theorem dX12_work_141 : decode cX12_work 141 = .ok (.putfield 197, 3) := by decide +kernel
theorem dX12_work_144 : decode cX12_work 144 = .ok (.aload_n 0, 1) := by decide +kernel
theorem dX12_work_145 : decode cX12_work 145 = .ok (.iconst 0, 1) := by decide +kernel
theorem dX12_work_146 : decode cX12_work 146 = .ok (.putfield 303, 3) := by decide +kernel
theorem dX12_work_149 : decode cX12_work 149 = .ok (.aload_n 0, 1) := by decide +kernel
theorem dX12_work_150 : decode cX12_work 150 = .ok (.iconst 0, 1) := by decide +kernel
theorem dX12_work_151 : decode cX12_work 151 = .ok (.putfield 313, 3) := by decide +kernel
theorem dX12_work_154 : decode cX12_work 154 = .ok (.aload_n 0, 1) := by decide +kernel
theorem dX12_work_155 : decode cX12_work 155 = .ok (.iconst 0, 1) := by decide +kernel
theorem dX12_work_156 : decode cX12_work 156 = .ok (.putfield 200, 3) := by decide +kernel
theorem dX12_work_159 : decode cX12_work 159 = .ok (.aload_n 0, 1) := by decide +kernel
theorem dX12_work_160 : decode cX12_work 160 = .ok (.iconst 0, 1) := by decide +kernel
theorem dX12_work_161 : decode cX12_work 161 = .ok (.aload_n 0, 1) := by decide +kernel
theorem dX12_work_162 : decode cX12_work 162 = .ok (.getfield 247, 3) := by decide +kernel
theorem dX12_work_165 : decode cX12_work 165 = .ok (.invokevirtual 306, 3) := by decide +kernel
theorem dX12_work_168 : decode cX12_work 168 = .ok (.aload_n 0, 1) := by decide +kernel
theorem dX12_work_169 : decode cX12_work 169 = .ok (.getfield 313, 3) := by decide +kernel
theorem dX12_work_172 : decode cX12_work 172 = .ok (.ireturn, 1) := by decide +kernel
theorem dX12_undo_0 : decode cX12_undo 0 = .ok (.aload_n 0, 1) := by decide +kernel
theorem dX12_undo_1 : decode cX12_undo 1 = .ok (.iconst 0, 1) := by decide +kernel
theorem dX12_undo_2 : decode cX12_undo 2 = .ok (.putfield 98, 3) := by decide +kernel
theorem dX12_undo_5 : decode cX12_undo 5 = .ok (.aload_n 0, 1) := by decide +kernel
theorem dX12_undo_6 : decode cX12_undo 6 = .ok (.getfield 197, 3) := by decide +kernel
theorem dX12_undo_9 : decode cX12_undo 9 = .ok (.ifCond .ne 5, 3) := by decide +kernel
theorem dX12_undo_12 : decode cX12_undo 12 = .ok (.iconst (-1), 1) := by decide +kernel
theorem dX12_undo_13 : decode cX12_undo 13 = .ok (.ireturn, 1) := by decide +kernel
theorem dX12_undo_14 : decode cX12_undo 14 = .ok (.aload_n 0, 1) := by decide +kernel
theorem dX12_undo_15 : decode cX12_undo 15 = .ok (.dup, 1) := by decide +kernel
theorem dX12_undo_16 : decode cX12_undo 16 = .ok (.getfield 197, 3) := by decide +kernel
theorem dX12_undo_19 : decode cX12_undo 19 = .ok (.iconst 1, 1) := by decide +kernel
theorem dX12_undo_20 : decode cX12_undo 20 = .ok (.isub, 1) := by decide +kernel
theorem dX12_undo_21 : decode cX12_undo 21 = .ok (.putfield 197, 3) := by decide +kernel
theorem dX12_undo_24 : decode cX12_undo 24 = .ok (.aload_n 0, 1) := by decide +kernel
theorem dX12_undo_25 : decode cX12_undo 25 = .ok (.getfield 67, 3) := by decide +kernel
theorem dX12_undo_28 : decode cX12_undo 28 = .ok (.aload_n 0, 1) := by decide +kernel
theorem dX12_undo_29 : decode cX12_undo 29 = .ok (.getfield 197, 3) := by decide +kernel
theorem dX12_undo_32 : decode cX12_undo 32 = .ok (.aaload, 1) := by decide +kernel
theorem dX12_undo_33 : decode cX12_undo 33 = .ok (.aload_n 0, 1) := by decide +kernel
theorem dX12_undo_34 : decode cX12_undo 34 = .ok (.getfield 61, 3) := by decide +kernel
theorem dX12_undo_37 : decode cX12_undo 37 = .ok (.invokestatic 316, 3) := by decide +kernel
theorem dX12_undo_40 : decode cX12_undo 40 = .ok (.aload_n 0, 1) := by decide +kernel
theorem dX12_undo_41 : decode cX12_undo 41 = .ok (.iconst 0, 1) := by decide +kernel
theorem dX12_undo_42 : decode cX12_undo 42 = .ok (.putfield 200, 3) := by decide +kernel
theorem dX12_undo_45 : decode cX12_undo 45 = .ok (.aload_n 0, 1) := by decide +kernel
theorem dX12_undo_46 : decode cX12_undo 46 = .ok (.getfield 197, 3) := by decide +kernel
theorem dX12_undo_49 : decode cX12_undo 49 = .ok (.ireturn, 1) := by decide +kernel
theorem dX12_debts_0 : decode cX12_debts 0 = .ok (.iconst 0, 1) := by decide +kernel
theorem dX12_debts_1 : decode cX12_debts 1 = .ok (.istore_n 3, 1) := by decide +kernel
theorem dX12_debts_2 : decode cX12_debts 2 = .ok (.iconst 0, 1) := by decide +kernel
theorem dX12_debts_3 : decode cX12_debts 3 = .ok (.istore 4, 2) := by decide +kernel
theorem dX12_debts_5 : decode cX12_debts 5 = .ok (.iload 4, 2) := by decide +kernel
theorem dX12_debts_7 : decode cX12_debts 7 = .ok (.aload_n 0, 1) := by decide +kernel
theorem dX12_debts_8 : decode cX12_debts 8 = .ok (.getfield 23, 3) := by decide +kernel
theorem dX12_debts_11 : decode cX12_debts 11 = .ok (.iconst 0, 1) := by decide +kernel
theorem dX12_debts_12 : decode cX12_debts 12 = .ok (.iaload, 1) := by decide +kernel
theorem dX12_debts_13 : decode cX12_debts 13 = .ok (.if_icmp .ge 38, 3) := by decide +kernel
theorem dX12_debts_16 : decode cX12_debts 16 = .ok (.iload_n 3, 1) := by decide +kernel
theorem dX12_debts_17 : decode cX12_debts 17 = .ok (.iload_n 2, 1) := by decide +kernel
theorem dX12_debts_18 : decode cX12_debts 18 = .ok (.ifCond .eq 19, 3) := by decide +kernel
theorem dX12_debts_21 : decode cX12_debts 21 = .ok (.aload_n 1, 1) := by decide +kernel
theorem dX12_debts_22 : decode cX12_debts 22 = .ok (.bipush 24, 2) := by decide +kernel
theorem dX12_debts_24 : decode cX12_debts 24 = .ok (.iaload, 1) := by decide +kernel
theorem dX12_debts_25 : decode cX12_debts 25 = .ok (.iload 4, 2) := by decide +kernel
theorem dX12_debts_27 : decode cX12_debts 27 = .ok (.invokestatic 253, 3) := by decide +kernel
theorem dX12_debts_30 : decode cX12_debts 30 = .ok (.ifCond .eq 7, 3) := by decide +kernel
theorem dX12_debts_33 : decode cX12_debts 33 = .ok (.iconst 0, 1) := by decide +kernel
theorem dX12_debts_34 : decode cX12_debts 34 = .ok (.goto 9, 3) := by decide +kernel
theorem dX12_debts_37 : decode cX12_debts 37 = .ok (.aload_n 1, 1) := by decide +kernel
theorem dX12_debts_38 : decode cX12_debts 38 = .ok (.iconst 0, 1) := by decide +kernel
theorem dX12_debts_39 : decode cX12_debts 39 = .ok (.iload 4, 2) := by decide +kernel
theorem dX12_debts_41 : decode cX12_debts 41 = .ok (.iadd, 1) := by decide +kernel
theorem dX12_debts_42 : decode cX12_debts 42 = .ok (.iaload, 1) := by decide +kernel
theorem dX12_debts_43 : decode cX12_debts 43 = .ok (.iadd, 1) := by decide +kernel
theorem dX12_debts_44 : decode cX12_debts 44 = .ok (.istore_n 3, 1) := by decide +kernel
theorem dX12_debts_45 : decode cX12_debts 45 = .ok (.iinc 4 1, 3) := by decide +kernel
theorem dX12_debts_48 : decode cX12_debts 48 = .ok (.goto (-43), 3) := by decide +kernel
theorem dX12_debts_51 : decode cX12_debts 51 = .ok (.iload_n 3, 1) := by decide +kernel
theorem dX12_debts_52 : decode cX12_debts 52 = .ok (.ireturn, 1) := by decide +kernel
theorem dX12_nameless_0 : decode cX12_nameless 0 = .ok (.iconst 0, 1) := by decide +kernel
theorem dX12_nameless_1 : decode cX12_nameless 1 = .ok (.istore_n 2, 1) := by decide +kernel
theorem dX12_nameless_2 : decode cX12_nameless 2 = .ok (.iconst 0, 1) := by decide +kernel
theorem dX12_nameless_3 : decode cX12_nameless 3 = .ok (.istore_n 3, 1) := by decide +kernel
theorem dX12_nameless_4 : decode cX12_nameless 4 = .ok (.iload_n 3, 1) := by decide +kernel
theorem dX12_nameless_5 : decode cX12_nameless 5 = .ok (.aload_n 0, 1) := by decide +kernel
theorem dX12_nameless_6 : decode cX12_nameless 6 = .ok (.getfield 23, 3) := by decide +kernel
theorem dX12_nameless_9 : decode cX12_nameless 9 = .ok (.iconst 0, 1) := by decide +kernel
theorem dX12_nameless_10 : decode cX12_nameless 10 = .ok (.iaload, 1) := by decide +kernel
theorem dX12_nameless_11 : decode cX12_nameless 11 = .ok (.if_icmp .ge 40, 3) := by decide +kernel
theorem dX12_nameless_14 : decode cX12_nameless 14 = .ok (.iload_n 2, 1) := by decide +kernel
theorem dX12_nameless_15 : decode cX12_nameless 15 = .ok (.aload_n 1, 1) := by decide +kernel
theorem dX12_nameless_16 : decode cX12_nameless 16 = .ok (.bipush 24, 2) := by decide +kernel
theorem dX12_nameless_18 : decode cX12_nameless 18 = .ok (.iaload, 1) := by decide +kernel
theorem dX12_nameless_19 : decode cX12_nameless 19 = .ok (.iload_n 3, 1) := by decide +kernel
theorem dX12_nameless_20 : decode cX12_nameless 20 = .ok (.invokestatic 253, 3) := by decide +kernel
theorem dX12_nameless_23 : decode cX12_nameless 23 = .ok (.ifCond .ne 19, 3) := by decide +kernel
theorem dX12_nameless_26 : decode cX12_nameless 26 = .ok (.aload_n 1, 1) := by decide +kernel
theorem dX12_nameless_27 : decode cX12_nameless 27 = .ok (.bipush 8, 2) := by decide +kernel
theorem dX12_nameless_29 : decode cX12_nameless 29 = .ok (.iload_n 3, 1) := by decide +kernel
theorem dX12_nameless_30 : decode cX12_nameless 30 = .ok (.iadd, 1) := by decide +kernel
theorem dX12_nameless_31 : decode cX12_nameless 31 = .ok (.iaload, 1) := by decide +kernel
theorem dX12_nameless_32 : decode cX12_nameless 32 = .ok (.iconst (-1), 1) := by decide +kernel
theorem dX12_nameless_33 : decode cX12_nameless 33 = .ok (.if_icmp .ne 9, 3) := by decide +kernel
theorem dX12_nameless_36 : decode cX12_nameless 36 = .ok (.iconst 1, 1) := by decide +kernel
theorem dX12_nameless_37 : decode cX12_nameless 37 = .ok (.iload_n 3, 1) := by decide +kernel
theorem dX12_nameless_38 : decode cX12_nameless 38 = .ok (.ishl, 1) := by decide +kernel
theorem dX12_nameless_39 : decode cX12_nameless 39 = .ok (.goto 4, 3) := by decide +kernel
theorem dX12_nameless_42 : decode cX12_nameless 42 = .ok (.iconst 0, 1) := by decide +kernel
theorem dX12_nameless_43 : decode cX12_nameless 43 = .ok (.ior, 1) := by decide +kernel
theorem dX12_nameless_44 : decode cX12_nameless 44 = .ok (.istore_n 2, 1) := by decide +kernel
theorem dX12_nameless_45 : decode cX12_nameless 45 = .ok (.iinc 3 1, 3) := by decide +kernel
theorem dX12_nameless_48 : decode cX12_nameless 48 = .ok (.goto (-44), 3) := by decide +kernel
theorem dX12_nameless_51 : decode cX12_nameless 51 = .ok (.iload_n 2, 1) := by decide +kernel
theorem dX12_nameless_52 : decode cX12_nameless 52 = .ok (.ireturn, 1) := by decide +kernel
theorem dX12_follows_0 : decode cX12_follows 0 = .ok (.iload_n 1, 1) := by decide +kernel
theorem dX12_follows_1 : decode cX12_follows 1 = .ok (.istore_n 3, 1) := by decide +kernel
theorem dX12_follows_2 : decode cX12_follows 2 = .ok (.iconst 0, 1) := by decide +kernel
theorem dX12_follows_3 : decode cX12_follows 3 = .ok (.istore 4, 2) := by decide +kernel
theorem dX12_follows_5 : decode cX12_follows 5 = .ok (.iload_n 3, 1) := by decide +kernel
theorem dX12_follows_6 : decode cX12_follows 6 = .ok (.iconst (-1), 1) := by decide +kernel
theorem dX12_follows_7 : decode cX12_follows 7 = .ok (.if_icmp .eq 39, 3) := by decide +kernel
theorem dX12_follows_10 : decode cX12_follows 10 = .ok (.aload_n 0, 1) := by decide +kernel
theorem dX12_follows_11 : decode cX12_follows 11 = .ok (.bipush 24, 2) := by decide +kernel
theorem dX12_follows_13 : decode cX12_follows 13 = .ok (.iaload, 1) := by decide +kernel
theorem dX12_follows_14 : decode cX12_follows 14 = .ok (.iload_n 3, 1) := by decide +kernel
theorem dX12_follows_15 : decode cX12_follows 15 = .ok (.invokestatic 253, 3) := by decide +kernel
theorem dX12_follows_18 : decode cX12_follows 18 = .ok (.ifCond .ne 28, 3) := by decide +kernel
theorem dX12_follows_21 : decode cX12_follows 21 = .ok (.aload_n 0, 1) := by decide +kernel
theorem dX12_follows_22 : decode cX12_follows 22 = .ok (.bipush 8, 2) := by decide +kernel
theorem dX12_follows_24 : decode cX12_follows 24 = .ok (.iload_n 3, 1) := by decide +kernel
theorem dX12_follows_25 : decode cX12_follows 25 = .ok (.iadd, 1) := by decide +kernel
theorem dX12_follows_26 : decode cX12_follows 26 = .ok (.iaload, 1) := by decide +kernel
theorem dX12_follows_27 : decode cX12_follows 27 = .ok (.istore_n 3, 1) := by decide +kernel
theorem dX12_follows_28 : decode cX12_follows 28 = .ok (.iload 4, 2) := by decide +kernel
theorem dX12_follows_30 : decode cX12_follows 30 = .ok (.iload_n 3, 1) := by decide +kernel
theorem dX12_follows_31 : decode cX12_follows 31 = .ok (.iconst (-1), 1) := by decide +kernel
theorem dX12_follows_32 : decode cX12_follows 32 = .ok (.if_icmp .ne 7, 3) := by decide +kernel
theorem dX12_follows_35 : decode cX12_follows 35 = .ok (.iconst 0, 1) := by decide +kernel
theorem dX12_follows_36 : decode cX12_follows 36 = .ok (.goto 4, 3) := by decide +kernel
theorem dX12_follows_39 : decode cX12_follows 39 = .ok (.iconst 1, 1) := by decide +kernel
theorem dX12_follows_40 : decode cX12_follows 40 = .ok (.iadd, 1) := by decide +kernel
theorem dX12_follows_41 : decode cX12_follows 41 = .ok (.istore 4, 2) := by decide +kernel
theorem dX12_follows_43 : decode cX12_follows 43 = .ok (.goto (-38), 3) := by decide +kernel
theorem dX12_follows_46 : decode cX12_follows 46 = .ok (.iload_n 2, 1) := by decide +kernel
theorem dX12_follows_47 : decode cX12_follows 47 = .ok (.ifCond .eq 8, 3) := by decide +kernel
theorem dX12_follows_50 : decode cX12_follows 50 = .ok (.iload 4, 2) := by decide +kernel
theorem dX12_follows_52 : decode cX12_follows 52 = .ok (.goto 4, 3) := by decide +kernel
theorem dX12_follows_55 : decode cX12_follows 55 = .ok (.iload_n 3, 1) := by decide +kernel
theorem dX12_follows_56 : decode cX12_follows 56 = .ok (.ireturn, 1) := by decide +kernel
theorem dX12_longest_0 : decode cX12_longest 0 = .ok (.iconst 0, 1) := by decide +kernel
theorem dX12_longest_1 : decode cX12_longest 1 = .ok (.istore_n 2, 1) := by decide +kernel
theorem dX12_longest_2 : decode cX12_longest 2 = .ok (.iconst 0, 1) := by decide +kernel
theorem dX12_longest_3 : decode cX12_longest 3 = .ok (.istore_n 3, 1) := by decide +kernel
theorem dX12_longest_4 : decode cX12_longest 4 = .ok (.iload_n 3, 1) := by decide +kernel
theorem dX12_longest_5 : decode cX12_longest 5 = .ok (.aload_n 0, 1) := by decide +kernel
theorem dX12_longest_6 : decode cX12_longest 6 = .ok (.getfield 23, 3) := by decide +kernel
theorem dX12_longest_9 : decode cX12_longest 9 = .ok (.iconst 0, 1) := by decide +kernel
theorem dX12_longest_10 : decode cX12_longest 10 = .ok (.iaload, 1) := by decide +kernel
theorem dX12_longest_11 : decode cX12_longest 11 = .ok (.if_icmp .ge 20, 3) := by decide +kernel
theorem dX12_longest_14 : decode cX12_longest 14 = .ok (.iload_n 2, 1) := by decide +kernel
theorem dX12_longest_15 : decode cX12_longest 15 = .ok (.aload_n 1, 1) := by decide +kernel
theorem dX12_longest_16 : decode cX12_longest 16 = .ok (.iload_n 3, 1) := by decide +kernel
theorem dX12_longest_17 : decode cX12_longest 17 = .ok (.iconst 1, 1) := by decide +kernel
theorem dX12_longest_18 : decode cX12_longest 18 = .ok (.invokestatic 320, 3) := by decide +kernel
theorem dX12_longest_21 : decode cX12_longest 21 = .ok (.invokestatic 237, 3) := by decide +kernel
theorem dX12_longest_24 : decode cX12_longest 24 = .ok (.istore_n 2, 1) := by decide +kernel
theorem dX12_longest_25 : decode cX12_longest 25 = .ok (.iinc 3 1, 3) := by decide +kernel
theorem dX12_longest_28 : decode cX12_longest 28 = .ok (.goto (-24), 3) := by decide +kernel
theorem dX12_longest_31 : decode cX12_longest 31 = .ok (.iload_n 2, 1) := by decide +kernel
theorem dX12_longest_32 : decode cX12_longest 32 = .ok (.ireturn, 1) := by decide +kernel
theorem dX12_lenderIf_0 : decode cX12_lenderIf 0 = .ok (.aload_n 1, 1) := by decide +kernel
theorem dX12_lenderIf_1 : decode cX12_lenderIf 1 = .ok (.bipush 24, 2) := by decide +kernel
theorem dX12_lenderIf_3 : decode cX12_lenderIf 3 = .ok (.dup2, 1) := by decide +kernel
theorem dX12_lenderIf_4 : decode cX12_lenderIf 4 = .ok (.iaload, 1) := by decide +kernel
theorem dX12_lenderIf_5 : decode cX12_lenderIf 5 = .ok (.iconst 1, 1) := by decide +kernel
theorem dX12_lenderIf_6 : decode cX12_lenderIf 6 = .ok (.iload_n 2, 1) := by decide +kernel
theorem dX12_lenderIf_7 : decode cX12_lenderIf 7 = .ok (.ishl, 1) := by decide +kernel
theorem dX12_lenderIf_8 : decode cX12_lenderIf 8 = .ok (.iconst (-1), 1) := by decide +kernel
theorem dX12_lenderIf_9 : decode cX12_lenderIf 9 = .ok (.ixor, 1) := by decide +kernel
theorem dX12_lenderIf_10 : decode cX12_lenderIf 10 = .ok (.iand, 1) := by decide +kernel
theorem dX12_lenderIf_11 : decode cX12_lenderIf 11 = .ok (.iastore, 1) := by decide +kernel
theorem dX12_lenderIf_12 : decode cX12_lenderIf 12 = .ok (.aload_n 0, 1) := by decide +kernel
theorem dX12_lenderIf_13 : decode cX12_lenderIf 13 = .ok (.aload_n 1, 1) := by decide +kernel
theorem dX12_lenderIf_14 : decode cX12_lenderIf 14 = .ok (.iload_n 2, 1) := by decide +kernel
theorem dX12_lenderIf_15 : decode cX12_lenderIf 15 = .ok (.invokevirtual 282, 3) := by decide +kernel
theorem dX12_lenderIf_18 : decode cX12_lenderIf 18 = .ok (.istore_n 3, 1) := by decide +kernel
theorem dX12_lenderIf_19 : decode cX12_lenderIf 19 = .ok (.aload_n 1, 1) := by decide +kernel
theorem dX12_lenderIf_20 : decode cX12_lenderIf 20 = .ok (.bipush 24, 2) := by decide +kernel
theorem dX12_lenderIf_22 : decode cX12_lenderIf 22 = .ok (.dup2, 1) := by decide +kernel
theorem dX12_lenderIf_23 : decode cX12_lenderIf 23 = .ok (.iaload, 1) := by decide +kernel
theorem dX12_lenderIf_24 : decode cX12_lenderIf 24 = .ok (.iconst 1, 1) := by decide +kernel
theorem dX12_lenderIf_25 : decode cX12_lenderIf 25 = .ok (.iload_n 2, 1) := by decide +kernel
theorem dX12_lenderIf_26 : decode cX12_lenderIf 26 = .ok (.ishl, 1) := by decide +kernel
theorem dX12_lenderIf_27 : decode cX12_lenderIf 27 = .ok (.ior, 1) := by decide +kernel
theorem dX12_lenderIf_28 : decode cX12_lenderIf 28 = .ok (.iastore, 1) := by decide +kernel
theorem dX12_lenderIf_29 : decode cX12_lenderIf 29 = .ok (.iload_n 3, 1) := by decide +kernel
theorem dX12_lenderIf_30 : decode cX12_lenderIf 30 = .ok (.ireturn, 1) := by decide +kernel
theorem dX12_told_0 : decode cX12_told 0 = .ok (.aload_n 0, 1) := by decide +kernel
theorem dX12_told_1 : decode cX12_told 1 = .ok (.iconst 0, 1) := by decide +kernel
theorem dX12_told_2 : decode cX12_told 2 = .ok (.putfield 98, 3) := by decide +kernel
theorem dX12_told_5 : decode cX12_told 5 = .ok (.aload_n 0, 1) := by decide +kernel
theorem dX12_told_6 : decode cX12_told 6 = .ok (.iload_n 1, 1) := by decide +kernel
theorem dX12_told_7 : decode cX12_told 7 = .ok (.iconst 0, 1) := by decide +kernel
theorem dX12_told_8 : decode cX12_told 8 = .ok (.bipush 11, 2) := by decide +kernel
theorem dX12_told_10 : decode cX12_told 10 = .ok (.invokestatic 132, 3) := by decide +kernel
theorem dX12_told_13 : decode cX12_told 13 = .ok (.ifCond .ne 7, 3) := by decide +kernel
theorem dX12_told_16 : decode cX12_told 16 = .ok (.iconst 1, 1) := by decide +kernel
theorem dX12_told_17 : decode cX12_told 17 = .ok (.goto 4, 3) := by decide +kernel
theorem dX12_told_20 : decode cX12_told 20 = .ok (.iconst 0, 1) := by decide +kernel
theorem dX12_told_21 : decode cX12_told 21 = .ok (.iconst 1, 1) := by decide +kernel
theorem dX12_told_22 : decode cX12_told 22 = .ok (.iconst 1, 1) := by decide +kernel
theorem dX12_told_23 : decode cX12_told 23 = .ok (.invokevirtual 174, 3) := by decide +kernel
theorem dX12_told_26 : decode cX12_told 26 = .ok (.ifCond .eq 5, 3) := by decide +kernel
theorem dX12_told_29 : decode cX12_told 29 = .ok (.iconst 0, 1) := by decide +kernel
theorem dX12_told_30 : decode cX12_told 30 = .ok (.ireturn, 1) := by decide +kernel
theorem dX12_told_31 : decode cX12_told 31 = .ok (.iconst 0, 1) := by decide +kernel
theorem dX12_told_32 : decode cX12_told 32 = .ok (.istore_n 2, 1) := by decide +kernel
theorem dX12_told_33 : decode cX12_told 33 = .ok (.iconst 0, 1) := by decide +kernel
theorem dX12_told_34 : decode cX12_told 34 = .ok (.istore_n 3, 1) := by decide +kernel
theorem dX12_told_35 : decode cX12_told 35 = .ok (.iconst 0, 1) := by decide +kernel
theorem dX12_told_36 : decode cX12_told 36 = .ok (.istore 4, 2) := by decide +kernel
theorem dX12_told_38 : decode cX12_told 38 = .ok (.iload 4, 2) := by decide +kernel
theorem dX12_told_40 : decode cX12_told 40 = .ok (.aload_n 0, 1) := by decide +kernel
theorem dX12_told_41 : decode cX12_told 41 = .ok (.getfield 23, 3) := by decide +kernel
theorem dX12_told_44 : decode cX12_told 44 = .ok (.iconst 0, 1) := by decide +kernel
theorem dX12_told_45 : decode cX12_told 45 = .ok (.iaload, 1) := by decide +kernel
theorem dX12_told_46 : decode cX12_told 46 = .ok (.if_icmp .ge 70, 3) := by decide +kernel
theorem dX12_told_49 : decode cX12_told 49 = .ok (.aload_n 0, 1) := by decide +kernel
theorem dX12_told_50 : decode cX12_told 50 = .ok (.getfield 61, 3) := by decide +kernel
theorem dX12_told_53 : decode cX12_told 53 = .ok (.bipush 24, 2) := by decide +kernel
theorem dX12_told_55 : decode cX12_told 55 = .ok (.iaload, 1) := by decide +kernel
theorem dX12_told_56 : decode cX12_told 56 = .ok (.iload 4, 2) := by decide +kernel
theorem dX12_told_58 : decode cX12_told 58 = .ok (.invokestatic 253, 3) := by decide +kernel
theorem dX12_told_61 : decode cX12_told 61 = .ok (.ifCond .eq 16, 3) := by decide +kernel
theorem dX12_told_64 : decode cX12_told 64 = .ok (.aload_n 0, 1) := by decide +kernel
theorem dX12_told_65 : decode cX12_told 65 = .ok (.aload_n 0, 1) := by decide +kernel
theorem dX12_told_66 : decode cX12_told 66 = .ok (.getfield 61, 3) := by decide +kernel
theorem dX12_told_69 : decode cX12_told 69 = .ok (.iload 4, 2) := by decide +kernel
theorem dX12_told_71 : decode cX12_told 71 = .ok (.invokevirtual 324, 3) := by decide +kernel
theorem dX12_told_74 : decode cX12_told 74 = .ok (.goto 4, 3) := by decide +kernel
theorem dX12_told_77 : decode cX12_told 77 = .ok (.iconst (-1), 1) := by decide +kernel
theorem dX12_told_78 : decode cX12_told 78 = .ok (.istore 5, 2) := by decide +kernel
theorem dX12_told_80 : decode cX12_told 80 = .ok (.iload_n 2, 1) := by decide +kernel
theorem dX12_told_81 : decode cX12_told 81 = .ok (.aload_n 0, 1) := by decide +kernel
theorem dX12_told_82 : decode cX12_told 82 = .ok (.aload_n 0, 1) := by decide +kernel
theorem dX12_told_83 : decode cX12_told 83 = .ok (.getfield 61, 3) := by decide +kernel
theorem dX12_told_86 : decode cX12_told 86 = .ok (.iload 4, 2) := by decide +kernel
theorem dX12_told_88 : decode cX12_told 88 = .ok (.invokevirtual 267, 3) := by decide +kernel
theorem dX12_told_91 : decode cX12_told 91 = .ok (.iadd, 1) := by decide +kernel
theorem dX12_told_92 : decode cX12_told 92 = .ok (.istore_n 2, 1) := by decide +kernel
theorem dX12_told_93 : decode cX12_told 93 = .ok (.iload_n 3, 1) := by decide +kernel
theorem dX12_told_94 : decode cX12_told 94 = .ok (.iload 5, 2) := by decide +kernel
theorem dX12_told_96 : decode cX12_told 96 = .ok (.iconst (-1), 1) := by decide +kernel
theorem dX12_told_97 : decode cX12_told 97 = .ok (.if_icmp .ne 7, 3) := by decide +kernel
theorem dX12_told_100 : decode cX12_told 100 = .ok (.iconst 0, 1) := by decide +kernel
theorem dX12_told_101 : decode cX12_told 101 = .ok (.goto 7, 3) := by decide +kernel
theorem dX12_told_104 : decode cX12_told 104 = .ok (.iconst 1, 1) := by decide +kernel
theorem dX12_told_105 : decode cX12_told 105 = .ok (.iload 5, 2) := by decide +kernel
theorem dX12_told_107 : decode cX12_told 107 = .ok (.ishl, 1) := by decide +kernel
theorem dX12_told_108 : decode cX12_told 108 = .ok (.ior, 1) := by decide +kernel
theorem dX12_told_109 : decode cX12_told 109 = .ok (.istore_n 3, 1) := by decide +kernel
theorem dX12_told_110 : decode cX12_told 110 = .ok (.iinc 4 1, 3) := by decide +kernel
theorem dX12_told_113 : decode cX12_told 113 = .ok (.goto (-75), 3) := by decide +kernel
theorem dX12_told_116 : decode cX12_told 116 = .ok (.iload_n 1, 1) := by decide +kernel
theorem dX12_told_117 : decode cX12_told 117 = .ok (.tableswitch 132 0 10 #[59, 66, 74, 83, 91, 93, 103, 113, 115, 122, 127], 59) := by decide +kernel
theorem dX12_told_176 : decode cX12_told 176 = .ok (.aload_n 0, 1) := by decide +kernel
theorem dX12_told_177 : decode cX12_told 177 = .ok (.getfield 23, 3) := by decide +kernel
theorem dX12_told_180 : decode cX12_told 180 = .ok (.iconst 0, 1) := by decide +kernel
theorem dX12_told_181 : decode cX12_told 181 = .ok (.iaload, 1) := by decide +kernel
theorem dX12_told_182 : decode cX12_told 182 = .ok (.ireturn, 1) := by decide +kernel
theorem dX12_told_183 : decode cX12_told 183 = .ok (.aload_n 0, 1) := by decide +kernel
theorem dX12_told_184 : decode cX12_told 184 = .ok (.getfield 61, 3) := by decide +kernel
theorem dX12_told_187 : decode cX12_told 187 = .ok (.bipush 24, 2) := by decide +kernel
theorem dX12_told_189 : decode cX12_told 189 = .ok (.iaload, 1) := by decide +kernel
theorem dX12_told_190 : decode cX12_told 190 = .ok (.ireturn, 1) := by decide +kernel
theorem dX12_told_191 : decode cX12_told 191 = .ok (.aload_n 0, 1) := by decide +kernel
theorem dX12_told_192 : decode cX12_told 192 = .ok (.aload_n 0, 1) := by decide +kernel
theorem dX12_told_193 : decode cX12_told 193 = .ok (.getfield 61, 3) := by decide +kernel
theorem dX12_told_196 : decode cX12_told 196 = .ok (.invokevirtual 327, 3) := by decide +kernel
theorem dX12_told_199 : decode cX12_told 199 = .ok (.ireturn, 1) := by decide +kernel
theorem dX12_told_200 : decode cX12_told 200 = .ok (.aload_n 0, 1) := by decide +kernel
theorem dX12_told_201 : decode cX12_told 201 = .ok (.getfield 61, 3) := by decide +kernel
theorem dX12_told_204 : decode cX12_told 204 = .ok (.bipush 25, 2) := by decide +kernel
theorem dX12_told_206 : decode cX12_told 206 = .ok (.iaload, 1) := by decide +kernel
theorem dX12_told_207 : decode cX12_told 207 = .ok (.ireturn, 1) := by decide +kernel
theorem dX12_told_208 : decode cX12_told 208 = .ok (.iload_n 2, 1) := by decide +kernel
theorem dX12_told_209 : decode cX12_told 209 = .ok (.ireturn, 1) := by decide +kernel
theorem dX12_told_210 : decode cX12_told 210 = .ok (.aload_n 0, 1) := by decide +kernel
theorem dX12_told_211 : decode cX12_told 211 = .ok (.aload_n 0, 1) := by decide +kernel
theorem dX12_told_212 : decode cX12_told 212 = .ok (.getfield 61, 3) := by decide +kernel
theorem dX12_told_215 : decode cX12_told 215 = .ok (.iconst 0, 1) := by decide +kernel
theorem dX12_told_216 : decode cX12_told 216 = .ok (.invokevirtual 331, 3) := by decide +kernel
theorem dX12_told_219 : decode cX12_told 219 = .ok (.ireturn, 1) := by decide +kernel
theorem dX12_told_220 : decode cX12_told 220 = .ok (.aload_n 0, 1) := by decide +kernel
theorem dX12_told_221 : decode cX12_told 221 = .ok (.aload_n 0, 1) := by decide +kernel
theorem dX12_told_222 : decode cX12_told 222 = .ok (.getfield 61, 3) := by decide +kernel
theorem dX12_told_225 : decode cX12_told 225 = .ok (.iconst 1, 1) := by decide +kernel
theorem dX12_told_226 : decode cX12_told 226 = .ok (.invokevirtual 331, 3) := by decide +kernel
theorem dX12_told_229 : decode cX12_told 229 = .ok (.ireturn, 1) := by decide +kernel
theorem dX12_told_230 : decode cX12_told 230 = .ok (.iload_n 3, 1) := by decide +kernel
theorem dX12_told_231 : decode cX12_told 231 = .ok (.ireturn, 1) := by decide +kernel
theorem dX12_told_232 : decode cX12_told 232 = .ok (.aload_n 0, 1) := by decide +kernel
theorem dX12_told_233 : decode cX12_told 233 = .ok (.getfield 23, 3) := by decide +kernel
theorem dX12_told_236 : decode cX12_told 236 = .ok (.iconst 1, 1) := by decide +kernel
theorem dX12_told_237 : decode cX12_told 237 = .ok (.iaload, 1) := by decide +kernel
theorem dX12_told_238 : decode cX12_told 238 = .ok (.ireturn, 1) := by decide +kernel
theorem dX12_told_239 : decode cX12_told 239 = .ok (.aload_n 0, 1) := by decide +kernel
theorem dX12_told_240 : decode cX12_told 240 = .ok (.getfield 194, 3) := by decide +kernel
theorem dX12_told_243 : decode cX12_told 243 = .ok (.ireturn, 1) := by decide +kernel
theorem dX12_told_244 : decode cX12_told 244 = .ok (.aload_n 0, 1) := by decide +kernel
theorem dX12_told_245 : decode cX12_told 245 = .ok (.getfield 200, 3) := by decide +kernel
theorem dX12_told_248 : decode cX12_told 248 = .ok (.ireturn, 1) := by decide +kernel
theorem dX12_told_249 : decode cX12_told 249 = .ok (.aload_n 0, 1) := by decide +kernel
theorem dX12_told_250 : decode cX12_told 250 = .ok (.aload_n 0, 1) := by decide +kernel
theorem dX12_told_251 : decode cX12_told 251 = .ok (.getfield 61, 3) := by decide +kernel
theorem dX12_told_254 : decode cX12_told 254 = .ok (.invokevirtual 335, 3) := by decide +kernel
theorem dX12_told_257 : decode cX12_told 257 = .ok (.ireturn, 1) := by decide +kernel
theorem dX12_isPerson_0 : decode cX12_isPerson 0 = .ok (.iload_n 1, 1) := by decide +kernel
theorem dX12_isPerson_1 : decode cX12_isPerson 1 = .ok (.iconst 0, 1) := by decide +kernel
theorem dX12_isPerson_2 : decode cX12_isPerson 2 = .ok (.aload_n 0, 1) := by decide +kernel
theorem dX12_isPerson_3 : decode cX12_isPerson 3 = .ok (.getfield 23, 3) := by decide +kernel
theorem dX12_isPerson_6 : decode cX12_isPerson 6 = .ok (.iconst 0, 1) := by decide +kernel
theorem dX12_isPerson_7 : decode cX12_isPerson 7 = .ok (.iaload, 1) := by decide +kernel
theorem dX12_isPerson_8 : decode cX12_isPerson 8 = .ok (.iconst 1, 1) := by decide +kernel
theorem dX12_isPerson_9 : decode cX12_isPerson 9 = .ok (.isub, 1) := by decide +kernel
theorem dX12_isPerson_10 : decode cX12_isPerson 10 = .ok (.invokestatic 132, 3) := by decide +kernel
theorem dX12_isPerson_13 : decode cX12_isPerson 13 = .ok (.ireturn, 1) := by decide +kernel
theorem dX12_person_0 : decode cX12_person 0 = .ok (.aload_n 0, 1) := by decide +kernel
theorem dX12_person_1 : decode cX12_person 1 = .ok (.iconst 0, 1) := by decide +kernel
theorem dX12_person_2 : decode cX12_person 2 = .ok (.putfield 98, 3) := by decide +kernel
theorem dX12_person_5 : decode cX12_person 5 = .ok (.aload_n 0, 1) := by decide +kernel
theorem dX12_person_6 : decode cX12_person 6 = .ok (.aload_n 0, 1) := by decide +kernel
theorem dX12_person_7 : decode cX12_person 7 = .ok (.iload_n 1, 1) := by decide +kernel
theorem dX12_person_8 : decode cX12_person 8 = .ok (.invokevirtual 338, 3) := by decide +kernel
theorem dX12_person_11 : decode cX12_person 11 = .ok (.ifCond .ne 7, 3) := by decide +kernel
theorem dX12_person_14 : decode cX12_person 14 = .ok (.iconst 1, 1) := by decide +kernel
theorem dX12_person_15 : decode cX12_person 15 = .ok (.goto 4, 3) := by decide +kernel
theorem dX12_person_18 : decode cX12_person 18 = .ok (.iconst 0, 1) := by decide +kernel
theorem dX12_person_19 : decode cX12_person 19 = .ok (.iconst 1, 1) := by decide +kernel
theorem dX12_person_20 : decode cX12_person 20 = .ok (.iconst 0, 1) := by decide +kernel
theorem dX12_person_21 : decode cX12_person 21 = .ok (.invokevirtual 174, 3) := by decide +kernel
theorem dX12_person_24 : decode cX12_person 24 = .ok (.ifCond .ne 27, 3) := by decide +kernel
theorem dX12_person_27 : decode cX12_person 27 = .ok (.aload_n 0, 1) := by decide +kernel
theorem dX12_person_28 : decode cX12_person 28 = .ok (.iload_n 2, 1) := by decide +kernel
theorem dX12_person_29 : decode cX12_person 29 = .ok (.iconst 0, 1) := by decide +kernel
theorem dX12_person_30 : decode cX12_person 30 = .ok (.bipush 7, 2) := by decide +kernel
theorem dX12_person_32 : decode cX12_person 32 = .ok (.invokestatic 132, 3) := by decide +kernel
theorem dX12_person_35 : decode cX12_person 35 = .ok (.ifCond .ne 7, 3) := by decide +kernel
theorem dX12_person_38 : decode cX12_person 38 = .ok (.iconst 1, 1) := by decide +kernel
theorem dX12_person_39 : decode cX12_person 39 = .ok (.goto 4, 3) := by decide +kernel
theorem dX12_person_42 : decode cX12_person 42 = .ok (.iconst 0, 1) := by decide +kernel
theorem dX12_person_43 : decode cX12_person 43 = .ok (.iconst 2, 1) := by decide +kernel
theorem dX12_person_44 : decode cX12_person 44 = .ok (.iconst 1, 1) := by decide +kernel
theorem dX12_person_45 : decode cX12_person 45 = .ok (.invokevirtual 174, 3) := by decide +kernel
theorem dX12_person_48 : decode cX12_person 48 = .ok (.ifCond .eq 5, 3) := by decide +kernel
theorem dX12_person_51 : decode cX12_person 51 = .ok (.iconst 0, 1) := by decide +kernel
theorem dX12_person_52 : decode cX12_person 52 = .ok (.ireturn, 1) := by decide +kernel
theorem dX12_person_53 : decode cX12_person 53 = .ok (.iload_n 2, 1) := by decide +kernel
theorem dX12_person_54 : decode cX12_person 54 = .ok (.tableswitch 109 0 6 #[42, 51, 60, 72, 82, 92, 102], 42) := by decide +kernel
theorem dX12_person_96 : decode cX12_person 96 = .ok (.aload_n 0, 1) := by decide +kernel
theorem dX12_person_97 : decode cX12_person 97 = .ok (.getfield 31, 3) := by decide +kernel
theorem dX12_person_100 : decode cX12_person 100 = .ok (.iload_n 1, 1) := by decide +kernel
theorem dX12_person_101 : decode cX12_person 101 = .ok (.aaload, 1) := by decide +kernel
theorem dX12_person_102 : decode cX12_person 102 = .ok (.iconst 0, 1) := by decide +kernel
theorem dX12_person_103 : decode cX12_person 103 = .ok (.iaload, 1) := by decide +kernel
theorem dX12_person_104 : decode cX12_person 104 = .ok (.ireturn, 1) := by decide +kernel
theorem dX12_person_105 : decode cX12_person 105 = .ok (.aload_n 0, 1) := by decide +kernel
theorem dX12_person_106 : decode cX12_person 106 = .ok (.getfield 61, 3) := by decide +kernel
theorem dX12_person_109 : decode cX12_person 109 = .ok (.iconst 0, 1) := by decide +kernel
theorem dX12_person_110 : decode cX12_person 110 = .ok (.iload_n 1, 1) := by decide +kernel
theorem dX12_person_111 : decode cX12_person 111 = .ok (.iadd, 1) := by decide +kernel
theorem dX12_person_112 : decode cX12_person 112 = .ok (.iaload, 1) := by decide +kernel
theorem dX12_person_113 : decode cX12_person 113 = .ok (.ireturn, 1) := by decide +kernel
theorem dX12_person_114 : decode cX12_person 114 = .ok (.aload_n 0, 1) := by decide +kernel
theorem dX12_person_115 : decode cX12_person 115 = .ok (.getfield 61, 3) := by decide +kernel
theorem dX12_person_118 : decode cX12_person 118 = .ok (.bipush 24, 2) := by decide +kernel
theorem dX12_person_120 : decode cX12_person 120 = .ok (.iaload, 1) := by decide +kernel
theorem dX12_person_121 : decode cX12_person 121 = .ok (.iload_n 1, 1) := by decide +kernel
theorem dX12_person_122 : decode cX12_person 122 = .ok (.ishr, 1) := by decide +kernel
theorem dX12_person_123 : decode cX12_person 123 = .ok (.iconst 1, 1) := by decide +kernel
theorem dX12_person_124 : decode cX12_person 124 = .ok (.iand, 1) := by decide +kernel
theorem dX12_person_125 : decode cX12_person 125 = .ok (.ireturn, 1) := by decide +kernel
theorem dX12_person_126 : decode cX12_person 126 = .ok (.aload_n 0, 1) := by decide +kernel
theorem dX12_person_127 : decode cX12_person 127 = .ok (.getfield 61, 3) := by decide +kernel
theorem dX12_person_130 : decode cX12_person 130 = .ok (.bipush 8, 2) := by decide +kernel
theorem dX12_person_132 : decode cX12_person 132 = .ok (.iload_n 1, 1) := by decide +kernel
theorem dX12_person_133 : decode cX12_person 133 = .ok (.iadd, 1) := by decide +kernel
theorem dX12_person_134 : decode cX12_person 134 = .ok (.iaload, 1) := by decide +kernel
theorem dX12_person_135 : decode cX12_person 135 = .ok (.ireturn, 1) := by decide +kernel
theorem dX12_person_136 : decode cX12_person 136 = .ok (.aload_n 0, 1) := by decide +kernel
theorem dX12_person_137 : decode cX12_person 137 = .ok (.aload_n 0, 1) := by decide +kernel
theorem dX12_person_138 : decode cX12_person 138 = .ok (.getfield 61, 3) := by decide +kernel
theorem dX12_person_141 : decode cX12_person 141 = .ok (.iload_n 1, 1) := by decide +kernel
theorem dX12_person_142 : decode cX12_person 142 = .ok (.invokevirtual 267, 3) := by decide +kernel
theorem dX12_person_145 : decode cX12_person 145 = .ok (.ireturn, 1) := by decide +kernel
theorem dX12_person_146 : decode cX12_person 146 = .ok (.aload_n 0, 1) := by decide +kernel
theorem dX12_person_147 : decode cX12_person 147 = .ok (.aload_n 0, 1) := by decide +kernel
theorem dX12_person_148 : decode cX12_person 148 = .ok (.getfield 61, 3) := by decide +kernel
theorem dX12_person_151 : decode cX12_person 151 = .ok (.iload_n 1, 1) := by decide +kernel
theorem dX12_person_152 : decode cX12_person 152 = .ok (.invokevirtual 260, 3) := by decide +kernel
theorem dX12_person_155 : decode cX12_person 155 = .ok (.ireturn, 1) := by decide +kernel
theorem dX12_person_156 : decode cX12_person 156 = .ok (.aload_n 0, 1) := by decide +kernel
theorem dX12_person_157 : decode cX12_person 157 = .ok (.getfield 37, 3) := by decide +kernel
theorem dX12_person_160 : decode cX12_person 160 = .ok (.iload_n 1, 1) := by decide +kernel
theorem dX12_person_161 : decode cX12_person 161 = .ok (.iaload, 1) := by decide +kernel
theorem dX12_person_162 : decode cX12_person 162 = .ok (.ireturn, 1) := by decide +kernel
theorem dX12_person_163 : decode cX12_person 163 = .ok (.aload_n 0, 1) := by decide +kernel
theorem dX12_person_164 : decode cX12_person 164 = .ok (.getfield 61, 3) := by decide +kernel
theorem dX12_person_167 : decode cX12_person 167 = .ok (.bipush 16, 2) := by decide +kernel
theorem dX12_person_169 : decode cX12_person 169 = .ok (.iload_n 1, 1) := by decide +kernel
theorem dX12_person_170 : decode cX12_person 170 = .ok (.iadd, 1) := by decide +kernel
theorem dX12_person_171 : decode cX12_person 171 = .ok (.iaload, 1) := by decide +kernel
theorem dX12_person_172 : decode cX12_person 172 = .ok (.ireturn, 1) := by decide +kernel
theorem dX12_will_0 : decode cX12_will 0 = .ok (.aload_n 0, 1) := by decide +kernel
theorem dX12_will_1 : decode cX12_will 1 = .ok (.iconst 0, 1) := by decide +kernel
theorem dX12_will_2 : decode cX12_will 2 = .ok (.putfield 98, 3) := by decide +kernel
theorem dX12_will_5 : decode cX12_will 5 = .ok (.aload_n 0, 1) := by decide +kernel
theorem dX12_will_6 : decode cX12_will 6 = .ok (.aload_n 0, 1) := by decide +kernel
theorem dX12_will_7 : decode cX12_will 7 = .ok (.iload_n 1, 1) := by decide +kernel
theorem dX12_will_8 : decode cX12_will 8 = .ok (.invokevirtual 338, 3) := by decide +kernel
theorem dX12_will_11 : decode cX12_will 11 = .ok (.ifCond .eq 11, 3) := by decide +kernel
theorem dX12_will_14 : decode cX12_will 14 = .ok (.aload_n 0, 1) := by decide +kernel
theorem dX12_will_15 : decode cX12_will 15 = .ok (.iload_n 2, 1) := by decide +kernel
theorem dX12_will_16 : decode cX12_will 16 = .ok (.invokevirtual 338, 3) := by decide +kernel
theorem dX12_will_19 : decode cX12_will 19 = .ok (.ifCond .ne 7, 3) := by decide +kernel
theorem dX12_will_22 : decode cX12_will 22 = .ok (.iconst 1, 1) := by decide +kernel
theorem dX12_will_23 : decode cX12_will 23 = .ok (.goto 4, 3) := by decide +kernel
theorem dX12_will_26 : decode cX12_will 26 = .ok (.iconst 0, 1) := by decide +kernel
theorem dX12_will_27 : decode cX12_will 27 = .ok (.iconst 1, 1) := by decide +kernel
theorem dX12_will_28 : decode cX12_will 28 = .ok (.iconst 0, 1) := by decide +kernel
theorem dX12_will_29 : decode cX12_will 29 = .ok (.invokevirtual 174, 3) := by decide +kernel
theorem dX12_will_32 : decode cX12_will 32 = .ok (.ifCond .eq 5, 3) := by decide +kernel
theorem dX12_will_35 : decode cX12_will 35 = .ok (.iconst 0, 1) := by decide +kernel
theorem dX12_will_36 : decode cX12_will 36 = .ok (.ireturn, 1) := by decide +kernel
theorem dX12_will_37 : decode cX12_will 37 = .ok (.aload_n 0, 1) := by decide +kernel
theorem dX12_will_38 : decode cX12_will 38 = .ok (.aload_n 0, 1) := by decide +kernel
theorem dX12_will_39 : decode cX12_will 39 = .ok (.getfield 61, 3) := by decide +kernel
theorem dX12_will_42 : decode cX12_will 42 = .ok (.iload_n 1, 1) := by decide +kernel
theorem dX12_will_43 : decode cX12_will 43 = .ok (.iload_n 2, 1) := by decide +kernel
theorem dX12_will_44 : decode cX12_will 44 = .ok (.invokevirtual 274, 3) := by decide +kernel
theorem dX12_will_47 : decode cX12_will 47 = .ok (.ireturn, 1) := by decide +kernel
theorem dX12_lends_0 : decode cX12_lends 0 = .ok (.aload_n 0, 1) := by decide +kernel
theorem dX12_lends_1 : decode cX12_lends 1 = .ok (.iconst 0, 1) := by decide +kernel
theorem dX12_lends_2 : decode cX12_lends 2 = .ok (.putfield 98, 3) := by decide +kernel
theorem dX12_lends_5 : decode cX12_lends 5 = .ok (.aload_n 0, 1) := by decide +kernel
theorem dX12_lends_6 : decode cX12_lends 6 = .ok (.aload_n 0, 1) := by decide +kernel
theorem dX12_lends_7 : decode cX12_lends 7 = .ok (.iload_n 1, 1) := by decide +kernel
theorem dX12_lends_8 : decode cX12_lends 8 = .ok (.invokevirtual 338, 3) := by decide +kernel
theorem dX12_lends_11 : decode cX12_lends 11 = .ok (.ifCond .eq 11, 3) := by decide +kernel
theorem dX12_lends_14 : decode cX12_lends 14 = .ok (.aload_n 0, 1) := by decide +kernel
theorem dX12_lends_15 : decode cX12_lends 15 = .ok (.iload_n 2, 1) := by decide +kernel
theorem dX12_lends_16 : decode cX12_lends 16 = .ok (.invokevirtual 338, 3) := by decide +kernel
theorem dX12_lends_19 : decode cX12_lends 19 = .ok (.ifCond .ne 7, 3) := by decide +kernel
theorem dX12_lends_22 : decode cX12_lends 22 = .ok (.iconst 1, 1) := by decide +kernel
theorem dX12_lends_23 : decode cX12_lends 23 = .ok (.goto 4, 3) := by decide +kernel
theorem dX12_lends_26 : decode cX12_lends 26 = .ok (.iconst 0, 1) := by decide +kernel
theorem dX12_lends_27 : decode cX12_lends 27 = .ok (.iconst 1, 1) := by decide +kernel
theorem dX12_lends_28 : decode cX12_lends 28 = .ok (.iconst 0, 1) := by decide +kernel
theorem dX12_lends_29 : decode cX12_lends 29 = .ok (.invokevirtual 174, 3) := by decide +kernel
theorem dX12_lends_32 : decode cX12_lends 32 = .ok (.ifCond .eq 5, 3) := by decide +kernel
theorem dX12_lends_35 : decode cX12_lends 35 = .ok (.iconst 0, 1) := by decide +kernel
theorem dX12_lends_36 : decode cX12_lends 36 = .ok (.ireturn, 1) := by decide +kernel
theorem dX12_lends_37 : decode cX12_lends 37 = .ok (.aload_n 0, 1) := by decide +kernel
theorem dX12_lends_38 : decode cX12_lends 38 = .ok (.aload_n 0, 1) := by decide +kernel
theorem dX12_lends_39 : decode cX12_lends 39 = .ok (.getfield 61, 3) := by decide +kernel
theorem dX12_lends_42 : decode cX12_lends 42 = .ok (.iload_n 1, 1) := by decide +kernel
theorem dX12_lends_43 : decode cX12_lends 43 = .ok (.iload_n 2, 1) := by decide +kernel
theorem dX12_lends_44 : decode cX12_lends 44 = .ok (.invokevirtual 278, 3) := by decide +kernel
theorem dX12_lends_47 : decode cX12_lends 47 = .ok (.ireturn, 1) := by decide +kernel
theorem dX12_would_0 : decode cX12_would 0 = .ok (.aload_n 0, 1) := by decide +kernel
theorem dX12_would_1 : decode cX12_would 1 = .ok (.iconst 0, 1) := by decide +kernel
theorem dX12_would_2 : decode cX12_would 2 = .ok (.putfield 98, 3) := by decide +kernel
theorem dX12_would_5 : decode cX12_would 5 = .ok (.aload_n 0, 1) := by decide +kernel
theorem dX12_would_6 : decode cX12_would 6 = .ok (.iload_n 1, 1) := by decide +kernel
theorem dX12_would_7 : decode cX12_would 7 = .ok (.iconst 0, 1) := by decide +kernel
theorem dX12_would_8 : decode cX12_would 8 = .ok (.bipush 9, 2) := by decide +kernel
theorem dX12_would_10 : decode cX12_would 10 = .ok (.invokestatic 132, 3) := by decide +kernel
theorem dX12_would_13 : decode cX12_would 13 = .ok (.ifCond .eq 80, 3) := by decide +kernel
theorem dX12_would_16 : decode cX12_would 16 = .ok (.iload_n 2, 1) := by decide +kernel
theorem dX12_would_17 : decode cX12_would 17 = .ok (.iconst 0, 1) := by decide +kernel
theorem dX12_would_18 : decode cX12_would 18 = .ok (.sipush 999, 3) := by decide +kernel
theorem dX12_would_21 : decode cX12_would 21 = .ok (.invokestatic 132, 3) := by decide +kernel
theorem dX12_would_24 : decode cX12_would 24 = .ok (.ifCond .eq 69, 3) := by decide +kernel
theorem dX12_would_27 : decode cX12_would 27 = .ok (.iload_n 3, 1) := by decide +kernel
theorem dX12_would_28 : decode cX12_would 28 = .ok (.iconst 0, 1) := by decide +kernel
theorem dX12_would_29 : decode cX12_would 29 = .ok (.bipush 8, 2) := by decide +kernel
theorem dX12_would_31 : decode cX12_would 31 = .ok (.invokestatic 132, 3) := by decide +kernel
theorem dX12_would_34 : decode cX12_would 34 = .ok (.ifCond .eq 59, 3) := by decide +kernel
theorem dX12_would_37 : decode cX12_would 37 = .ok (.iload 4, 2) := by decide +kernel
theorem dX12_would_39 : decode cX12_would 39 = .ok (.iconst 0, 1) := by decide +kernel
theorem dX12_would_40 : decode cX12_would 40 = .ok (.iconst 1, 1) := by decide +kernel
theorem dX12_would_41 : decode cX12_would 41 = .ok (.invokestatic 132, 3) := by decide +kernel
theorem dX12_would_44 : decode cX12_would 44 = .ok (.ifCond .eq 49, 3) := by decide +kernel
theorem dX12_would_47 : decode cX12_would 47 = .ok (.iload 5, 2) := by decide +kernel
theorem dX12_would_49 : decode cX12_would 49 = .ok (.iconst 0, 1) := by decide +kernel
theorem dX12_would_50 : decode cX12_would 50 = .ok (.sipush 999, 3) := by decide +kernel
theorem dX12_would_53 : decode cX12_would 53 = .ok (.invokestatic 132, 3) := by decide +kernel
theorem dX12_would_56 : decode cX12_would 56 = .ok (.ifCond .eq 37, 3) := by decide +kernel
theorem dX12_would_59 : decode cX12_would 59 = .ok (.iload 6, 2) := by decide +kernel
theorem dX12_would_61 : decode cX12_would 61 = .ok (.iconst 0, 1) := by decide +kernel
theorem dX12_would_62 : decode cX12_would 62 = .ok (.bipush 8, 2) := by decide +kernel
theorem dX12_would_64 : decode cX12_would 64 = .ok (.invokestatic 132, 3) := by decide +kernel
theorem dX12_would_67 : decode cX12_would 67 = .ok (.ifCond .eq 26, 3) := by decide +kernel
theorem dX12_would_70 : decode cX12_would 70 = .ok (.iload 7, 2) := by decide +kernel
theorem dX12_would_72 : decode cX12_would 72 = .ok (.iconst 0, 1) := by decide +kernel
theorem dX12_would_73 : decode cX12_would 73 = .ok (.sipush 900, 3) := by decide +kernel
theorem dX12_would_76 : decode cX12_would 76 = .ok (.invokestatic 132, 3) := by decide +kernel
theorem dX12_would_79 : decode cX12_would 79 = .ok (.ifCond .eq 14, 3) := by decide +kernel
theorem dX12_would_82 : decode cX12_would 82 = .ok (.iload 8, 2) := by decide +kernel
theorem dX12_would_84 : decode cX12_would 84 = .ok (.iconst 0, 1) := by decide +kernel
theorem dX12_would_85 : decode cX12_would 85 = .ok (.bipush 7, 2) := by decide +kernel
theorem dX12_would_87 : decode cX12_would 87 = .ok (.invokestatic 132, 3) := by decide +kernel
theorem dX12_would_90 : decode cX12_would 90 = .ok (.ifCond .ne 7, 3) := by decide +kernel
theorem dX12_would_93 : decode cX12_would 93 = .ok (.iconst 1, 1) := by decide +kernel
theorem dX12_would_94 : decode cX12_would 94 = .ok (.goto 4, 3) := by decide +kernel
theorem dX12_would_97 : decode cX12_would 97 = .ok (.iconst 0, 1) := by decide +kernel
theorem dX12_would_98 : decode cX12_would 98 = .ok (.iconst 1, 1) := by decide +kernel
theorem dX12_would_99 : decode cX12_would 99 = .ok (.iconst 1, 1) := by decide +kernel
theorem dX12_would_100 : decode cX12_would 100 = .ok (.invokevirtual 174, 3) := by decide +kernel
theorem dX12_would_103 : decode cX12_would 103 = .ok (.ifCond .eq 5, 3) := by decide +kernel
theorem dX12_would_106 : decode cX12_would 106 = .ok (.iconst 0, 1) := by decide +kernel
theorem dX12_would_107 : decode cX12_would 107 = .ok (.ireturn, 1) := by decide +kernel
theorem dX12_would_108 : decode cX12_would 108 = .ok (.aload_n 0, 1) := by decide +kernel
theorem dX12_would_109 : decode cX12_would 109 = .ok (.iload_n 1, 1) := by decide +kernel
theorem dX12_would_110 : decode cX12_would 110 = .ok (.iload_n 2, 1) := by decide +kernel
theorem dX12_would_111 : decode cX12_would 111 = .ok (.iload_n 3, 1) := by decide +kernel
theorem dX12_would_112 : decode cX12_would 112 = .ok (.iload 4, 2) := by decide +kernel
theorem dX12_would_114 : decode cX12_would 114 = .ok (.iload 5, 2) := by decide +kernel
theorem dX12_would_116 : decode cX12_would 116 = .ok (.iload 6, 2) := by decide +kernel
theorem dX12_would_118 : decode cX12_would 118 = .ok (.iload 7, 2) := by decide +kernel
theorem dX12_would_120 : decode cX12_would 120 = .ok (.iload 8, 2) := by decide +kernel
theorem dX12_would_122 : decode cX12_would 122 = .ok (.invokevirtual 270, 3) := by decide +kernel
theorem dX12_would_125 : decode cX12_would 125 = .ok (.ireturn, 1) := by decide +kernel
theorem dX12_lender_0 : decode cX12_lender 0 = .ok (.aload_n 0, 1) := by decide +kernel
theorem dX12_lender_1 : decode cX12_lender 1 = .ok (.iconst 0, 1) := by decide +kernel
theorem dX12_lender_2 : decode cX12_lender 2 = .ok (.putfield 98, 3) := by decide +kernel
theorem dX12_lender_5 : decode cX12_lender 5 = .ok (.aload_n 0, 1) := by decide +kernel
theorem dX12_lender_6 : decode cX12_lender 6 = .ok (.aload_n 0, 1) := by decide +kernel
theorem dX12_lender_7 : decode cX12_lender 7 = .ok (.iload_n 1, 1) := by decide +kernel
theorem dX12_lender_8 : decode cX12_lender 8 = .ok (.invokevirtual 338, 3) := by decide +kernel
theorem dX12_lender_11 : decode cX12_lender 11 = .ok (.ifCond .ne 7, 3) := by decide +kernel
theorem dX12_lender_14 : decode cX12_lender 14 = .ok (.iconst 1, 1) := by decide +kernel
theorem dX12_lender_15 : decode cX12_lender 15 = .ok (.goto 4, 3) := by decide +kernel
theorem dX12_lender_18 : decode cX12_lender 18 = .ok (.iconst 0, 1) := by decide +kernel
theorem dX12_lender_19 : decode cX12_lender 19 = .ok (.iconst 1, 1) := by decide +kernel
theorem dX12_lender_20 : decode cX12_lender 20 = .ok (.iconst 0, 1) := by decide +kernel
theorem dX12_lender_21 : decode cX12_lender 21 = .ok (.invokevirtual 174, 3) := by decide +kernel
theorem dX12_lender_24 : decode cX12_lender 24 = .ok (.ifCond .eq 5, 3) := by decide +kernel
theorem dX12_lender_27 : decode cX12_lender 27 = .ok (.iconst 0, 1) := by decide +kernel
theorem dX12_lender_28 : decode cX12_lender 28 = .ok (.ireturn, 1) := by decide +kernel
theorem dX12_lender_29 : decode cX12_lender 29 = .ok (.aload_n 0, 1) := by decide +kernel
theorem dX12_lender_30 : decode cX12_lender 30 = .ok (.getfield 61, 3) := by decide +kernel
theorem dX12_lender_33 : decode cX12_lender 33 = .ok (.bipush 24, 2) := by decide +kernel
theorem dX12_lender_35 : decode cX12_lender 35 = .ok (.iaload, 1) := by decide +kernel
theorem dX12_lender_36 : decode cX12_lender 36 = .ok (.iload_n 1, 1) := by decide +kernel
theorem dX12_lender_37 : decode cX12_lender 37 = .ok (.invokestatic 253, 3) := by decide +kernel
theorem dX12_lender_40 : decode cX12_lender 40 = .ok (.ifCond .eq 15, 3) := by decide +kernel
theorem dX12_lender_43 : decode cX12_lender 43 = .ok (.aload_n 0, 1) := by decide +kernel
theorem dX12_lender_44 : decode cX12_lender 44 = .ok (.aload_n 0, 1) := by decide +kernel
theorem dX12_lender_45 : decode cX12_lender 45 = .ok (.getfield 61, 3) := by decide +kernel
theorem dX12_lender_48 : decode cX12_lender 48 = .ok (.iload_n 1, 1) := by decide +kernel
theorem dX12_lender_49 : decode cX12_lender 49 = .ok (.invokevirtual 324, 3) := by decide +kernel
theorem dX12_lender_52 : decode cX12_lender 52 = .ok (.goto 4, 3) := by decide +kernel
theorem dX12_lender_55 : decode cX12_lender 55 = .ok (.iconst (-1), 1) := by decide +kernel
theorem dX12_lender_56 : decode cX12_lender 56 = .ok (.ireturn, 1) := by decide +kernel
theorem dX12_deepest_0 : decode cX12_deepest 0 = .ok (.iconst (-1), 1) := by decide +kernel
theorem dX12_deepest_1 : decode cX12_deepest 1 = .ok (.istore_n 2, 1) := by decide +kernel
theorem dX12_deepest_2 : decode cX12_deepest 2 = .ok (.iconst 0, 1) := by decide +kernel
theorem dX12_deepest_3 : decode cX12_deepest 3 = .ok (.istore_n 3, 1) := by decide +kernel
theorem dX12_deepest_4 : decode cX12_deepest 4 = .ok (.iload_n 3, 1) := by decide +kernel
theorem dX12_deepest_5 : decode cX12_deepest 5 = .ok (.aload_n 0, 1) := by decide +kernel
theorem dX12_deepest_6 : decode cX12_deepest 6 = .ok (.getfield 23, 3) := by decide +kernel
theorem dX12_deepest_9 : decode cX12_deepest 9 = .ok (.iconst 0, 1) := by decide +kernel
theorem dX12_deepest_10 : decode cX12_deepest 10 = .ok (.iaload, 1) := by decide +kernel
theorem dX12_deepest_11 : decode cX12_deepest 11 = .ok (.if_icmp .ge 33, 3) := by decide +kernel
theorem dX12_deepest_14 : decode cX12_deepest 14 = .ok (.iload_n 2, 1) := by decide +kernel
theorem dX12_deepest_15 : decode cX12_deepest 15 = .ok (.iconst (-1), 1) := by decide +kernel
theorem dX12_deepest_16 : decode cX12_deepest 16 = .ok (.if_icmp .eq 16, 3) := by decide +kernel
theorem dX12_deepest_19 : decode cX12_deepest 19 = .ok (.aload_n 1, 1) := by decide +kernel
theorem dX12_deepest_20 : decode cX12_deepest 20 = .ok (.iconst 0, 1) := by decide +kernel
theorem dX12_deepest_21 : decode cX12_deepest 21 = .ok (.iload_n 3, 1) := by decide +kernel
theorem dX12_deepest_22 : decode cX12_deepest 22 = .ok (.iadd, 1) := by decide +kernel
theorem dX12_deepest_23 : decode cX12_deepest 23 = .ok (.iaload, 1) := by decide +kernel
theorem dX12_deepest_24 : decode cX12_deepest 24 = .ok (.aload_n 1, 1) := by decide +kernel
theorem dX12_deepest_25 : decode cX12_deepest 25 = .ok (.iconst 0, 1) := by decide +kernel
theorem dX12_deepest_26 : decode cX12_deepest 26 = .ok (.iload_n 2, 1) := by decide +kernel
theorem dX12_deepest_27 : decode cX12_deepest 27 = .ok (.iadd, 1) := by decide +kernel
theorem dX12_deepest_28 : decode cX12_deepest 28 = .ok (.iaload, 1) := by decide +kernel
theorem dX12_deepest_29 : decode cX12_deepest 29 = .ok (.if_icmp .le 7, 3) := by decide +kernel
theorem dX12_deepest_32 : decode cX12_deepest 32 = .ok (.iload_n 3, 1) := by decide +kernel
theorem dX12_deepest_33 : decode cX12_deepest 33 = .ok (.goto 4, 3) := by decide +kernel
theorem dX12_deepest_36 : decode cX12_deepest 36 = .ok (.iload_n 2, 1) := by decide +kernel
theorem dX12_deepest_37 : decode cX12_deepest 37 = .ok (.istore_n 2, 1) := by decide +kernel
theorem dX12_deepest_38 : decode cX12_deepest 38 = .ok (.iinc 3 1, 3) := by decide +kernel
theorem dX12_deepest_41 : decode cX12_deepest 41 = .ok (.goto (-37), 3) := by decide +kernel
theorem dX12_deepest_44 : decode cX12_deepest 44 = .ok (.iload_n 2, 1) := by decide +kernel
theorem dX12_deepest_45 : decode cX12_deepest 45 = .ok (.ireturn, 1) := by decide +kernel
theorem dX12_ahead_0 : decode cX12_ahead 0 = .ok (.aload_n 0, 1) := by decide +kernel
theorem dX12_ahead_1 : decode cX12_ahead 1 = .ok (.iconst 0, 1) := by decide +kernel
theorem dX12_ahead_2 : decode cX12_ahead 2 = .ok (.putfield 98, 3) := by decide +kernel
theorem dX12_ahead_5 : decode cX12_ahead 5 = .ok (.aload_n 0, 1) := by decide +kernel
theorem dX12_ahead_6 : decode cX12_ahead 6 = .ok (.iload_n 1, 1) := by decide +kernel
theorem dX12_ahead_7 : decode cX12_ahead 7 = .ok (.iconst 0, 1) := by decide +kernel
theorem dX12_ahead_8 : decode cX12_ahead 8 = .ok (.bipush 99, 2) := by decide +kernel
theorem dX12_ahead_10 : decode cX12_ahead 10 = .ok (.invokestatic 132, 3) := by decide +kernel
theorem dX12_ahead_13 : decode cX12_ahead 13 = .ok (.ifCond .eq 12, 3) := by decide +kernel
theorem dX12_ahead_16 : decode cX12_ahead 16 = .ok (.iload_n 2, 1) := by decide +kernel
theorem dX12_ahead_17 : decode cX12_ahead 17 = .ok (.iconst 0, 1) := by decide +kernel
theorem dX12_ahead_18 : decode cX12_ahead 18 = .ok (.iconst 2, 1) := by decide +kernel
theorem dX12_ahead_19 : decode cX12_ahead 19 = .ok (.invokestatic 132, 3) := by decide +kernel
theorem dX12_ahead_22 : decode cX12_ahead 22 = .ok (.ifCond .ne 7, 3) := by decide +kernel
theorem dX12_ahead_25 : decode cX12_ahead 25 = .ok (.iconst 1, 1) := by decide +kernel
theorem dX12_ahead_26 : decode cX12_ahead 26 = .ok (.goto 4, 3) := by decide +kernel
theorem dX12_ahead_29 : decode cX12_ahead 29 = .ok (.iconst 0, 1) := by decide +kernel
theorem dX12_ahead_30 : decode cX12_ahead 30 = .ok (.iconst 1, 1) := by decide +kernel
theorem dX12_ahead_31 : decode cX12_ahead 31 = .ok (.iconst 1, 1) := by decide +kernel
theorem dX12_ahead_32 : decode cX12_ahead 32 = .ok (.invokevirtual 174, 3) := by decide +kernel
theorem dX12_ahead_35 : decode cX12_ahead 35 = .ok (.ifCond .eq 5, 3) := by decide +kernel
theorem dX12_ahead_38 : decode cX12_ahead 38 = .ok (.iconst 0, 1) := by decide +kernel
theorem dX12_ahead_39 : decode cX12_ahead 39 = .ok (.ireturn, 1) := by decide +kernel
theorem dX12_ahead_40 : decode cX12_ahead 40 = .ok (.aload_n 0, 1) := by decide +kernel
theorem dX12_ahead_41 : decode cX12_ahead 41 = .ok (.getfield 61, 3) := by decide +kernel
theorem dX12_ahead_44 : decode cX12_ahead 44 = .ok (.aload_n 0, 1) := by decide +kernel
theorem dX12_ahead_45 : decode cX12_ahead 45 = .ok (.getfield 64, 3) := by decide +kernel
theorem dX12_ahead_48 : decode cX12_ahead 48 = .ok (.invokestatic 316, 3) := by decide +kernel
theorem dX12_ahead_51 : decode cX12_ahead 51 = .ok (.iconst 0, 1) := by decide +kernel
theorem dX12_ahead_52 : decode cX12_ahead 52 = .ok (.istore_n 3, 1) := by decide +kernel
theorem dX12_ahead_53 : decode cX12_ahead 53 = .ok (.iload_n 3, 1) := by decide +kernel
theorem dX12_ahead_54 : decode cX12_ahead 54 = .ok (.iload_n 1, 1) := by decide +kernel
theorem dX12_ahead_55 : decode cX12_ahead 55 = .ok (.if_icmp .ge 17, 3) := by decide +kernel
theorem dX12_ahead_58 : decode cX12_ahead 58 = .ok (.aload_n 0, 1) := by decide +kernel
theorem dX12_ahead_59 : decode cX12_ahead 59 = .ok (.aload_n 0, 1) := by decide +kernel
theorem dX12_ahead_60 : decode cX12_ahead 60 = .ok (.getfield 64, 3) := by decide +kernel
theorem dX12_ahead_63 : decode cX12_ahead 63 = .ok (.invokevirtual 299, 3) := by decide +kernel
theorem dX12_ahead_66 : decode cX12_ahead 66 = .ok (.iinc 3 1, 3) := by decide +kernel
theorem dX12_ahead_69 : decode cX12_ahead 69 = .ok (.goto (-16), 3) := by decide +kernel
theorem dX12_ahead_72 : decode cX12_ahead 72 = .ok (.iload_n 2, 1) := by decide +kernel
theorem dX12_ahead_73 : decode cX12_ahead 73 = .ok (.iconst 1, 1) := by decide +kernel
theorem dX12_ahead_74 : decode cX12_ahead 74 = .ok (.if_icmp .eq 28, 3) := by decide +kernel
theorem dX12_ahead_77 : decode cX12_ahead 77 = .ok (.iload_n 2, 1) := by decide +kernel
theorem dX12_ahead_78 : decode cX12_ahead 78 = .ok (.ifCond .ne 15, 3) := by decide +kernel
theorem dX12_ahead_81 : decode cX12_ahead 81 = .ok (.aload_n 0, 1) := by decide +kernel
theorem dX12_ahead_82 : decode cX12_ahead 82 = .ok (.aload_n 0, 1) := by decide +kernel
theorem dX12_ahead_83 : decode cX12_ahead 83 = .ok (.getfield 64, 3) := by decide +kernel
theorem dX12_ahead_86 : decode cX12_ahead 86 = .ok (.iconst 0, 1) := by decide +kernel
theorem dX12_ahead_87 : decode cX12_ahead 87 = .ok (.invokevirtual 331, 3) := by decide +kernel
theorem dX12_ahead_90 : decode cX12_ahead 90 = .ok (.goto 11, 3) := by decide +kernel
theorem dX12_ahead_93 : decode cX12_ahead 93 = .ok (.aload_n 0, 1) := by decide +kernel
theorem dX12_ahead_94 : decode cX12_ahead 94 = .ok (.aload_n 0, 1) := by decide +kernel
theorem dX12_ahead_95 : decode cX12_ahead 95 = .ok (.getfield 64, 3) := by decide +kernel
theorem dX12_ahead_98 : decode cX12_ahead 98 = .ok (.invokevirtual 341, 3) := by decide +kernel
theorem dX12_ahead_101 : decode cX12_ahead 101 = .ok (.ireturn, 1) := by decide +kernel
theorem dX12_ahead_102 : decode cX12_ahead 102 = .ok (.iconst 0, 1) := by decide +kernel
theorem dX12_ahead_103 : decode cX12_ahead 103 = .ok (.istore_n 3, 1) := by decide +kernel
theorem dX12_ahead_104 : decode cX12_ahead 104 = .ok (.iconst 0, 1) := by decide +kernel
theorem dX12_ahead_105 : decode cX12_ahead 105 = .ok (.istore 4, 2) := by decide +kernel
theorem dX12_ahead_107 : decode cX12_ahead 107 = .ok (.iload 4, 2) := by decide +kernel
theorem dX12_ahead_109 : decode cX12_ahead 109 = .ok (.aload_n 0, 1) := by decide +kernel
theorem dX12_ahead_110 : decode cX12_ahead 110 = .ok (.getfield 23, 3) := by decide +kernel
theorem dX12_ahead_113 : decode cX12_ahead 113 = .ok (.iconst 0, 1) := by decide +kernel
theorem dX12_ahead_114 : decode cX12_ahead 114 = .ok (.iaload, 1) := by decide +kernel
theorem dX12_ahead_115 : decode cX12_ahead 115 = .ok (.if_icmp .ge 49, 3) := by decide +kernel
theorem dX12_ahead_118 : decode cX12_ahead 118 = .ok (.iload_n 3, 1) := by decide +kernel
theorem dX12_ahead_119 : decode cX12_ahead 119 = .ok (.aload_n 0, 1) := by decide +kernel
theorem dX12_ahead_120 : decode cX12_ahead 120 = .ok (.getfield 64, 3) := by decide +kernel
theorem dX12_ahead_123 : decode cX12_ahead 123 = .ok (.bipush 24, 2) := by decide +kernel
theorem dX12_ahead_125 : decode cX12_ahead 125 = .ok (.iaload, 1) := by decide +kernel
theorem dX12_ahead_126 : decode cX12_ahead 126 = .ok (.iload 4, 2) := by decide +kernel
theorem dX12_ahead_128 : decode cX12_ahead 128 = .ok (.invokestatic 253, 3) := by decide +kernel
theorem dX12_ahead_131 : decode cX12_ahead 131 = .ok (.ifCond .eq 24, 3) := by decide +kernel
theorem dX12_ahead_134 : decode cX12_ahead 134 = .ok (.aload_n 0, 1) := by decide +kernel
theorem dX12_ahead_135 : decode cX12_ahead 135 = .ok (.aload_n 0, 1) := by decide +kernel
theorem dX12_ahead_136 : decode cX12_ahead 136 = .ok (.getfield 64, 3) := by decide +kernel
theorem dX12_ahead_139 : decode cX12_ahead 139 = .ok (.iload 4, 2) := by decide +kernel
theorem dX12_ahead_141 : decode cX12_ahead 141 = .ok (.invokevirtual 324, 3) := by decide +kernel
theorem dX12_ahead_144 : decode cX12_ahead 144 = .ok (.iconst (-1), 1) := by decide +kernel
theorem dX12_ahead_145 : decode cX12_ahead 145 = .ok (.if_icmp .eq 10, 3) := by decide +kernel
theorem dX12_ahead_148 : decode cX12_ahead 148 = .ok (.iconst 1, 1) := by decide +kernel
theorem dX12_ahead_149 : decode cX12_ahead 149 = .ok (.iload 4, 2) := by decide +kernel
theorem dX12_ahead_151 : decode cX12_ahead 151 = .ok (.ishl, 1) := by decide +kernel
theorem dX12_ahead_152 : decode cX12_ahead 152 = .ok (.goto 4, 3) := by decide +kernel
theorem dX12_ahead_155 : decode cX12_ahead 155 = .ok (.iconst 0, 1) := by decide +kernel
theorem dX12_ahead_156 : decode cX12_ahead 156 = .ok (.ior, 1) := by decide +kernel
theorem dX12_ahead_157 : decode cX12_ahead 157 = .ok (.istore_n 3, 1) := by decide +kernel
theorem dX12_ahead_158 : decode cX12_ahead 158 = .ok (.iinc 4 1, 3) := by decide +kernel
theorem dX12_ahead_161 : decode cX12_ahead 161 = .ok (.goto (-54), 3) := by decide +kernel
theorem dX12_ahead_164 : decode cX12_ahead 164 = .ok (.iload_n 3, 1) := by decide +kernel
theorem dX12_ahead_165 : decode cX12_ahead 165 = .ok (.ireturn, 1) := by decide +kernel
theorem dX12_truly_0 : decode cX12_truly 0 = .ok (.aload_n 0, 1) := by decide +kernel
theorem dX12_truly_1 : decode cX12_truly 1 = .ok (.iconst 0, 1) := by decide +kernel
theorem dX12_truly_2 : decode cX12_truly 2 = .ok (.putfield 98, 3) := by decide +kernel
theorem dX12_truly_5 : decode cX12_truly 5 = .ok (.aload_n 0, 1) := by decide +kernel
theorem dX12_truly_6 : decode cX12_truly 6 = .ok (.aload_n 0, 1) := by decide +kernel
theorem dX12_truly_7 : decode cX12_truly 7 = .ok (.iload_n 1, 1) := by decide +kernel
theorem dX12_truly_8 : decode cX12_truly 8 = .ok (.invokevirtual 338, 3) := by decide +kernel
theorem dX12_truly_11 : decode cX12_truly 11 = .ok (.ifCond .ne 7, 3) := by decide +kernel
theorem dX12_truly_14 : decode cX12_truly 14 = .ok (.iconst 1, 1) := by decide +kernel
theorem dX12_truly_15 : decode cX12_truly 15 = .ok (.goto 4, 3) := by decide +kernel
theorem dX12_truly_18 : decode cX12_truly 18 = .ok (.iconst 0, 1) := by decide +kernel
theorem dX12_truly_19 : decode cX12_truly 19 = .ok (.iconst 1, 1) := by decide +kernel
theorem dX12_truly_20 : decode cX12_truly 20 = .ok (.iconst 0, 1) := by decide +kernel
theorem dX12_truly_21 : decode cX12_truly 21 = .ok (.invokevirtual 174, 3) := by decide +kernel
theorem dX12_truly_24 : decode cX12_truly 24 = .ok (.ifCond .eq 5, 3) := by decide +kernel
theorem dX12_truly_27 : decode cX12_truly 27 = .ok (.iconst 0, 1) := by decide +kernel
theorem dX12_truly_28 : decode cX12_truly 28 = .ok (.ireturn, 1) := by decide +kernel
theorem dX12_truly_29 : decode cX12_truly 29 = .ok (.aload_n 0, 1) := by decide +kernel
theorem dX12_truly_30 : decode cX12_truly 30 = .ok (.getfield 61, 3) := by decide +kernel
theorem dX12_truly_33 : decode cX12_truly 33 = .ok (.bipush 24, 2) := by decide +kernel
theorem dX12_truly_35 : decode cX12_truly 35 = .ok (.iaload, 1) := by decide +kernel
theorem dX12_truly_36 : decode cX12_truly 36 = .ok (.iload_n 1, 1) := by decide +kernel
theorem dX12_truly_37 : decode cX12_truly 37 = .ok (.invokestatic 253, 3) := by decide +kernel
theorem dX12_truly_40 : decode cX12_truly 40 = .ok (.ifCond .eq 7, 3) := by decide +kernel
theorem dX12_truly_43 : decode cX12_truly 43 = .ok (.iconst (-1), 1) := by decide +kernel
theorem dX12_truly_44 : decode cX12_truly 44 = .ok (.goto 12, 3) := by decide +kernel
theorem dX12_truly_47 : decode cX12_truly 47 = .ok (.aload_n 0, 1) := by decide +kernel
theorem dX12_truly_48 : decode cX12_truly 48 = .ok (.getfield 61, 3) := by decide +kernel
theorem dX12_truly_51 : decode cX12_truly 51 = .ok (.iload_n 1, 1) := by decide +kernel
theorem dX12_truly_52 : decode cX12_truly 52 = .ok (.iconst 0, 1) := by decide +kernel
theorem dX12_truly_53 : decode cX12_truly 53 = .ok (.invokestatic 320, 3) := by decide +kernel
theorem dX12_truly_56 : decode cX12_truly 56 = .ok (.ireturn, 1) := by decide +kernel
theorem dX12_chain_0 : decode cX12_chain 0 = .ok (.aload_n 0, 1) := by decide +kernel
theorem dX12_chain_1 : decode cX12_chain 1 = .ok (.iconst 0, 1) := by decide +kernel
theorem dX12_chain_2 : decode cX12_chain 2 = .ok (.putfield 98, 3) := by decide +kernel
theorem dX12_chain_5 : decode cX12_chain 5 = .ok (.aload_n 0, 1) := by decide +kernel
theorem dX12_chain_6 : decode cX12_chain 6 = .ok (.aload_n 0, 1) := by decide +kernel
theorem dX12_chain_7 : decode cX12_chain 7 = .ok (.iload_n 1, 1) := by decide +kernel
theorem dX12_chain_8 : decode cX12_chain 8 = .ok (.invokevirtual 338, 3) := by decide +kernel
theorem dX12_chain_11 : decode cX12_chain 11 = .ok (.ifCond .ne 7, 3) := by decide +kernel
theorem dX12_chain_14 : decode cX12_chain 14 = .ok (.iconst 1, 1) := by decide +kernel
theorem dX12_chain_15 : decode cX12_chain 15 = .ok (.goto 4, 3) := by decide +kernel
theorem dX12_chain_18 : decode cX12_chain 18 = .ok (.iconst 0, 1) := by decide +kernel
theorem dX12_chain_19 : decode cX12_chain 19 = .ok (.iconst 1, 1) := by decide +kernel
theorem dX12_chain_20 : decode cX12_chain 20 = .ok (.iconst 0, 1) := by decide +kernel
theorem dX12_chain_21 : decode cX12_chain 21 = .ok (.invokevirtual 174, 3) := by decide +kernel
theorem dX12_chain_24 : decode cX12_chain 24 = .ok (.ifCond .eq 5, 3) := by decide +kernel
theorem dX12_chain_27 : decode cX12_chain 27 = .ok (.iconst 0, 1) := by decide +kernel
theorem dX12_chain_28 : decode cX12_chain 28 = .ok (.ireturn, 1) := by decide +kernel
theorem dX12_chain_29 : decode cX12_chain 29 = .ok (.aload_n 0, 1) := by decide +kernel
theorem dX12_chain_30 : decode cX12_chain 30 = .ok (.getfield 61, 3) := by decide +kernel
theorem dX12_chain_33 : decode cX12_chain 33 = .ok (.iload_n 1, 1) := by decide +kernel
theorem dX12_chain_34 : decode cX12_chain 34 = .ok (.iconst 1, 1) := by decide +kernel
theorem dX12_chain_35 : decode cX12_chain 35 = .ok (.invokestatic 320, 3) := by decide +kernel
theorem dX12_chain_38 : decode cX12_chain 38 = .ok (.ireturn, 1) := by decide +kernel
theorem dX12_serves_0 : decode cX12_serves 0 = .ok (.iload_n 2, 1) := by decide +kernel
theorem dX12_serves_1 : decode cX12_serves 1 = .ok (.aload_n 0, 1) := by decide +kernel
theorem dX12_serves_2 : decode cX12_serves 2 = .ok (.getfield 23, 3) := by decide +kernel
theorem dX12_serves_5 : decode cX12_serves 5 = .ok (.iconst 0, 1) := by decide +kernel
theorem dX12_serves_6 : decode cX12_serves 6 = .ok (.iaload, 1) := by decide +kernel
theorem dX12_serves_7 : decode cX12_serves 7 = .ok (.if_icmp .ne 71, 3) := by decide +kernel
theorem dX12_serves_10 : decode cX12_serves 10 = .ok (.iload_n 3, 1) := by decide +kernel
theorem dX12_serves_11 : decode cX12_serves 11 = .ok (.aload_n 0, 1) := by decide +kernel
theorem dX12_serves_12 : decode cX12_serves 12 = .ok (.getfield 344, 3) := by decide +kernel
theorem dX12_serves_15 : decode cX12_serves 15 = .ok (.if_icmp .lt 20, 3) := by decide +kernel
theorem dX12_serves_18 : decode cX12_serves 18 = .ok (.iload_n 3, 1) := by decide +kernel
theorem dX12_serves_19 : decode cX12_serves 19 = .ok (.aload_n 0, 1) := by decide +kernel
theorem dX12_serves_20 : decode cX12_serves 20 = .ok (.getfield 344, 3) := by decide +kernel
theorem dX12_serves_23 : decode cX12_serves 23 = .ok (.if_icmp .ne 13, 3) := by decide +kernel
theorem dX12_serves_26 : decode cX12_serves 26 = .ok (.iload 4, 2) := by decide +kernel
theorem dX12_serves_28 : decode cX12_serves 28 = .ok (.aload_n 0, 1) := by decide +kernel
theorem dX12_serves_29 : decode cX12_serves 29 = .ok (.getfield 347, 3) := by decide +kernel
theorem dX12_serves_32 : decode cX12_serves 32 = .ok (.if_icmp .gt 4, 3) := by decide +kernel
theorem dX12_serves_35 : decode cX12_serves 35 = .ok (.return_, 1) := by decide +kernel
theorem dX12_serves_36 : decode cX12_serves 36 = .ok (.aload_n 0, 1) := by decide +kernel
theorem dX12_serves_37 : decode cX12_serves 37 = .ok (.iload_n 3, 1) := by decide +kernel
theorem dX12_serves_38 : decode cX12_serves 38 = .ok (.putfield 344, 3) := by decide +kernel
theorem dX12_serves_41 : decode cX12_serves 41 = .ok (.aload_n 0, 1) := by decide +kernel
theorem dX12_serves_42 : decode cX12_serves 42 = .ok (.iload 4, 2) := by decide +kernel
theorem dX12_serves_44 : decode cX12_serves 44 = .ok (.putfield 347, 3) := by decide +kernel
theorem dX12_serves_47 : decode cX12_serves 47 = .ok (.iconst 0, 1) := by decide +kernel
theorem dX12_serves_48 : decode cX12_serves 48 = .ok (.istore 5, 2) := by decide +kernel
theorem dX12_serves_50 : decode cX12_serves 50 = .ok (.iload 5, 2) := by decide +kernel
theorem dX12_serves_52 : decode cX12_serves 52 = .ok (.bipush 8, 2) := by decide +kernel
theorem dX12_serves_54 : decode cX12_serves 54 = .ok (.if_icmp .ge 23, 3) := by decide +kernel
theorem dX12_serves_57 : decode cX12_serves 57 = .ok (.aload_n 0, 1) := by decide +kernel
theorem dX12_serves_58 : decode cX12_serves 58 = .ok (.getfield 76, 3) := by decide +kernel
theorem dX12_serves_61 : decode cX12_serves 61 = .ok (.iload 5, 2) := by decide +kernel
theorem dX12_serves_63 : decode cX12_serves 63 = .ok (.aload_n 0, 1) := by decide +kernel
theorem dX12_serves_64 : decode cX12_serves 64 = .ok (.getfield 73, 3) := by decide +kernel
theorem dX12_serves_67 : decode cX12_serves 67 = .ok (.iload 5, 2) := by decide +kernel
theorem dX12_serves_69 : decode cX12_serves 69 = .ok (.iaload, 1) := by decide +kernel
theorem dX12_serves_70 : decode cX12_serves 70 = .ok (.iastore, 1) := by decide +kernel
theorem dX12_serves_71 : decode cX12_serves 71 = .ok (.iinc 5 1, 3) := by decide +kernel
theorem dX12_serves_74 : decode cX12_serves 74 = .ok (.goto (-24), 3) := by decide +kernel
theorem dX12_serves_77 : decode cX12_serves 77 = .ok (.return_, 1) := by decide +kernel
theorem dX12_serves_78 : decode cX12_serves 78 = .ok (.aload_n 0, 1) := by decide +kernel
theorem dX12_serves_79 : decode cX12_serves 79 = .ok (.getfield 73, 3) := by decide +kernel
theorem dX12_serves_82 : decode cX12_serves 82 = .ok (.iload_n 2, 1) := by decide +kernel
theorem dX12_serves_83 : decode cX12_serves 83 = .ok (.iconst (-1), 1) := by decide +kernel
theorem dX12_serves_84 : decode cX12_serves 84 = .ok (.iastore, 1) := by decide +kernel
theorem dX12_serves_85 : decode cX12_serves 85 = .ok (.iconst 0, 1) := by decide +kernel
theorem dX12_serves_86 : decode cX12_serves 86 = .ok (.istore 5, 2) := by decide +kernel
theorem dX12_serves_88 : decode cX12_serves 88 = .ok (.iload 5, 2) := by decide +kernel
theorem dX12_serves_90 : decode cX12_serves 90 = .ok (.aload_n 0, 1) := by decide +kernel
theorem dX12_serves_91 : decode cX12_serves 91 = .ok (.getfield 23, 3) := by decide +kernel
theorem dX12_serves_94 : decode cX12_serves 94 = .ok (.iconst 0, 1) := by decide +kernel
theorem dX12_serves_95 : decode cX12_serves 95 = .ok (.iaload, 1) := by decide +kernel
theorem dX12_serves_96 : decode cX12_serves 96 = .ok (.if_icmp .ge 125, 3) := by decide +kernel
theorem dX12_serves_99 : decode cX12_serves 99 = .ok (.iload_n 1, 1) := by decide +kernel
theorem dX12_serves_100 : decode cX12_serves 100 = .ok (.iload_n 2, 1) := by decide +kernel
theorem dX12_serves_101 : decode cX12_serves 101 = .ok (.invokestatic 253, 3) := by decide +kernel
theorem dX12_serves_104 : decode cX12_serves 104 = .ok (.ifCond .eq 117, 3) := by decide +kernel
theorem dX12_serves_107 : decode cX12_serves 107 = .ok (.iload_n 1, 1) := by decide +kernel
theorem dX12_serves_108 : decode cX12_serves 108 = .ok (.iload 5, 2) := by decide +kernel
theorem dX12_serves_110 : decode cX12_serves 110 = .ok (.invokestatic 253, 3) := by decide +kernel
theorem dX12_serves_113 : decode cX12_serves 113 = .ok (.ifCond .ne 102, 3) := by decide +kernel
theorem dX12_serves_116 : decode cX12_serves 116 = .ok (.aload_n 0, 1) := by decide +kernel
theorem dX12_serves_117 : decode cX12_serves 117 = .ok (.aload_n 0, 1) := by decide +kernel
theorem dX12_serves_118 : decode cX12_serves 118 = .ok (.getfield 61, 3) := by decide +kernel
theorem dX12_serves_121 : decode cX12_serves 121 = .ok (.iload 5, 2) := by decide +kernel
theorem dX12_serves_123 : decode cX12_serves 123 = .ok (.iload_n 2, 1) := by decide +kernel
theorem dX12_serves_124 : decode cX12_serves 124 = .ok (.invokevirtual 278, 3) := by decide +kernel
theorem dX12_serves_127 : decode cX12_serves 127 = .ok (.ifCond .eq 88, 3) := by decide +kernel
theorem dX12_serves_130 : decode cX12_serves 130 = .ok (.aload_n 0, 1) := by decide +kernel
theorem dX12_serves_131 : decode cX12_serves 131 = .ok (.getfield 79, 3) := by decide +kernel
theorem dX12_serves_134 : decode cX12_serves 134 = .ok (.iload 5, 2) := by decide +kernel
theorem dX12_serves_136 : decode cX12_serves 136 = .ok (.iaload, 1) := by decide +kernel
theorem dX12_serves_137 : decode cX12_serves 137 = .ok (.aload_n 0, 1) := by decide +kernel
theorem dX12_serves_138 : decode cX12_serves 138 = .ok (.aload_n 0, 1) := by decide +kernel
theorem dX12_serves_139 : decode cX12_serves 139 = .ok (.getfield 61, 3) := by decide +kernel
theorem dX12_serves_142 : decode cX12_serves 142 = .ok (.iload 5, 2) := by decide +kernel
theorem dX12_serves_144 : decode cX12_serves 144 = .ok (.invokevirtual 267, 3) := by decide +kernel
theorem dX12_serves_147 : decode cX12_serves 147 = .ok (.iadd, 1) := by decide +kernel
theorem dX12_serves_148 : decode cX12_serves 148 = .ok (.aload_n 0, 1) := by decide +kernel
theorem dX12_serves_149 : decode cX12_serves 149 = .ok (.getfield 23, 3) := by decide +kernel
theorem dX12_serves_152 : decode cX12_serves 152 = .ok (.iconst 1, 1) := by decide +kernel
theorem dX12_serves_153 : decode cX12_serves 153 = .ok (.iaload, 1) := by decide +kernel
theorem dX12_serves_154 : decode cX12_serves 154 = .ok (.if_icmp .lt 6, 3) := by decide +kernel
theorem dX12_serves_157 : decode cX12_serves 157 = .ok (.goto 58, 3) := by decide +kernel
theorem dX12_serves_160 : decode cX12_serves 160 = .ok (.aload_n 0, 1) := by decide +kernel
theorem dX12_serves_161 : decode cX12_serves 161 = .ok (.getfield 73, 3) := by decide +kernel
theorem dX12_serves_164 : decode cX12_serves 164 = .ok (.iload_n 2, 1) := by decide +kernel
theorem dX12_serves_165 : decode cX12_serves 165 = .ok (.iload 5, 2) := by decide +kernel
theorem dX12_serves_167 : decode cX12_serves 167 = .ok (.iastore, 1) := by decide +kernel
theorem dX12_serves_168 : decode cX12_serves 168 = .ok (.aload_n 0, 1) := by decide +kernel
theorem dX12_serves_169 : decode cX12_serves 169 = .ok (.getfield 79, 3) := by decide +kernel
theorem dX12_serves_172 : decode cX12_serves 172 = .ok (.iload 5, 2) := by decide +kernel
theorem dX12_serves_174 : decode cX12_serves 174 = .ok (.dup2, 1) := by decide +kernel
theorem dX12_serves_175 : decode cX12_serves 175 = .ok (.iaload, 1) := by decide +kernel
theorem dX12_serves_176 : decode cX12_serves 176 = .ok (.iconst 1, 1) := by decide +kernel
theorem dX12_serves_177 : decode cX12_serves 177 = .ok (.iadd, 1) := by decide +kernel
theorem dX12_serves_178 : decode cX12_serves 178 = .ok (.iastore, 1) := by decide +kernel
theorem dX12_serves_179 : decode cX12_serves 179 = .ok (.aload_n 0, 1) := by decide +kernel
theorem dX12_serves_180 : decode cX12_serves 180 = .ok (.iload_n 1, 1) := by decide +kernel
theorem dX12_serves_181 : decode cX12_serves 181 = .ok (.iload_n 2, 1) := by decide +kernel
theorem dX12_serves_182 : decode cX12_serves 182 = .ok (.iconst 1, 1) := by decide +kernel
theorem dX12_serves_183 : decode cX12_serves 183 = .ok (.iadd, 1) := by decide +kernel
theorem dX12_serves_184 : decode cX12_serves 184 = .ok (.iload_n 3, 1) := by decide +kernel
theorem dX12_serves_185 : decode cX12_serves 185 = .ok (.iconst 1, 1) := by decide +kernel
theorem dX12_serves_186 : decode cX12_serves 186 = .ok (.iadd, 1) := by decide +kernel
theorem dX12_serves_187 : decode cX12_serves 187 = .ok (.iload 4, 2) := by decide +kernel
theorem dX12_serves_189 : decode cX12_serves 189 = .ok (.aload_n 0, 1) := by decide +kernel
theorem dX12_serves_190 : decode cX12_serves 190 = .ok (.aload_n 0, 1) := by decide +kernel
theorem dX12_serves_191 : decode cX12_serves 191 = .ok (.getfield 61, 3) := by decide +kernel
theorem dX12_serves_194 : decode cX12_serves 194 = .ok (.iload 5, 2) := by decide +kernel
theorem dX12_serves_196 : decode cX12_serves 196 = .ok (.iload_n 2, 1) := by decide +kernel
theorem dX12_serves_197 : decode cX12_serves 197 = .ok (.invokevirtual 274, 3) := by decide +kernel
theorem dX12_serves_200 : decode cX12_serves 200 = .ok (.iadd, 1) := by decide +kernel
theorem dX12_serves_201 : decode cX12_serves 201 = .ok (.invokevirtual 350, 3) := by decide +kernel
theorem dX12_serves_204 : decode cX12_serves 204 = .ok (.aload_n 0, 1) := by decide +kernel
theorem dX12_serves_205 : decode cX12_serves 205 = .ok (.getfield 79, 3) := by decide +kernel
theorem dX12_serves_208 : decode cX12_serves 208 = .ok (.iload 5, 2) := by decide +kernel
theorem dX12_serves_210 : decode cX12_serves 210 = .ok (.dup2, 1) := by decide +kernel
theorem dX12_serves_211 : decode cX12_serves 211 = .ok (.iaload, 1) := by decide +kernel
theorem dX12_serves_212 : decode cX12_serves 212 = .ok (.iconst 1, 1) := by decide +kernel
theorem dX12_serves_213 : decode cX12_serves 213 = .ok (.isub, 1) := by decide +kernel
theorem dX12_serves_214 : decode cX12_serves 214 = .ok (.iastore, 1) := by decide +kernel
theorem dX12_serves_215 : decode cX12_serves 215 = .ok (.iinc 5 1, 3) := by decide +kernel
theorem dX12_serves_218 : decode cX12_serves 218 = .ok (.goto (-130), 3) := by decide +kernel
theorem dX12_serves_221 : decode cX12_serves 221 = .ok (.aload_n 0, 1) := by decide +kernel
theorem dX12_serves_222 : decode cX12_serves 222 = .ok (.getfield 73, 3) := by decide +kernel
theorem dX12_serves_225 : decode cX12_serves 225 = .ok (.iload_n 2, 1) := by decide +kernel
theorem dX12_serves_226 : decode cX12_serves 226 = .ok (.iconst (-1), 1) := by decide +kernel
theorem dX12_serves_227 : decode cX12_serves 227 = .ok (.iastore, 1) := by decide +kernel
theorem dX12_serves_228 : decode cX12_serves 228 = .ok (.aload_n 0, 1) := by decide +kernel
theorem dX12_serves_229 : decode cX12_serves 229 = .ok (.iload_n 1, 1) := by decide +kernel
theorem dX12_serves_230 : decode cX12_serves 230 = .ok (.iload_n 2, 1) := by decide +kernel
theorem dX12_serves_231 : decode cX12_serves 231 = .ok (.iconst 1, 1) := by decide +kernel
theorem dX12_serves_232 : decode cX12_serves 232 = .ok (.iadd, 1) := by decide +kernel
theorem dX12_serves_233 : decode cX12_serves 233 = .ok (.iload_n 3, 1) := by decide +kernel
theorem dX12_serves_234 : decode cX12_serves 234 = .ok (.iload 4, 2) := by decide +kernel
theorem dX12_serves_236 : decode cX12_serves 236 = .ok (.invokevirtual 350, 3) := by decide +kernel
theorem dX12_serves_239 : decode cX12_serves 239 = .ok (.return_, 1) := by decide +kernel
theorem dX12_laysGifts_0 : decode cX12_laysGifts 0 = .ok (.aload_n 0, 1) := by decide +kernel
theorem dX12_laysGifts_1 : decode cX12_laysGifts 1 = .ok (.iconst (-1), 1) := by decide +kernel
theorem dX12_laysGifts_2 : decode cX12_laysGifts 2 = .ok (.putfield 344, 3) := by decide +kernel
theorem dX12_laysGifts_5 : decode cX12_laysGifts 5 = .ok (.aload_n 0, 1) := by decide +kernel
theorem dX12_laysGifts_6 : decode cX12_laysGifts 6 = .ok (.iconst (-1), 1) := by decide +kernel
theorem dX12_laysGifts_7 : decode cX12_laysGifts 7 = .ok (.putfield 347, 3) := by decide +kernel
theorem dX12_laysGifts_10 : decode cX12_laysGifts 10 = .ok (.iconst 0, 1) := by decide +kernel
theorem dX12_laysGifts_11 : decode cX12_laysGifts 11 = .ok (.istore_n 2, 1) := by decide +kernel
theorem dX12_laysGifts_12 : decode cX12_laysGifts 12 = .ok (.iload_n 2, 1) := by decide +kernel
theorem dX12_laysGifts_13 : decode cX12_laysGifts 13 = .ok (.bipush 8, 2) := by decide +kernel
theorem dX12_laysGifts_15 : decode cX12_laysGifts 15 = .ok (.if_icmp .ge 16, 3) := by decide +kernel
theorem dX12_laysGifts_18 : decode cX12_laysGifts 18 = .ok (.aload_n 0, 1) := by decide +kernel
theorem dX12_laysGifts_19 : decode cX12_laysGifts 19 = .ok (.getfield 79, 3) := by decide +kernel
theorem dX12_laysGifts_22 : decode cX12_laysGifts 22 = .ok (.iload_n 2, 1) := by decide +kernel
theorem dX12_laysGifts_23 : decode cX12_laysGifts 23 = .ok (.iconst 0, 1) := by decide +kernel
theorem dX12_laysGifts_24 : decode cX12_laysGifts 24 = .ok (.iastore, 1) := by decide +kernel
theorem dX12_laysGifts_25 : decode cX12_laysGifts 25 = .ok (.iinc 2 1, 3) := by decide +kernel
theorem dX12_laysGifts_28 : decode cX12_laysGifts 28 = .ok (.goto (-16), 3) := by decide +kernel
theorem dX12_laysGifts_31 : decode cX12_laysGifts 31 = .ok (.aload_n 0, 1) := by decide +kernel
theorem dX12_laysGifts_32 : decode cX12_laysGifts 32 = .ok (.iload_n 1, 1) := by decide +kernel
theorem dX12_laysGifts_33 : decode cX12_laysGifts 33 = .ok (.aload_n 0, 1) := by decide +kernel
theorem dX12_laysGifts_34 : decode cX12_laysGifts 34 = .ok (.getfield 61, 3) := by decide +kernel
theorem dX12_laysGifts_37 : decode cX12_laysGifts 37 = .ok (.bipush 24, 2) := by decide +kernel
theorem dX12_laysGifts_39 : decode cX12_laysGifts 39 = .ok (.iaload, 1) := by decide +kernel
theorem dX12_laysGifts_40 : decode cX12_laysGifts 40 = .ok (.iand, 1) := by decide +kernel
theorem dX12_laysGifts_41 : decode cX12_laysGifts 41 = .ok (.iconst 0, 1) := by decide +kernel
theorem dX12_laysGifts_42 : decode cX12_laysGifts 42 = .ok (.iconst 0, 1) := by decide +kernel
theorem dX12_laysGifts_43 : decode cX12_laysGifts 43 = .ok (.iconst 0, 1) := by decide +kernel
theorem dX12_laysGifts_44 : decode cX12_laysGifts 44 = .ok (.invokevirtual 350, 3) := by decide +kernel
theorem dX12_laysGifts_47 : decode cX12_laysGifts 47 = .ok (.return_, 1) := by decide +kernel
theorem dX12_served_0 : decode cX12_served 0 = .ok (.aload_n 0, 1) := by decide +kernel
theorem dX12_served_1 : decode cX12_served 1 = .ok (.iconst 0, 1) := by decide +kernel
theorem dX12_served_2 : decode cX12_served 2 = .ok (.putfield 98, 3) := by decide +kernel
theorem dX12_served_5 : decode cX12_served 5 = .ok (.aload_n 0, 1) := by decide +kernel
theorem dX12_served_6 : decode cX12_served 6 = .ok (.iload_n 1, 1) := by decide +kernel
theorem dX12_served_7 : decode cX12_served 7 = .ok (.iconst 0, 1) := by decide +kernel
theorem dX12_served_8 : decode cX12_served 8 = .ok (.aload_n 0, 1) := by decide +kernel
theorem dX12_served_9 : decode cX12_served 9 = .ok (.invokevirtual 354, 3) := by decide +kernel
theorem dX12_served_12 : decode cX12_served 12 = .ok (.invokestatic 132, 3) := by decide +kernel
theorem dX12_served_15 : decode cX12_served 15 = .ok (.ifCond .eq 12, 3) := by decide +kernel
theorem dX12_served_18 : decode cX12_served 18 = .ok (.iload_n 2, 1) := by decide +kernel
theorem dX12_served_19 : decode cX12_served 19 = .ok (.iconst 0, 1) := by decide +kernel
theorem dX12_served_20 : decode cX12_served 20 = .ok (.iconst 1, 1) := by decide +kernel
theorem dX12_served_21 : decode cX12_served 21 = .ok (.invokestatic 132, 3) := by decide +kernel
theorem dX12_served_24 : decode cX12_served 24 = .ok (.ifCond .ne 7, 3) := by decide +kernel
theorem dX12_served_27 : decode cX12_served 27 = .ok (.iconst 1, 1) := by decide +kernel
theorem dX12_served_28 : decode cX12_served 28 = .ok (.goto 4, 3) := by decide +kernel
theorem dX12_served_31 : decode cX12_served 31 = .ok (.iconst 0, 1) := by decide +kernel
theorem dX12_served_32 : decode cX12_served 32 = .ok (.iconst 1, 1) := by decide +kernel
theorem dX12_served_33 : decode cX12_served 33 = .ok (.iconst 1, 1) := by decide +kernel
theorem dX12_served_34 : decode cX12_served 34 = .ok (.invokevirtual 174, 3) := by decide +kernel
theorem dX12_served_37 : decode cX12_served 37 = .ok (.ifCond .eq 5, 3) := by decide +kernel
theorem dX12_served_40 : decode cX12_served 40 = .ok (.iconst 0, 1) := by decide +kernel
theorem dX12_served_41 : decode cX12_served 41 = .ok (.ireturn, 1) := by decide +kernel
theorem dX12_served_42 : decode cX12_served 42 = .ok (.aload_n 0, 1) := by decide +kernel
theorem dX12_served_43 : decode cX12_served 43 = .ok (.iload_n 1, 1) := by decide +kernel
theorem dX12_served_44 : decode cX12_served 44 = .ok (.invokevirtual 357, 3) := by decide +kernel
theorem dX12_served_47 : decode cX12_served 47 = .ok (.iload_n 2, 1) := by decide +kernel
theorem dX12_served_48 : decode cX12_served 48 = .ok (.ifCond .ne 10, 3) := by decide +kernel
theorem dX12_served_51 : decode cX12_served 51 = .ok (.aload_n 0, 1) := by decide +kernel
theorem dX12_served_52 : decode cX12_served 52 = .ok (.getfield 344, 3) := by decide +kernel
theorem dX12_served_55 : decode cX12_served 55 = .ok (.goto 7, 3) := by decide +kernel
theorem dX12_served_58 : decode cX12_served 58 = .ok (.aload_n 0, 1) := by decide +kernel
theorem dX12_served_59 : decode cX12_served 59 = .ok (.getfield 347, 3) := by decide +kernel
theorem dX12_served_62 : decode cX12_served 62 = .ok (.ireturn, 1) := by decide +kernel
theorem dX12_giver_0 : decode cX12_giver 0 = .ok (.aload_n 0, 1) := by decide +kernel
theorem dX12_giver_1 : decode cX12_giver 1 = .ok (.iconst 0, 1) := by decide +kernel
theorem dX12_giver_2 : decode cX12_giver 2 = .ok (.putfield 98, 3) := by decide +kernel
theorem dX12_giver_5 : decode cX12_giver 5 = .ok (.aload_n 0, 1) := by decide +kernel
theorem dX12_giver_6 : decode cX12_giver 6 = .ok (.aload_n 0, 1) := by decide +kernel
theorem dX12_giver_7 : decode cX12_giver 7 = .ok (.iload_n 1, 1) := by decide +kernel
theorem dX12_giver_8 : decode cX12_giver 8 = .ok (.invokevirtual 338, 3) := by decide +kernel
theorem dX12_giver_11 : decode cX12_giver 11 = .ok (.ifCond .ne 7, 3) := by decide +kernel
theorem dX12_giver_14 : decode cX12_giver 14 = .ok (.iconst 1, 1) := by decide +kernel
theorem dX12_giver_15 : decode cX12_giver 15 = .ok (.goto 4, 3) := by decide +kernel
theorem dX12_giver_18 : decode cX12_giver 18 = .ok (.iconst 0, 1) := by decide +kernel
theorem dX12_giver_19 : decode cX12_giver 19 = .ok (.iconst 1, 1) := by decide +kernel
theorem dX12_giver_20 : decode cX12_giver 20 = .ok (.iconst 0, 1) := by decide +kernel
theorem dX12_giver_21 : decode cX12_giver 21 = .ok (.invokevirtual 174, 3) := by decide +kernel
theorem dX12_giver_24 : decode cX12_giver 24 = .ok (.ifCond .ne 29, 3) := by decide +kernel
theorem dX12_giver_27 : decode cX12_giver 27 = .ok (.aload_n 0, 1) := by decide +kernel
theorem dX12_giver_28 : decode cX12_giver 28 = .ok (.iload_n 2, 1) := by decide +kernel
theorem dX12_giver_29 : decode cX12_giver 29 = .ok (.iconst 0, 1) := by decide +kernel
theorem dX12_giver_30 : decode cX12_giver 30 = .ok (.aload_n 0, 1) := by decide +kernel
theorem dX12_giver_31 : decode cX12_giver 31 = .ok (.invokevirtual 354, 3) := by decide +kernel
theorem dX12_giver_34 : decode cX12_giver 34 = .ok (.invokestatic 132, 3) := by decide +kernel
theorem dX12_giver_37 : decode cX12_giver 37 = .ok (.ifCond .ne 7, 3) := by decide +kernel
theorem dX12_giver_40 : decode cX12_giver 40 = .ok (.iconst 1, 1) := by decide +kernel
theorem dX12_giver_41 : decode cX12_giver 41 = .ok (.goto 4, 3) := by decide +kernel
theorem dX12_giver_44 : decode cX12_giver 44 = .ok (.iconst 0, 1) := by decide +kernel
theorem dX12_giver_45 : decode cX12_giver 45 = .ok (.iconst 2, 1) := by decide +kernel
theorem dX12_giver_46 : decode cX12_giver 46 = .ok (.iconst 1, 1) := by decide +kernel
theorem dX12_giver_47 : decode cX12_giver 47 = .ok (.invokevirtual 174, 3) := by decide +kernel
theorem dX12_giver_50 : decode cX12_giver 50 = .ok (.ifCond .eq 5, 3) := by decide +kernel
theorem dX12_giver_53 : decode cX12_giver 53 = .ok (.iconst 0, 1) := by decide +kernel
theorem dX12_giver_54 : decode cX12_giver 54 = .ok (.ireturn, 1) := by decide +kernel
theorem dX12_giver_55 : decode cX12_giver 55 = .ok (.aload_n 0, 1) := by decide +kernel
theorem dX12_giver_56 : decode cX12_giver 56 = .ok (.iload_n 2, 1) := by decide +kernel
theorem dX12_giver_57 : decode cX12_giver 57 = .ok (.invokevirtual 357, 3) := by decide +kernel
theorem dX12_giver_60 : decode cX12_giver 60 = .ok (.aload_n 0, 1) := by decide +kernel
theorem dX12_giver_61 : decode cX12_giver 61 = .ok (.getfield 76, 3) := by decide +kernel
theorem dX12_giver_64 : decode cX12_giver 64 = .ok (.iload_n 1, 1) := by decide +kernel
theorem dX12_giver_65 : decode cX12_giver 65 = .ok (.iaload, 1) := by decide +kernel
theorem dX12_giver_66 : decode cX12_giver 66 = .ok (.ireturn, 1) := by decide +kernel
theorem dX12_isOrder_0 : decode cX12_isOrder 0 = .ok (.iload_n 1, 1) := by decide +kernel
theorem dX12_isOrder_1 : decode cX12_isOrder 1 = .ok (.iconst 0, 1) := by decide +kernel
theorem dX12_isOrder_2 : decode cX12_isOrder 2 = .ok (.aload_n 0, 1) := by decide +kernel
theorem dX12_isOrder_3 : decode cX12_isOrder 3 = .ok (.invokevirtual 354, 3) := by decide +kernel
theorem dX12_isOrder_6 : decode cX12_isOrder 6 = .ok (.invokestatic 132, 3) := by decide +kernel
theorem dX12_isOrder_9 : decode cX12_isOrder 9 = .ok (.ifCond .eq 23, 3) := by decide +kernel
theorem dX12_isOrder_12 : decode cX12_isOrder 12 = .ok (.iload_n 1, 1) := by decide +kernel
theorem dX12_isOrder_13 : decode cX12_isOrder 13 = .ok (.aload_n 0, 1) := by decide +kernel
theorem dX12_isOrder_14 : decode cX12_isOrder 14 = .ok (.getfield 61, 3) := by decide +kernel
theorem dX12_isOrder_17 : decode cX12_isOrder 17 = .ok (.bipush 24, 2) := by decide +kernel
theorem dX12_isOrder_19 : decode cX12_isOrder 19 = .ok (.iaload, 1) := by decide +kernel
theorem dX12_isOrder_20 : decode cX12_isOrder 20 = .ok (.iand, 1) := by decide +kernel
theorem dX12_isOrder_21 : decode cX12_isOrder 21 = .ok (.invokestatic 264, 3) := by decide +kernel
theorem dX12_isOrder_24 : decode cX12_isOrder 24 = .ok (.iconst 5, 1) := by decide +kernel
theorem dX12_isOrder_25 : decode cX12_isOrder 25 = .ok (.if_icmp .gt 7, 3) := by decide +kernel
theorem dX12_isOrder_28 : decode cX12_isOrder 28 = .ok (.iconst 1, 1) := by decide +kernel
theorem dX12_isOrder_29 : decode cX12_isOrder 29 = .ok (.goto 4, 3) := by decide +kernel
theorem dX12_isOrder_32 : decode cX12_isOrder 32 = .ok (.iconst 0, 1) := by decide +kernel
theorem dX12_isOrder_33 : decode cX12_isOrder 33 = .ok (.ireturn, 1) := by decide +kernel
theorem dX12_firstOrder_0 : decode cX12_firstOrder 0 = .ok (.aload_n 0, 1) := by decide +kernel
theorem dX12_firstOrder_1 : decode cX12_firstOrder 1 = .ok (.iconst 0, 1) := by decide +kernel
theorem dX12_firstOrder_2 : decode cX12_firstOrder 2 = .ok (.putfield 360, 3) := by decide +kernel
theorem dX12_firstOrder_5 : decode cX12_firstOrder 5 = .ok (.iconst 0, 1) := by decide +kernel
theorem dX12_firstOrder_6 : decode cX12_firstOrder 6 = .ok (.istore_n 2, 1) := by decide +kernel
theorem dX12_firstOrder_7 : decode cX12_firstOrder 7 = .ok (.iload_n 2, 1) := by decide +kernel
theorem dX12_firstOrder_8 : decode cX12_firstOrder 8 = .ok (.aload_n 0, 1) := by decide +kernel
theorem dX12_firstOrder_9 : decode cX12_firstOrder 9 = .ok (.getfield 23, 3) := by decide +kernel
theorem dX12_firstOrder_12 : decode cX12_firstOrder 12 = .ok (.iconst 0, 1) := by decide +kernel
theorem dX12_firstOrder_13 : decode cX12_firstOrder 13 = .ok (.iaload, 1) := by decide +kernel
theorem dX12_firstOrder_14 : decode cX12_firstOrder 14 = .ok (.if_icmp .ge 48, 3) := by decide +kernel
theorem dX12_firstOrder_17 : decode cX12_firstOrder 17 = .ok (.iload_n 1, 1) := by decide +kernel
theorem dX12_firstOrder_18 : decode cX12_firstOrder 18 = .ok (.aload_n 0, 1) := by decide +kernel
theorem dX12_firstOrder_19 : decode cX12_firstOrder 19 = .ok (.getfield 61, 3) := by decide +kernel
theorem dX12_firstOrder_22 : decode cX12_firstOrder 22 = .ok (.bipush 24, 2) := by decide +kernel
theorem dX12_firstOrder_24 : decode cX12_firstOrder 24 = .ok (.iaload, 1) := by decide +kernel
theorem dX12_firstOrder_25 : decode cX12_firstOrder 25 = .ok (.iand, 1) := by decide +kernel
theorem dX12_firstOrder_26 : decode cX12_firstOrder 26 = .ok (.iload_n 2, 1) := by decide +kernel
theorem dX12_firstOrder_27 : decode cX12_firstOrder 27 = .ok (.invokestatic 253, 3) := by decide +kernel
theorem dX12_firstOrder_30 : decode cX12_firstOrder 30 = .ok (.ifCond .ne 6, 3) := by decide +kernel
theorem dX12_firstOrder_33 : decode cX12_firstOrder 33 = .ok (.goto 23, 3) := by decide +kernel
theorem dX12_firstOrder_36 : decode cX12_firstOrder 36 = .ok (.aload_n 0, 1) := by decide +kernel
theorem dX12_firstOrder_37 : decode cX12_firstOrder 37 = .ok (.getfield 82, 3) := by decide +kernel
theorem dX12_firstOrder_40 : decode cX12_firstOrder 40 = .ok (.aload_n 0, 1) := by decide +kernel
theorem dX12_firstOrder_41 : decode cX12_firstOrder 41 = .ok (.getfield 360, 3) := by decide +kernel
theorem dX12_firstOrder_44 : decode cX12_firstOrder 44 = .ok (.iload_n 2, 1) := by decide +kernel
theorem dX12_firstOrder_45 : decode cX12_firstOrder 45 = .ok (.iastore, 1) := by decide +kernel
theorem dX12_firstOrder_46 : decode cX12_firstOrder 46 = .ok (.aload_n 0, 1) := by decide +kernel
theorem dX12_firstOrder_47 : decode cX12_firstOrder 47 = .ok (.dup, 1) := by decide +kernel
theorem dX12_firstOrder_48 : decode cX12_firstOrder 48 = .ok (.getfield 360, 3) := by decide +kernel
theorem dX12_firstOrder_51 : decode cX12_firstOrder 51 = .ok (.iconst 1, 1) := by decide +kernel
theorem dX12_firstOrder_52 : decode cX12_firstOrder 52 = .ok (.iadd, 1) := by decide +kernel
theorem dX12_firstOrder_53 : decode cX12_firstOrder 53 = .ok (.putfield 360, 3) := by decide +kernel
theorem dX12_firstOrder_56 : decode cX12_firstOrder 56 = .ok (.iinc 2 1, 3) := by decide +kernel
theorem dX12_firstOrder_59 : decode cX12_firstOrder 59 = .ok (.goto (-52), 3) := by decide +kernel
theorem dX12_firstOrder_62 : decode cX12_firstOrder 62 = .ok (.return_, 1) := by decide +kernel
theorem dX12_swaps_0 : decode cX12_swaps 0 = .ok (.aload_n 0, 1) := by decide +kernel
theorem dX12_swaps_1 : decode cX12_swaps 1 = .ok (.getfield 82, 3) := by decide +kernel
theorem dX12_swaps_4 : decode cX12_swaps 4 = .ok (.iload_n 1, 1) := by decide +kernel
theorem dX12_swaps_5 : decode cX12_swaps 5 = .ok (.iaload, 1) := by decide +kernel
theorem dX12_swaps_6 : decode cX12_swaps 6 = .ok (.istore_n 3, 1) := by decide +kernel
theorem dX12_swaps_7 : decode cX12_swaps 7 = .ok (.aload_n 0, 1) := by decide +kernel
theorem dX12_swaps_8 : decode cX12_swaps 8 = .ok (.getfield 82, 3) := by decide +kernel
theorem dX12_swaps_11 : decode cX12_swaps 11 = .ok (.iload_n 1, 1) := by decide +kernel
theorem dX12_swaps_12 : decode cX12_swaps 12 = .ok (.aload_n 0, 1) := by decide +kernel
theorem dX12_swaps_13 : decode cX12_swaps 13 = .ok (.getfield 82, 3) := by decide +kernel
theorem dX12_swaps_16 : decode cX12_swaps 16 = .ok (.iload_n 2, 1) := by decide +kernel
theorem dX12_swaps_17 : decode cX12_swaps 17 = .ok (.iaload, 1) := by decide +kernel
theorem dX12_swaps_18 : decode cX12_swaps 18 = .ok (.iastore, 1) := by decide +kernel
theorem dX12_swaps_19 : decode cX12_swaps 19 = .ok (.aload_n 0, 1) := by decide +kernel
theorem dX12_swaps_20 : decode cX12_swaps 20 = .ok (.getfield 82, 3) := by decide +kernel
theorem dX12_swaps_23 : decode cX12_swaps 23 = .ok (.iload_n 2, 1) := by decide +kernel
theorem dX12_swaps_24 : decode cX12_swaps 24 = .ok (.iload_n 3, 1) := by decide +kernel
theorem dX12_swaps_25 : decode cX12_swaps 25 = .ok (.iastore, 1) := by decide +kernel
theorem dX12_swaps_26 : decode cX12_swaps 26 = .ok (.return_, 1) := by decide +kernel
theorem dX12_nextOrder_0 : decode cX12_nextOrder 0 = .ok (.aload_n 0, 1) := by decide +kernel
theorem dX12_nextOrder_1 : decode cX12_nextOrder 1 = .ok (.getfield 360, 3) := by decide +kernel
theorem dX12_nextOrder_4 : decode cX12_nextOrder 4 = .ok (.iconst 2, 1) := by decide +kernel
theorem dX12_nextOrder_5 : decode cX12_nextOrder 5 = .ok (.isub, 1) := by decide +kernel
theorem dX12_nextOrder_6 : decode cX12_nextOrder 6 = .ok (.istore_n 1, 1) := by decide +kernel
theorem dX12_nextOrder_7 : decode cX12_nextOrder 7 = .ok (.iload_n 1, 1) := by decide +kernel
theorem dX12_nextOrder_8 : decode cX12_nextOrder 8 = .ok (.ifCond .lt 26, 3) := by decide +kernel
theorem dX12_nextOrder_11 : decode cX12_nextOrder 11 = .ok (.aload_n 0, 1) := by decide +kernel
theorem dX12_nextOrder_12 : decode cX12_nextOrder 12 = .ok (.getfield 82, 3) := by decide +kernel
theorem dX12_nextOrder_15 : decode cX12_nextOrder 15 = .ok (.iload_n 1, 1) := by decide +kernel
theorem dX12_nextOrder_16 : decode cX12_nextOrder 16 = .ok (.iaload, 1) := by decide +kernel
theorem dX12_nextOrder_17 : decode cX12_nextOrder 17 = .ok (.aload_n 0, 1) := by decide +kernel
theorem dX12_nextOrder_18 : decode cX12_nextOrder 18 = .ok (.getfield 82, 3) := by decide +kernel
theorem dX12_nextOrder_21 : decode cX12_nextOrder 21 = .ok (.iload_n 1, 1) := by decide +kernel
theorem dX12_nextOrder_22 : decode cX12_nextOrder 22 = .ok (.iconst 1, 1) := by decide +kernel
theorem dX12_nextOrder_23 : decode cX12_nextOrder 23 = .ok (.iadd, 1) := by decide +kernel
theorem dX12_nextOrder_24 : decode cX12_nextOrder 24 = .ok (.iaload, 1) := by decide +kernel
theorem dX12_nextOrder_25 : decode cX12_nextOrder 25 = .ok (.if_icmp .le 9, 3) := by decide +kernel
theorem dX12_nextOrder_28 : decode cX12_nextOrder 28 = .ok (.iinc 1 (-1), 3) := by decide +kernel
theorem dX12_nextOrder_31 : decode cX12_nextOrder 31 = .ok (.goto (-24), 3) := by decide +kernel
theorem dX12_nextOrder_34 : decode cX12_nextOrder 34 = .ok (.iload_n 1, 1) := by decide +kernel
theorem dX12_nextOrder_35 : decode cX12_nextOrder 35 = .ok (.ifCond .ge 5, 3) := by decide +kernel
theorem dX12_nextOrder_38 : decode cX12_nextOrder 38 = .ok (.iconst 0, 1) := by decide +kernel
theorem dX12_nextOrder_39 : decode cX12_nextOrder 39 = .ok (.ireturn, 1) := by decide +kernel
theorem dX12_nextOrder_40 : decode cX12_nextOrder 40 = .ok (.aload_n 0, 1) := by decide +kernel
theorem dX12_nextOrder_41 : decode cX12_nextOrder 41 = .ok (.getfield 360, 3) := by decide +kernel
theorem dX12_nextOrder_44 : decode cX12_nextOrder 44 = .ok (.iconst 1, 1) := by decide +kernel
theorem dX12_nextOrder_45 : decode cX12_nextOrder 45 = .ok (.isub, 1) := by decide +kernel
theorem dX12_nextOrder_46 : decode cX12_nextOrder 46 = .ok (.istore_n 2, 1) := by decide +kernel
theorem dX12_nextOrder_47 : decode cX12_nextOrder 47 = .ok (.aload_n 0, 1) := by decide +kernel
theorem dX12_nextOrder_48 : decode cX12_nextOrder 48 = .ok (.getfield 82, 3) := by decide +kernel
theorem dX12_nextOrder_51 : decode cX12_nextOrder 51 = .ok (.iload_n 2, 1) := by decide +kernel
theorem dX12_nextOrder_52 : decode cX12_nextOrder 52 = .ok (.iaload, 1) := by decide +kernel
theorem dX12_nextOrder_53 : decode cX12_nextOrder 53 = .ok (.aload_n 0, 1) := by decide +kernel
theorem dX12_nextOrder_54 : decode cX12_nextOrder 54 = .ok (.getfield 82, 3) := by decide +kernel
theorem dX12_nextOrder_57 : decode cX12_nextOrder 57 = .ok (.iload_n 1, 1) := by decide +kernel
theorem dX12_nextOrder_58 : decode cX12_nextOrder 58 = .ok (.iaload, 1) := by decide +kernel
theorem dX12_nextOrder_59 : decode cX12_nextOrder 59 = .ok (.if_icmp .ge 9, 3) := by decide +kernel
theorem dX12_nextOrder_62 : decode cX12_nextOrder 62 = .ok (.iinc 2 (-1), 3) := by decide +kernel
theorem dX12_nextOrder_65 : decode cX12_nextOrder 65 = .ok (.goto (-18), 3) := by decide +kernel
theorem dX12_nextOrder_68 : decode cX12_nextOrder 68 = .ok (.aload_n 0, 1) := by decide +kernel
theorem dX12_nextOrder_69 : decode cX12_nextOrder 69 = .ok (.iload_n 1, 1) := by decide +kernel
theorem dX12_nextOrder_70 : decode cX12_nextOrder 70 = .ok (.iload_n 2, 1) := by decide +kernel
theorem dX12_nextOrder_71 : decode cX12_nextOrder 71 = .ok (.invokevirtual 363, 3) := by decide +kernel
theorem dX12_nextOrder_74 : decode cX12_nextOrder 74 = .ok (.iload_n 1, 1) := by decide +kernel
theorem dX12_nextOrder_75 : decode cX12_nextOrder 75 = .ok (.iconst 1, 1) := by decide +kernel
theorem dX12_nextOrder_76 : decode cX12_nextOrder 76 = .ok (.iadd, 1) := by decide +kernel
theorem dX12_nextOrder_77 : decode cX12_nextOrder 77 = .ok (.istore_n 3, 1) := by decide +kernel
theorem dX12_nextOrder_78 : decode cX12_nextOrder 78 = .ok (.aload_n 0, 1) := by decide +kernel
theorem dX12_nextOrder_79 : decode cX12_nextOrder 79 = .ok (.getfield 360, 3) := by decide +kernel
theorem dX12_nextOrder_82 : decode cX12_nextOrder 82 = .ok (.iconst 1, 1) := by decide +kernel
theorem dX12_nextOrder_83 : decode cX12_nextOrder 83 = .ok (.isub, 1) := by decide +kernel
theorem dX12_nextOrder_84 : decode cX12_nextOrder 84 = .ok (.istore 4, 2) := by decide +kernel
theorem dX12_nextOrder_86 : decode cX12_nextOrder 86 = .ok (.iload_n 3, 1) := by decide +kernel
theorem dX12_nextOrder_87 : decode cX12_nextOrder 87 = .ok (.iload 4, 2) := by decide +kernel
theorem dX12_nextOrder_89 : decode cX12_nextOrder 89 = .ok (.if_icmp .ge 19, 3) := by decide +kernel
theorem dX12_nextOrder_92 : decode cX12_nextOrder 92 = .ok (.aload_n 0, 1) := by decide +kernel
theorem dX12_nextOrder_93 : decode cX12_nextOrder 93 = .ok (.iload_n 3, 1) := by decide +kernel
theorem dX12_nextOrder_94 : decode cX12_nextOrder 94 = .ok (.iload 4, 2) := by decide +kernel
theorem dX12_nextOrder_96 : decode cX12_nextOrder 96 = .ok (.invokevirtual 363, 3) := by decide +kernel
theorem dX12_nextOrder_99 : decode cX12_nextOrder 99 = .ok (.iinc 3 1, 3) := by decide +kernel
theorem dX12_nextOrder_102 : decode cX12_nextOrder 102 = .ok (.iinc 4 (-1), 3) := by decide +kernel
theorem dX12_nextOrder_105 : decode cX12_nextOrder 105 = .ok (.goto (-19), 3) := by decide +kernel
theorem dX12_nextOrder_108 : decode cX12_nextOrder 108 = .ok (.iconst 1, 1) := by decide +kernel
theorem dX12_nextOrder_109 : decode cX12_nextOrder 109 = .ok (.ireturn, 1) := by decide +kernel
theorem dX12_dieSo_0 : decode cX12_dieSo 0 = .ok (.aload_n 0, 1) := by decide +kernel
theorem dX12_dieSo_1 : decode cX12_dieSo 1 = .ok (.getfield 61, 3) := by decide +kernel
theorem dX12_dieSo_4 : decode cX12_dieSo 4 = .ok (.aload_n 0, 1) := by decide +kernel
theorem dX12_dieSo_5 : decode cX12_dieSo 5 = .ok (.getfield 64, 3) := by decide +kernel
theorem dX12_dieSo_8 : decode cX12_dieSo 8 = .ok (.invokestatic 316, 3) := by decide +kernel
theorem dX12_dieSo_11 : decode cX12_dieSo 11 = .ok (.iconst 0, 1) := by decide +kernel
theorem dX12_dieSo_12 : decode cX12_dieSo 12 = .ok (.istore_n 1, 1) := by decide +kernel
theorem dX12_dieSo_13 : decode cX12_dieSo 13 = .ok (.iload_n 1, 1) := by decide +kernel
theorem dX12_dieSo_14 : decode cX12_dieSo 14 = .ok (.aload_n 0, 1) := by decide +kernel
theorem dX12_dieSo_15 : decode cX12_dieSo 15 = .ok (.getfield 360, 3) := by decide +kernel
theorem dX12_dieSo_18 : decode cX12_dieSo 18 = .ok (.if_icmp .ge 24, 3) := by decide +kernel
theorem dX12_dieSo_21 : decode cX12_dieSo 21 = .ok (.aload_n 0, 1) := by decide +kernel
theorem dX12_dieSo_22 : decode cX12_dieSo 22 = .ok (.aload_n 0, 1) := by decide +kernel
theorem dX12_dieSo_23 : decode cX12_dieSo 23 = .ok (.getfield 64, 3) := by decide +kernel
theorem dX12_dieSo_26 : decode cX12_dieSo 26 = .ok (.aload_n 0, 1) := by decide +kernel
theorem dX12_dieSo_27 : decode cX12_dieSo 27 = .ok (.getfield 82, 3) := by decide +kernel
theorem dX12_dieSo_30 : decode cX12_dieSo 30 = .ok (.iload_n 1, 1) := by decide +kernel
theorem dX12_dieSo_31 : decode cX12_dieSo 31 = .ok (.iaload, 1) := by decide +kernel
theorem dX12_dieSo_32 : decode cX12_dieSo 32 = .ok (.invokevirtual 289, 3) := by decide +kernel
theorem dX12_dieSo_35 : decode cX12_dieSo 35 = .ok (.pop, 1) := by decide +kernel
theorem dX12_dieSo_36 : decode cX12_dieSo 36 = .ok (.iinc 1 1, 3) := by decide +kernel
theorem dX12_dieSo_39 : decode cX12_dieSo 39 = .ok (.goto (-26), 3) := by decide +kernel
theorem dX12_dieSo_42 : decode cX12_dieSo 42 = .ok (.return_, 1) := by decide +kernel
theorem dX12_digits_0 : decode cX12_digits 0 = .ok (.iconst 0, 1) := by decide +kernel
theorem dX12_digits_1 : decode cX12_digits 1 = .ok (.istore_n 1, 1) := by decide +kernel
theorem dX12_digits_2 : decode cX12_digits 2 = .ok (.aload_n 0, 1) := by decide +kernel
theorem dX12_digits_3 : decode cX12_digits 3 = .ok (.getfield 360, 3) := by decide +kernel
theorem dX12_digits_6 : decode cX12_digits 6 = .ok (.iconst 1, 1) := by decide +kernel
theorem dX12_digits_7 : decode cX12_digits 7 = .ok (.isub, 1) := by decide +kernel
theorem dX12_digits_8 : decode cX12_digits 8 = .ok (.istore_n 2, 1) := by decide +kernel
theorem dX12_digits_9 : decode cX12_digits 9 = .ok (.iload_n 2, 1) := by decide +kernel
theorem dX12_digits_10 : decode cX12_digits 10 = .ok (.ifCond .lt 21, 3) := by decide +kernel
theorem dX12_digits_13 : decode cX12_digits 13 = .ok (.bipush 8, 2) := by decide +kernel
theorem dX12_digits_15 : decode cX12_digits 15 = .ok (.iload_n 1, 1) := by decide +kernel
theorem dX12_digits_16 : decode cX12_digits 16 = .ok (.imul, 1) := by decide +kernel
theorem dX12_digits_17 : decode cX12_digits 17 = .ok (.aload_n 0, 1) := by decide +kernel
theorem dX12_digits_18 : decode cX12_digits 18 = .ok (.getfield 82, 3) := by decide +kernel
theorem dX12_digits_21 : decode cX12_digits 21 = .ok (.iload_n 2, 1) := by decide +kernel
theorem dX12_digits_22 : decode cX12_digits 22 = .ok (.iaload, 1) := by decide +kernel
theorem dX12_digits_23 : decode cX12_digits 23 = .ok (.iadd, 1) := by decide +kernel
theorem dX12_digits_24 : decode cX12_digits 24 = .ok (.istore_n 1, 1) := by decide +kernel
theorem dX12_digits_25 : decode cX12_digits 25 = .ok (.iinc 2 (-1), 3) := by decide +kernel
theorem dX12_digits_28 : decode cX12_digits 28 = .ok (.goto (-19), 3) := by decide +kernel
theorem dX12_digits_31 : decode cX12_digits 31 = .ok (.iload_n 1, 1) := by decide +kernel
theorem dX12_digits_32 : decode cX12_digits 32 = .ok (.ireturn, 1) := by decide +kernel
theorem dX12_order_0 : decode cX12_order 0 = .ok (.aload_n 0, 1) := by decide +kernel
theorem dX12_order_1 : decode cX12_order 1 = .ok (.iconst 0, 1) := by decide +kernel
theorem dX12_order_2 : decode cX12_order 2 = .ok (.putfield 98, 3) := by decide +kernel
theorem dX12_order_5 : decode cX12_order 5 = .ok (.aload_n 0, 1) := by decide +kernel
theorem dX12_order_6 : decode cX12_order 6 = .ok (.aload_n 0, 1) := by decide +kernel
theorem dX12_order_7 : decode cX12_order 7 = .ok (.iload_n 1, 1) := by decide +kernel
theorem dX12_order_8 : decode cX12_order 8 = .ok (.invokevirtual 366, 3) := by decide +kernel
theorem dX12_order_11 : decode cX12_order 11 = .ok (.ifCond .eq 12, 3) := by decide +kernel
theorem dX12_order_14 : decode cX12_order 14 = .ok (.iload_n 2, 1) := by decide +kernel
theorem dX12_order_15 : decode cX12_order 15 = .ok (.iconst 0, 1) := by decide +kernel
theorem dX12_order_16 : decode cX12_order 16 = .ok (.iconst 1, 1) := by decide +kernel
theorem dX12_order_17 : decode cX12_order 17 = .ok (.invokestatic 132, 3) := by decide +kernel
theorem dX12_order_20 : decode cX12_order 20 = .ok (.ifCond .ne 7, 3) := by decide +kernel
theorem dX12_order_23 : decode cX12_order 23 = .ok (.iconst 1, 1) := by decide +kernel
theorem dX12_order_24 : decode cX12_order 24 = .ok (.goto 4, 3) := by decide +kernel
theorem dX12_order_27 : decode cX12_order 27 = .ok (.iconst 0, 1) := by decide +kernel
theorem dX12_order_28 : decode cX12_order 28 = .ok (.iconst 1, 1) := by decide +kernel
theorem dX12_order_29 : decode cX12_order 29 = .ok (.iconst 1, 1) := by decide +kernel
theorem dX12_order_30 : decode cX12_order 30 = .ok (.invokevirtual 174, 3) := by decide +kernel
theorem dX12_order_33 : decode cX12_order 33 = .ok (.ifCond .eq 5, 3) := by decide +kernel
theorem dX12_order_36 : decode cX12_order 36 = .ok (.iconst 0, 1) := by decide +kernel
theorem dX12_order_37 : decode cX12_order 37 = .ok (.ireturn, 1) := by decide +kernel
theorem dX12_order_38 : decode cX12_order 38 = .ok (.iconst (-1), 1) := by decide +kernel
theorem dX12_order_39 : decode cX12_order 39 = .ok (.istore_n 3, 1) := by decide +kernel
theorem dX12_order_40 : decode cX12_order 40 = .ok (.iconst 0, 1) := by decide +kernel
theorem dX12_order_41 : decode cX12_order 41 = .ok (.istore 4, 2) := by decide +kernel
theorem dX12_order_43 : decode cX12_order 43 = .ok (.aload_n 0, 1) := by decide +kernel
theorem dX12_order_44 : decode cX12_order 44 = .ok (.iload_n 1, 1) := by decide +kernel
theorem dX12_order_45 : decode cX12_order 45 = .ok (.invokevirtual 369, 3) := by decide +kernel
theorem dX12_order_48 : decode cX12_order 48 = .ok (.aload_n 0, 1) := by decide +kernel
theorem dX12_order_49 : decode cX12_order 49 = .ok (.invokevirtual 372, 3) := by decide +kernel
theorem dX12_order_52 : decode cX12_order 52 = .ok (.aload_n 0, 1) := by decide +kernel
theorem dX12_order_53 : decode cX12_order 53 = .ok (.aload_n 0, 1) := by decide +kernel
theorem dX12_order_54 : decode cX12_order 54 = .ok (.getfield 64, 3) := by decide +kernel
theorem dX12_order_57 : decode cX12_order 57 = .ok (.invokevirtual 327, 3) := by decide +kernel
theorem dX12_order_60 : decode cX12_order 60 = .ok (.iload_n 1, 1) := by decide +kernel
theorem dX12_order_61 : decode cX12_order 61 = .ok (.iand, 1) := by decide +kernel
theorem dX12_order_62 : decode cX12_order 62 = .ok (.aload_n 0, 1) := by decide +kernel
theorem dX12_order_63 : decode cX12_order 63 = .ok (.getfield 61, 3) := by decide +kernel
theorem dX12_order_66 : decode cX12_order 66 = .ok (.bipush 24, 2) := by decide +kernel
theorem dX12_order_68 : decode cX12_order 68 = .ok (.iaload, 1) := by decide +kernel
theorem dX12_order_69 : decode cX12_order 69 = .ok (.iand, 1) := by decide +kernel
theorem dX12_order_70 : decode cX12_order 70 = .ok (.invokestatic 264, 3) := by decide +kernel
theorem dX12_order_73 : decode cX12_order 73 = .ok (.istore 5, 2) := by decide +kernel
theorem dX12_order_75 : decode cX12_order 75 = .ok (.iload_n 3, 1) := by decide +kernel
theorem dX12_order_76 : decode cX12_order 76 = .ok (.iconst (-1), 1) := by decide +kernel
theorem dX12_order_77 : decode cX12_order 77 = .ok (.if_icmp .eq 9, 3) := by decide +kernel
theorem dX12_order_80 : decode cX12_order 80 = .ok (.iload 5, 2) := by decide +kernel
theorem dX12_order_82 : decode cX12_order 82 = .ok (.iload_n 3, 1) := by decide +kernel
theorem dX12_order_83 : decode cX12_order 83 = .ok (.if_icmp .ge 10, 3) := by decide +kernel
theorem dX12_order_86 : decode cX12_order 86 = .ok (.aload_n 0, 1) := by decide +kernel
theorem dX12_order_87 : decode cX12_order 87 = .ok (.invokevirtual 375, 3) := by decide +kernel
theorem dX12_order_90 : decode cX12_order 90 = .ok (.goto 5, 3) := by decide +kernel
theorem dX12_order_93 : decode cX12_order 93 = .ok (.iload 4, 2) := by decide +kernel
theorem dX12_order_95 : decode cX12_order 95 = .ok (.istore 4, 2) := by decide +kernel
theorem dX12_order_97 : decode cX12_order 97 = .ok (.iload_n 3, 1) := by decide +kernel
theorem dX12_order_98 : decode cX12_order 98 = .ok (.iconst (-1), 1) := by decide +kernel
theorem dX12_order_99 : decode cX12_order 99 = .ok (.if_icmp .ne 8, 3) := by decide +kernel
theorem dX12_order_102 : decode cX12_order 102 = .ok (.iload 5, 2) := by decide +kernel
theorem dX12_order_104 : decode cX12_order 104 = .ok (.goto 9, 3) := by decide +kernel
theorem dX12_order_107 : decode cX12_order 107 = .ok (.iload 5, 2) := by decide +kernel
theorem dX12_order_109 : decode cX12_order 109 = .ok (.iload_n 3, 1) := by decide +kernel
theorem dX12_order_110 : decode cX12_order 110 = .ok (.invokestatic 234, 3) := by decide +kernel
theorem dX12_order_113 : decode cX12_order 113 = .ok (.istore_n 3, 1) := by decide +kernel
theorem dX12_order_114 : decode cX12_order 114 = .ok (.aload_n 0, 1) := by decide +kernel
theorem dX12_order_115 : decode cX12_order 115 = .ok (.invokevirtual 378, 3) := by decide +kernel
theorem dX12_order_118 : decode cX12_order 118 = .ok (.ifCond .ne (-70), 3) := by decide +kernel
theorem dX12_order_121 : decode cX12_order 121 = .ok (.iload_n 2, 1) := by decide +kernel
theorem dX12_order_122 : decode cX12_order 122 = .ok (.ifCond .ne 7, 3) := by decide +kernel
theorem dX12_order_125 : decode cX12_order 125 = .ok (.iload_n 3, 1) := by decide +kernel
theorem dX12_order_126 : decode cX12_order 126 = .ok (.goto 5, 3) := by decide +kernel
theorem dX12_order_129 : decode cX12_order 129 = .ok (.iload 4, 2) := by decide +kernel
theorem dX12_order_131 : decode cX12_order 131 = .ok (.ireturn, 1) := by decide +kernel
theorem dX12_isSo_0 : decode cX12_isSo 0 = .ok (.aload_n 0, 1) := by decide +kernel
theorem dX12_isSo_1 : decode cX12_isSo 1 = .ok (.invokevirtual 372, 3) := by decide +kernel
theorem dX12_isSo_4 : decode cX12_isSo 4 = .ok (.iconst 0, 1) := by decide +kernel
theorem dX12_isSo_5 : decode cX12_isSo 5 = .ok (.istore_n 1, 1) := by decide +kernel
theorem dX12_isSo_6 : decode cX12_isSo 6 = .ok (.iload_n 1, 1) := by decide +kernel
theorem dX12_isSo_7 : decode cX12_isSo 7 = .ok (.aload_n 0, 1) := by decide +kernel
theorem dX12_isSo_8 : decode cX12_isSo 8 = .ok (.getfield 194, 3) := by decide +kernel
theorem dX12_isSo_11 : decode cX12_isSo 11 = .ok (.if_icmp .ge 38, 3) := by decide +kernel
theorem dX12_isSo_14 : decode cX12_isSo 14 = .ok (.aload_n 0, 1) := by decide +kernel
theorem dX12_isSo_15 : decode cX12_isSo 15 = .ok (.aload_n 0, 1) := by decide +kernel
theorem dX12_isSo_16 : decode cX12_isSo 16 = .ok (.getfield 64, 3) := by decide +kernel
theorem dX12_isSo_19 : decode cX12_isSo 19 = .ok (.aload_n 0, 1) := by decide +kernel
theorem dX12_isSo_20 : decode cX12_isSo 20 = .ok (.getfield 46, 3) := by decide +kernel
theorem dX12_isSo_23 : decode cX12_isSo 23 = .ok (.iload_n 1, 1) := by decide +kernel
theorem dX12_isSo_24 : decode cX12_isSo 24 = .ok (.aaload, 1) := by decide +kernel
theorem dX12_isSo_25 : decode cX12_isSo 25 = .ok (.iconst 0, 1) := by decide +kernel
theorem dX12_isSo_26 : decode cX12_isSo 26 = .ok (.iaload, 1) := by decide +kernel
theorem dX12_isSo_27 : decode cX12_isSo 27 = .ok (.invokevirtual 267, 3) := by decide +kernel
theorem dX12_isSo_30 : decode cX12_isSo 30 = .ok (.aload_n 0, 1) := by decide +kernel
theorem dX12_isSo_31 : decode cX12_isSo 31 = .ok (.getfield 46, 3) := by decide +kernel
theorem dX12_isSo_34 : decode cX12_isSo 34 = .ok (.iload_n 1, 1) := by decide +kernel
theorem dX12_isSo_35 : decode cX12_isSo 35 = .ok (.aaload, 1) := by decide +kernel
theorem dX12_isSo_36 : decode cX12_isSo 36 = .ok (.iconst 1, 1) := by decide +kernel
theorem dX12_isSo_37 : decode cX12_isSo 37 = .ok (.iaload, 1) := by decide +kernel
theorem dX12_isSo_38 : decode cX12_isSo 38 = .ok (.if_icmp .eq 5, 3) := by decide +kernel
theorem dX12_isSo_41 : decode cX12_isSo 41 = .ok (.iconst 0, 1) := by decide +kernel
theorem dX12_isSo_42 : decode cX12_isSo 42 = .ok (.ireturn, 1) := by decide +kernel
theorem dX12_isSo_43 : decode cX12_isSo 43 = .ok (.iinc 1 1, 3) := by decide +kernel
theorem dX12_isSo_46 : decode cX12_isSo 46 = .ok (.goto (-40), 3) := by decide +kernel
theorem dX12_isSo_49 : decode cX12_isSo 49 = .ok (.iconst 1, 1) := by decide +kernel
theorem dX12_isSo_50 : decode cX12_isSo 50 = .ok (.ireturn, 1) := by decide +kernel
theorem dX12_fits_0 : decode cX12_fits 0 = .ok (.aload_n 0, 1) := by decide +kernel
theorem dX12_fits_1 : decode cX12_fits 1 = .ok (.iconst 0, 1) := by decide +kernel
theorem dX12_fits_2 : decode cX12_fits 2 = .ok (.putfield 98, 3) := by decide +kernel
theorem dX12_fits_5 : decode cX12_fits 5 = .ok (.aload_n 0, 1) := by decide +kernel
theorem dX12_fits_6 : decode cX12_fits 6 = .ok (.aload_n 0, 1) := by decide +kernel
theorem dX12_fits_7 : decode cX12_fits 7 = .ok (.iload_n 1, 1) := by decide +kernel
theorem dX12_fits_8 : decode cX12_fits 8 = .ok (.invokevirtual 366, 3) := by decide +kernel
theorem dX12_fits_11 : decode cX12_fits 11 = .ok (.ifCond .eq 12, 3) := by decide +kernel
theorem dX12_fits_14 : decode cX12_fits 14 = .ok (.iload_n 2, 1) := by decide +kernel
theorem dX12_fits_15 : decode cX12_fits 15 = .ok (.iconst 0, 1) := by decide +kernel
theorem dX12_fits_16 : decode cX12_fits 16 = .ok (.iconst 1, 1) := by decide +kernel
theorem dX12_fits_17 : decode cX12_fits 17 = .ok (.invokestatic 132, 3) := by decide +kernel
theorem dX12_fits_20 : decode cX12_fits 20 = .ok (.ifCond .ne 7, 3) := by decide +kernel
theorem dX12_fits_23 : decode cX12_fits 23 = .ok (.iconst 1, 1) := by decide +kernel
theorem dX12_fits_24 : decode cX12_fits 24 = .ok (.goto 4, 3) := by decide +kernel
theorem dX12_fits_27 : decode cX12_fits 27 = .ok (.iconst 0, 1) := by decide +kernel
theorem dX12_fits_28 : decode cX12_fits 28 = .ok (.iconst 1, 1) := by decide +kernel
theorem dX12_fits_29 : decode cX12_fits 29 = .ok (.iconst 1, 1) := by decide +kernel
theorem dX12_fits_30 : decode cX12_fits 30 = .ok (.invokevirtual 174, 3) := by decide +kernel
theorem dX12_fits_33 : decode cX12_fits 33 = .ok (.ifCond .eq 5, 3) := by decide +kernel
theorem dX12_fits_36 : decode cX12_fits 36 = .ok (.iconst 0, 1) := by decide +kernel
theorem dX12_fits_37 : decode cX12_fits 37 = .ok (.ireturn, 1) := by decide +kernel
theorem dX12_fits_38 : decode cX12_fits 38 = .ok (.iconst 0, 1) := by decide +kernel
theorem dX12_fits_39 : decode cX12_fits 39 = .ok (.istore_n 3, 1) := by decide +kernel
theorem dX12_fits_40 : decode cX12_fits 40 = .ok (.iconst (-1), 1) := by decide +kernel
theorem dX12_fits_41 : decode cX12_fits 41 = .ok (.istore 4, 2) := by decide +kernel
theorem dX12_fits_43 : decode cX12_fits 43 = .ok (.aload_n 0, 1) := by decide +kernel
theorem dX12_fits_44 : decode cX12_fits 44 = .ok (.iload_n 1, 1) := by decide +kernel
theorem dX12_fits_45 : decode cX12_fits 45 = .ok (.invokevirtual 369, 3) := by decide +kernel
theorem dX12_fits_48 : decode cX12_fits 48 = .ok (.aload_n 0, 1) := by decide +kernel
theorem dX12_fits_49 : decode cX12_fits 49 = .ok (.invokevirtual 381, 3) := by decide +kernel
theorem dX12_fits_52 : decode cX12_fits 52 = .ok (.ifCond .ne 6, 3) := by decide +kernel
theorem dX12_fits_55 : decode cX12_fits 55 = .ok (.goto 21, 3) := by decide +kernel
theorem dX12_fits_58 : decode cX12_fits 58 = .ok (.iload_n 3, 1) := by decide +kernel
theorem dX12_fits_59 : decode cX12_fits 59 = .ok (.ifCond .ne 10, 3) := by decide +kernel
theorem dX12_fits_62 : decode cX12_fits 62 = .ok (.aload_n 0, 1) := by decide +kernel
theorem dX12_fits_63 : decode cX12_fits 63 = .ok (.invokevirtual 375, 3) := by decide +kernel
theorem dX12_fits_66 : decode cX12_fits 66 = .ok (.goto 5, 3) := by decide +kernel
theorem dX12_fits_69 : decode cX12_fits 69 = .ok (.iload 4, 2) := by decide +kernel
theorem dX12_fits_71 : decode cX12_fits 71 = .ok (.istore 4, 2) := by decide +kernel
theorem dX12_fits_73 : decode cX12_fits 73 = .ok (.iinc 3 1, 3) := by decide +kernel
theorem dX12_fits_76 : decode cX12_fits 76 = .ok (.aload_n 0, 1) := by decide +kernel
theorem dX12_fits_77 : decode cX12_fits 77 = .ok (.invokevirtual 378, 3) := by decide +kernel
theorem dX12_fits_80 : decode cX12_fits 80 = .ok (.ifCond .ne (-32), 3) := by decide +kernel
theorem dX12_fits_83 : decode cX12_fits 83 = .ok (.iload_n 2, 1) := by decide +kernel
theorem dX12_fits_84 : decode cX12_fits 84 = .ok (.ifCond .ne 7, 3) := by decide +kernel
theorem dX12_fits_87 : decode cX12_fits 87 = .ok (.iload_n 3, 1) := by decide +kernel
theorem dX12_fits_88 : decode cX12_fits 88 = .ok (.goto 5, 3) := by decide +kernel
theorem dX12_fits_91 : decode cX12_fits 91 = .ok (.iload 4, 2) := by decide +kernel
theorem dX12_fits_93 : decode cX12_fits 93 = .ok (.ireturn, 1) := by decide +kernel
theorem dX12_isTold_0 : decode cX12_isTold 0 = .ok (.iconst 0, 1) := by decide +kernel
theorem dX12_isTold_1 : decode cX12_isTold 1 = .ok (.istore_n 2, 1) := by decide +kernel
theorem dX12_isTold_2 : decode cX12_isTold 2 = .ok (.iload_n 2, 1) := by decide +kernel
theorem dX12_isTold_3 : decode cX12_isTold 3 = .ok (.aload_n 0, 1) := by decide +kernel
theorem dX12_isTold_4 : decode cX12_isTold 4 = .ok (.getfield 194, 3) := by decide +kernel
theorem dX12_isTold_7 : decode cX12_isTold 7 = .ok (.if_icmp .ge 23, 3) := by decide +kernel
theorem dX12_isTold_10 : decode cX12_isTold 10 = .ok (.aload_n 0, 1) := by decide +kernel
theorem dX12_isTold_11 : decode cX12_isTold 11 = .ok (.getfield 46, 3) := by decide +kernel
theorem dX12_isTold_14 : decode cX12_isTold 14 = .ok (.iload_n 2, 1) := by decide +kernel
theorem dX12_isTold_15 : decode cX12_isTold 15 = .ok (.aaload, 1) := by decide +kernel
theorem dX12_isTold_16 : decode cX12_isTold 16 = .ok (.iconst 0, 1) := by decide +kernel
theorem dX12_isTold_17 : decode cX12_isTold 17 = .ok (.iaload, 1) := by decide +kernel
theorem dX12_isTold_18 : decode cX12_isTold 18 = .ok (.iload_n 1, 1) := by decide +kernel
theorem dX12_isTold_19 : decode cX12_isTold 19 = .ok (.if_icmp .ne 5, 3) := by decide +kernel
theorem dX12_isTold_22 : decode cX12_isTold 22 = .ok (.iconst 1, 1) := by decide +kernel
theorem dX12_isTold_23 : decode cX12_isTold 23 = .ok (.ireturn, 1) := by decide +kernel
theorem dX12_isTold_24 : decode cX12_isTold 24 = .ok (.iinc 2 1, 3) := by decide +kernel
theorem dX12_isTold_27 : decode cX12_isTold 27 = .ok (.goto (-25), 3) := by decide +kernel
theorem dX12_isTold_30 : decode cX12_isTold 30 = .ok (.iconst 0, 1) := by decide +kernel
theorem dX12_isTold_31 : decode cX12_isTold 31 = .ok (.ireturn, 1) := by decide +kernel
theorem dX12_worstAt_0 : decode cX12_worstAt 0 = .ok (.iconst 0, 1) := by decide +kernel
theorem dX12_worstAt_1 : decode cX12_worstAt 1 = .ok (.istore_n 3, 1) := by decide +kernel
theorem dX12_worstAt_2 : decode cX12_worstAt 2 = .ok (.iconst 0, 1) := by decide +kernel
theorem dX12_worstAt_3 : decode cX12_worstAt 3 = .ok (.istore 4, 2) := by decide +kernel
theorem dX12_worstAt_5 : decode cX12_worstAt 5 = .ok (.iload 4, 2) := by decide +kernel
theorem dX12_worstAt_7 : decode cX12_worstAt 7 = .ok (.bipush 8, 2) := by decide +kernel
theorem dX12_worstAt_9 : decode cX12_worstAt 9 = .ok (.if_icmp .gt 17, 3) := by decide +kernel
theorem dX12_worstAt_12 : decode cX12_worstAt 12 = .ok (.aload_n 0, 1) := by decide +kernel
theorem dX12_worstAt_13 : decode cX12_worstAt 13 = .ok (.getfield 85, 3) := by decide +kernel
theorem dX12_worstAt_16 : decode cX12_worstAt 16 = .ok (.iload 4, 2) := by decide +kernel
theorem dX12_worstAt_18 : decode cX12_worstAt 18 = .ok (.iconst 0, 1) := by decide +kernel
theorem dX12_worstAt_19 : decode cX12_worstAt 19 = .ok (.iastore, 1) := by decide +kernel
theorem dX12_worstAt_20 : decode cX12_worstAt 20 = .ok (.iinc 4 1, 3) := by decide +kernel
theorem dX12_worstAt_23 : decode cX12_worstAt 23 = .ok (.goto (-18), 3) := by decide +kernel
theorem dX12_worstAt_26 : decode cX12_worstAt 26 = .ok (.aload_n 0, 1) := by decide +kernel
theorem dX12_worstAt_27 : decode cX12_worstAt 27 = .ok (.iload_n 1, 1) := by decide +kernel
theorem dX12_worstAt_28 : decode cX12_worstAt 28 = .ok (.invokevirtual 369, 3) := by decide +kernel
theorem dX12_worstAt_31 : decode cX12_worstAt 31 = .ok (.aload_n 0, 1) := by decide +kernel
theorem dX12_worstAt_32 : decode cX12_worstAt 32 = .ok (.invokevirtual 381, 3) := by decide +kernel
theorem dX12_worstAt_35 : decode cX12_worstAt 35 = .ok (.ifCond .ne 6, 3) := by decide +kernel
theorem dX12_worstAt_38 : decode cX12_worstAt 38 = .ok (.goto 37, 3) := by decide +kernel
theorem dX12_worstAt_41 : decode cX12_worstAt 41 = .ok (.aload_n 0, 1) := by decide +kernel
theorem dX12_worstAt_42 : decode cX12_worstAt 42 = .ok (.aload_n 0, 1) := by decide +kernel
theorem dX12_worstAt_43 : decode cX12_worstAt 43 = .ok (.getfield 64, 3) := by decide +kernel
theorem dX12_worstAt_46 : decode cX12_worstAt 46 = .ok (.iload_n 2, 1) := by decide +kernel
theorem dX12_worstAt_47 : decode cX12_worstAt 47 = .ok (.invokevirtual 267, 3) := by decide +kernel
theorem dX12_worstAt_50 : decode cX12_worstAt 50 = .ok (.istore 4, 2) := by decide +kernel
theorem dX12_worstAt_52 : decode cX12_worstAt 52 = .ok (.aload_n 0, 1) := by decide +kernel
theorem dX12_worstAt_53 : decode cX12_worstAt 53 = .ok (.getfield 85, 3) := by decide +kernel
theorem dX12_worstAt_56 : decode cX12_worstAt 56 = .ok (.iload 4, 2) := by decide +kernel
theorem dX12_worstAt_58 : decode cX12_worstAt 58 = .ok (.dup2, 1) := by decide +kernel
theorem dX12_worstAt_59 : decode cX12_worstAt 59 = .ok (.iaload, 1) := by decide +kernel
theorem dX12_worstAt_60 : decode cX12_worstAt 60 = .ok (.iconst 1, 1) := by decide +kernel
theorem dX12_worstAt_61 : decode cX12_worstAt 61 = .ok (.iadd, 1) := by decide +kernel
theorem dX12_worstAt_62 : decode cX12_worstAt 62 = .ok (.iastore, 1) := by decide +kernel
theorem dX12_worstAt_63 : decode cX12_worstAt 63 = .ok (.iload_n 3, 1) := by decide +kernel
theorem dX12_worstAt_64 : decode cX12_worstAt 64 = .ok (.aload_n 0, 1) := by decide +kernel
theorem dX12_worstAt_65 : decode cX12_worstAt 65 = .ok (.getfield 85, 3) := by decide +kernel
theorem dX12_worstAt_68 : decode cX12_worstAt 68 = .ok (.iload 4, 2) := by decide +kernel
theorem dX12_worstAt_70 : decode cX12_worstAt 70 = .ok (.iaload, 1) := by decide +kernel
theorem dX12_worstAt_71 : decode cX12_worstAt 71 = .ok (.invokestatic 237, 3) := by decide +kernel
theorem dX12_worstAt_74 : decode cX12_worstAt 74 = .ok (.istore_n 3, 1) := by decide +kernel
theorem dX12_worstAt_75 : decode cX12_worstAt 75 = .ok (.aload_n 0, 1) := by decide +kernel
theorem dX12_worstAt_76 : decode cX12_worstAt 76 = .ok (.invokevirtual 378, 3) := by decide +kernel
theorem dX12_worstAt_79 : decode cX12_worstAt 79 = .ok (.ifCond .ne (-48), 3) := by decide +kernel
theorem dX12_worstAt_82 : decode cX12_worstAt 82 = .ok (.iload_n 3, 1) := by decide +kernel
theorem dX12_worstAt_83 : decode cX12_worstAt 83 = .ok (.ireturn, 1) := by decide +kernel
theorem dX12_look_0 : decode cX12_look 0 = .ok (.aload_n 0, 1) := by decide +kernel
theorem dX12_look_1 : decode cX12_look 1 = .ok (.iconst 0, 1) := by decide +kernel
theorem dX12_look_2 : decode cX12_look 2 = .ok (.putfield 98, 3) := by decide +kernel
theorem dX12_look_5 : decode cX12_look 5 = .ok (.aload_n 0, 1) := by decide +kernel
theorem dX12_look_6 : decode cX12_look 6 = .ok (.aload_n 0, 1) := by decide +kernel
theorem dX12_look_7 : decode cX12_look 7 = .ok (.iload_n 1, 1) := by decide +kernel
theorem dX12_look_8 : decode cX12_look 8 = .ok (.invokevirtual 366, 3) := by decide +kernel
theorem dX12_look_11 : decode cX12_look 11 = .ok (.ifCond .eq 12, 3) := by decide +kernel
theorem dX12_look_14 : decode cX12_look 14 = .ok (.iload_n 2, 1) := by decide +kernel
theorem dX12_look_15 : decode cX12_look 15 = .ok (.iconst 0, 1) := by decide +kernel
theorem dX12_look_16 : decode cX12_look 16 = .ok (.iconst 1, 1) := by decide +kernel
theorem dX12_look_17 : decode cX12_look 17 = .ok (.invokestatic 132, 3) := by decide +kernel
theorem dX12_look_20 : decode cX12_look 20 = .ok (.ifCond .ne 7, 3) := by decide +kernel
theorem dX12_look_23 : decode cX12_look 23 = .ok (.iconst 1, 1) := by decide +kernel
theorem dX12_look_24 : decode cX12_look 24 = .ok (.goto 4, 3) := by decide +kernel
theorem dX12_look_27 : decode cX12_look 27 = .ok (.iconst 0, 1) := by decide +kernel
theorem dX12_look_28 : decode cX12_look 28 = .ok (.iconst 1, 1) := by decide +kernel
theorem dX12_look_29 : decode cX12_look 29 = .ok (.iconst 1, 1) := by decide +kernel
theorem dX12_look_30 : decode cX12_look 30 = .ok (.invokevirtual 174, 3) := by decide +kernel
theorem dX12_look_33 : decode cX12_look 33 = .ok (.ifCond .eq 5, 3) := by decide +kernel
theorem dX12_look_36 : decode cX12_look 36 = .ok (.iconst 0, 1) := by decide +kernel
theorem dX12_look_37 : decode cX12_look 37 = .ok (.ireturn, 1) := by decide +kernel
theorem dX12_look_38 : decode cX12_look 38 = .ok (.iconst (-1), 1) := by decide +kernel
theorem dX12_look_39 : decode cX12_look 39 = .ok (.istore_n 3, 1) := by decide +kernel
theorem dX12_look_40 : decode cX12_look 40 = .ok (.iconst (-1), 1) := by decide +kernel
theorem dX12_look_41 : decode cX12_look 41 = .ok (.istore 4, 2) := by decide +kernel
theorem dX12_look_43 : decode cX12_look 43 = .ok (.iconst 0, 1) := by decide +kernel
theorem dX12_look_44 : decode cX12_look 44 = .ok (.istore 5, 2) := by decide +kernel
theorem dX12_look_46 : decode cX12_look 46 = .ok (.iload 5, 2) := by decide +kernel
theorem dX12_look_48 : decode cX12_look 48 = .ok (.aload_n 0, 1) := by decide +kernel
theorem dX12_look_49 : decode cX12_look 49 = .ok (.getfield 23, 3) := by decide +kernel
theorem dX12_look_52 : decode cX12_look 52 = .ok (.iconst 0, 1) := by decide +kernel
theorem dX12_look_53 : decode cX12_look 53 = .ok (.iaload, 1) := by decide +kernel
theorem dX12_look_54 : decode cX12_look 54 = .ok (.if_icmp .ge 52, 3) := by decide +kernel
theorem dX12_look_57 : decode cX12_look 57 = .ok (.aload_n 0, 1) := by decide +kernel
theorem dX12_look_58 : decode cX12_look 58 = .ok (.iload 5, 2) := by decide +kernel
theorem dX12_look_60 : decode cX12_look 60 = .ok (.invokevirtual 384, 3) := by decide +kernel
theorem dX12_look_63 : decode cX12_look 63 = .ok (.ifCond .eq 6, 3) := by decide +kernel
theorem dX12_look_66 : decode cX12_look 66 = .ok (.goto 34, 3) := by decide +kernel
theorem dX12_look_69 : decode cX12_look 69 = .ok (.aload_n 0, 1) := by decide +kernel
theorem dX12_look_70 : decode cX12_look 70 = .ok (.iload_n 1, 1) := by decide +kernel
theorem dX12_look_71 : decode cX12_look 71 = .ok (.iload 5, 2) := by decide +kernel
theorem dX12_look_73 : decode cX12_look 73 = .ok (.invokevirtual 387, 3) := by decide +kernel
theorem dX12_look_76 : decode cX12_look 76 = .ok (.istore 6, 2) := by decide +kernel
theorem dX12_look_78 : decode cX12_look 78 = .ok (.iload_n 3, 1) := by decide +kernel
theorem dX12_look_79 : decode cX12_look 79 = .ok (.iconst (-1), 1) := by decide +kernel
theorem dX12_look_80 : decode cX12_look 80 = .ok (.if_icmp .eq 13, 3) := by decide +kernel
theorem dX12_look_83 : decode cX12_look 83 = .ok (.iload 6, 2) := by decide +kernel
theorem dX12_look_85 : decode cX12_look 85 = .ok (.iload 4, 2) := by decide +kernel
theorem dX12_look_87 : decode cX12_look 87 = .ok (.if_icmp .lt 6, 3) := by decide +kernel
theorem dX12_look_90 : decode cX12_look 90 = .ok (.goto 10, 3) := by decide +kernel
theorem dX12_look_93 : decode cX12_look 93 = .ok (.iload 5, 2) := by decide +kernel
theorem dX12_look_95 : decode cX12_look 95 = .ok (.istore_n 3, 1) := by decide +kernel
theorem dX12_look_96 : decode cX12_look 96 = .ok (.iload 6, 2) := by decide +kernel
theorem dX12_look_98 : decode cX12_look 98 = .ok (.istore 4, 2) := by decide +kernel
theorem dX12_look_100 : decode cX12_look 100 = .ok (.iinc 5 1, 3) := by decide +kernel
theorem dX12_look_103 : decode cX12_look 103 = .ok (.goto (-57), 3) := by decide +kernel
theorem dX12_look_106 : decode cX12_look 106 = .ok (.iload_n 2, 1) := by decide +kernel
theorem dX12_look_107 : decode cX12_look 107 = .ok (.ifCond .ne 7, 3) := by decide +kernel
theorem dX12_look_110 : decode cX12_look 110 = .ok (.iload_n 3, 1) := by decide +kernel
theorem dX12_look_111 : decode cX12_look 111 = .ok (.goto 5, 3) := by decide +kernel
theorem dX12_look_114 : decode cX12_look 114 = .ok (.iload 4, 2) := by decide +kernel
theorem dX12_look_116 : decode cX12_look 116 = .ok (.ireturn, 1) := by decide +kernel
theorem dX12_hasBy_0 : decode cX12_hasBy 0 = .ok (.iload_n 1, 1) := by decide +kernel
theorem dX12_hasBy_1 : decode cX12_hasBy 1 = .ok (.ifCond .ne 7, 3) := by decide +kernel
theorem dX12_hasBy_4 : decode cX12_hasBy 4 = .ok (.iload_n 2, 1) := by decide +kernel
theorem dX12_hasBy_5 : decode cX12_hasBy 5 = .ok (.goto 13, 3) := by decide +kernel
theorem dX12_hasBy_8 : decode cX12_hasBy 8 = .ok (.iload_n 0, 1) := by decide +kernel
theorem dX12_hasBy_9 : decode cX12_hasBy 9 = .ok (.ifCond .ne 8, 3) := by decide +kernel
theorem dX12_hasBy_12 : decode cX12_hasBy 12 = .ok (.iload_n 3, 1) := by decide +kernel
theorem dX12_hasBy_13 : decode cX12_hasBy 13 = .ok (.ineg, 1) := by decide +kernel
theorem dX12_hasBy_14 : decode cX12_hasBy 14 = .ok (.goto 4, 3) := by decide +kernel
theorem dX12_hasBy_17 : decode cX12_hasBy 17 = .ok (.iconst 0, 1) := by decide +kernel
theorem dX12_hasBy_18 : decode cX12_hasBy 18 = .ok (.ireturn, 1) := by decide +kernel
theorem dX12_isBest_0 : decode cX12_isBest 0 = .ok (.iload_n 0, 1) := by decide +kernel
theorem dX12_isBest_1 : decode cX12_isBest 1 = .ok (.iload_n 1, 1) := by decide +kernel
theorem dX12_isBest_2 : decode cX12_isBest 2 = .ok (.iload_n 2, 1) := by decide +kernel
theorem dX12_isBest_3 : decode cX12_isBest 3 = .ok (.iload_n 3, 1) := by decide +kernel
theorem dX12_isBest_4 : decode cX12_isBest 4 = .ok (.invokestatic 390, 3) := by decide +kernel
theorem dX12_isBest_7 : decode cX12_isBest 7 = .ok (.iconst 1, 1) := by decide +kernel
theorem dX12_isBest_8 : decode cX12_isBest 8 = .ok (.iload_n 0, 1) := by decide +kernel
theorem dX12_isBest_9 : decode cX12_isBest 9 = .ok (.isub, 1) := by decide +kernel
theorem dX12_isBest_10 : decode cX12_isBest 10 = .ok (.iload_n 1, 1) := by decide +kernel
theorem dX12_isBest_11 : decode cX12_isBest 11 = .ok (.iload_n 2, 1) := by decide +kernel
theorem dX12_isBest_12 : decode cX12_isBest 12 = .ok (.iload_n 3, 1) := by decide +kernel
theorem dX12_isBest_13 : decode cX12_isBest 13 = .ok (.invokestatic 390, 3) := by decide +kernel
theorem dX12_isBest_16 : decode cX12_isBest 16 = .ok (.if_icmp .lt 7, 3) := by decide +kernel
theorem dX12_isBest_19 : decode cX12_isBest 19 = .ok (.iconst 1, 1) := by decide +kernel
theorem dX12_isBest_20 : decode cX12_isBest 20 = .ok (.goto 4, 3) := by decide +kernel
theorem dX12_isBest_23 : decode cX12_isBest 23 = .ok (.iconst 0, 1) := by decide +kernel
theorem dX12_isBest_24 : decode cX12_isBest 24 = .ok (.ireturn, 1) := by decide +kernel
theorem dX12_neighbours_0 : decode cX12_neighbours 0 = .ok (.aload_n 0, 1) := by decide +kernel
theorem dX12_neighbours_1 : decode cX12_neighbours 1 = .ok (.iconst 0, 1) := by decide +kernel
theorem dX12_neighbours_2 : decode cX12_neighbours 2 = .ok (.putfield 98, 3) := by decide +kernel
theorem dX12_neighbours_5 : decode cX12_neighbours 5 = .ok (.aload_n 0, 1) := by decide +kernel
theorem dX12_neighbours_6 : decode cX12_neighbours 6 = .ok (.iload_n 1, 1) := by decide +kernel
theorem dX12_neighbours_7 : decode cX12_neighbours 7 = .ok (.iconst 0, 1) := by decide +kernel
theorem dX12_neighbours_8 : decode cX12_neighbours 8 = .ok (.bipush 99, 2) := by decide +kernel
theorem dX12_neighbours_10 : decode cX12_neighbours 10 = .ok (.invokestatic 132, 3) := by decide +kernel
theorem dX12_neighbours_13 : decode cX12_neighbours 13 = .ok (.ifCond .eq 22, 3) := by decide +kernel
theorem dX12_neighbours_16 : decode cX12_neighbours 16 = .ok (.iload_n 2, 1) := by decide +kernel
theorem dX12_neighbours_17 : decode cX12_neighbours 17 = .ok (.iconst 0, 1) := by decide +kernel
theorem dX12_neighbours_18 : decode cX12_neighbours 18 = .ok (.bipush 99, 2) := by decide +kernel
theorem dX12_neighbours_20 : decode cX12_neighbours 20 = .ok (.invokestatic 132, 3) := by decide +kernel
theorem dX12_neighbours_23 : decode cX12_neighbours 23 = .ok (.ifCond .eq 12, 3) := by decide +kernel
theorem dX12_neighbours_26 : decode cX12_neighbours 26 = .ok (.iload_n 3, 1) := by decide +kernel
theorem dX12_neighbours_27 : decode cX12_neighbours 27 = .ok (.iconst 0, 1) := by decide +kernel
theorem dX12_neighbours_28 : decode cX12_neighbours 28 = .ok (.iconst 2, 1) := by decide +kernel
theorem dX12_neighbours_29 : decode cX12_neighbours 29 = .ok (.invokestatic 132, 3) := by decide +kernel
theorem dX12_neighbours_32 : decode cX12_neighbours 32 = .ok (.ifCond .ne 7, 3) := by decide +kernel
theorem dX12_neighbours_35 : decode cX12_neighbours 35 = .ok (.iconst 1, 1) := by decide +kernel
theorem dX12_neighbours_36 : decode cX12_neighbours 36 = .ok (.goto 4, 3) := by decide +kernel
theorem dX12_neighbours_39 : decode cX12_neighbours 39 = .ok (.iconst 0, 1) := by decide +kernel
theorem dX12_neighbours_40 : decode cX12_neighbours 40 = .ok (.iconst 1, 1) := by decide +kernel
theorem dX12_neighbours_41 : decode cX12_neighbours 41 = .ok (.iconst 1, 1) := by decide +kernel
theorem dX12_neighbours_42 : decode cX12_neighbours 42 = .ok (.invokevirtual 174, 3) := by decide +kernel
theorem dX12_neighbours_45 : decode cX12_neighbours 45 = .ok (.ifCond .eq 5, 3) := by decide +kernel
theorem dX12_neighbours_48 : decode cX12_neighbours 48 = .ok (.iconst 0, 1) := by decide +kernel
theorem dX12_neighbours_49 : decode cX12_neighbours 49 = .ok (.ireturn, 1) := by decide +kernel
theorem dX12_neighbours_50 : decode cX12_neighbours 50 = .ok (.iconst 0, 1) := by decide +kernel
theorem dX12_neighbours_51 : decode cX12_neighbours 51 = .ok (.istore 4, 2) := by decide +kernel
theorem dX12_neighbours_53 : decode cX12_neighbours 53 = .ok (.iconst (-1), 1) := by decide +kernel
theorem dX12_neighbours_54 : decode cX12_neighbours 54 = .ok (.istore 5, 2) := by decide +kernel
theorem dX12_neighbours_56 : decode cX12_neighbours 56 = .ok (.iconst 0, 1) := by decide +kernel
theorem dX12_neighbours_57 : decode cX12_neighbours 57 = .ok (.istore 6, 2) := by decide +kernel
theorem dX12_neighbours_59 : decode cX12_neighbours 59 = .ok (.iconst 0, 1) := by decide +kernel
theorem dX12_neighbours_60 : decode cX12_neighbours 60 = .ok (.istore 7, 2) := by decide +kernel
theorem dX12_neighbours_62 : decode cX12_neighbours 62 = .ok (.iload 7, 2) := by decide +kernel
theorem dX12_neighbours_64 : decode cX12_neighbours 64 = .ok (.iconst 2, 1) := by decide +kernel
theorem dX12_neighbours_65 : decode cX12_neighbours 65 = .ok (.if_icmp .ge 105, 3) := by decide +kernel
theorem dX12_neighbours_68 : decode cX12_neighbours 68 = .ok (.iconst 0, 1) := by decide +kernel
theorem dX12_neighbours_69 : decode cX12_neighbours 69 = .ok (.istore 8, 2) := by decide +kernel
theorem dX12_neighbours_71 : decode cX12_neighbours 71 = .ok (.iload 8, 2) := by decide +kernel
theorem dX12_neighbours_73 : decode cX12_neighbours 73 = .ok (.iconst 2, 1) := by decide +kernel
theorem dX12_neighbours_74 : decode cX12_neighbours 74 = .ok (.if_icmp .ge 90, 3) := by decide +kernel
theorem dX12_neighbours_77 : decode cX12_neighbours 77 = .ok (.iload 7, 2) := by decide +kernel
theorem dX12_neighbours_79 : decode cX12_neighbours 79 = .ok (.iload 8, 2) := by decide +kernel
theorem dX12_neighbours_81 : decode cX12_neighbours 81 = .ok (.iload_n 1, 1) := by decide +kernel
theorem dX12_neighbours_82 : decode cX12_neighbours 82 = .ok (.iload_n 2, 1) := by decide +kernel
theorem dX12_neighbours_83 : decode cX12_neighbours 83 = .ok (.invokestatic 394, 3) := by decide +kernel
theorem dX12_neighbours_86 : decode cX12_neighbours 86 = .ok (.ifCond .eq 72, 3) := by decide +kernel
theorem dX12_neighbours_89 : decode cX12_neighbours 89 = .ok (.iload 8, 2) := by decide +kernel
theorem dX12_neighbours_91 : decode cX12_neighbours 91 = .ok (.iload 7, 2) := by decide +kernel
theorem dX12_neighbours_93 : decode cX12_neighbours 93 = .ok (.iload_n 1, 1) := by decide +kernel
theorem dX12_neighbours_94 : decode cX12_neighbours 94 = .ok (.iload_n 2, 1) := by decide +kernel
theorem dX12_neighbours_95 : decode cX12_neighbours 95 = .ok (.invokestatic 394, 3) := by decide +kernel
theorem dX12_neighbours_98 : decode cX12_neighbours 98 = .ok (.ifCond .ne 6, 3) := by decide +kernel
theorem dX12_neighbours_101 : decode cX12_neighbours 101 = .ok (.goto 57, 3) := by decide +kernel
theorem dX12_neighbours_104 : decode cX12_neighbours 104 = .ok (.iload 4, 2) := by decide +kernel
theorem dX12_neighbours_106 : decode cX12_neighbours 106 = .ok (.ifCond .ne 25, 3) := by decide +kernel
theorem dX12_neighbours_109 : decode cX12_neighbours 109 = .ok (.iload 7, 2) := by decide +kernel
theorem dX12_neighbours_111 : decode cX12_neighbours 111 = .ok (.iload 8, 2) := by decide +kernel
theorem dX12_neighbours_113 : decode cX12_neighbours 113 = .ok (.iload_n 1, 1) := by decide +kernel
theorem dX12_neighbours_114 : decode cX12_neighbours 114 = .ok (.iload_n 2, 1) := by decide +kernel
theorem dX12_neighbours_115 : decode cX12_neighbours 115 = .ok (.invokestatic 390, 3) := by decide +kernel
theorem dX12_neighbours_118 : decode cX12_neighbours 118 = .ok (.iload 8, 2) := by decide +kernel
theorem dX12_neighbours_120 : decode cX12_neighbours 120 = .ok (.iload 7, 2) := by decide +kernel
theorem dX12_neighbours_122 : decode cX12_neighbours 122 = .ok (.iload_n 1, 1) := by decide +kernel
theorem dX12_neighbours_123 : decode cX12_neighbours 123 = .ok (.iload_n 2, 1) := by decide +kernel
theorem dX12_neighbours_124 : decode cX12_neighbours 124 = .ok (.invokestatic 390, 3) := by decide +kernel
theorem dX12_neighbours_127 : decode cX12_neighbours 127 = .ok (.iadd, 1) := by decide +kernel
theorem dX12_neighbours_128 : decode cX12_neighbours 128 = .ok (.goto 5, 3) := by decide +kernel
theorem dX12_neighbours_131 : decode cX12_neighbours 131 = .ok (.iload 6, 2) := by decide +kernel
theorem dX12_neighbours_133 : decode cX12_neighbours 133 = .ok (.istore 6, 2) := by decide +kernel
theorem dX12_neighbours_135 : decode cX12_neighbours 135 = .ok (.iload 4, 2) := by decide +kernel
theorem dX12_neighbours_137 : decode cX12_neighbours 137 = .ok (.ifCond .ne 14, 3) := by decide +kernel
theorem dX12_neighbours_140 : decode cX12_neighbours 140 = .ok (.bipush 10, 2) := by decide +kernel
theorem dX12_neighbours_142 : decode cX12_neighbours 142 = .ok (.iload 7, 2) := by decide +kernel
theorem dX12_neighbours_144 : decode cX12_neighbours 144 = .ok (.imul, 1) := by decide +kernel
theorem dX12_neighbours_145 : decode cX12_neighbours 145 = .ok (.iload 8, 2) := by decide +kernel
theorem dX12_neighbours_147 : decode cX12_neighbours 147 = .ok (.iadd, 1) := by decide +kernel
theorem dX12_neighbours_148 : decode cX12_neighbours 148 = .ok (.goto 5, 3) := by decide +kernel
theorem dX12_neighbours_151 : decode cX12_neighbours 151 = .ok (.iload 5, 2) := by decide +kernel
theorem dX12_neighbours_153 : decode cX12_neighbours 153 = .ok (.istore 5, 2) := by decide +kernel
theorem dX12_neighbours_155 : decode cX12_neighbours 155 = .ok (.iinc 4 1, 3) := by decide +kernel
theorem dX12_neighbours_158 : decode cX12_neighbours 158 = .ok (.iinc 8 1, 3) := by decide +kernel
theorem dX12_neighbours_161 : decode cX12_neighbours 161 = .ok (.goto (-90), 3) := by decide +kernel
theorem dX12_neighbours_164 : decode cX12_neighbours 164 = .ok (.iinc 7 1, 3) := by decide +kernel
theorem dX12_neighbours_167 : decode cX12_neighbours 167 = .ok (.goto (-105), 3) := by decide +kernel
theorem dX12_neighbours_170 : decode cX12_neighbours 170 = .ok (.iload_n 3, 1) := by decide +kernel
theorem dX12_neighbours_171 : decode cX12_neighbours 171 = .ok (.ifCond .ne 8, 3) := by decide +kernel
theorem dX12_neighbours_174 : decode cX12_neighbours 174 = .ok (.iload 4, 2) := by decide +kernel
theorem dX12_neighbours_176 : decode cX12_neighbours 176 = .ok (.goto 15, 3) := by decide +kernel
theorem dX12_neighbours_179 : decode cX12_neighbours 179 = .ok (.iload_n 3, 1) := by decide +kernel
theorem dX12_neighbours_180 : decode cX12_neighbours 180 = .ok (.iconst 1, 1) := by decide +kernel
theorem dX12_neighbours_181 : decode cX12_neighbours 181 = .ok (.if_icmp .ne 8, 3) := by decide +kernel
theorem dX12_neighbours_184 : decode cX12_neighbours 184 = .ok (.iload 5, 2) := by decide +kernel
theorem dX12_neighbours_186 : decode cX12_neighbours 186 = .ok (.goto 5, 3) := by decide +kernel
theorem dX12_neighbours_189 : decode cX12_neighbours 189 = .ok (.iload 6, 2) := by decide +kernel
theorem dX12_neighbours_191 : decode cX12_neighbours 191 = .ok (.ireturn, 1) := by decide +kernel
theorem dX12_home_0 : decode cX12_home 0 = .ok (.aload_n 0, 1) := by decide +kernel
theorem dX12_home_1 : decode cX12_home 1 = .ok (.iconst 0, 1) := by decide +kernel
theorem dX12_home_2 : decode cX12_home 2 = .ok (.putfield 98, 3) := by decide +kernel
theorem dX12_home_5 : decode cX12_home 5 = .ok (.aload_n 0, 1) := by decide +kernel
theorem dX12_home_6 : decode cX12_home 6 = .ok (.iload_n 1, 1) := by decide +kernel
theorem dX12_home_7 : decode cX12_home 7 = .ok (.iconst 0, 1) := by decide +kernel
theorem dX12_home_8 : decode cX12_home 8 = .ok (.bipush 12, 2) := by decide +kernel
theorem dX12_home_10 : decode cX12_home 10 = .ok (.invokestatic 132, 3) := by decide +kernel
theorem dX12_home_13 : decode cX12_home 13 = .ok (.ifCond .eq 33, 3) := by decide +kernel
theorem dX12_home_16 : decode cX12_home 16 = .ok (.iload_n 2, 1) := by decide +kernel
theorem dX12_home_17 : decode cX12_home 17 = .ok (.iconst 0, 1) := by decide +kernel
theorem dX12_home_18 : decode cX12_home 18 = .ok (.bipush 13, 2) := by decide +kernel
theorem dX12_home_20 : decode cX12_home 20 = .ok (.invokestatic 132, 3) := by decide +kernel
theorem dX12_home_23 : decode cX12_home 23 = .ok (.ifCond .eq 23, 3) := by decide +kernel
theorem dX12_home_26 : decode cX12_home 26 = .ok (.iload_n 3, 1) := by decide +kernel
theorem dX12_home_27 : decode cX12_home 27 = .ok (.iconst 0, 1) := by decide +kernel
theorem dX12_home_28 : decode cX12_home 28 = .ok (.bipush 16, 2) := by decide +kernel
theorem dX12_home_30 : decode cX12_home 30 = .ok (.invokestatic 132, 3) := by decide +kernel
theorem dX12_home_33 : decode cX12_home 33 = .ok (.ifCond .eq 13, 3) := by decide +kernel
theorem dX12_home_36 : decode cX12_home 36 = .ok (.iload 4, 2) := by decide +kernel
theorem dX12_home_38 : decode cX12_home 38 = .ok (.iconst 0, 1) := by decide +kernel
theorem dX12_home_39 : decode cX12_home 39 = .ok (.iconst 1, 1) := by decide +kernel
theorem dX12_home_40 : decode cX12_home 40 = .ok (.invokestatic 132, 3) := by decide +kernel
theorem dX12_home_43 : decode cX12_home 43 = .ok (.ifCond .ne 7, 3) := by decide +kernel
theorem dX12_home_46 : decode cX12_home 46 = .ok (.iconst 1, 1) := by decide +kernel
theorem dX12_home_47 : decode cX12_home 47 = .ok (.goto 4, 3) := by decide +kernel
theorem dX12_home_50 : decode cX12_home 50 = .ok (.iconst 0, 1) := by decide +kernel
theorem dX12_home_51 : decode cX12_home 51 = .ok (.iconst 1, 1) := by decide +kernel
theorem dX12_home_52 : decode cX12_home 52 = .ok (.iconst 1, 1) := by decide +kernel
theorem dX12_home_53 : decode cX12_home 53 = .ok (.invokevirtual 174, 3) := by decide +kernel
theorem dX12_home_56 : decode cX12_home 56 = .ok (.ifCond .eq 5, 3) := by decide +kernel
theorem dX12_home_59 : decode cX12_home 59 = .ok (.lconst 0, 1) := by decide +kernel
theorem dX12_home_60 : decode cX12_home 60 = .ok (.lreturn, 1) := by decide +kernel
theorem dX12_home_61 : decode cX12_home 61 = .ok (.iconst 0, 1) := by decide +kernel
theorem dX12_home_62 : decode cX12_home 62 = .ok (.istore 5, 2) := by decide +kernel
theorem dX12_home_64 : decode cX12_home 64 = .ok (.iload 5, 2) := by decide +kernel
theorem dX12_home_66 : decode cX12_home 66 = .ok (.bipush 14, 2) := by decide +kernel
theorem dX12_home_68 : decode cX12_home 68 = .ok (.if_icmp .ge 26, 3) := by decide +kernel
theorem dX12_home_71 : decode cX12_home 71 = .ok (.aload_n 0, 1) := by decide +kernel
theorem dX12_home_72 : decode cX12_home 72 = .ok (.getfield 88, 3) := by decide +kernel
theorem dX12_home_75 : decode cX12_home 75 = .ok (.iload 5, 2) := by decide +kernel
theorem dX12_home_77 : decode cX12_home 77 = .ok (.iload 5, 2) := by decide +kernel
theorem dX12_home_79 : decode cX12_home 79 = .ok (.ifCond .ne 7, 3) := by decide +kernel
theorem dX12_home_82 : decode cX12_home 82 = .ok (.lconst 1, 1) := by decide +kernel
theorem dX12_home_83 : decode cX12_home 83 = .ok (.goto 4, 3) := by decide +kernel
theorem dX12_home_86 : decode cX12_home 86 = .ok (.lconst 0, 1) := by decide +kernel
theorem dX12_home_87 : decode cX12_home 87 = .ok (.lastore, 1) := by decide +kernel
theorem dX12_home_88 : decode cX12_home 88 = .ok (.iinc 5 1, 3) := by decide +kernel
theorem dX12_home_91 : decode cX12_home 91 = .ok (.goto (-27), 3) := by decide +kernel
theorem dX12_home_94 : decode cX12_home 94 = .ok (.iconst 0, 1) := by decide +kernel
theorem dX12_home_95 : decode cX12_home 95 = .ok (.istore 5, 2) := by decide +kernel
theorem dX12_home_97 : decode cX12_home 97 = .ok (.iload 5, 2) := by decide +kernel
theorem dX12_home_99 : decode cX12_home 99 = .ok (.iload_n 1, 1) := by decide +kernel
theorem dX12_home_100 : decode cX12_home 100 = .ok (.if_icmp .ge 66, 3) := by decide +kernel
theorem dX12_home_103 : decode cX12_home 103 = .ok (.bipush 13, 2) := by decide +kernel
theorem dX12_home_105 : decode cX12_home 105 = .ok (.istore 6, 2) := by decide +kernel
theorem dX12_home_107 : decode cX12_home 107 = .ok (.iload 6, 2) := by decide +kernel
theorem dX12_home_109 : decode cX12_home 109 = .ok (.ifCond .lt 51, 3) := by decide +kernel
theorem dX12_home_112 : decode cX12_home 112 = .ok (.aload_n 0, 1) := by decide +kernel
theorem dX12_home_113 : decode cX12_home 113 = .ok (.getfield 88, 3) := by decide +kernel
theorem dX12_home_116 : decode cX12_home 116 = .ok (.iload 6, 2) := by decide +kernel
theorem dX12_home_118 : decode cX12_home 118 = .ok (.aload_n 0, 1) := by decide +kernel
theorem dX12_home_119 : decode cX12_home 119 = .ok (.getfield 88, 3) := by decide +kernel
theorem dX12_home_122 : decode cX12_home 122 = .ok (.iload 6, 2) := by decide +kernel
theorem dX12_home_124 : decode cX12_home 124 = .ok (.laload, 1) := by decide +kernel
theorem dX12_home_125 : decode cX12_home 125 = .ok (.iload_n 3, 1) := by decide +kernel
theorem dX12_home_126 : decode cX12_home 126 = .ok (.i2l, 1) := by decide +kernel
theorem dX12_home_127 : decode cX12_home 127 = .ok (.lmul, 1) := by decide +kernel
theorem dX12_home_128 : decode cX12_home 128 = .ok (.iload 6, 2) := by decide +kernel
theorem dX12_home_130 : decode cX12_home 130 = .ok (.ifCond .le 21, 3) := by decide +kernel
theorem dX12_home_133 : decode cX12_home 133 = .ok (.aload_n 0, 1) := by decide +kernel
theorem dX12_home_134 : decode cX12_home 134 = .ok (.getfield 88, 3) := by decide +kernel
theorem dX12_home_137 : decode cX12_home 137 = .ok (.iload 6, 2) := by decide +kernel
theorem dX12_home_139 : decode cX12_home 139 = .ok (.iconst 1, 1) := by decide +kernel
theorem dX12_home_140 : decode cX12_home 140 = .ok (.isub, 1) := by decide +kernel
theorem dX12_home_141 : decode cX12_home 141 = .ok (.laload, 1) := by decide +kernel
theorem dX12_home_142 : decode cX12_home 142 = .ok (.bipush 16, 2) := by decide +kernel
theorem dX12_home_144 : decode cX12_home 144 = .ok (.iload_n 3, 1) := by decide +kernel
theorem dX12_home_145 : decode cX12_home 145 = .ok (.isub, 1) := by decide +kernel
theorem dX12_home_146 : decode cX12_home 146 = .ok (.i2l, 1) := by decide +kernel
theorem dX12_home_147 : decode cX12_home 147 = .ok (.lmul, 1) := by decide +kernel
theorem dX12_home_148 : decode cX12_home 148 = .ok (.goto 4, 3) := by decide +kernel
theorem dX12_home_151 : decode cX12_home 151 = .ok (.lconst 0, 1) := by decide +kernel
theorem dX12_home_152 : decode cX12_home 152 = .ok (.ladd, 1) := by decide +kernel
theorem dX12_home_153 : decode cX12_home 153 = .ok (.lastore, 1) := by decide +kernel
theorem dX12_home_154 : decode cX12_home 154 = .ok (.iinc 6 (-1), 3) := by decide +kernel
theorem dX12_home_157 : decode cX12_home 157 = .ok (.goto (-50), 3) := by decide +kernel
theorem dX12_home_160 : decode cX12_home 160 = .ok (.iinc 5 1, 3) := by decide +kernel
theorem dX12_home_163 : decode cX12_home 163 = .ok (.goto (-66), 3) := by decide +kernel
theorem dX12_home_166 : decode cX12_home 166 = .ok (.lconst 0, 1) := by decide +kernel
theorem dX12_home_167 : decode cX12_home 167 = .ok (.lstore 5, 2) := by decide +kernel
theorem dX12_home_169 : decode cX12_home 169 = .ok (.lconst 1, 1) := by decide +kernel
theorem dX12_home_170 : decode cX12_home 170 = .ok (.iconst 4, 1) := by decide +kernel
theorem dX12_home_171 : decode cX12_home 171 = .ok (.iload_n 1, 1) := by decide +kernel
theorem dX12_home_172 : decode cX12_home 172 = .ok (.imul, 1) := by decide +kernel
theorem dX12_home_173 : decode cX12_home 173 = .ok (.lshl, 1) := by decide +kernel
theorem dX12_home_174 : decode cX12_home 174 = .ok (.lstore 7, 2) := by decide +kernel
theorem dX12_home_176 : decode cX12_home 176 = .ok (.iload_n 2, 1) := by decide +kernel
theorem dX12_home_177 : decode cX12_home 177 = .ok (.istore 9, 2) := by decide +kernel
theorem dX12_home_179 : decode cX12_home 179 = .ok (.iload 9, 2) := by decide +kernel
theorem dX12_home_181 : decode cX12_home 181 = .ok (.bipush 14, 2) := by decide +kernel
theorem dX12_home_183 : decode cX12_home 183 = .ok (.if_icmp .ge 21, 3) := by decide +kernel
theorem dX12_home_186 : decode cX12_home 186 = .ok (.lload 5, 2) := by decide +kernel
theorem dX12_home_188 : decode cX12_home 188 = .ok (.aload_n 0, 1) := by decide +kernel
theorem dX12_home_189 : decode cX12_home 189 = .ok (.getfield 88, 3) := by decide +kernel
theorem dX12_home_192 : decode cX12_home 192 = .ok (.iload 9, 2) := by decide +kernel
theorem dX12_home_194 : decode cX12_home 194 = .ok (.laload, 1) := by decide +kernel
theorem dX12_home_195 : decode cX12_home 195 = .ok (.ladd, 1) := by decide +kernel
theorem dX12_home_196 : decode cX12_home 196 = .ok (.lstore 5, 2) := by decide +kernel
theorem dX12_home_198 : decode cX12_home 198 = .ok (.iinc 9 1, 3) := by decide +kernel
theorem dX12_home_201 : decode cX12_home 201 = .ok (.goto (-22), 3) := by decide +kernel
theorem dX12_home_204 : decode cX12_home 204 = .ok (.lload 7, 2) := by decide +kernel
theorem dX12_home_206 : decode cX12_home 206 = .ok (.lstore 9, 2) := by decide +kernel
theorem dX12_home_208 : decode cX12_home 208 = .ok (.lload 5, 2) := by decide +kernel
theorem dX12_home_210 : decode cX12_home 210 = .ok (.lstore 11, 2) := by decide +kernel
theorem dX12_home_212 : decode cX12_home 212 = .ok (.lload 11, 2) := by decide +kernel
theorem dX12_home_214 : decode cX12_home 214 = .ok (.lconst 0, 1) := by decide +kernel
theorem dX12_home_215 : decode cX12_home 215 = .ok (.lcmp, 1) := by decide +kernel
theorem dX12_home_216 : decode cX12_home 216 = .ok (.ifCond .eq 21, 3) := by decide +kernel
theorem dX12_home_219 : decode cX12_home 219 = .ok (.lload 9, 2) := by decide +kernel
theorem dX12_home_221 : decode cX12_home 221 = .ok (.lload 11, 2) := by decide +kernel
theorem dX12_home_223 : decode cX12_home 223 = .ok (.lrem, 1) := by decide +kernel
theorem dX12_home_224 : decode cX12_home 224 = .ok (.lstore 13, 2) := by decide +kernel
theorem dX12_home_226 : decode cX12_home 226 = .ok (.lload 11, 2) := by decide +kernel
theorem dX12_home_228 : decode cX12_home 228 = .ok (.lstore 9, 2) := by decide +kernel
theorem dX12_home_230 : decode cX12_home 230 = .ok (.lload 13, 2) := by decide +kernel
theorem dX12_home_232 : decode cX12_home 232 = .ok (.lstore 11, 2) := by decide +kernel
theorem dX12_home_234 : decode cX12_home 234 = .ok (.goto (-22), 3) := by decide +kernel
theorem dX12_home_237 : decode cX12_home 237 = .ok (.iload 4, 2) := by decide +kernel
theorem dX12_home_239 : decode cX12_home 239 = .ok (.ifCond .ne 11, 3) := by decide +kernel
theorem dX12_home_242 : decode cX12_home 242 = .ok (.lload 5, 2) := by decide +kernel
theorem dX12_home_244 : decode cX12_home 244 = .ok (.lload 9, 2) := by decide +kernel
theorem dX12_home_246 : decode cX12_home 246 = .ok (.ldiv, 1) := by decide +kernel
theorem dX12_home_247 : decode cX12_home 247 = .ok (.goto 8, 3) := by decide +kernel
theorem dX12_home_250 : decode cX12_home 250 = .ok (.lload 7, 2) := by decide +kernel
theorem dX12_home_252 : decode cX12_home 252 = .ok (.lload 9, 2) := by decide +kernel
theorem dX12_home_254 : decode cX12_home 254 = .ok (.ldiv, 1) := by decide +kernel
theorem dX12_home_255 : decode cX12_home 255 = .ok (.lreturn, 1) := by decide +kernel
theorem dX12_givenBy_0 : decode cX12_givenBy 0 = .ok (.iconst 0, 1) := by decide +kernel
theorem dX12_givenBy_1 : decode cX12_givenBy 1 = .ok (.istore_n 3, 1) := by decide +kernel
theorem dX12_givenBy_2 : decode cX12_givenBy 2 = .ok (.iconst 0, 1) := by decide +kernel
theorem dX12_givenBy_3 : decode cX12_givenBy 3 = .ok (.istore 4, 2) := by decide +kernel
theorem dX12_givenBy_5 : decode cX12_givenBy 5 = .ok (.iload 4, 2) := by decide +kernel
theorem dX12_givenBy_7 : decode cX12_givenBy 7 = .ok (.aload_n 0, 1) := by decide +kernel
theorem dX12_givenBy_8 : decode cX12_givenBy 8 = .ok (.getfield 23, 3) := by decide +kernel
theorem dX12_givenBy_11 : decode cX12_givenBy 11 = .ok (.iconst 0, 1) := by decide +kernel
theorem dX12_givenBy_12 : decode cX12_givenBy 12 = .ok (.iaload, 1) := by decide +kernel
theorem dX12_givenBy_13 : decode cX12_givenBy 13 = .ok (.if_icmp .ge 39, 3) := by decide +kernel
theorem dX12_givenBy_16 : decode cX12_givenBy 16 = .ok (.iload_n 3, 1) := by decide +kernel
theorem dX12_givenBy_17 : decode cX12_givenBy 17 = .ok (.iload_n 1, 1) := by decide +kernel
theorem dX12_givenBy_18 : decode cX12_givenBy 18 = .ok (.iload 4, 2) := by decide +kernel
theorem dX12_givenBy_20 : decode cX12_givenBy 20 = .ok (.invokestatic 253, 3) := by decide +kernel
theorem dX12_givenBy_23 : decode cX12_givenBy 23 = .ok (.ifCond .eq 20, 3) := by decide +kernel
theorem dX12_givenBy_26 : decode cX12_givenBy 26 = .ok (.iload_n 2, 1) := by decide +kernel
theorem dX12_givenBy_27 : decode cX12_givenBy 27 = .ok (.aload_n 0, 1) := by decide +kernel
theorem dX12_givenBy_28 : decode cX12_givenBy 28 = .ok (.aload_n 0, 1) := by decide +kernel
theorem dX12_givenBy_29 : decode cX12_givenBy 29 = .ok (.getfield 61, 3) := by decide +kernel
theorem dX12_givenBy_32 : decode cX12_givenBy 32 = .ok (.iload 4, 2) := by decide +kernel
theorem dX12_givenBy_34 : decode cX12_givenBy 34 = .ok (.invokevirtual 267, 3) := by decide +kernel
theorem dX12_givenBy_37 : decode cX12_givenBy 37 = .ok (.invokestatic 234, 3) := by decide +kernel
theorem dX12_givenBy_40 : decode cX12_givenBy 40 = .ok (.goto 4, 3) := by decide +kernel
theorem dX12_givenBy_43 : decode cX12_givenBy 43 = .ok (.iconst 0, 1) := by decide +kernel
theorem dX12_givenBy_44 : decode cX12_givenBy 44 = .ok (.iadd, 1) := by decide +kernel
theorem dX12_givenBy_45 : decode cX12_givenBy 45 = .ok (.istore_n 3, 1) := by decide +kernel
theorem dX12_givenBy_46 : decode cX12_givenBy 46 = .ok (.iinc 4 1, 3) := by decide +kernel
theorem dX12_givenBy_49 : decode cX12_givenBy 49 = .ok (.goto (-44), 3) := by decide +kernel
theorem dX12_givenBy_52 : decode cX12_givenBy 52 = .ok (.iload_n 3, 1) := by decide +kernel
theorem dX12_givenBy_53 : decode cX12_givenBy 53 = .ok (.ireturn, 1) := by decide +kernel
theorem dX12_flowers_0 : decode cX12_flowers 0 = .ok (.aload_n 0, 1) := by decide +kernel
theorem dX12_flowers_1 : decode cX12_flowers 1 = .ok (.iconst 0, 1) := by decide +kernel
theorem dX12_flowers_2 : decode cX12_flowers 2 = .ok (.putfield 98, 3) := by decide +kernel
theorem dX12_flowers_5 : decode cX12_flowers 5 = .ok (.aload_n 0, 1) := by decide +kernel
theorem dX12_flowers_6 : decode cX12_flowers 6 = .ok (.aload_n 0, 1) := by decide +kernel
theorem dX12_flowers_7 : decode cX12_flowers 7 = .ok (.iload_n 1, 1) := by decide +kernel
theorem dX12_flowers_8 : decode cX12_flowers 8 = .ok (.invokevirtual 338, 3) := by decide +kernel
theorem dX12_flowers_11 : decode cX12_flowers 11 = .ok (.ifCond .ne 7, 3) := by decide +kernel
theorem dX12_flowers_14 : decode cX12_flowers 14 = .ok (.iconst 1, 1) := by decide +kernel
theorem dX12_flowers_15 : decode cX12_flowers 15 = .ok (.goto 4, 3) := by decide +kernel
theorem dX12_flowers_18 : decode cX12_flowers 18 = .ok (.iconst 0, 1) := by decide +kernel
theorem dX12_flowers_19 : decode cX12_flowers 19 = .ok (.iconst 1, 1) := by decide +kernel
theorem dX12_flowers_20 : decode cX12_flowers 20 = .ok (.iconst 0, 1) := by decide +kernel
theorem dX12_flowers_21 : decode cX12_flowers 21 = .ok (.invokevirtual 174, 3) := by decide +kernel
theorem dX12_flowers_24 : decode cX12_flowers 24 = .ok (.ifCond .ne 39, 3) := by decide +kernel
theorem dX12_flowers_27 : decode cX12_flowers 27 = .ok (.aload_n 0, 1) := by decide +kernel
theorem dX12_flowers_28 : decode cX12_flowers 28 = .ok (.iload_n 2, 1) := by decide +kernel
theorem dX12_flowers_29 : decode cX12_flowers 29 = .ok (.iconst 0, 1) := by decide +kernel
theorem dX12_flowers_30 : decode cX12_flowers 30 = .ok (.aload_n 0, 1) := by decide +kernel
theorem dX12_flowers_31 : decode cX12_flowers 31 = .ok (.invokevirtual 354, 3) := by decide +kernel
theorem dX12_flowers_34 : decode cX12_flowers 34 = .ok (.invokestatic 132, 3) := by decide +kernel
theorem dX12_flowers_37 : decode cX12_flowers 37 = .ok (.ifCond .eq 13, 3) := by decide +kernel
theorem dX12_flowers_40 : decode cX12_flowers 40 = .ok (.iload_n 3, 1) := by decide +kernel
theorem dX12_flowers_41 : decode cX12_flowers 41 = .ok (.iconst 0, 1) := by decide +kernel
theorem dX12_flowers_42 : decode cX12_flowers 42 = .ok (.bipush 99, 2) := by decide +kernel
theorem dX12_flowers_44 : decode cX12_flowers 44 = .ok (.invokestatic 132, 3) := by decide +kernel
theorem dX12_flowers_47 : decode cX12_flowers 47 = .ok (.ifCond .ne 7, 3) := by decide +kernel
theorem dX12_flowers_50 : decode cX12_flowers 50 = .ok (.iconst 1, 1) := by decide +kernel
theorem dX12_flowers_51 : decode cX12_flowers 51 = .ok (.goto 4, 3) := by decide +kernel
theorem dX12_flowers_54 : decode cX12_flowers 54 = .ok (.iconst 0, 1) := by decide +kernel
theorem dX12_flowers_55 : decode cX12_flowers 55 = .ok (.iconst 2, 1) := by decide +kernel
theorem dX12_flowers_56 : decode cX12_flowers 56 = .ok (.iconst 1, 1) := by decide +kernel
theorem dX12_flowers_57 : decode cX12_flowers 57 = .ok (.invokevirtual 174, 3) := by decide +kernel
theorem dX12_flowers_60 : decode cX12_flowers 60 = .ok (.ifCond .eq 5, 3) := by decide +kernel
theorem dX12_flowers_63 : decode cX12_flowers 63 = .ok (.iconst 0, 1) := by decide +kernel
theorem dX12_flowers_64 : decode cX12_flowers 64 = .ok (.ireturn, 1) := by decide +kernel
theorem dX12_flowers_65 : decode cX12_flowers 65 = .ok (.iconst 0, 1) := by decide +kernel
theorem dX12_flowers_66 : decode cX12_flowers 66 = .ok (.istore 4, 2) := by decide +kernel
theorem dX12_flowers_68 : decode cX12_flowers 68 = .ok (.iload 4, 2) := by decide +kernel
theorem dX12_flowers_70 : decode cX12_flowers 70 = .ok (.bipush 8, 2) := by decide +kernel
theorem dX12_flowers_72 : decode cX12_flowers 72 = .ok (.if_icmp .ge 22, 3) := by decide +kernel
theorem dX12_flowers_75 : decode cX12_flowers 75 = .ok (.aload_n 0, 1) := by decide +kernel
theorem dX12_flowers_76 : decode cX12_flowers 76 = .ok (.iload_n 2, 1) := by decide +kernel
theorem dX12_flowers_77 : decode cX12_flowers 77 = .ok (.iload 4, 2) := by decide +kernel
theorem dX12_flowers_79 : decode cX12_flowers 79 = .ok (.iconst 1, 1) := by decide +kernel
theorem dX12_flowers_80 : decode cX12_flowers 80 = .ok (.iadd, 1) := by decide +kernel
theorem dX12_flowers_81 : decode cX12_flowers 81 = .ok (.invokevirtual 398, 3) := by decide +kernel
theorem dX12_flowers_84 : decode cX12_flowers 84 = .ok (.iload_n 3, 1) := by decide +kernel
theorem dX12_flowers_85 : decode cX12_flowers 85 = .ok (.if_icmp .gt 9, 3) := by decide +kernel
theorem dX12_flowers_88 : decode cX12_flowers 88 = .ok (.iinc 4 1, 3) := by decide +kernel
theorem dX12_flowers_91 : decode cX12_flowers 91 = .ok (.goto (-23), 3) := by decide +kernel
theorem dX12_flowers_94 : decode cX12_flowers 94 = .ok (.iload_n 2, 1) := by decide +kernel
theorem dX12_flowers_95 : decode cX12_flowers 95 = .ok (.iload_n 1, 1) := by decide +kernel
theorem dX12_flowers_96 : decode cX12_flowers 96 = .ok (.invokestatic 253, 3) := by decide +kernel
theorem dX12_flowers_99 : decode cX12_flowers 99 = .ok (.ifCond .eq 20, 3) := by decide +kernel
theorem dX12_flowers_102 : decode cX12_flowers 102 = .ok (.iload 4, 2) := by decide +kernel
theorem dX12_flowers_104 : decode cX12_flowers 104 = .ok (.aload_n 0, 1) := by decide +kernel
theorem dX12_flowers_105 : decode cX12_flowers 105 = .ok (.aload_n 0, 1) := by decide +kernel
theorem dX12_flowers_106 : decode cX12_flowers 106 = .ok (.getfield 61, 3) := by decide +kernel
theorem dX12_flowers_109 : decode cX12_flowers 109 = .ok (.iload_n 1, 1) := by decide +kernel
theorem dX12_flowers_110 : decode cX12_flowers 110 = .ok (.invokevirtual 267, 3) := by decide +kernel
theorem dX12_flowers_113 : decode cX12_flowers 113 = .ok (.invokestatic 234, 3) := by decide +kernel
theorem dX12_flowers_116 : decode cX12_flowers 116 = .ok (.goto 4, 3) := by decide +kernel
theorem dX12_flowers_119 : decode cX12_flowers 119 = .ok (.iconst 0, 1) := by decide +kernel
theorem dX12_flowers_120 : decode cX12_flowers 120 = .ok (.ireturn, 1) := by decide +kernel
theorem dX12_honoured_0 : decode cX12_honoured 0 = .ok (.aload_n 0, 1) := by decide +kernel
theorem dX12_honoured_1 : decode cX12_honoured 1 = .ok (.iconst 0, 1) := by decide +kernel
theorem dX12_honoured_2 : decode cX12_honoured 2 = .ok (.putfield 98, 3) := by decide +kernel
theorem dX12_honoured_5 : decode cX12_honoured 5 = .ok (.aload_n 0, 1) := by decide +kernel
theorem dX12_honoured_6 : decode cX12_honoured 6 = .ok (.iload_n 1, 1) := by decide +kernel
theorem dX12_honoured_7 : decode cX12_honoured 7 = .ok (.iconst 0, 1) := by decide +kernel
theorem dX12_honoured_8 : decode cX12_honoured 8 = .ok (.iconst 1, 1) := by decide +kernel
theorem dX12_honoured_9 : decode cX12_honoured 9 = .ok (.invokestatic 132, 3) := by decide +kernel
theorem dX12_honoured_12 : decode cX12_honoured 12 = .ok (.ifCond .ne 7, 3) := by decide +kernel
theorem dX12_honoured_15 : decode cX12_honoured 15 = .ok (.iconst 1, 1) := by decide +kernel
theorem dX12_honoured_16 : decode cX12_honoured 16 = .ok (.goto 4, 3) := by decide +kernel
theorem dX12_honoured_19 : decode cX12_honoured 19 = .ok (.iconst 0, 1) := by decide +kernel
theorem dX12_honoured_20 : decode cX12_honoured 20 = .ok (.iconst 1, 1) := by decide +kernel
theorem dX12_honoured_21 : decode cX12_honoured 21 = .ok (.iconst 1, 1) := by decide +kernel
theorem dX12_honoured_22 : decode cX12_honoured 22 = .ok (.invokevirtual 174, 3) := by decide +kernel
theorem dX12_honoured_25 : decode cX12_honoured 25 = .ok (.ifCond .eq 5, 3) := by decide +kernel
theorem dX12_honoured_28 : decode cX12_honoured 28 = .ok (.iconst 0, 1) := by decide +kernel
theorem dX12_honoured_29 : decode cX12_honoured 29 = .ok (.ireturn, 1) := by decide +kernel
theorem dX12_honoured_30 : decode cX12_honoured 30 = .ok (.iconst (-1), 1) := by decide +kernel
theorem dX12_honoured_31 : decode cX12_honoured 31 = .ok (.istore_n 2, 1) := by decide +kernel
theorem dX12_honoured_32 : decode cX12_honoured 32 = .ok (.iconst 0, 1) := by decide +kernel
theorem dX12_honoured_33 : decode cX12_honoured 33 = .ok (.istore_n 3, 1) := by decide +kernel
theorem dX12_honoured_34 : decode cX12_honoured 34 = .ok (.iconst 0, 1) := by decide +kernel
theorem dX12_honoured_35 : decode cX12_honoured 35 = .ok (.istore 4, 2) := by decide +kernel
theorem dX12_honoured_37 : decode cX12_honoured 37 = .ok (.iload 4, 2) := by decide +kernel
theorem dX12_honoured_39 : decode cX12_honoured 39 = .ok (.aload_n 0, 1) := by decide +kernel
theorem dX12_honoured_40 : decode cX12_honoured 40 = .ok (.getfield 23, 3) := by decide +kernel
theorem dX12_honoured_43 : decode cX12_honoured 43 = .ok (.iconst 0, 1) := by decide +kernel
theorem dX12_honoured_44 : decode cX12_honoured 44 = .ok (.iaload, 1) := by decide +kernel
theorem dX12_honoured_45 : decode cX12_honoured 45 = .ok (.if_icmp .ge 40, 3) := by decide +kernel
theorem dX12_honoured_48 : decode cX12_honoured 48 = .ok (.aload_n 0, 1) := by decide +kernel
theorem dX12_honoured_49 : decode cX12_honoured 49 = .ok (.aload_n 0, 1) := by decide +kernel
theorem dX12_honoured_50 : decode cX12_honoured 50 = .ok (.getfield 61, 3) := by decide +kernel
theorem dX12_honoured_53 : decode cX12_honoured 53 = .ok (.iload 4, 2) := by decide +kernel
theorem dX12_honoured_55 : decode cX12_honoured 55 = .ok (.invokevirtual 267, 3) := by decide +kernel
theorem dX12_honoured_58 : decode cX12_honoured 58 = .ok (.iload_n 3, 1) := by decide +kernel
theorem dX12_honoured_59 : decode cX12_honoured 59 = .ok (.if_icmp .gt 6, 3) := by decide +kernel
theorem dX12_honoured_62 : decode cX12_honoured 62 = .ok (.goto 17, 3) := by decide +kernel
theorem dX12_honoured_65 : decode cX12_honoured 65 = .ok (.iload 4, 2) := by decide +kernel
theorem dX12_honoured_67 : decode cX12_honoured 67 = .ok (.istore_n 2, 1) := by decide +kernel
theorem dX12_honoured_68 : decode cX12_honoured 68 = .ok (.aload_n 0, 1) := by decide +kernel
theorem dX12_honoured_69 : decode cX12_honoured 69 = .ok (.aload_n 0, 1) := by decide +kernel
theorem dX12_honoured_70 : decode cX12_honoured 70 = .ok (.getfield 61, 3) := by decide +kernel
theorem dX12_honoured_73 : decode cX12_honoured 73 = .ok (.iload 4, 2) := by decide +kernel
theorem dX12_honoured_75 : decode cX12_honoured 75 = .ok (.invokevirtual 267, 3) := by decide +kernel
theorem dX12_honoured_78 : decode cX12_honoured 78 = .ok (.istore_n 3, 1) := by decide +kernel
theorem dX12_honoured_79 : decode cX12_honoured 79 = .ok (.iinc 4 1, 3) := by decide +kernel
theorem dX12_honoured_82 : decode cX12_honoured 82 = .ok (.goto (-45), 3) := by decide +kernel
theorem dX12_honoured_85 : decode cX12_honoured 85 = .ok (.iload_n 1, 1) := by decide +kernel
theorem dX12_honoured_86 : decode cX12_honoured 86 = .ok (.ifCond .eq 8, 3) := by decide +kernel
theorem dX12_honoured_89 : decode cX12_honoured 89 = .ok (.iload_n 2, 1) := by decide +kernel
theorem dX12_honoured_90 : decode cX12_honoured 90 = .ok (.iconst (-1), 1) := by decide +kernel
theorem dX12_honoured_91 : decode cX12_honoured 91 = .ok (.if_icmp .ne 7, 3) := by decide +kernel
theorem dX12_honoured_94 : decode cX12_honoured 94 = .ok (.iload_n 2, 1) := by decide +kernel
theorem dX12_honoured_95 : decode cX12_honoured 95 = .ok (.goto 4, 3) := by decide +kernel
theorem dX12_honoured_98 : decode cX12_honoured 98 = .ok (.iload_n 3, 1) := by decide +kernel
theorem dX12_honoured_99 : decode cX12_honoured 99 = .ok (.ireturn, 1) := by decide +kernel
theorem dX12_sued_0 : decode cX12_sued 0 = .ok (.aload_n 0, 1) := by decide +kernel
theorem dX12_sued_1 : decode cX12_sued 1 = .ok (.iconst 0, 1) := by decide +kernel
theorem dX12_sued_2 : decode cX12_sued 2 = .ok (.putfield 98, 3) := by decide +kernel
theorem dX12_sued_5 : decode cX12_sued 5 = .ok (.aload_n 0, 1) := by decide +kernel
theorem dX12_sued_6 : decode cX12_sued 6 = .ok (.iload_n 1, 1) := by decide +kernel
theorem dX12_sued_7 : decode cX12_sued 7 = .ok (.iconst 0, 1) := by decide +kernel
theorem dX12_sued_8 : decode cX12_sued 8 = .ok (.iconst 1, 1) := by decide +kernel
theorem dX12_sued_9 : decode cX12_sued 9 = .ok (.invokestatic 132, 3) := by decide +kernel
theorem dX12_sued_12 : decode cX12_sued 12 = .ok (.ifCond .ne 7, 3) := by decide +kernel
theorem dX12_sued_15 : decode cX12_sued 15 = .ok (.iconst 1, 1) := by decide +kernel
theorem dX12_sued_16 : decode cX12_sued 16 = .ok (.goto 4, 3) := by decide +kernel
theorem dX12_sued_19 : decode cX12_sued 19 = .ok (.iconst 0, 1) := by decide +kernel
theorem dX12_sued_20 : decode cX12_sued 20 = .ok (.iconst 1, 1) := by decide +kernel
theorem dX12_sued_21 : decode cX12_sued 21 = .ok (.iconst 1, 1) := by decide +kernel
theorem dX12_sued_22 : decode cX12_sued 22 = .ok (.invokevirtual 174, 3) := by decide +kernel
theorem dX12_sued_25 : decode cX12_sued 25 = .ok (.ifCond .eq 5, 3) := by decide +kernel
theorem dX12_sued_28 : decode cX12_sued 28 = .ok (.iconst 0, 1) := by decide +kernel
theorem dX12_sued_29 : decode cX12_sued 29 = .ok (.ireturn, 1) := by decide +kernel
theorem dX12_sued_30 : decode cX12_sued 30 = .ok (.aload_n 0, 1) := by decide +kernel
theorem dX12_sued_31 : decode cX12_sued 31 = .ok (.aload_n 0, 1) := by decide +kernel
theorem dX12_sued_32 : decode cX12_sued 32 = .ok (.getfield 61, 3) := by decide +kernel
theorem dX12_sued_35 : decode cX12_sued 35 = .ok (.invokevirtual 341, 3) := by decide +kernel
theorem dX12_sued_38 : decode cX12_sued 38 = .ok (.istore_n 2, 1) := by decide +kernel
theorem dX12_sued_39 : decode cX12_sued 39 = .ok (.iload_n 2, 1) := by decide +kernel
theorem dX12_sued_40 : decode cX12_sued 40 = .ok (.iconst (-1), 1) := by decide +kernel
theorem dX12_sued_41 : decode cX12_sued 41 = .ok (.if_icmp .eq 14, 3) := by decide +kernel
theorem dX12_sued_44 : decode cX12_sued 44 = .ok (.aload_n 0, 1) := by decide +kernel
theorem dX12_sued_45 : decode cX12_sued 45 = .ok (.getfield 61, 3) := by decide +kernel
theorem dX12_sued_48 : decode cX12_sued 48 = .ok (.iconst 0, 1) := by decide +kernel
theorem dX12_sued_49 : decode cX12_sued 49 = .ok (.iload_n 2, 1) := by decide +kernel
theorem dX12_sued_50 : decode cX12_sued 50 = .ok (.iadd, 1) := by decide +kernel
theorem dX12_sued_51 : decode cX12_sued 51 = .ok (.iaload, 1) := by decide +kernel
theorem dX12_sued_52 : decode cX12_sued 52 = .ok (.ifCond .ne 5, 3) := by decide +kernel
theorem dX12_sued_55 : decode cX12_sued 55 = .ok (.iconst (-1), 1) := by decide +kernel
theorem dX12_sued_56 : decode cX12_sued 56 = .ok (.ireturn, 1) := by decide +kernel
theorem dX12_sued_57 : decode cX12_sued 57 = .ok (.iload_n 1, 1) := by decide +kernel
theorem dX12_sued_58 : decode cX12_sued 58 = .ok (.ifCond .ne 7, 3) := by decide +kernel
theorem dX12_sued_61 : decode cX12_sued 61 = .ok (.iload_n 2, 1) := by decide +kernel
theorem dX12_sued_62 : decode cX12_sued 62 = .ok (.goto 11, 3) := by decide +kernel
theorem dX12_sued_65 : decode cX12_sued 65 = .ok (.aload_n 0, 1) := by decide +kernel
theorem dX12_sued_66 : decode cX12_sued 66 = .ok (.getfield 61, 3) := by decide +kernel
theorem dX12_sued_69 : decode cX12_sued 69 = .ok (.iconst 0, 1) := by decide +kernel
theorem dX12_sued_70 : decode cX12_sued 70 = .ok (.iload_n 2, 1) := by decide +kernel
theorem dX12_sued_71 : decode cX12_sued 71 = .ok (.iadd, 1) := by decide +kernel
theorem dX12_sued_72 : decode cX12_sued 72 = .ok (.iaload, 1) := by decide +kernel
theorem dX12_sued_73 : decode cX12_sued 73 = .ok (.ireturn, 1) := by decide +kernel
theorem dX12_free_0 : decode cX12_free 0 = .ok (.aload_n 0, 1) := by decide +kernel
theorem dX12_free_1 : decode cX12_free 1 = .ok (.iconst 0, 1) := by decide +kernel
theorem dX12_free_2 : decode cX12_free 2 = .ok (.putfield 98, 3) := by decide +kernel
theorem dX12_free_5 : decode cX12_free 5 = .ok (.aload_n 0, 1) := by decide +kernel
theorem dX12_free_6 : decode cX12_free 6 = .ok (.aload_n 0, 1) := by decide +kernel
theorem dX12_free_7 : decode cX12_free 7 = .ok (.iload_n 1, 1) := by decide +kernel
theorem dX12_free_8 : decode cX12_free 8 = .ok (.invokevirtual 338, 3) := by decide +kernel
theorem dX12_free_11 : decode cX12_free 11 = .ok (.ifCond .ne 7, 3) := by decide +kernel
theorem dX12_free_14 : decode cX12_free 14 = .ok (.iconst 1, 1) := by decide +kernel
theorem dX12_free_15 : decode cX12_free 15 = .ok (.goto 4, 3) := by decide +kernel
theorem dX12_free_18 : decode cX12_free 18 = .ok (.iconst 0, 1) := by decide +kernel
theorem dX12_free_19 : decode cX12_free 19 = .ok (.iconst 1, 1) := by decide +kernel
theorem dX12_free_20 : decode cX12_free 20 = .ok (.iconst 0, 1) := by decide +kernel
theorem dX12_free_21 : decode cX12_free 21 = .ok (.invokevirtual 174, 3) := by decide +kernel
theorem dX12_free_24 : decode cX12_free 24 = .ok (.ifCond .eq 5, 3) := by decide +kernel
theorem dX12_free_27 : decode cX12_free 27 = .ok (.iconst 0, 1) := by decide +kernel
theorem dX12_free_28 : decode cX12_free 28 = .ok (.ireturn, 1) := by decide +kernel
theorem dX12_free_29 : decode cX12_free 29 = .ok (.iconst 0, 1) := by decide +kernel
theorem dX12_free_30 : decode cX12_free 30 = .ok (.istore_n 2, 1) := by decide +kernel
theorem dX12_free_31 : decode cX12_free 31 = .ok (.iconst 0, 1) := by decide +kernel
theorem dX12_free_32 : decode cX12_free 32 = .ok (.istore_n 3, 1) := by decide +kernel
theorem dX12_free_33 : decode cX12_free 33 = .ok (.iload_n 3, 1) := by decide +kernel
theorem dX12_free_34 : decode cX12_free 34 = .ok (.aload_n 0, 1) := by decide +kernel
theorem dX12_free_35 : decode cX12_free 35 = .ok (.getfield 23, 3) := by decide +kernel
theorem dX12_free_38 : decode cX12_free 38 = .ok (.iconst 0, 1) := by decide +kernel
theorem dX12_free_39 : decode cX12_free 39 = .ok (.iaload, 1) := by decide +kernel
theorem dX12_free_40 : decode cX12_free 40 = .ok (.if_icmp .ge 58, 3) := by decide +kernel
theorem dX12_free_43 : decode cX12_free 43 = .ok (.iload_n 2, 1) := by decide +kernel
theorem dX12_free_44 : decode cX12_free 44 = .ok (.aload_n 0, 1) := by decide +kernel
theorem dX12_free_45 : decode cX12_free 45 = .ok (.getfield 37, 3) := by decide +kernel
theorem dX12_free_48 : decode cX12_free 48 = .ok (.iload_n 1, 1) := by decide +kernel
theorem dX12_free_49 : decode cX12_free 49 = .ok (.iaload, 1) := by decide +kernel
theorem dX12_free_50 : decode cX12_free 50 = .ok (.aload_n 0, 1) := by decide +kernel
theorem dX12_free_51 : decode cX12_free 51 = .ok (.getfield 61, 3) := by decide +kernel
theorem dX12_free_54 : decode cX12_free 54 = .ok (.bipush 24, 2) := by decide +kernel
theorem dX12_free_56 : decode cX12_free 56 = .ok (.iaload, 1) := by decide +kernel
theorem dX12_free_57 : decode cX12_free 57 = .ok (.iand, 1) := by decide +kernel
theorem dX12_free_58 : decode cX12_free 58 = .ok (.iload_n 3, 1) := by decide +kernel
theorem dX12_free_59 : decode cX12_free 59 = .ok (.invokestatic 253, 3) := by decide +kernel
theorem dX12_free_62 : decode cX12_free 62 = .ok (.ifCond .eq 27, 3) := by decide +kernel
theorem dX12_free_65 : decode cX12_free 65 = .ok (.aload_n 0, 1) := by decide +kernel
theorem dX12_free_66 : decode cX12_free 66 = .ok (.aload_n 0, 1) := by decide +kernel
theorem dX12_free_67 : decode cX12_free 67 = .ok (.getfield 61, 3) := by decide +kernel
theorem dX12_free_70 : decode cX12_free 70 = .ok (.iload_n 3, 1) := by decide +kernel
theorem dX12_free_71 : decode cX12_free 71 = .ok (.invokevirtual 267, 3) := by decide +kernel
theorem dX12_free_74 : decode cX12_free 74 = .ok (.aload_n 0, 1) := by decide +kernel
theorem dX12_free_75 : decode cX12_free 75 = .ok (.getfield 23, 3) := by decide +kernel
theorem dX12_free_78 : decode cX12_free 78 = .ok (.iconst 1, 1) := by decide +kernel
theorem dX12_free_79 : decode cX12_free 79 = .ok (.iaload, 1) := by decide +kernel
theorem dX12_free_80 : decode cX12_free 80 = .ok (.if_icmp .ge 9, 3) := by decide +kernel
theorem dX12_free_83 : decode cX12_free 83 = .ok (.iconst 1, 1) := by decide +kernel
theorem dX12_free_84 : decode cX12_free 84 = .ok (.iload_n 3, 1) := by decide +kernel
theorem dX12_free_85 : decode cX12_free 85 = .ok (.ishl, 1) := by decide +kernel
theorem dX12_free_86 : decode cX12_free 86 = .ok (.goto 4, 3) := by decide +kernel
theorem dX12_free_89 : decode cX12_free 89 = .ok (.iconst 0, 1) := by decide +kernel
theorem dX12_free_90 : decode cX12_free 90 = .ok (.ior, 1) := by decide +kernel
theorem dX12_free_91 : decode cX12_free 91 = .ok (.istore_n 2, 1) := by decide +kernel
theorem dX12_free_92 : decode cX12_free 92 = .ok (.iinc 3 1, 3) := by decide +kernel
theorem dX12_free_95 : decode cX12_free 95 = .ok (.goto (-62), 3) := by decide +kernel
theorem dX12_free_98 : decode cX12_free 98 = .ok (.iload_n 2, 1) := by decide +kernel
theorem dX12_free_99 : decode cX12_free 99 = .ok (.ireturn, 1) := by decide +kernel
theorem dX12_kin_0 : decode cX12_kin 0 = .ok (.aload_n 0, 1) := by decide +kernel
theorem dX12_kin_1 : decode cX12_kin 1 = .ok (.iconst 0, 1) := by decide +kernel
theorem dX12_kin_2 : decode cX12_kin 2 = .ok (.putfield 98, 3) := by decide +kernel
theorem dX12_kin_5 : decode cX12_kin 5 = .ok (.aload_n 0, 1) := by decide +kernel
theorem dX12_kin_6 : decode cX12_kin 6 = .ok (.aload_n 0, 1) := by decide +kernel
theorem dX12_kin_7 : decode cX12_kin 7 = .ok (.iload_n 1, 1) := by decide +kernel
theorem dX12_kin_8 : decode cX12_kin 8 = .ok (.invokevirtual 338, 3) := by decide +kernel
theorem dX12_kin_11 : decode cX12_kin 11 = .ok (.ifCond .ne 7, 3) := by decide +kernel
theorem dX12_kin_14 : decode cX12_kin 14 = .ok (.iconst 1, 1) := by decide +kernel
theorem dX12_kin_15 : decode cX12_kin 15 = .ok (.goto 4, 3) := by decide +kernel
theorem dX12_kin_18 : decode cX12_kin 18 = .ok (.iconst 0, 1) := by decide +kernel
theorem dX12_kin_19 : decode cX12_kin 19 = .ok (.iconst 1, 1) := by decide +kernel
theorem dX12_kin_20 : decode cX12_kin 20 = .ok (.iconst 0, 1) := by decide +kernel
theorem dX12_kin_21 : decode cX12_kin 21 = .ok (.invokevirtual 174, 3) := by decide +kernel
theorem dX12_kin_24 : decode cX12_kin 24 = .ok (.ifCond .eq 5, 3) := by decide +kernel
theorem dX12_kin_27 : decode cX12_kin 27 = .ok (.iconst 0, 1) := by decide +kernel
theorem dX12_kin_28 : decode cX12_kin 28 = .ok (.ireturn, 1) := by decide +kernel
theorem dX12_kin_29 : decode cX12_kin 29 = .ok (.iconst 1, 1) := by decide +kernel
theorem dX12_kin_30 : decode cX12_kin 30 = .ok (.iload_n 1, 1) := by decide +kernel
theorem dX12_kin_31 : decode cX12_kin 31 = .ok (.ishl, 1) := by decide +kernel
theorem dX12_kin_32 : decode cX12_kin 32 = .ok (.istore_n 2, 1) := by decide +kernel
theorem dX12_kin_33 : decode cX12_kin 33 = .ok (.iconst 0, 1) := by decide +kernel
theorem dX12_kin_34 : decode cX12_kin 34 = .ok (.istore_n 3, 1) := by decide +kernel
theorem dX12_kin_35 : decode cX12_kin 35 = .ok (.iload_n 2, 1) := by decide +kernel
theorem dX12_kin_36 : decode cX12_kin 36 = .ok (.iload_n 3, 1) := by decide +kernel
theorem dX12_kin_37 : decode cX12_kin 37 = .ok (.if_icmp .eq 51, 3) := by decide +kernel
theorem dX12_kin_40 : decode cX12_kin 40 = .ok (.iload_n 2, 1) := by decide +kernel
theorem dX12_kin_41 : decode cX12_kin 41 = .ok (.istore_n 3, 1) := by decide +kernel
theorem dX12_kin_42 : decode cX12_kin 42 = .ok (.iconst 0, 1) := by decide +kernel
theorem dX12_kin_43 : decode cX12_kin 43 = .ok (.istore 4, 2) := by decide +kernel
theorem dX12_kin_45 : decode cX12_kin 45 = .ok (.iload 4, 2) := by decide +kernel
theorem dX12_kin_47 : decode cX12_kin 47 = .ok (.aload_n 0, 1) := by decide +kernel
theorem dX12_kin_48 : decode cX12_kin 48 = .ok (.getfield 23, 3) := by decide +kernel
theorem dX12_kin_51 : decode cX12_kin 51 = .ok (.iconst 0, 1) := by decide +kernel
theorem dX12_kin_52 : decode cX12_kin 52 = .ok (.iaload, 1) := by decide +kernel
theorem dX12_kin_53 : decode cX12_kin 53 = .ok (.if_icmp .ge 32, 3) := by decide +kernel
theorem dX12_kin_56 : decode cX12_kin 56 = .ok (.iload_n 2, 1) := by decide +kernel
theorem dX12_kin_57 : decode cX12_kin 57 = .ok (.iload_n 3, 1) := by decide +kernel
theorem dX12_kin_58 : decode cX12_kin 58 = .ok (.iload 4, 2) := by decide +kernel
theorem dX12_kin_60 : decode cX12_kin 60 = .ok (.invokestatic 253, 3) := by decide +kernel
theorem dX12_kin_63 : decode cX12_kin 63 = .ok (.ifCond .eq 13, 3) := by decide +kernel
theorem dX12_kin_66 : decode cX12_kin 66 = .ok (.aload_n 0, 1) := by decide +kernel
theorem dX12_kin_67 : decode cX12_kin 67 = .ok (.getfield 37, 3) := by decide +kernel
theorem dX12_kin_70 : decode cX12_kin 70 = .ok (.iload 4, 2) := by decide +kernel
theorem dX12_kin_72 : decode cX12_kin 72 = .ok (.iaload, 1) := by decide +kernel
theorem dX12_kin_73 : decode cX12_kin 73 = .ok (.goto 4, 3) := by decide +kernel
theorem dX12_kin_76 : decode cX12_kin 76 = .ok (.iconst 0, 1) := by decide +kernel
theorem dX12_kin_77 : decode cX12_kin 77 = .ok (.ior, 1) := by decide +kernel
theorem dX12_kin_78 : decode cX12_kin 78 = .ok (.istore_n 2, 1) := by decide +kernel
theorem dX12_kin_79 : decode cX12_kin 79 = .ok (.iinc 4 1, 3) := by decide +kernel
theorem dX12_kin_82 : decode cX12_kin 82 = .ok (.goto (-37), 3) := by decide +kernel
theorem dX12_kin_85 : decode cX12_kin 85 = .ok (.goto (-50), 3) := by decide +kernel
theorem dX12_kin_88 : decode cX12_kin 88 = .ok (.iload_n 2, 1) := by decide +kernel
theorem dX12_kin_89 : decode cX12_kin 89 = .ok (.ireturn, 1) := by decide +kernel
theorem dX12_willing_0 : decode cX12_willing 0 = .ok (.aload_n 0, 1) := by decide +kernel
theorem dX12_willing_1 : decode cX12_willing 1 = .ok (.iconst 0, 1) := by decide +kernel
theorem dX12_willing_2 : decode cX12_willing 2 = .ok (.putfield 98, 3) := by decide +kernel
theorem dX12_willing_5 : decode cX12_willing 5 = .ok (.aload_n 0, 1) := by decide +kernel
theorem dX12_willing_6 : decode cX12_willing 6 = .ok (.aload_n 0, 1) := by decide +kernel
theorem dX12_willing_7 : decode cX12_willing 7 = .ok (.iload_n 1, 1) := by decide +kernel
theorem dX12_willing_8 : decode cX12_willing 8 = .ok (.invokevirtual 338, 3) := by decide +kernel
theorem dX12_willing_11 : decode cX12_willing 11 = .ok (.ifCond .ne 7, 3) := by decide +kernel
theorem dX12_willing_14 : decode cX12_willing 14 = .ok (.iconst 1, 1) := by decide +kernel
theorem dX12_willing_15 : decode cX12_willing 15 = .ok (.goto 4, 3) := by decide +kernel
theorem dX12_willing_18 : decode cX12_willing 18 = .ok (.iconst 0, 1) := by decide +kernel
theorem dX12_willing_19 : decode cX12_willing 19 = .ok (.iconst 1, 1) := by decide +kernel
theorem dX12_willing_20 : decode cX12_willing 20 = .ok (.iconst 0, 1) := by decide +kernel
theorem dX12_willing_21 : decode cX12_willing 21 = .ok (.invokevirtual 174, 3) := by decide +kernel
theorem dX12_willing_24 : decode cX12_willing 24 = .ok (.ifCond .eq 5, 3) := by decide +kernel
theorem dX12_willing_27 : decode cX12_willing 27 = .ok (.iconst 0, 1) := by decide +kernel
theorem dX12_willing_28 : decode cX12_willing 28 = .ok (.ireturn, 1) := by decide +kernel
theorem dX12_willing_29 : decode cX12_willing 29 = .ok (.iconst 0, 1) := by decide +kernel
theorem dX12_willing_30 : decode cX12_willing 30 = .ok (.istore_n 2, 1) := by decide +kernel
theorem dX12_willing_31 : decode cX12_willing 31 = .ok (.iconst 0, 1) := by decide +kernel
theorem dX12_willing_32 : decode cX12_willing 32 = .ok (.istore_n 3, 1) := by decide +kernel
theorem dX12_willing_33 : decode cX12_willing 33 = .ok (.iload_n 3, 1) := by decide +kernel
theorem dX12_willing_34 : decode cX12_willing 34 = .ok (.aload_n 0, 1) := by decide +kernel
theorem dX12_willing_35 : decode cX12_willing 35 = .ok (.getfield 23, 3) := by decide +kernel
theorem dX12_willing_38 : decode cX12_willing 38 = .ok (.iconst 0, 1) := by decide +kernel
theorem dX12_willing_39 : decode cX12_willing 39 = .ok (.iaload, 1) := by decide +kernel
theorem dX12_willing_40 : decode cX12_willing 40 = .ok (.if_icmp .ge 32, 3) := by decide +kernel
theorem dX12_willing_43 : decode cX12_willing 43 = .ok (.iload_n 2, 1) := by decide +kernel
theorem dX12_willing_44 : decode cX12_willing 44 = .ok (.aload_n 0, 1) := by decide +kernel
theorem dX12_willing_45 : decode cX12_willing 45 = .ok (.aload_n 0, 1) := by decide +kernel
theorem dX12_willing_46 : decode cX12_willing 46 = .ok (.getfield 61, 3) := by decide +kernel
theorem dX12_willing_49 : decode cX12_willing 49 = .ok (.iload_n 3, 1) := by decide +kernel
theorem dX12_willing_50 : decode cX12_willing 50 = .ok (.iload_n 1, 1) := by decide +kernel
theorem dX12_willing_51 : decode cX12_willing 51 = .ok (.invokevirtual 278, 3) := by decide +kernel
theorem dX12_willing_54 : decode cX12_willing 54 = .ok (.ifCond .eq 9, 3) := by decide +kernel
theorem dX12_willing_57 : decode cX12_willing 57 = .ok (.iconst 1, 1) := by decide +kernel
theorem dX12_willing_58 : decode cX12_willing 58 = .ok (.iload_n 3, 1) := by decide +kernel
theorem dX12_willing_59 : decode cX12_willing 59 = .ok (.ishl, 1) := by decide +kernel
theorem dX12_willing_60 : decode cX12_willing 60 = .ok (.goto 4, 3) := by decide +kernel
theorem dX12_willing_63 : decode cX12_willing 63 = .ok (.iconst 0, 1) := by decide +kernel
theorem dX12_willing_64 : decode cX12_willing 64 = .ok (.ior, 1) := by decide +kernel
theorem dX12_willing_65 : decode cX12_willing 65 = .ok (.istore_n 2, 1) := by decide +kernel
theorem dX12_willing_66 : decode cX12_willing 66 = .ok (.iinc 3 1, 3) := by decide +kernel
theorem dX12_willing_69 : decode cX12_willing 69 = .ok (.goto (-36), 3) := by decide +kernel
theorem dX12_willing_72 : decode cX12_willing 72 = .ok (.iload_n 2, 1) := by decide +kernel
theorem dX12_willing_73 : decode cX12_willing 73 = .ok (.ireturn, 1) := by decide +kernel
theorem dX12_below_0 : decode cX12_below 0 = .ok (.aload_n 0, 1) := by decide +kernel
theorem dX12_below_1 : decode cX12_below 1 = .ok (.iconst 0, 1) := by decide +kernel
theorem dX12_below_2 : decode cX12_below 2 = .ok (.putfield 98, 3) := by decide +kernel
theorem dX12_below_5 : decode cX12_below 5 = .ok (.aload_n 0, 1) := by decide +kernel
theorem dX12_below_6 : decode cX12_below 6 = .ok (.aload_n 0, 1) := by decide +kernel
theorem dX12_below_7 : decode cX12_below 7 = .ok (.iload_n 1, 1) := by decide +kernel
theorem dX12_below_8 : decode cX12_below 8 = .ok (.invokevirtual 338, 3) := by decide +kernel
theorem dX12_below_11 : decode cX12_below 11 = .ok (.ifCond .ne 7, 3) := by decide +kernel
theorem dX12_below_14 : decode cX12_below 14 = .ok (.iconst 1, 1) := by decide +kernel
theorem dX12_below_15 : decode cX12_below 15 = .ok (.goto 4, 3) := by decide +kernel
theorem dX12_below_18 : decode cX12_below 18 = .ok (.iconst 0, 1) := by decide +kernel
theorem dX12_below_19 : decode cX12_below 19 = .ok (.iconst 1, 1) := by decide +kernel
theorem dX12_below_20 : decode cX12_below 20 = .ok (.iconst 0, 1) := by decide +kernel
theorem dX12_below_21 : decode cX12_below 21 = .ok (.invokevirtual 174, 3) := by decide +kernel
theorem dX12_below_24 : decode cX12_below 24 = .ok (.ifCond .eq 5, 3) := by decide +kernel
theorem dX12_below_27 : decode cX12_below 27 = .ok (.iconst 0, 1) := by decide +kernel
theorem dX12_below_28 : decode cX12_below 28 = .ok (.ireturn, 1) := by decide +kernel
theorem dX12_below_29 : decode cX12_below 29 = .ok (.aload_n 0, 1) := by decide +kernel
theorem dX12_below_30 : decode cX12_below 30 = .ok (.aload_n 0, 1) := by decide +kernel
theorem dX12_below_31 : decode cX12_below 31 = .ok (.getfield 61, 3) := by decide +kernel
theorem dX12_below_34 : decode cX12_below 34 = .ok (.iload_n 1, 1) := by decide +kernel
theorem dX12_below_35 : decode cX12_below 35 = .ok (.invokevirtual 260, 3) := by decide +kernel
theorem dX12_below_38 : decode cX12_below 38 = .ok (.istore_n 2, 1) := by decide +kernel
theorem dX12_below_39 : decode cX12_below 39 = .ok (.iconst 0, 1) := by decide +kernel
theorem dX12_below_40 : decode cX12_below 40 = .ok (.istore_n 3, 1) := by decide +kernel
theorem dX12_below_41 : decode cX12_below 41 = .ok (.iload_n 2, 1) := by decide +kernel
theorem dX12_below_42 : decode cX12_below 42 = .ok (.iload_n 3, 1) := by decide +kernel
theorem dX12_below_43 : decode cX12_below 43 = .ok (.if_icmp .eq 54, 3) := by decide +kernel
theorem dX12_below_46 : decode cX12_below 46 = .ok (.iload_n 2, 1) := by decide +kernel
theorem dX12_below_47 : decode cX12_below 47 = .ok (.istore_n 3, 1) := by decide +kernel
theorem dX12_below_48 : decode cX12_below 48 = .ok (.iconst 0, 1) := by decide +kernel
theorem dX12_below_49 : decode cX12_below 49 = .ok (.istore 4, 2) := by decide +kernel
theorem dX12_below_51 : decode cX12_below 51 = .ok (.iload 4, 2) := by decide +kernel
theorem dX12_below_53 : decode cX12_below 53 = .ok (.aload_n 0, 1) := by decide +kernel
theorem dX12_below_54 : decode cX12_below 54 = .ok (.getfield 23, 3) := by decide +kernel
theorem dX12_below_57 : decode cX12_below 57 = .ok (.iconst 0, 1) := by decide +kernel
theorem dX12_below_58 : decode cX12_below 58 = .ok (.iaload, 1) := by decide +kernel
theorem dX12_below_59 : decode cX12_below 59 = .ok (.if_icmp .ge 35, 3) := by decide +kernel
theorem dX12_below_62 : decode cX12_below 62 = .ok (.iload_n 2, 1) := by decide +kernel
theorem dX12_below_63 : decode cX12_below 63 = .ok (.iload_n 3, 1) := by decide +kernel
theorem dX12_below_64 : decode cX12_below 64 = .ok (.iload 4, 2) := by decide +kernel
theorem dX12_below_66 : decode cX12_below 66 = .ok (.invokestatic 253, 3) := by decide +kernel
theorem dX12_below_69 : decode cX12_below 69 = .ok (.ifCond .eq 16, 3) := by decide +kernel
theorem dX12_below_72 : decode cX12_below 72 = .ok (.aload_n 0, 1) := by decide +kernel
theorem dX12_below_73 : decode cX12_below 73 = .ok (.aload_n 0, 1) := by decide +kernel
theorem dX12_below_74 : decode cX12_below 74 = .ok (.getfield 61, 3) := by decide +kernel
theorem dX12_below_77 : decode cX12_below 77 = .ok (.iload 4, 2) := by decide +kernel
theorem dX12_below_79 : decode cX12_below 79 = .ok (.invokevirtual 260, 3) := by decide +kernel
theorem dX12_below_82 : decode cX12_below 82 = .ok (.goto 4, 3) := by decide +kernel
theorem dX12_below_85 : decode cX12_below 85 = .ok (.iconst 0, 1) := by decide +kernel
theorem dX12_below_86 : decode cX12_below 86 = .ok (.ior, 1) := by decide +kernel
theorem dX12_below_87 : decode cX12_below 87 = .ok (.istore_n 2, 1) := by decide +kernel
theorem dX12_below_88 : decode cX12_below 88 = .ok (.iinc 4 1, 3) := by decide +kernel
theorem dX12_below_91 : decode cX12_below 91 = .ok (.goto (-40), 3) := by decide +kernel
theorem dX12_below_94 : decode cX12_below 94 = .ok (.goto (-53), 3) := by decide +kernel
theorem dX12_below_97 : decode cX12_below 97 = .ok (.iload_n 2, 1) := by decide +kernel
theorem dX12_below_98 : decode cX12_below 98 = .ok (.ireturn, 1) := by decide +kernel
theorem dX12_debtless_0 : decode cX12_debtless 0 = .ok (.aload_n 0, 1) := by decide +kernel
theorem dX12_debtless_1 : decode cX12_debtless 1 = .ok (.iconst 0, 1) := by decide +kernel
theorem dX12_debtless_2 : decode cX12_debtless 2 = .ok (.putfield 98, 3) := by decide +kernel
theorem dX12_debtless_5 : decode cX12_debtless 5 = .ok (.iconst 0, 1) := by decide +kernel
theorem dX12_debtless_6 : decode cX12_debtless 6 = .ok (.istore_n 1, 1) := by decide +kernel
theorem dX12_debtless_7 : decode cX12_debtless 7 = .ok (.iconst 0, 1) := by decide +kernel
theorem dX12_debtless_8 : decode cX12_debtless 8 = .ok (.istore_n 2, 1) := by decide +kernel
theorem dX12_debtless_9 : decode cX12_debtless 9 = .ok (.iload_n 2, 1) := by decide +kernel
theorem dX12_debtless_10 : decode cX12_debtless 10 = .ok (.aload_n 0, 1) := by decide +kernel
theorem dX12_debtless_11 : decode cX12_debtless 11 = .ok (.getfield 23, 3) := by decide +kernel
theorem dX12_debtless_14 : decode cX12_debtless 14 = .ok (.iconst 0, 1) := by decide +kernel
theorem dX12_debtless_15 : decode cX12_debtless 15 = .ok (.iaload, 1) := by decide +kernel
theorem dX12_debtless_16 : decode cX12_debtless 16 = .ok (.if_icmp .ge 30, 3) := by decide +kernel
theorem dX12_debtless_19 : decode cX12_debtless 19 = .ok (.iload_n 1, 1) := by decide +kernel
theorem dX12_debtless_20 : decode cX12_debtless 20 = .ok (.aload_n 0, 1) := by decide +kernel
theorem dX12_debtless_21 : decode cX12_debtless 21 = .ok (.getfield 61, 3) := by decide +kernel
theorem dX12_debtless_24 : decode cX12_debtless 24 = .ok (.iconst 0, 1) := by decide +kernel
theorem dX12_debtless_25 : decode cX12_debtless 25 = .ok (.iload_n 2, 1) := by decide +kernel
theorem dX12_debtless_26 : decode cX12_debtless 26 = .ok (.iadd, 1) := by decide +kernel
theorem dX12_debtless_27 : decode cX12_debtless 27 = .ok (.iaload, 1) := by decide +kernel
theorem dX12_debtless_28 : decode cX12_debtless 28 = .ok (.ifCond .ne 9, 3) := by decide +kernel
theorem dX12_debtless_31 : decode cX12_debtless 31 = .ok (.iconst 1, 1) := by decide +kernel
theorem dX12_debtless_32 : decode cX12_debtless 32 = .ok (.iload_n 2, 1) := by decide +kernel
theorem dX12_debtless_33 : decode cX12_debtless 33 = .ok (.ishl, 1) := by decide +kernel
theorem dX12_debtless_34 : decode cX12_debtless 34 = .ok (.goto 4, 3) := by decide +kernel
theorem dX12_debtless_37 : decode cX12_debtless 37 = .ok (.iconst 0, 1) := by decide +kernel
theorem dX12_debtless_38 : decode cX12_debtless 38 = .ok (.ior, 1) := by decide +kernel
theorem dX12_debtless_39 : decode cX12_debtless 39 = .ok (.istore_n 1, 1) := by decide +kernel
theorem dX12_debtless_40 : decode cX12_debtless 40 = .ok (.iinc 2 1, 3) := by decide +kernel
theorem dX12_debtless_43 : decode cX12_debtless 43 = .ok (.goto (-34), 3) := by decide +kernel
theorem dX12_debtless_46 : decode cX12_debtless 46 = .ok (.iload_n 1, 1) := by decide +kernel
theorem dX12_debtless_47 : decode cX12_debtless 47 = .ok (.ireturn, 1) := by decide +kernel
theorem dX12_after_0 : decode cX12_after 0 = .ok (.aload_n 0, 1) := by decide +kernel
theorem dX12_after_1 : decode cX12_after 1 = .ok (.iconst 0, 1) := by decide +kernel
theorem dX12_after_2 : decode cX12_after 2 = .ok (.putfield 98, 3) := by decide +kernel
theorem dX12_after_5 : decode cX12_after 5 = .ok (.aload_n 0, 1) := by decide +kernel
theorem dX12_after_6 : decode cX12_after 6 = .ok (.aload_n 0, 1) := by decide +kernel
theorem dX12_after_7 : decode cX12_after 7 = .ok (.iload_n 1, 1) := by decide +kernel
theorem dX12_after_8 : decode cX12_after 8 = .ok (.invokevirtual 338, 3) := by decide +kernel
theorem dX12_after_11 : decode cX12_after 11 = .ok (.ifCond .ne 7, 3) := by decide +kernel
theorem dX12_after_14 : decode cX12_after 14 = .ok (.iconst 1, 1) := by decide +kernel
theorem dX12_after_15 : decode cX12_after 15 = .ok (.goto 4, 3) := by decide +kernel
theorem dX12_after_18 : decode cX12_after 18 = .ok (.iconst 0, 1) := by decide +kernel
theorem dX12_after_19 : decode cX12_after 19 = .ok (.iconst 1, 1) := by decide +kernel
theorem dX12_after_20 : decode cX12_after 20 = .ok (.iconst 0, 1) := by decide +kernel
theorem dX12_after_21 : decode cX12_after 21 = .ok (.invokevirtual 174, 3) := by decide +kernel
theorem dX12_after_24 : decode cX12_after 24 = .ok (.ifCond .ne 26, 3) := by decide +kernel
theorem dX12_after_27 : decode cX12_after 27 = .ok (.aload_n 0, 1) := by decide +kernel
theorem dX12_after_28 : decode cX12_after 28 = .ok (.iload_n 2, 1) := by decide +kernel
theorem dX12_after_29 : decode cX12_after 29 = .ok (.iconst 0, 1) := by decide +kernel
theorem dX12_after_30 : decode cX12_after 30 = .ok (.iconst 1, 1) := by decide +kernel
theorem dX12_after_31 : decode cX12_after 31 = .ok (.invokestatic 132, 3) := by decide +kernel
theorem dX12_after_34 : decode cX12_after 34 = .ok (.ifCond .ne 7, 3) := by decide +kernel
theorem dX12_after_37 : decode cX12_after 37 = .ok (.iconst 1, 1) := by decide +kernel
theorem dX12_after_38 : decode cX12_after 38 = .ok (.goto 4, 3) := by decide +kernel
theorem dX12_after_41 : decode cX12_after 41 = .ok (.iconst 0, 1) := by decide +kernel
theorem dX12_after_42 : decode cX12_after 42 = .ok (.iconst 2, 1) := by decide +kernel
theorem dX12_after_43 : decode cX12_after 43 = .ok (.iconst 1, 1) := by decide +kernel
theorem dX12_after_44 : decode cX12_after 44 = .ok (.invokevirtual 174, 3) := by decide +kernel
theorem dX12_after_47 : decode cX12_after 47 = .ok (.ifCond .eq 5, 3) := by decide +kernel
theorem dX12_after_50 : decode cX12_after 50 = .ok (.iconst 0, 1) := by decide +kernel
theorem dX12_after_51 : decode cX12_after 51 = .ok (.ireturn, 1) := by decide +kernel
theorem dX12_after_52 : decode cX12_after 52 = .ok (.aload_n 0, 1) := by decide +kernel
theorem dX12_after_53 : decode cX12_after 53 = .ok (.getfield 61, 3) := by decide +kernel
theorem dX12_after_56 : decode cX12_after 56 = .ok (.aload_n 0, 1) := by decide +kernel
theorem dX12_after_57 : decode cX12_after 57 = .ok (.getfield 64, 3) := by decide +kernel
theorem dX12_after_60 : decode cX12_after 60 = .ok (.invokestatic 316, 3) := by decide +kernel
theorem dX12_after_63 : decode cX12_after 63 = .ok (.aload_n 0, 1) := by decide +kernel
theorem dX12_after_64 : decode cX12_after 64 = .ok (.aload_n 0, 1) := by decide +kernel
theorem dX12_after_65 : decode cX12_after 65 = .ok (.getfield 64, 3) := by decide +kernel
theorem dX12_after_68 : decode cX12_after 68 = .ok (.iload_n 1, 1) := by decide +kernel
theorem dX12_after_69 : decode cX12_after 69 = .ok (.invokevirtual 289, 3) := by decide +kernel
theorem dX12_after_72 : decode cX12_after 72 = .ok (.ifCond .eq 15, 3) := by decide +kernel
theorem dX12_after_75 : decode cX12_after 75 = .ok (.aload_n 0, 1) := by decide +kernel
theorem dX12_after_76 : decode cX12_after 76 = .ok (.getfield 64, 3) := by decide +kernel
theorem dX12_after_79 : decode cX12_after 79 = .ok (.bipush 8, 2) := by decide +kernel
theorem dX12_after_81 : decode cX12_after 81 = .ok (.iload_n 1, 1) := by decide +kernel
theorem dX12_after_82 : decode cX12_after 82 = .ok (.iadd, 1) := by decide +kernel
theorem dX12_after_83 : decode cX12_after 83 = .ok (.iaload, 1) := by decide +kernel
theorem dX12_after_84 : decode cX12_after 84 = .ok (.goto 4, 3) := by decide +kernel
theorem dX12_after_87 : decode cX12_after 87 = .ok (.iconst (-1), 1) := by decide +kernel
theorem dX12_after_88 : decode cX12_after 88 = .ok (.istore_n 3, 1) := by decide +kernel
theorem dX12_after_89 : decode cX12_after 89 = .ok (.iload_n 3, 1) := by decide +kernel
theorem dX12_after_90 : decode cX12_after 90 = .ok (.iconst (-1), 1) := by decide +kernel
theorem dX12_after_91 : decode cX12_after 91 = .ok (.if_icmp .ne 7, 3) := by decide +kernel
theorem dX12_after_94 : decode cX12_after 94 = .ok (.iconst (-1), 1) := by decide +kernel
theorem dX12_after_95 : decode cX12_after 95 = .ok (.goto 27, 3) := by decide +kernel
theorem dX12_after_98 : decode cX12_after 98 = .ok (.iload_n 2, 1) := by decide +kernel
theorem dX12_after_99 : decode cX12_after 99 = .ok (.ifCond .ne 15, 3) := by decide +kernel
theorem dX12_after_102 : decode cX12_after 102 = .ok (.aload_n 0, 1) := by decide +kernel
theorem dX12_after_103 : decode cX12_after 103 = .ok (.aload_n 0, 1) := by decide +kernel
theorem dX12_after_104 : decode cX12_after 104 = .ok (.getfield 64, 3) := by decide +kernel
theorem dX12_after_107 : decode cX12_after 107 = .ok (.iload_n 3, 1) := by decide +kernel
theorem dX12_after_108 : decode cX12_after 108 = .ok (.invokevirtual 267, 3) := by decide +kernel
theorem dX12_after_111 : decode cX12_after 111 = .ok (.goto 11, 3) := by decide +kernel
theorem dX12_after_114 : decode cX12_after 114 = .ok (.aload_n 0, 1) := by decide +kernel
theorem dX12_after_115 : decode cX12_after 115 = .ok (.getfield 64, 3) := by decide +kernel
theorem dX12_after_118 : decode cX12_after 118 = .ok (.iconst 0, 1) := by decide +kernel
theorem dX12_after_119 : decode cX12_after 119 = .ok (.iload_n 3, 1) := by decide +kernel
theorem dX12_after_120 : decode cX12_after 120 = .ok (.iadd, 1) := by decide +kernel
theorem dX12_after_121 : decode cX12_after 121 = .ok (.iaload, 1) := by decide +kernel
theorem dX12_after_122 : decode cX12_after 122 = .ok (.ireturn, 1) := by decide +kernel
theorem dX12_latest_0 : decode cX12_latest 0 = .ok (.aload_n 0, 1) := by decide +kernel
theorem dX12_latest_1 : decode cX12_latest 1 = .ok (.iconst 0, 1) := by decide +kernel
theorem dX12_latest_2 : decode cX12_latest 2 = .ok (.putfield 98, 3) := by decide +kernel
theorem dX12_latest_5 : decode cX12_latest 5 = .ok (.aload_n 0, 1) := by decide +kernel
theorem dX12_latest_6 : decode cX12_latest 6 = .ok (.iload_n 1, 1) := by decide +kernel
theorem dX12_latest_7 : decode cX12_latest 7 = .ok (.iconst 0, 1) := by decide +kernel
theorem dX12_latest_8 : decode cX12_latest 8 = .ok (.iconst 1, 1) := by decide +kernel
theorem dX12_latest_9 : decode cX12_latest 9 = .ok (.invokestatic 132, 3) := by decide +kernel
theorem dX12_latest_12 : decode cX12_latest 12 = .ok (.ifCond .ne 7, 3) := by decide +kernel
theorem dX12_latest_15 : decode cX12_latest 15 = .ok (.iconst 1, 1) := by decide +kernel
theorem dX12_latest_16 : decode cX12_latest 16 = .ok (.goto 4, 3) := by decide +kernel
theorem dX12_latest_19 : decode cX12_latest 19 = .ok (.iconst 0, 1) := by decide +kernel
theorem dX12_latest_20 : decode cX12_latest 20 = .ok (.iconst 1, 1) := by decide +kernel
theorem dX12_latest_21 : decode cX12_latest 21 = .ok (.iconst 1, 1) := by decide +kernel
theorem dX12_latest_22 : decode cX12_latest 22 = .ok (.invokevirtual 174, 3) := by decide +kernel
theorem dX12_latest_25 : decode cX12_latest 25 = .ok (.ifCond .eq 5, 3) := by decide +kernel
theorem dX12_latest_28 : decode cX12_latest 28 = .ok (.iconst 0, 1) := by decide +kernel
theorem dX12_latest_29 : decode cX12_latest 29 = .ok (.ireturn, 1) := by decide +kernel
theorem dX12_latest_30 : decode cX12_latest 30 = .ok (.iconst (-1), 1) := by decide +kernel
theorem dX12_latest_31 : decode cX12_latest 31 = .ok (.istore_n 2, 1) := by decide +kernel
theorem dX12_latest_32 : decode cX12_latest 32 = .ok (.iconst 0, 1) := by decide +kernel
theorem dX12_latest_33 : decode cX12_latest 33 = .ok (.istore_n 3, 1) := by decide +kernel
theorem dX12_latest_34 : decode cX12_latest 34 = .ok (.iload_n 3, 1) := by decide +kernel
theorem dX12_latest_35 : decode cX12_latest 35 = .ok (.aload_n 0, 1) := by decide +kernel
theorem dX12_latest_36 : decode cX12_latest 36 = .ok (.getfield 23, 3) := by decide +kernel
theorem dX12_latest_39 : decode cX12_latest 39 = .ok (.iconst 0, 1) := by decide +kernel
theorem dX12_latest_40 : decode cX12_latest 40 = .ok (.iaload, 1) := by decide +kernel
theorem dX12_latest_41 : decode cX12_latest 41 = .ok (.if_icmp .ge 55, 3) := by decide +kernel
theorem dX12_latest_44 : decode cX12_latest 44 = .ok (.aload_n 0, 1) := by decide +kernel
theorem dX12_latest_45 : decode cX12_latest 45 = .ok (.getfield 61, 3) := by decide +kernel
theorem dX12_latest_48 : decode cX12_latest 48 = .ok (.bipush 24, 2) := by decide +kernel
theorem dX12_latest_50 : decode cX12_latest 50 = .ok (.iaload, 1) := by decide +kernel
theorem dX12_latest_51 : decode cX12_latest 51 = .ok (.iload_n 3, 1) := by decide +kernel
theorem dX12_latest_52 : decode cX12_latest 52 = .ok (.invokestatic 253, 3) := by decide +kernel
theorem dX12_latest_55 : decode cX12_latest 55 = .ok (.ifCond .ne 33, 3) := by decide +kernel
theorem dX12_latest_58 : decode cX12_latest 58 = .ok (.iload_n 2, 1) := by decide +kernel
theorem dX12_latest_59 : decode cX12_latest 59 = .ok (.iconst (-1), 1) := by decide +kernel
theorem dX12_latest_60 : decode cX12_latest 60 = .ok (.if_icmp .eq 24, 3) := by decide +kernel
theorem dX12_latest_63 : decode cX12_latest 63 = .ok (.aload_n 0, 1) := by decide +kernel
theorem dX12_latest_64 : decode cX12_latest 64 = .ok (.getfield 61, 3) := by decide +kernel
theorem dX12_latest_67 : decode cX12_latest 67 = .ok (.bipush 16, 2) := by decide +kernel
theorem dX12_latest_69 : decode cX12_latest 69 = .ok (.iload_n 3, 1) := by decide +kernel
theorem dX12_latest_70 : decode cX12_latest 70 = .ok (.iadd, 1) := by decide +kernel
theorem dX12_latest_71 : decode cX12_latest 71 = .ok (.iaload, 1) := by decide +kernel
theorem dX12_latest_72 : decode cX12_latest 72 = .ok (.aload_n 0, 1) := by decide +kernel
theorem dX12_latest_73 : decode cX12_latest 73 = .ok (.getfield 61, 3) := by decide +kernel
theorem dX12_latest_76 : decode cX12_latest 76 = .ok (.bipush 16, 2) := by decide +kernel
theorem dX12_latest_78 : decode cX12_latest 78 = .ok (.iload_n 2, 1) := by decide +kernel
theorem dX12_latest_79 : decode cX12_latest 79 = .ok (.iadd, 1) := by decide +kernel
theorem dX12_latest_80 : decode cX12_latest 80 = .ok (.iaload, 1) := by decide +kernel
theorem dX12_latest_81 : decode cX12_latest 81 = .ok (.if_icmp .le 7, 3) := by decide +kernel
theorem dX12_latest_84 : decode cX12_latest 84 = .ok (.iload_n 3, 1) := by decide +kernel
theorem dX12_latest_85 : decode cX12_latest 85 = .ok (.goto 4, 3) := by decide +kernel
theorem dX12_latest_88 : decode cX12_latest 88 = .ok (.iload_n 2, 1) := by decide +kernel
theorem dX12_latest_89 : decode cX12_latest 89 = .ok (.istore_n 2, 1) := by decide +kernel
theorem dX12_latest_90 : decode cX12_latest 90 = .ok (.iinc 3 1, 3) := by decide +kernel
theorem dX12_latest_93 : decode cX12_latest 93 = .ok (.goto (-59), 3) := by decide +kernel
theorem dX12_latest_96 : decode cX12_latest 96 = .ok (.iload_n 1, 1) := by decide +kernel
theorem dX12_latest_97 : decode cX12_latest 97 = .ok (.ifCond .eq 8, 3) := by decide +kernel
theorem dX12_latest_100 : decode cX12_latest 100 = .ok (.iload_n 2, 1) := by decide +kernel
theorem dX12_latest_101 : decode cX12_latest 101 = .ok (.iconst (-1), 1) := by decide +kernel
theorem dX12_latest_102 : decode cX12_latest 102 = .ok (.if_icmp .ne 7, 3) := by decide +kernel
theorem dX12_latest_105 : decode cX12_latest 105 = .ok (.iload_n 2, 1) := by decide +kernel
theorem dX12_latest_106 : decode cX12_latest 106 = .ok (.goto 12, 3) := by decide +kernel
theorem dX12_latest_109 : decode cX12_latest 109 = .ok (.aload_n 0, 1) := by decide +kernel
theorem dX12_latest_110 : decode cX12_latest 110 = .ok (.getfield 61, 3) := by decide +kernel
theorem dX12_latest_113 : decode cX12_latest 113 = .ok (.bipush 16, 2) := by decide +kernel
theorem dX12_latest_115 : decode cX12_latest 115 = .ok (.iload_n 2, 1) := by decide +kernel
theorem dX12_latest_116 : decode cX12_latest 116 = .ok (.iadd, 1) := by decide +kernel
theorem dX12_latest_117 : decode cX12_latest 117 = .ok (.iaload, 1) := by decide +kernel
theorem dX12_latest_118 : decode cX12_latest 118 = .ok (.ireturn, 1) := by decide +kernel
theorem dX12_draw_0 : decode cX12_draw 0 = .ok (.aload_n 0, 1) := by decide +kernel
theorem dX12_draw_1 : decode cX12_draw 1 = .ok (.aload_n 0, 1) := by decide +kernel
theorem dX12_draw_2 : decode cX12_draw 2 = .ok (.getfield 401, 3) := by decide +kernel
theorem dX12_draw_5 : decode cX12_draw 5 = .ok (.ldc_w 404, 3) := by decide +kernel
theorem dX12_draw_8 : decode cX12_draw 8 = .ok (.imul, 1) := by decide +kernel
theorem dX12_draw_9 : decode cX12_draw 9 = .ok (.sipush 12345, 3) := by decide +kernel
theorem dX12_draw_12 : decode cX12_draw 12 = .ok (.iadd, 1) := by decide +kernel
theorem dX12_draw_13 : decode cX12_draw 13 = .ok (.putfield 401, 3) := by decide +kernel
theorem dX12_draw_16 : decode cX12_draw 16 = .ok (.aload_n 0, 1) := by decide +kernel
theorem dX12_draw_17 : decode cX12_draw 17 = .ok (.getfield 401, 3) := by decide +kernel
theorem dX12_draw_20 : decode cX12_draw 20 = .ok (.bipush 16, 2) := by decide +kernel
theorem dX12_draw_22 : decode cX12_draw 22 = .ok (.ishr, 1) := by decide +kernel
theorem dX12_draw_23 : decode cX12_draw 23 = .ok (.sipush 32767, 3) := by decide +kernel
theorem dX12_draw_26 : decode cX12_draw 26 = .ok (.iand, 1) := by decide +kernel
theorem dX12_draw_27 : decode cX12_draw 27 = .ok (.iload_n 1, 1) := by decide +kernel
theorem dX12_draw_28 : decode cX12_draw 28 = .ok (.irem, 1) := by decide +kernel
theorem dX12_draw_29 : decode cX12_draw 29 = .ok (.ireturn, 1) := by decide +kernel
theorem dX12_centuryBy_0 : decode cX12_centuryBy 0 = .ok (.aload_n 0, 1) := by decide +kernel
theorem dX12_centuryBy_1 : decode cX12_centuryBy 1 = .ok (.getfield 61, 3) := by decide +kernel
theorem dX12_centuryBy_4 : decode cX12_centuryBy 4 = .ok (.aload_n 0, 1) := by decide +kernel
theorem dX12_centuryBy_5 : decode cX12_centuryBy 5 = .ok (.getfield 64, 3) := by decide +kernel
theorem dX12_centuryBy_8 : decode cX12_centuryBy 8 = .ok (.invokestatic 316, 3) := by decide +kernel
theorem dX12_centuryBy_11 : decode cX12_centuryBy 11 = .ok (.aload_n 0, 1) := by decide +kernel
theorem dX12_centuryBy_12 : decode cX12_centuryBy 12 = .ok (.iload_n 1, 1) := by decide +kernel
theorem dX12_centuryBy_13 : decode cX12_centuryBy 13 = .ok (.putfield 401, 3) := by decide +kernel
theorem dX12_centuryBy_16 : decode cX12_centuryBy 16 = .ok (.iconst 0, 1) := by decide +kernel
theorem dX12_centuryBy_17 : decode cX12_centuryBy 17 = .ok (.istore 4, 2) := by decide +kernel
theorem dX12_centuryBy_19 : decode cX12_centuryBy 19 = .ok (.iload 4, 2) := by decide +kernel
theorem dX12_centuryBy_21 : decode cX12_centuryBy 21 = .ok (.iload_n 2, 1) := by decide +kernel
theorem dX12_centuryBy_22 : decode cX12_centuryBy 22 = .ok (.if_icmp .ge 88, 3) := by decide +kernel
theorem dX12_centuryBy_25 : decode cX12_centuryBy 25 = .ok (.aload_n 0, 1) := by decide +kernel
theorem dX12_centuryBy_26 : decode cX12_centuryBy 26 = .ok (.getfield 23, 3) := by decide +kernel
theorem dX12_centuryBy_29 : decode cX12_centuryBy 29 = .ok (.iconst 0, 1) := by decide +kernel
theorem dX12_centuryBy_30 : decode cX12_centuryBy 30 = .ok (.iaload, 1) := by decide +kernel
theorem dX12_centuryBy_31 : decode cX12_centuryBy 31 = .ok (.ifCond .le 65, 3) := by decide +kernel
theorem dX12_centuryBy_34 : decode cX12_centuryBy 34 = .ok (.aload_n 0, 1) := by decide +kernel
theorem dX12_centuryBy_35 : decode cX12_centuryBy 35 = .ok (.bipush 16, 2) := by decide +kernel
theorem dX12_centuryBy_37 : decode cX12_centuryBy 37 = .ok (.invokevirtual 405, 3) := by decide +kernel
theorem dX12_centuryBy_40 : decode cX12_centuryBy 40 = .ok (.iload_n 3, 1) := by decide +kernel
theorem dX12_centuryBy_41 : decode cX12_centuryBy 41 = .ok (.if_icmp .ge 22, 3) := by decide +kernel
theorem dX12_centuryBy_44 : decode cX12_centuryBy 44 = .ok (.aload_n 0, 1) := by decide +kernel
theorem dX12_centuryBy_45 : decode cX12_centuryBy 45 = .ok (.aload_n 0, 1) := by decide +kernel
theorem dX12_centuryBy_46 : decode cX12_centuryBy 46 = .ok (.getfield 64, 3) := by decide +kernel
theorem dX12_centuryBy_49 : decode cX12_centuryBy 49 = .ok (.aload_n 0, 1) := by decide +kernel
theorem dX12_centuryBy_50 : decode cX12_centuryBy 50 = .ok (.aload_n 0, 1) := by decide +kernel
theorem dX12_centuryBy_51 : decode cX12_centuryBy 51 = .ok (.getfield 23, 3) := by decide +kernel
theorem dX12_centuryBy_54 : decode cX12_centuryBy 54 = .ok (.iconst 0, 1) := by decide +kernel
theorem dX12_centuryBy_55 : decode cX12_centuryBy 55 = .ok (.iaload, 1) := by decide +kernel
theorem dX12_centuryBy_56 : decode cX12_centuryBy 56 = .ok (.invokevirtual 405, 3) := by decide +kernel
theorem dX12_centuryBy_59 : decode cX12_centuryBy 59 = .ok (.invokevirtual 289, 3) := by decide +kernel
theorem dX12_centuryBy_62 : decode cX12_centuryBy 62 = .ok (.pop, 1) := by decide +kernel
theorem dX12_centuryBy_63 : decode cX12_centuryBy 63 = .ok (.aload_n 0, 1) := by decide +kernel
theorem dX12_centuryBy_64 : decode cX12_centuryBy 64 = .ok (.aload_n 0, 1) := by decide +kernel
theorem dX12_centuryBy_65 : decode cX12_centuryBy 65 = .ok (.getfield 23, 3) := by decide +kernel
theorem dX12_centuryBy_68 : decode cX12_centuryBy 68 = .ok (.iconst 0, 1) := by decide +kernel
theorem dX12_centuryBy_69 : decode cX12_centuryBy 69 = .ok (.iaload, 1) := by decide +kernel
theorem dX12_centuryBy_70 : decode cX12_centuryBy 70 = .ok (.invokevirtual 405, 3) := by decide +kernel
theorem dX12_centuryBy_73 : decode cX12_centuryBy 73 = .ok (.istore 5, 2) := by decide +kernel
theorem dX12_centuryBy_75 : decode cX12_centuryBy 75 = .ok (.aload_n 0, 1) := by decide +kernel
theorem dX12_centuryBy_76 : decode cX12_centuryBy 76 = .ok (.aload_n 0, 1) := by decide +kernel
theorem dX12_centuryBy_77 : decode cX12_centuryBy 77 = .ok (.getfield 64, 3) := by decide +kernel
theorem dX12_centuryBy_80 : decode cX12_centuryBy 80 = .ok (.iload 5, 2) := by decide +kernel
theorem dX12_centuryBy_82 : decode cX12_centuryBy 82 = .ok (.aload_n 0, 1) := by decide +kernel
theorem dX12_centuryBy_83 : decode cX12_centuryBy 83 = .ok (.aload_n 0, 1) := by decide +kernel
theorem dX12_centuryBy_84 : decode cX12_centuryBy 84 = .ok (.getfield 23, 3) := by decide +kernel
theorem dX12_centuryBy_87 : decode cX12_centuryBy 87 = .ok (.iconst 0, 1) := by decide +kernel
theorem dX12_centuryBy_88 : decode cX12_centuryBy 88 = .ok (.iaload, 1) := by decide +kernel
theorem dX12_centuryBy_89 : decode cX12_centuryBy 89 = .ok (.invokevirtual 405, 3) := by decide +kernel
theorem dX12_centuryBy_92 : decode cX12_centuryBy 92 = .ok (.invokevirtual 293, 3) := by decide +kernel
theorem dX12_centuryBy_95 : decode cX12_centuryBy 95 = .ok (.pop, 1) := by decide +kernel
theorem dX12_centuryBy_96 : decode cX12_centuryBy 96 = .ok (.aload_n 0, 1) := by decide +kernel
theorem dX12_centuryBy_97 : decode cX12_centuryBy 97 = .ok (.aload_n 0, 1) := by decide +kernel
theorem dX12_centuryBy_98 : decode cX12_centuryBy 98 = .ok (.getfield 64, 3) := by decide +kernel
theorem dX12_centuryBy_101 : decode cX12_centuryBy 101 = .ok (.invokevirtual 299, 3) := by decide +kernel
theorem dX12_centuryBy_104 : decode cX12_centuryBy 104 = .ok (.iinc 4 1, 3) := by decide +kernel
theorem dX12_centuryBy_107 : decode cX12_centuryBy 107 = .ok (.goto (-88), 3) := by decide +kernel
theorem dX12_centuryBy_110 : decode cX12_centuryBy 110 = .ok (.return_, 1) := by decide +kernel
theorem dX12_isCentury_0 : decode cX12_isCentury 0 = .ok (.iload_n 0, 1) := by decide +kernel
theorem dX12_isCentury_1 : decode cX12_isCentury 1 = .ok (.iconst 1, 1) := by decide +kernel
theorem dX12_isCentury_2 : decode cX12_isCentury 2 = .ok (.bipush 96, 2) := by decide +kernel
theorem dX12_isCentury_4 : decode cX12_isCentury 4 = .ok (.invokestatic 132, 3) := by decide +kernel
theorem dX12_isCentury_7 : decode cX12_isCentury 7 = .ok (.ifCond .eq 17, 3) := by decide +kernel
theorem dX12_isCentury_10 : decode cX12_isCentury 10 = .ok (.iload_n 1, 1) := by decide +kernel
theorem dX12_isCentury_11 : decode cX12_isCentury 11 = .ok (.iconst 0, 1) := by decide +kernel
theorem dX12_isCentury_12 : decode cX12_isCentury 12 = .ok (.bipush 16, 2) := by decide +kernel
theorem dX12_isCentury_14 : decode cX12_isCentury 14 = .ok (.invokestatic 132, 3) := by decide +kernel
theorem dX12_isCentury_17 : decode cX12_isCentury 17 = .ok (.ifCond .eq 7, 3) := by decide +kernel
theorem dX12_isCentury_20 : decode cX12_isCentury 20 = .ok (.iconst 1, 1) := by decide +kernel
theorem dX12_isCentury_21 : decode cX12_isCentury 21 = .ok (.goto 4, 3) := by decide +kernel
theorem dX12_isCentury_24 : decode cX12_isCentury 24 = .ok (.iconst 0, 1) := by decide +kernel
theorem dX12_isCentury_25 : decode cX12_isCentury 25 = .ok (.ireturn, 1) := by decide +kernel
theorem dX12_century_0 : decode cX12_century 0 = .ok (.aload_n 0, 1) := by decide +kernel
theorem dX12_century_1 : decode cX12_century 1 = .ok (.iconst 0, 1) := by decide +kernel
theorem dX12_century_2 : decode cX12_century 2 = .ok (.putfield 98, 3) := by decide +kernel
theorem dX12_century_5 : decode cX12_century 5 = .ok (.aload_n 0, 1) := by decide +kernel
theorem dX12_century_6 : decode cX12_century 6 = .ok (.iload_n 2, 1) := by decide +kernel
theorem dX12_century_7 : decode cX12_century 7 = .ok (.iload_n 3, 1) := by decide +kernel
theorem dX12_century_8 : decode cX12_century 8 = .ok (.invokestatic 408, 3) := by decide +kernel
theorem dX12_century_11 : decode cX12_century 11 = .ok (.ifCond .eq 13, 3) := by decide +kernel
theorem dX12_century_14 : decode cX12_century 14 = .ok (.iload 4, 2) := by decide +kernel
theorem dX12_century_16 : decode cX12_century 16 = .ok (.iconst 0, 1) := by decide +kernel
theorem dX12_century_17 : decode cX12_century 17 = .ok (.iconst 3, 1) := by decide +kernel
theorem dX12_century_18 : decode cX12_century 18 = .ok (.invokestatic 132, 3) := by decide +kernel
theorem dX12_century_21 : decode cX12_century 21 = .ok (.ifCond .ne 7, 3) := by decide +kernel
theorem dX12_century_24 : decode cX12_century 24 = .ok (.iconst 1, 1) := by decide +kernel
theorem dX12_century_25 : decode cX12_century 25 = .ok (.goto 4, 3) := by decide +kernel
theorem dX12_century_28 : decode cX12_century 28 = .ok (.iconst 0, 1) := by decide +kernel
theorem dX12_century_29 : decode cX12_century 29 = .ok (.iconst 1, 1) := by decide +kernel
theorem dX12_century_30 : decode cX12_century 30 = .ok (.iconst 1, 1) := by decide +kernel
theorem dX12_century_31 : decode cX12_century 31 = .ok (.invokevirtual 174, 3) := by decide +kernel
theorem dX12_century_34 : decode cX12_century 34 = .ok (.ifCond .eq 5, 3) := by decide +kernel
theorem dX12_century_37 : decode cX12_century 37 = .ok (.iconst 0, 1) := by decide +kernel
theorem dX12_century_38 : decode cX12_century 38 = .ok (.ireturn, 1) := by decide +kernel
theorem dX12_century_39 : decode cX12_century 39 = .ok (.aload_n 0, 1) := by decide +kernel
theorem dX12_century_40 : decode cX12_century 40 = .ok (.iload_n 1, 1) := by decide +kernel
theorem dX12_century_41 : decode cX12_century 41 = .ok (.iload_n 2, 1) := by decide +kernel
theorem dX12_century_42 : decode cX12_century 42 = .ok (.iload_n 3, 1) := by decide +kernel
theorem dX12_century_43 : decode cX12_century 43 = .ok (.invokevirtual 411, 3) := by decide +kernel
theorem dX12_century_46 : decode cX12_century 46 = .ok (.iload 4, 2) := by decide +kernel
theorem dX12_century_48 : decode cX12_century 48 = .ok (.ifCond .ne 13, 3) := by decide +kernel
theorem dX12_century_51 : decode cX12_century 51 = .ok (.aload_n 0, 1) := by decide +kernel
theorem dX12_century_52 : decode cX12_century 52 = .ok (.getfield 64, 3) := by decide +kernel
theorem dX12_century_55 : decode cX12_century 55 = .ok (.bipush 24, 2) := by decide +kernel
theorem dX12_century_57 : decode cX12_century 57 = .ok (.iaload, 1) := by decide +kernel
theorem dX12_century_58 : decode cX12_century 58 = .ok (.goto 46, 3) := by decide +kernel
theorem dX12_century_61 : decode cX12_century 61 = .ok (.iload 4, 2) := by decide +kernel
theorem dX12_century_63 : decode cX12_century 63 = .ok (.iconst 1, 1) := by decide +kernel
theorem dX12_century_64 : decode cX12_century 64 = .ok (.if_icmp .ne 14, 3) := by decide +kernel
theorem dX12_century_67 : decode cX12_century 67 = .ok (.aload_n 0, 1) := by decide +kernel
theorem dX12_century_68 : decode cX12_century 68 = .ok (.aload_n 0, 1) := by decide +kernel
theorem dX12_century_69 : decode cX12_century 69 = .ok (.getfield 64, 3) := by decide +kernel
theorem dX12_century_72 : decode cX12_century 72 = .ok (.invokevirtual 327, 3) := by decide +kernel
theorem dX12_century_75 : decode cX12_century 75 = .ok (.goto 29, 3) := by decide +kernel
theorem dX12_century_78 : decode cX12_century 78 = .ok (.iload 4, 2) := by decide +kernel
theorem dX12_century_80 : decode cX12_century 80 = .ok (.iconst 2, 1) := by decide +kernel
theorem dX12_century_81 : decode cX12_century 81 = .ok (.if_icmp .ne 15, 3) := by decide +kernel
theorem dX12_century_84 : decode cX12_century 84 = .ok (.aload_n 0, 1) := by decide +kernel
theorem dX12_century_85 : decode cX12_century 85 = .ok (.aload_n 0, 1) := by decide +kernel
theorem dX12_century_86 : decode cX12_century 86 = .ok (.getfield 64, 3) := by decide +kernel
theorem dX12_century_89 : decode cX12_century 89 = .ok (.iconst 0, 1) := by decide +kernel
theorem dX12_century_90 : decode cX12_century 90 = .ok (.invokevirtual 331, 3) := by decide +kernel
theorem dX12_century_93 : decode cX12_century 93 = .ok (.goto 11, 3) := by decide +kernel
theorem dX12_century_96 : decode cX12_century 96 = .ok (.aload_n 0, 1) := by decide +kernel
theorem dX12_century_97 : decode cX12_century 97 = .ok (.aload_n 0, 1) := by decide +kernel
theorem dX12_century_98 : decode cX12_century 98 = .ok (.getfield 64, 3) := by decide +kernel
theorem dX12_century_101 : decode cX12_century 101 = .ok (.invokevirtual 335, 3) := by decide +kernel
theorem dX12_century_104 : decode cX12_century 104 = .ok (.ireturn, 1) := by decide +kernel
theorem dX12_span_0 : decode cX12_span 0 = .ok (.aload_n 0, 1) := by decide +kernel
theorem dX12_span_1 : decode cX12_span 1 = .ok (.iconst 0, 1) := by decide +kernel
theorem dX12_span_2 : decode cX12_span 2 = .ok (.putfield 98, 3) := by decide +kernel
theorem dX12_span_5 : decode cX12_span 5 = .ok (.aload_n 0, 1) := by decide +kernel
theorem dX12_span_6 : decode cX12_span 6 = .ok (.iload_n 2, 1) := by decide +kernel
theorem dX12_span_7 : decode cX12_span 7 = .ok (.iconst 1, 1) := by decide +kernel
theorem dX12_span_8 : decode cX12_span 8 = .ok (.bipush 20, 2) := by decide +kernel
theorem dX12_span_10 : decode cX12_span 10 = .ok (.invokestatic 132, 3) := by decide +kernel
theorem dX12_span_13 : decode cX12_span 13 = .ok (.ifCond .eq 31, 3) := by decide +kernel
theorem dX12_span_16 : decode cX12_span 16 = .ok (.iload_n 3, 1) := by decide +kernel
theorem dX12_span_17 : decode cX12_span 17 = .ok (.iload 4, 2) := by decide +kernel
theorem dX12_span_19 : decode cX12_span 19 = .ok (.invokestatic 408, 3) := by decide +kernel
theorem dX12_span_22 : decode cX12_span 22 = .ok (.ifCond .eq 22, 3) := by decide +kernel
theorem dX12_span_25 : decode cX12_span 25 = .ok (.iload 5, 2) := by decide +kernel
theorem dX12_span_27 : decode cX12_span 27 = .ok (.iconst 0, 1) := by decide +kernel
theorem dX12_span_28 : decode cX12_span 28 = .ok (.iconst 2, 1) := by decide +kernel
theorem dX12_span_29 : decode cX12_span 29 = .ok (.invokestatic 132, 3) := by decide +kernel
theorem dX12_span_32 : decode cX12_span 32 = .ok (.ifCond .eq 12, 3) := by decide +kernel
theorem dX12_span_35 : decode cX12_span 35 = .ok (.aload_n 0, 1) := by decide +kernel
theorem dX12_span_36 : decode cX12_span 36 = .ok (.iload 6, 2) := by decide +kernel
theorem dX12_span_38 : decode cX12_span 38 = .ok (.invokevirtual 338, 3) := by decide +kernel
theorem dX12_span_41 : decode cX12_span 41 = .ok (.ifCond .ne 7, 3) := by decide +kernel
theorem dX12_span_44 : decode cX12_span 44 = .ok (.iconst 1, 1) := by decide +kernel
theorem dX12_span_45 : decode cX12_span 45 = .ok (.goto 4, 3) := by decide +kernel
theorem dX12_span_48 : decode cX12_span 48 = .ok (.iconst 0, 1) := by decide +kernel
theorem dX12_span_49 : decode cX12_span 49 = .ok (.iconst 1, 1) := by decide +kernel
theorem dX12_span_50 : decode cX12_span 50 = .ok (.iconst 1, 1) := by decide +kernel
theorem dX12_span_51 : decode cX12_span 51 = .ok (.invokevirtual 174, 3) := by decide +kernel
theorem dX12_span_54 : decode cX12_span 54 = .ok (.ifCond .eq 5, 3) := by decide +kernel
theorem dX12_span_57 : decode cX12_span 57 = .ok (.iconst 0, 1) := by decide +kernel
theorem dX12_span_58 : decode cX12_span 58 = .ok (.ireturn, 1) := by decide +kernel
theorem dX12_span_59 : decode cX12_span 59 = .ok (.iconst (-1), 1) := by decide +kernel
theorem dX12_span_60 : decode cX12_span 60 = .ok (.istore 7, 2) := by decide +kernel
theorem dX12_span_62 : decode cX12_span 62 = .ok (.iconst 0, 1) := by decide +kernel
theorem dX12_span_63 : decode cX12_span 63 = .ok (.istore 8, 2) := by decide +kernel
theorem dX12_span_65 : decode cX12_span 65 = .ok (.iconst 0, 1) := by decide +kernel
theorem dX12_span_66 : decode cX12_span 66 = .ok (.istore 9, 2) := by decide +kernel
theorem dX12_span_68 : decode cX12_span 68 = .ok (.iconst 0, 1) := by decide +kernel
theorem dX12_span_69 : decode cX12_span 69 = .ok (.istore 10, 2) := by decide +kernel
theorem dX12_span_71 : decode cX12_span 71 = .ok (.iload 10, 2) := by decide +kernel
theorem dX12_span_73 : decode cX12_span 73 = .ok (.iload_n 2, 1) := by decide +kernel
theorem dX12_span_74 : decode cX12_span 74 = .ok (.if_icmp .ge 79, 3) := by decide +kernel
theorem dX12_span_77 : decode cX12_span 77 = .ok (.aload_n 0, 1) := by decide +kernel
theorem dX12_span_78 : decode cX12_span 78 = .ok (.iload_n 1, 1) := by decide +kernel
theorem dX12_span_79 : decode cX12_span 79 = .ok (.iload 10, 2) := by decide +kernel
theorem dX12_span_81 : decode cX12_span 81 = .ok (.iadd, 1) := by decide +kernel
theorem dX12_span_82 : decode cX12_span 82 = .ok (.iload_n 3, 1) := by decide +kernel
theorem dX12_span_83 : decode cX12_span 83 = .ok (.iload 4, 2) := by decide +kernel
theorem dX12_span_85 : decode cX12_span 85 = .ok (.invokevirtual 411, 3) := by decide +kernel
theorem dX12_span_88 : decode cX12_span 88 = .ok (.aload_n 0, 1) := by decide +kernel
theorem dX12_span_89 : decode cX12_span 89 = .ok (.aload_n 0, 1) := by decide +kernel
theorem dX12_span_90 : decode cX12_span 90 = .ok (.getfield 64, 3) := by decide +kernel
theorem dX12_span_93 : decode cX12_span 93 = .ok (.invokevirtual 327, 3) := by decide +kernel
theorem dX12_span_96 : decode cX12_span 96 = .ok (.invokestatic 264, 3) := by decide +kernel
theorem dX12_span_99 : decode cX12_span 99 = .ok (.istore 11, 2) := by decide +kernel
theorem dX12_span_101 : decode cX12_span 101 = .ok (.iload 7, 2) := by decide +kernel
theorem dX12_span_103 : decode cX12_span 103 = .ok (.iconst (-1), 1) := by decide +kernel
theorem dX12_span_104 : decode cX12_span 104 = .ok (.if_icmp .ne 8, 3) := by decide +kernel
theorem dX12_span_107 : decode cX12_span 107 = .ok (.iload 11, 2) := by decide +kernel
theorem dX12_span_109 : decode cX12_span 109 = .ok (.goto 10, 3) := by decide +kernel
theorem dX12_span_112 : decode cX12_span 112 = .ok (.iload 7, 2) := by decide +kernel
theorem dX12_span_114 : decode cX12_span 114 = .ok (.iload 11, 2) := by decide +kernel
theorem dX12_span_116 : decode cX12_span 116 = .ok (.invokestatic 234, 3) := by decide +kernel
theorem dX12_span_119 : decode cX12_span 119 = .ok (.istore 7, 2) := by decide +kernel
theorem dX12_span_121 : decode cX12_span 121 = .ok (.iload 8, 2) := by decide +kernel
theorem dX12_span_123 : decode cX12_span 123 = .ok (.iload 11, 2) := by decide +kernel
theorem dX12_span_125 : decode cX12_span 125 = .ok (.invokestatic 237, 3) := by decide +kernel
theorem dX12_span_128 : decode cX12_span 128 = .ok (.istore 8, 2) := by decide +kernel
theorem dX12_span_130 : decode cX12_span 130 = .ok (.iload 9, 2) := by decide +kernel
theorem dX12_span_132 : decode cX12_span 132 = .ok (.aload_n 0, 1) := by decide +kernel
theorem dX12_span_133 : decode cX12_span 133 = .ok (.getfield 64, 3) := by decide +kernel
theorem dX12_span_136 : decode cX12_span 136 = .ok (.bipush 24, 2) := by decide +kernel
theorem dX12_span_138 : decode cX12_span 138 = .ok (.iaload, 1) := by decide +kernel
theorem dX12_span_139 : decode cX12_span 139 = .ok (.iload 6, 2) := by decide +kernel
theorem dX12_span_141 : decode cX12_span 141 = .ok (.ishr, 1) := by decide +kernel
theorem dX12_span_142 : decode cX12_span 142 = .ok (.iconst 1, 1) := by decide +kernel
theorem dX12_span_143 : decode cX12_span 143 = .ok (.iand, 1) := by decide +kernel
theorem dX12_span_144 : decode cX12_span 144 = .ok (.iadd, 1) := by decide +kernel
theorem dX12_span_145 : decode cX12_span 145 = .ok (.istore 9, 2) := by decide +kernel
theorem dX12_span_147 : decode cX12_span 147 = .ok (.iinc 10 1, 3) := by decide +kernel
theorem dX12_span_150 : decode cX12_span 150 = .ok (.goto (-79), 3) := by decide +kernel
theorem dX12_span_153 : decode cX12_span 153 = .ok (.iload 5, 2) := by decide +kernel
theorem dX12_span_155 : decode cX12_span 155 = .ok (.ifCond .ne 8, 3) := by decide +kernel
theorem dX12_span_158 : decode cX12_span 158 = .ok (.iload 7, 2) := by decide +kernel
theorem dX12_span_160 : decode cX12_span 160 = .ok (.goto 16, 3) := by decide +kernel
theorem dX12_span_163 : decode cX12_span 163 = .ok (.iload 5, 2) := by decide +kernel
theorem dX12_span_165 : decode cX12_span 165 = .ok (.iconst 1, 1) := by decide +kernel
theorem dX12_span_166 : decode cX12_span 166 = .ok (.if_icmp .ne 8, 3) := by decide +kernel
theorem dX12_span_169 : decode cX12_span 169 = .ok (.iload 8, 2) := by decide +kernel
theorem dX12_span_171 : decode cX12_span 171 = .ok (.goto 5, 3) := by decide +kernel
theorem dX12_span_174 : decode cX12_span 174 = .ok (.iload 9, 2) := by decide +kernel
theorem dX12_span_176 : decode cX12_span 176 = .ok (.ireturn, 1) := by decide +kernel
theorem dX12_puts_0 : decode cX12_puts 0 = .ok (.iload_n 3, 1) := by decide +kernel
theorem dX12_puts_1 : decode cX12_puts 1 = .ok (.ifCond .ne 10, 3) := by decide +kernel
theorem dX12_puts_4 : decode cX12_puts 4 = .ok (.aload_n 1, 1) := by decide +kernel
theorem dX12_puts_5 : decode cX12_puts 5 = .ok (.aload_n 0, 1) := by decide +kernel
theorem dX12_puts_6 : decode cX12_puts 6 = .ok (.getfield 415, 3) := by decide +kernel
theorem dX12_puts_9 : decode cX12_puts 9 = .ok (.iload_n 2, 1) := by decide +kernel
theorem dX12_puts_10 : decode cX12_puts 10 = .ok (.iastore, 1) := by decide +kernel
theorem dX12_puts_11 : decode cX12_puts 11 = .ok (.aload_n 0, 1) := by decide +kernel
theorem dX12_puts_12 : decode cX12_puts 12 = .ok (.dup, 1) := by decide +kernel
theorem dX12_puts_13 : decode cX12_puts 13 = .ok (.getfield 415, 3) := by decide +kernel
theorem dX12_puts_16 : decode cX12_puts 16 = .ok (.iconst 1, 1) := by decide +kernel
theorem dX12_puts_17 : decode cX12_puts 17 = .ok (.iadd, 1) := by decide +kernel
theorem dX12_puts_18 : decode cX12_puts 18 = .ok (.putfield 415, 3) := by decide +kernel
theorem dX12_puts_21 : decode cX12_puts 21 = .ok (.aload_n 1, 1) := by decide +kernel
theorem dX12_puts_22 : decode cX12_puts 22 = .ok (.aload_n 0, 1) := by decide +kernel
theorem dX12_puts_23 : decode cX12_puts 23 = .ok (.getfield 415, 3) := by decide +kernel
theorem dX12_puts_26 : decode cX12_puts 26 = .ok (.iconst 1, 1) := by decide +kernel
theorem dX12_puts_27 : decode cX12_puts 27 = .ok (.isub, 1) := by decide +kernel
theorem dX12_puts_28 : decode cX12_puts 28 = .ok (.iaload, 1) := by decide +kernel
theorem dX12_puts_29 : decode cX12_puts 29 = .ok (.ireturn, 1) := by decide +kernel
theorem dX12_putsAll_0 : decode cX12_putsAll 0 = .ok (.aload_n 0, 1) := by decide +kernel
theorem dX12_putsAll_1 : decode cX12_putsAll 1 = .ok (.iconst 0, 1) := by decide +kernel
theorem dX12_putsAll_2 : decode cX12_putsAll 2 = .ok (.putfield 415, 3) := by decide +kernel
theorem dX12_putsAll_5 : decode cX12_putsAll 5 = .ok (.aload_n 0, 1) := by decide +kernel
theorem dX12_putsAll_6 : decode cX12_putsAll 6 = .ok (.aload_n 0, 1) := by decide +kernel
theorem dX12_putsAll_7 : decode cX12_putsAll 7 = .ok (.aload_n 1, 1) := by decide +kernel
theorem dX12_putsAll_8 : decode cX12_putsAll 8 = .ok (.aload_n 0, 1) := by decide +kernel
theorem dX12_putsAll_9 : decode cX12_putsAll 9 = .ok (.getfield 197, 3) := by decide +kernel
theorem dX12_putsAll_12 : decode cX12_putsAll 12 = .ok (.iload_n 2, 1) := by decide +kernel
theorem dX12_putsAll_13 : decode cX12_putsAll 13 = .ok (.invokevirtual 418, 3) := by decide +kernel
theorem dX12_putsAll_16 : decode cX12_putsAll 16 = .ok (.putfield 197, 3) := by decide +kernel
theorem dX12_putsAll_19 : decode cX12_putsAll 19 = .ok (.iconst 0, 1) := by decide +kernel
theorem dX12_putsAll_20 : decode cX12_putsAll 20 = .ok (.istore_n 3, 1) := by decide +kernel
theorem dX12_putsAll_21 : decode cX12_putsAll 21 = .ok (.iload_n 3, 1) := by decide +kernel
theorem dX12_putsAll_22 : decode cX12_putsAll 22 = .ok (.bipush 26, 2) := by decide +kernel
theorem dX12_putsAll_24 : decode cX12_putsAll 24 = .ok (.if_icmp .ge 27, 3) := by decide +kernel
theorem dX12_putsAll_27 : decode cX12_putsAll 27 = .ok (.aload_n 0, 1) := by decide +kernel
theorem dX12_putsAll_28 : decode cX12_putsAll 28 = .ok (.getfield 61, 3) := by decide +kernel
theorem dX12_putsAll_31 : decode cX12_putsAll 31 = .ok (.iload_n 3, 1) := by decide +kernel
theorem dX12_putsAll_32 : decode cX12_putsAll 32 = .ok (.aload_n 0, 1) := by decide +kernel
theorem dX12_putsAll_33 : decode cX12_putsAll 33 = .ok (.aload_n 1, 1) := by decide +kernel
theorem dX12_putsAll_34 : decode cX12_putsAll 34 = .ok (.aload_n 0, 1) := by decide +kernel
theorem dX12_putsAll_35 : decode cX12_putsAll 35 = .ok (.getfield 61, 3) := by decide +kernel
theorem dX12_putsAll_38 : decode cX12_putsAll 38 = .ok (.iload_n 3, 1) := by decide +kernel
theorem dX12_putsAll_39 : decode cX12_putsAll 39 = .ok (.iaload, 1) := by decide +kernel
theorem dX12_putsAll_40 : decode cX12_putsAll 40 = .ok (.iload_n 2, 1) := by decide +kernel
theorem dX12_putsAll_41 : decode cX12_putsAll 41 = .ok (.invokevirtual 418, 3) := by decide +kernel
theorem dX12_putsAll_44 : decode cX12_putsAll 44 = .ok (.iastore, 1) := by decide +kernel
theorem dX12_putsAll_45 : decode cX12_putsAll 45 = .ok (.iinc 3 1, 3) := by decide +kernel
theorem dX12_putsAll_48 : decode cX12_putsAll 48 = .ok (.goto (-27), 3) := by decide +kernel
theorem dX12_putsAll_51 : decode cX12_putsAll 51 = .ok (.iconst 0, 1) := by decide +kernel
theorem dX12_putsAll_52 : decode cX12_putsAll 52 = .ok (.istore_n 3, 1) := by decide +kernel
theorem dX12_putsAll_53 : decode cX12_putsAll 53 = .ok (.iload_n 3, 1) := by decide +kernel
theorem dX12_putsAll_54 : decode cX12_putsAll 54 = .ok (.bipush 16, 2) := by decide +kernel
theorem dX12_putsAll_56 : decode cX12_putsAll 56 = .ok (.if_icmp .ge 49, 3) := by decide +kernel
theorem dX12_putsAll_59 : decode cX12_putsAll 59 = .ok (.iconst 0, 1) := by decide +kernel
theorem dX12_putsAll_60 : decode cX12_putsAll 60 = .ok (.istore 4, 2) := by decide +kernel
theorem dX12_putsAll_62 : decode cX12_putsAll 62 = .ok (.iload 4, 2) := by decide +kernel
theorem dX12_putsAll_64 : decode cX12_putsAll 64 = .ok (.bipush 26, 2) := by decide +kernel
theorem dX12_putsAll_66 : decode cX12_putsAll 66 = .ok (.if_icmp .ge 33, 3) := by decide +kernel
theorem dX12_putsAll_69 : decode cX12_putsAll 69 = .ok (.aload_n 0, 1) := by decide +kernel
theorem dX12_putsAll_70 : decode cX12_putsAll 70 = .ok (.getfield 67, 3) := by decide +kernel
theorem dX12_putsAll_73 : decode cX12_putsAll 73 = .ok (.iload_n 3, 1) := by decide +kernel
theorem dX12_putsAll_74 : decode cX12_putsAll 74 = .ok (.aaload, 1) := by decide +kernel
theorem dX12_putsAll_75 : decode cX12_putsAll 75 = .ok (.iload 4, 2) := by decide +kernel
theorem dX12_putsAll_77 : decode cX12_putsAll 77 = .ok (.aload_n 0, 1) := by decide +kernel
theorem dX12_putsAll_78 : decode cX12_putsAll 78 = .ok (.aload_n 1, 1) := by decide +kernel
theorem dX12_putsAll_79 : decode cX12_putsAll 79 = .ok (.aload_n 0, 1) := by decide +kernel
theorem dX12_putsAll_80 : decode cX12_putsAll 80 = .ok (.getfield 67, 3) := by decide +kernel
theorem dX12_putsAll_83 : decode cX12_putsAll 83 = .ok (.iload_n 3, 1) := by decide +kernel
theorem dX12_putsAll_84 : decode cX12_putsAll 84 = .ok (.aaload, 1) := by decide +kernel
theorem dX12_putsAll_85 : decode cX12_putsAll 85 = .ok (.iload 4, 2) := by decide +kernel
theorem dX12_putsAll_87 : decode cX12_putsAll 87 = .ok (.iaload, 1) := by decide +kernel
theorem dX12_putsAll_88 : decode cX12_putsAll 88 = .ok (.iload_n 2, 1) := by decide +kernel
theorem dX12_putsAll_89 : decode cX12_putsAll 89 = .ok (.invokevirtual 418, 3) := by decide +kernel
theorem dX12_putsAll_92 : decode cX12_putsAll 92 = .ok (.iastore, 1) := by decide +kernel
theorem dX12_putsAll_93 : decode cX12_putsAll 93 = .ok (.iinc 4 1, 3) := by decide +kernel
theorem dX12_putsAll_96 : decode cX12_putsAll 96 = .ok (.goto (-34), 3) := by decide +kernel
theorem dX12_putsAll_99 : decode cX12_putsAll 99 = .ok (.iinc 3 1, 3) := by decide +kernel
theorem dX12_putsAll_102 : decode cX12_putsAll 102 = .ok (.goto (-49), 3) := by decide +kernel
theorem dX12_putsAll_105 : decode cX12_putsAll 105 = .ok (.return_, 1) := by decide +kernel
theorem dX12_image_0 : decode cX12_image 0 = .ok (.aload_n 0, 1) := by decide +kernel
theorem dX12_image_1 : decode cX12_image 1 = .ok (.iconst 0, 1) := by decide +kernel
theorem dX12_image_2 : decode cX12_image 2 = .ok (.putfield 98, 3) := by decide +kernel
theorem dX12_image_5 : decode cX12_image 5 = .ok (.aload_n 0, 1) := by decide +kernel
theorem dX12_image_6 : decode cX12_image 6 = .ok (.getfield 203, 3) := by decide +kernel
theorem dX12_image_9 : decode cX12_image 9 = .ok (.iconst 3, 1) := by decide +kernel
theorem dX12_image_10 : decode cX12_image 10 = .ok (.if_icmp .ne 5, 3) := by decide +kernel
theorem dX12_image_13 : decode cX12_image 13 = .ok (.iconst (-1), 1) := by decide +kernel
theorem dX12_image_14 : decode cX12_image 14 = .ok (.ireturn, 1) := by decide +kernel
theorem dX12_image_15 : decode cX12_image 15 = .ok (.aload_n 0, 1) := by decide +kernel
theorem dX12_image_16 : decode cX12_image 16 = .ok (.aload_n 0, 1) := by decide +kernel
theorem dX12_image_17 : decode cX12_image 17 = .ok (.getfield 70, 3) := by decide +kernel
theorem dX12_image_20 : decode cX12_image 20 = .ok (.aload_n 0, 1) := by decide +kernel
theorem dX12_image_21 : decode cX12_image 21 = .ok (.getfield 203, 3) := by decide +kernel
theorem dX12_image_24 : decode cX12_image 24 = .ok (.aaload, 1) := by decide +kernel
theorem dX12_image_25 : decode cX12_image 25 = .ok (.iconst 0, 1) := by decide +kernel
theorem dX12_image_26 : decode cX12_image 26 = .ok (.invokevirtual 421, 3) := by decide +kernel
theorem dX12_image_29 : decode cX12_image 29 = .ok (.aload_n 0, 1) := by decide +kernel
theorem dX12_image_30 : decode cX12_image 30 = .ok (.dup, 1) := by decide +kernel
theorem dX12_image_31 : decode cX12_image 31 = .ok (.getfield 203, 3) := by decide +kernel
theorem dX12_image_34 : decode cX12_image 34 = .ok (.iconst 1, 1) := by decide +kernel
theorem dX12_image_35 : decode cX12_image 35 = .ok (.iadd, 1) := by decide +kernel
theorem dX12_image_36 : decode cX12_image 36 = .ok (.putfield 203, 3) := by decide +kernel
theorem dX12_image_39 : decode cX12_image 39 = .ok (.aload_n 0, 1) := by decide +kernel
theorem dX12_image_40 : decode cX12_image 40 = .ok (.getfield 203, 3) := by decide +kernel
theorem dX12_image_43 : decode cX12_image 43 = .ok (.ireturn, 1) := by decide +kernel
theorem dX12_restore_0 : decode cX12_restore 0 = .ok (.aload_n 0, 1) := by decide +kernel
theorem dX12_restore_1 : decode cX12_restore 1 = .ok (.iconst 0, 1) := by decide +kernel
theorem dX12_restore_2 : decode cX12_restore 2 = .ok (.putfield 98, 3) := by decide +kernel
theorem dX12_restore_5 : decode cX12_restore 5 = .ok (.aload_n 0, 1) := by decide +kernel
theorem dX12_restore_6 : decode cX12_restore 6 = .ok (.getfield 203, 3) := by decide +kernel
theorem dX12_restore_9 : decode cX12_restore 9 = .ok (.ifCond .ne 5, 3) := by decide +kernel
theorem dX12_restore_12 : decode cX12_restore 12 = .ok (.iconst (-1), 1) := by decide +kernel
theorem dX12_restore_13 : decode cX12_restore 13 = .ok (.ireturn, 1) := by decide +kernel
theorem dX12_restore_14 : decode cX12_restore 14 = .ok (.aload_n 0, 1) := by decide +kernel
theorem dX12_restore_15 : decode cX12_restore 15 = .ok (.dup, 1) := by decide +kernel
theorem dX12_restore_16 : decode cX12_restore 16 = .ok (.getfield 203, 3) := by decide +kernel
theorem dX12_restore_19 : decode cX12_restore 19 = .ok (.iconst 1, 1) := by decide +kernel
theorem dX12_restore_20 : decode cX12_restore 20 = .ok (.isub, 1) := by decide +kernel
theorem dX12_restore_21 : decode cX12_restore 21 = .ok (.putfield 203, 3) := by decide +kernel
theorem dX12_restore_24 : decode cX12_restore 24 = .ok (.aload_n 0, 1) := by decide +kernel
theorem dX12_restore_25 : decode cX12_restore 25 = .ok (.aload_n 0, 1) := by decide +kernel
theorem dX12_restore_26 : decode cX12_restore 26 = .ok (.getfield 70, 3) := by decide +kernel
theorem dX12_restore_29 : decode cX12_restore 29 = .ok (.aload_n 0, 1) := by decide +kernel
theorem dX12_restore_30 : decode cX12_restore 30 = .ok (.getfield 203, 3) := by decide +kernel
theorem dX12_restore_33 : decode cX12_restore 33 = .ok (.aaload, 1) := by decide +kernel
theorem dX12_restore_34 : decode cX12_restore 34 = .ok (.iconst 1, 1) := by decide +kernel
theorem dX12_restore_35 : decode cX12_restore 35 = .ok (.invokevirtual 421, 3) := by decide +kernel
theorem dX12_restore_38 : decode cX12_restore 38 = .ok (.aload_n 0, 1) := by decide +kernel
theorem dX12_restore_39 : decode cX12_restore 39 = .ok (.iconst 0, 1) := by decide +kernel
theorem dX12_restore_40 : decode cX12_restore 40 = .ok (.putfield 200, 3) := by decide +kernel
theorem dX12_restore_43 : decode cX12_restore 43 = .ok (.aload_n 0, 1) := by decide +kernel
theorem dX12_restore_44 : decode cX12_restore 44 = .ok (.getfield 203, 3) := by decide +kernel
theorem dX12_restore_47 : decode cX12_restore 47 = .ok (.ireturn, 1) := by decide +kernel
theorem dX12_status_0 : decode cX12_status 0 = .ok (.aload_n 0, 1) := by decide +kernel
theorem dX12_status_1 : decode cX12_status 1 = .ok (.iconst 0, 1) := by decide +kernel
theorem dX12_status_2 : decode cX12_status 2 = .ok (.putfield 98, 3) := by decide +kernel
theorem dX12_status_5 : decode cX12_status 5 = .ok (.iload_n 1, 1) := by decide +kernel
theorem dX12_status_6 : decode cX12_status 6 = .ok (.iconst 0, 1) := by decide +kernel
theorem dX12_status_7 : decode cX12_status 7 = .ok (.iconst 1, 1) := by decide +kernel
theorem dX12_status_8 : decode cX12_status 8 = .ok (.invokestatic 132, 3) := by decide +kernel
theorem dX12_status_11 : decode cX12_status 11 = .ok (.ifCond .eq 12, 3) := by decide +kernel
theorem dX12_status_14 : decode cX12_status 14 = .ok (.aload_n 0, 1) := by decide +kernel
theorem dX12_status_15 : decode cX12_status 15 = .ok (.getfield 17, 3) := by decide +kernel
theorem dX12_status_18 : decode cX12_status 18 = .ok (.iload_n 1, 1) := by decide +kernel
theorem dX12_status_19 : decode cX12_status 19 = .ok (.iaload, 1) := by decide +kernel
theorem dX12_status_20 : decode cX12_status 20 = .ok (.goto 4, 3) := by decide +kernel
theorem dX12_status_23 : decode cX12_status 23 = .ok (.iconst (-1), 1) := by decide +kernel
theorem dX12_status_24 : decode cX12_status 24 = .ok (.ireturn, 1) := by decide +kernel
theorem dX12_count_0 : decode cX12_count 0 = .ok (.aload_n 0, 1) := by decide +kernel
theorem dX12_count_1 : decode cX12_count 1 = .ok (.iconst 0, 1) := by decide +kernel
theorem dX12_count_2 : decode cX12_count 2 = .ok (.putfield 98, 3) := by decide +kernel
theorem dX12_count_5 : decode cX12_count 5 = .ok (.iload_n 1, 1) := by decide +kernel
theorem dX12_count_6 : decode cX12_count 6 = .ok (.ifCond .ne 10, 3) := by decide +kernel
theorem dX12_count_9 : decode cX12_count 9 = .ok (.aload_n 0, 1) := by decide +kernel
theorem dX12_count_10 : decode cX12_count 10 = .ok (.getfield 203, 3) := by decide +kernel
theorem dX12_count_13 : decode cX12_count 13 = .ok (.goto 28, 3) := by decide +kernel
theorem dX12_count_16 : decode cX12_count 16 = .ok (.iload_n 1, 1) := by decide +kernel
theorem dX12_count_17 : decode cX12_count 17 = .ok (.iconst 1, 1) := by decide +kernel
theorem dX12_count_18 : decode cX12_count 18 = .ok (.if_icmp .ne 10, 3) := by decide +kernel
theorem dX12_count_21 : decode cX12_count 21 = .ok (.aload_n 0, 1) := by decide +kernel
theorem dX12_count_22 : decode cX12_count 22 = .ok (.getfield 101, 3) := by decide +kernel
theorem dX12_count_25 : decode cX12_count 25 = .ok (.goto 16, 3) := by decide +kernel
theorem dX12_count_28 : decode cX12_count 28 = .ok (.iload_n 1, 1) := by decide +kernel
theorem dX12_count_29 : decode cX12_count 29 = .ok (.iconst 2, 1) := by decide +kernel
theorem dX12_count_30 : decode cX12_count 30 = .ok (.if_icmp .ne 10, 3) := by decide +kernel
theorem dX12_count_33 : decode cX12_count 33 = .ok (.aload_n 0, 1) := by decide +kernel
theorem dX12_count_34 : decode cX12_count 34 = .ok (.getfield 197, 3) := by decide +kernel
theorem dX12_count_37 : decode cX12_count 37 = .ok (.goto 4, 3) := by decide +kernel
theorem dX12_count_40 : decode cX12_count 40 = .ok (.iconst (-1), 1) := by decide +kernel
theorem dX12_count_41 : decode cX12_count 41 = .ok (.ireturn, 1) := by decide +kernel
end
section
/-! THE BASE: one world for a side, of a shape that never changes; its data: g (ints by place and slot), x (longs) -/
abbrev St : Type := Nat → Nat → Int32
abbrev Sl : Type := Nat → Nat → Int64
def st (g : St) (p i : Nat) (v : Int32) : St := fun a => if a = p then upd (g a) i v else g a
def sl (x : Sl) (p i : Nat) (v : Int64) : Sl := fun a => if a = p then vp_updL (x a) i v else x a
theorem st_at (g : St) (p i : Nat) (v : Int32) (a b : Nat) : st g p i v a b = if a = p ∧ b = i then v else g a b := by
  unfold st upd
  by_cases h1 : a = p
  · by_cases h2 : b = i
    · simp [h1, h2]
    · simp [h1, h2]
  · simp [h1]
theorem st_eq (g : St) (p i : Nat) (v : Int32) : st g p i v p i = v := by rw [st_at, if_pos ⟨rfl, rfl⟩]
theorem sl_at (g : Sl) (p i : Nat) (v : Int64) (a b : Nat) : sl g p i v a b = if a = p ∧ b = i then v else g a b := by
  unfold sl vp_updL
  by_cases h1 : a = p
  · by_cases h2 : b = i
    · simp [h1, h2]
    · simp [h1, h2]
  · simp [h1]
/-- a loop: the body goes on, or is done -/
def lp {σ ρ : Type} (f : σ → Option (σ ⊕ ρ)) : Nat → σ → Option ρ
  | 0, _ => none
  | n + 1, s => (f s).bind fun z => match z with
    | .inl t => lp f n t
    | .inr r => some r
theorem lp_run {σ ρ : Type} {f : σ → Option (σ ⊕ ρ)} {P : σ → Prop} {E : ρ → Prop} (h : ∀ s z, f s = some z → (∀ t, z = .inl t → P t) → (∀ r, z = .inr r → E r) → P s) : ∀ (n : Nat) (s : σ) (r : ρ), lp f n s = some r → E r → P s := by
  intro n
  induction n with
  | zero => intro s r h0; cases h0
  | succ n ih =>
    intro s r h0 hE
    unfold lp at h0
    obtain ⟨z, hz, h1⟩ := Option.bind_eq_some_iff.mp h0
    refine h s z hz (fun t ht => ?_) (fun r' hr => ?_)
    · subst ht
      exact ih t r h1 hE
    · subst hr
      cases h1
      exact hE
theorem iteT {α : Type} {p : Prop} [Decidable p] {a b r : α} (c : p) (h : (if p then a else b) = r) : a = r := by rwa [if_pos c] at h
theorem iteF {α : Type} {p : Prop} [Decidable p] {a b r : α} (c : ¬ p) (h : (if p then a else b) = r) : b = r := by rwa [if_neg c] at h
theorem grd {α : Type} {p : Prop} [Decidable p] {a : Option α} {o : α} (h : (if p then a else none) = some o) : p ∧ a = some o := by
  by_cases c : p
  · exact ⟨c, by rwa [if_pos c] at h⟩
  · rw [if_neg c] at h; cases h
theorem bnd {α β : Type} {a : Option α} {f : α → Option β} {o : β} (h : a.bind f = some o) : ∃ r, a = some r ∧ f r = some o := Option.bind_eq_some_iff.mp h
/-- a shape: how many places; of a place: its kind (0 ints, 1 longs, 2 a row of rows, 3 an object), its length or its class, an object's fields (0 an int, else the place, and 1, that it points to), a grid's first row -/
abbrev Sh : Type := Nat × (Nat → Nat) × (Nat → Nat) × (Nat → Nat → Nat) × (Nat → Nat)
abbrev cT : Type := ClassId × ClassId × ClassId
def tysW (T : cT) : List (ClassId × FieldType) := [(T.1, .int), (T.2.1, .long), (T.2.2, .array .int)]
/-- how many fields an object of a class has -/
def nfW (c : Nat) : Nat := match vwCl[c]? with
  | some q => q.2.2
  | none => 0
def fldW (h : Sh) (ad : Nat → Nat) (g : St) (k : Nat) : List Value := (List.range (nfW (h.2.2.1 k))).map (fun j => match h.2.2.2.1 k j with
  | 0 => .int (g k j)
  | q + 1 => .ref (ad q))
def celW (h : Sh) (T : cT) (ad : Nat → Nat) (x : Sl) (g : St) (k : Nat) : va_E := match h.2.1 k with
  | 0 => .inl (T.1, h.2.2.1 k, .inl (g k))
  | 1 => .inl (T.2.1, h.2.2.1 k, .inr (.inl (x k)))
  | 2 => .inl (T.2.2, h.2.2.1 k, .inr (.inr (.inr (.inr (fun i => if i < h.2.2.1 k then some (ad (h.2.2.2.2 k + i)) else none)))))
  | _ => .inr (h.2.2.1 k, fldW h ad g k)
def wW (h : Sh) (T : cT) (ad : Nat → Nat) (x : Sl) (g : St) : va_W := (List.range h.1).map (fun k => (ad k, celW h T ad x g k))
theorem celW_0 {h : Sh} {T : cT} {ad : Nat → Nat} {x : Sl} {g : St} {k : Nat} (hk : h.2.1 k = 0) : celW h T ad x g k = .inl (T.1, h.2.2.1 k, .inl (g k)) := by simp only [celW, hk]
theorem celW_1 {h : Sh} {T : cT} {ad : Nat → Nat} {x : Sl} {g : St} {k : Nat} (hk : h.2.1 k = 1) : celW h T ad x g k = .inl (T.2.1, h.2.2.1 k, .inr (.inl (x k))) := by simp only [celW, hk]
theorem celW_2 {h : Sh} {T : cT} {ad : Nat → Nat} {x : Sl} {g : St} {k : Nat} (hk : h.2.1 k = 2) : celW h T ad x g k = .inl (T.2.2, h.2.2.1 k, .inr (.inr (.inr (.inr (fun i => if i < h.2.2.1 k then some (ad (h.2.2.2.2 k + i)) else none))))) := by simp only [celW, hk]
theorem celW_3 {h : Sh} {T : cT} {ad : Nat → Nat} {x : Sl} {g : St} {k : Nat} (hk : h.2.1 k = 3) : celW h T ad x g k = .inr (h.2.2.1 k, fldW h ad g k) := by simp only [celW, hk]
/-- an int array's length (0: the place is none) -/
def lenW (h : Sh) (k : Nat) : Nat := if k < h.1 ∧ h.2.1 k = 0 then h.2.2.1 k else 0
def lnlW (h : Sh) (k : Nat) : Nat := if k < h.1 ∧ h.2.1 k = 1 then h.2.2.1 k else 0
def lngW (h : Sh) (k : Nat) : Nat := if k < h.1 ∧ h.2.1 k = 2 then h.2.2.1 k else 0
theorem wW_at {h : Sh} {T : cT} {ad : Nat → Nat} {x : Sl} {g : St} {k : Nat} (hk : k < h.1) : (wW h T ad x g)[k]? = some (ad k, celW h T ad x g k) := by
  unfold wW
  rw [List.getElem?_map, List.getElem?_range hk]
  rfl
theorem wW_len {h : Sh} {T : cT} {ad : Nat → Nat} {x : Sl} {g : St} : (wW h T ad x g).length = h.1 := by
  unfold wW
  rw [List.length_map, List.length_range]
theorem wW_ext {h : Sh} {T : cT} {ad : Nat → Nat} {x x' : Sl} {g g' : St} {p : Nat} {e : va_E} (hp : p < h.1) (he : e = celW h T ad x' g' p) (ho : ∀ k, k ≠ p → celW h T ad x g k = celW h T ad x' g' k) : (wW h T ad x g).set p (ad p, e) = wW h T ad x' g' := by
  apply List.ext_getElem?
  intro k
  by_cases hk : k < h.1
  · rw [wW_at hk]
    by_cases e0 : p = k
    · subst e0
      rw [List.getElem?_set_self (by rw [wW_len]; exact hp), he]
    · rw [List.getElem?_set_ne e0, wW_at hk, ho k (fun q => e0 q.symm)]
  · rw [List.getElem?_eq_none (by rw [List.length_set, wW_len]; omega), List.getElem?_eq_none (by rw [wW_len]; omega)]
theorem celW_st {h : Sh} {T : cT} {ad : Nat → Nat} {x : Sl} {g : St} {p i : Nat} {v : Int32} {k : Nat} (hk : k ≠ p) : celW h T ad x g k = celW h T ad x (st g p i v) k := by
  have e : st g p i v k = g k := by unfold st; rw [if_neg hk]
  unfold celW fldW
  rw [e]
theorem celW_sl {h : Sh} {T : cT} {ad : Nat → Nat} {x : Sl} {g : St} {p i : Nat} {v : Int64} {k : Nat} (hk : k ≠ p) : celW h T ad x g k = celW h T ad (sl x p i v) g k := by
  have e : sl x p i v k = x k := by unfold sl; rw [if_neg hk]
  unfold celW
  rw [e]
theorem wW_A {h : Sh} {T : cT} {ad : Nat → Nat} {x x' : Sl} {g g' : St} {sz : Nat} {q : Nat} (hq : va_A (wW h T ad x g) sz q) : va_A (wW h T ad x' g') sz q := by
  rcases hq with ⟨k, e, hk⟩ | hq
  · have hl := (List.getElem?_eq_some_iff.mp hk).1
    rw [wW_len] at hl
    rw [wW_at hl] at hk
    cases hk
    exact Or.inl ⟨k, _, wW_at hl⟩
  · exact Or.inr hq
/-- the world of a side at a heap: its cells; they are apart, and the method's own; what was written since its start -/
def mW (h : Sh) (D : va_G) (T : cT) (ad : Nat → Nat) (A : Nat → Prop) (s : State) (x : Sl) (g : St) (H : Heap) (locs : List Loc) : Prop :=
  va_P D vwCl (wW h T ad x g) H ∧ va_D A (wW h T ad x g) ∧ va_S A s.heap H locs ∧ ∀ q : Nat, s.heap.size ≤ q → A q
def wPre (h : Sh) (D : va_G) (T : cT) (ad : Nat → Nat) (x : Sl) (g : St) (sz : Nat) : State → Prop := fun U => U.heap.size = sz ∧ va_P D vwCl (wW h T ad x g) U.heap ∧ va_K D vwCl (tysW T) U ∧ va_D (fun _ => True) (wW h T ad x g)
def wPost (h : Sh) (D : va_G) (T : cT) (ad : Nat → Nat) (A : Nat → Prop) : St × Sl → State → Prop := fun u t => va_P D vwCl (wW h T ad u.2 u.1) t.heap ∧ va_K D vwCl (tysW T) t ∧ va_D A (wW h T ad u.2 u.1)
abbrev aW (h : Sh) (T : cT) (ad : Nat → Nat) (x : Sl) (g : St) (sz : Nat) : Nat → Prop := va_A (wW h T ad x g) sz
theorem wPre_blind {h : Sh} {D : va_G} {T : cT} {ad : Nat → Nat} {x : Sl} {g : St} {sz : Nat} {av : List Value} : FrameBlind (va_Pc av (wPre h D T ad x g sz)) := fun a U f mk q => by
  obtain ⟨q0, q1, qP, qK, qD⟩ := q
  exact ⟨q0, q1, qP, va_K.moved (u := U) (U := U.calling f mk a) (Vm.Alike.refl U.vm) qK, qD⟩
section BASE
variable {p : Program} {l : Launch} {e : Env} {R : Room} {s : State} {m : MethodId} {args : Array Value} {below : List Frame} {meth : Method} {c : Code} {H : Heap} {locs : List Loc} {cells slots : Nat} {Q : State → Prop}
variable {h : Sh} {D : va_G} {T : cT} {ad : Nat → Nat} {A : Nat → Prop} {x : Sl} {g : St} {cc : ByteArray} {nL : Nat} {Ts : List Cond} {own : String} {pc : Nat} {ls : Array Slot} {rest : List Value}
theorem mW.lt (hw : mW h D T ad A s x g H locs) {k : Nat} (hk : k < h.1) : ad k < H.size := (hw.1 k _ (wW_at hk)).lt
theorem w_ald (C : CallFix p m c cc nL s args Ts own) (hK : va_K D vwCl (tysW T) s) (hw : mW h D T ad A s x g H locs) {k : Nat} {i : Int32} (hi : ¬ (i < 0 ∨ lenW h k ≤ i.toNatClampNeg)) {v : Int32} (hv : g k i.toNatClampNeg = v) (hdg : decode cc pc = .ok (.iaload, 1))
    (kk : W p l e R s m args below meth c H locs cells slots Q (F0 m (pc + 1) ls (.int v :: rest))) : W p l e R s m args below meth c H locs cells slots Q (F0 m pc ls (.int i :: .ref (ad k) :: rest)) := by
  subst hv
  by_cases hk : k < h.1 ∧ h.2.1 k = 0
  · have hl : lenW h k = h.2.2.1 k := by unfold lenW; rw [if_pos hk]
    rw [hl] at hi
    refine va_iald (f := g k) C.1 C.2.1 hK hw.1 k 0 (cA := T.1) (n := h.2.2.1 k) ?_ rfl hi hdg kk
    rw [wW_at hk.1, celW_0 hk.2]
  · have hl : lenW h k = 0 := by unfold lenW; rw [if_neg hk]
    exact absurd (Or.inr (by rw [hl]; exact Nat.zero_le _)) hi
theorem w_ast (C : CallFix p m c cc nL s args Ts own) (hK : va_K D vwCl (tysW T) s) (hw : mW h D T ad A s x g H locs) {k : Nat} {i v : Int32} (hi : ¬ (i < 0 ∨ lenW h k ≤ i.toNatClampNeg)) (hdg : decode cc pc = .ok (.iastore, 1))
    (kk : ∀ (H1 : Heap) (locs1 : List Loc), mW h D T ad A s x (st g k i.toNatClampNeg v) H1 locs1 → W p l e R s m args below meth c H1 locs1 cells slots Q (F0 m (pc + 1) ls rest)) : W p l e R s m args below meth c H locs cells slots Q (F0 m pc ls (.int v :: .int i :: .ref (ad k) :: rest)) := by
  by_cases hk : k < h.1 ∧ h.2.1 k = 0
  · have hl : lenW h k = h.2.2.1 k := by unfold lenW; rw [if_pos hk]
    rw [hl] at hi
    obtain ⟨hP, hD, hS, hA⟩ := hw
    have hc : ∀ (xx : Sl) (gg : St), celW h T ad xx gg k = .inl (T.1, h.2.2.1 k, .inl (gg k)) := fun xx gg => celW_0 hk.2
    refine va_iast (f := g k) C.1 C.2.1 hK hP hD hS k 0 (cA := T.1) (n := h.2.2.1 k) (by rw [wW_at hk.1, hc]) rfl hi hdg (fun H1 locs1 hP1 hD1 hS1 => ?_)
    have he : (wW h T ad x g).set k (ad k, .inl (T.1, h.2.2.1 k, .inl (upd (g k) i.toNatClampNeg v))) = wW h T ad x (st g k i.toNatClampNeg v) :=
      wW_ext hk.1 (by rw [hc]; unfold st; rw [if_pos rfl]) (fun j hj => celW_st hj)
    rw [he] at hP1 hD1
    exact kk H1 locs1 ⟨hP1, hD1, hS1, hA⟩
  · have hl : lenW h k = 0 := by unfold lenW; rw [if_neg hk]
    exact absurd (Or.inr (by rw [hl]; exact Nat.zero_le _)) hi
theorem w_lald (C : CallFix p m c cc nL s args Ts own) (hK : va_K D vwCl (tysW T) s) (hw : mW h D T ad A s x g H locs) {k : Nat} {i : Int32} (hi : ¬ (i < 0 ∨ lnlW h k ≤ i.toNatClampNeg)) {v : Int64} (hv : x k i.toNatClampNeg = v) (hdg : decode cc pc = .ok (.laload, 1))
    (kk : W p l e R s m args below meth c H locs cells slots Q (F0 m (pc + 1) ls (.long v :: rest))) : W p l e R s m args below meth c H locs cells slots Q (F0 m pc ls (.int i :: .ref (ad k) :: rest)) := by
  subst hv
  by_cases hk : k < h.1 ∧ h.2.1 k = 1
  · have hl : lnlW h k = h.2.2.1 k := by unfold lnlW; rw [if_pos hk]
    rw [hl] at hi
    refine va_lald (f := x k) C.1 C.2.1 hK hw.1 k 1 (cA := T.2.1) (n := h.2.2.1 k) ?_ rfl hi hdg kk
    rw [wW_at hk.1, celW_1 hk.2]
  · have hl : lnlW h k = 0 := by unfold lnlW; rw [if_neg hk]
    exact absurd (Or.inr (by rw [hl]; exact Nat.zero_le _)) hi
theorem w_last (C : CallFix p m c cc nL s args Ts own) (hK : va_K D vwCl (tysW T) s) (hw : mW h D T ad A s x g H locs) {k : Nat} {i : Int32} {v : Int64} (hi : ¬ (i < 0 ∨ lnlW h k ≤ i.toNatClampNeg)) (hdg : decode cc pc = .ok (.lastore, 1))
    (kk : ∀ (H1 : Heap) (locs1 : List Loc), mW h D T ad A s (sl x k i.toNatClampNeg v) g H1 locs1 → W p l e R s m args below meth c H1 locs1 cells slots Q (F0 m (pc + 1) ls rest)) : W p l e R s m args below meth c H locs cells slots Q (F0 m pc ls (.long v :: .int i :: .ref (ad k) :: rest)) := by
  by_cases hk : k < h.1 ∧ h.2.1 k = 1
  · have hl : lnlW h k = h.2.2.1 k := by unfold lnlW; rw [if_pos hk]
    rw [hl] at hi
    obtain ⟨hP, hD, hS, hA⟩ := hw
    have hc : ∀ (xx : Sl) (gg : St), celW h T ad xx gg k = .inl (T.2.1, h.2.2.1 k, .inr (.inl (xx k))) := fun xx gg => celW_1 hk.2
    refine va_last (f := x k) C.1 C.2.1 hK hP hD hS k 1 (cA := T.2.1) (n := h.2.2.1 k) (by rw [wW_at hk.1, hc]) rfl hi hdg (fun H1 locs1 hP1 hD1 hS1 => ?_)
    have he : (wW h T ad x g).set k (ad k, .inl (T.2.1, h.2.2.1 k, .inr (.inl (vp_updL (x k) i.toNatClampNeg v)))) = wW h T ad (sl x k i.toNatClampNeg v) g :=
      wW_ext hk.1 (by rw [hc]; unfold sl; rw [if_pos rfl]) (fun j hj => celW_sl hj)
    rw [he] at hP1 hD1
    exact kk H1 locs1 ⟨hP1, hD1, hS1, hA⟩
  · have hl : lnlW h k = 0 := by unfold lnlW; rw [if_neg hk]
    exact absurd (Or.inr (by rw [hl]; exact Nat.zero_le _)) hi
theorem w_aald (C : CallFix p m c cc nL s args Ts own) (hK : va_K D vwCl (tysW T) s) (hw : mW h D T ad A s x g H locs) {k : Nat} {i : Int32} (hi : ¬ (i < 0 ∨ lngW h k ≤ i.toNatClampNeg)) (hdg : decode cc pc = .ok (.aaload, 1))
    (kk : W p l e R s m args below meth c H locs cells slots Q (F0 m (pc + 1) ls (.ref (ad (h.2.2.2.2 k + i.toNatClampNeg)) :: rest))) : W p l e R s m args below meth c H locs cells slots Q (F0 m pc ls (.int i :: .ref (ad k) :: rest)) := by
  by_cases hk : k < h.1 ∧ h.2.1 k = 2
  · have hl : lngW h k = h.2.2.1 k := by unfold lngW; rw [if_pos hk]
    rw [hl] at hi
    have hlt : i.toNatClampNeg < h.2.2.1 k := Nat.not_le.mp fun q => hi (Or.inr q)
    have hc : celW h T ad x g k = .inl (T.2.2, h.2.2.1 k, .inr (.inr (.inr (.inr (fun i => if i < h.2.2.1 k then some (ad (h.2.2.2.2 k + i)) else none))))) := celW_2 hk.2
    have hat : H[ad k]? = some (vp_cell T.2.2 (h.2.2.1 k, .inr (.inr (.inr (.inr (fun i => if i < h.2.2.1 k then some (ad (h.2.2.2.2 k + i)) else none)))))) := hw.1 k (ad k, .inl (T.2.2, h.2.2.1 k, .inr (.inr (.inr (.inr (fun i => if i < h.2.2.1 k then some (ad (h.2.2.2.2 k + i)) else none)))))) (by rw [wW_at hk.1, hc])
    refine W.aald (v := .ref (ad (h.2.2.2.2 k + i.toNatClampNeg))) (ty := .array .int) C.1 C.2.1 hat ((hK.2 2 _ rfl).1 (h.2.2.1 k) (fun j => va_rf (if j < h.2.2.1 k then some (ad (h.2.2.2.2 k + j)) else none))) rfl (fun q => by cases q) (by show ¬ (i < 0 ∨ (arrV _ _ _).slots.size ≤ _); rw [arrV_size]; exact hi) (by show (arrV _ _ _).slots[_]? = _; rw [arrV_read _ _ hlt]; simp only [if_pos hlt, va_rf]) rfl rfl hdg kk
  · have hl : lngW h k = 0 := by unfold lngW; rw [if_neg hk]
    exact absurd (Or.inr (by rw [hl]; exact Nat.zero_le _)) hi
theorem w_alen (C : CallFix p m c cc nL s args Ts own) (hK : va_K D vwCl (tysW T) s) (hw : mW h D T ad A s x g H locs) {k : Nat} (hi : 0 < lenW h k) (hdg : decode cc pc = .ok (.arraylength, 1))
    (kk : W p l e R s m args below meth c H locs cells slots Q (F0 m (pc + 1) ls (.int (Int32.ofNat (lenW h k)) :: rest))) : W p l e R s m args below meth c H locs cells slots Q (F0 m pc ls (.ref (ad k) :: rest)) := by
  by_cases hk : k < h.1 ∧ h.2.1 k = 0
  · have hl : lenW h k = h.2.2.1 k := by unfold lenW; rw [if_pos hk]
    refine va_alen C.1 C.2.1 hK hw.1 k 0 (cA := T.1) (x := (h.2.2.1 k, .inl (g k))) ?_ (ty := .int) rfl (by rw [hl]) hdg kk
    rw [wW_at hk.1, celW_0 hk.2]
  · rw [show lenW h k = 0 by unfold lenW; rw [if_neg hk]] at hi
    exact absurd hi (Nat.lt_irrefl 0)
theorem w_alenl (C : CallFix p m c cc nL s args Ts own) (hK : va_K D vwCl (tysW T) s) (hw : mW h D T ad A s x g H locs) {k : Nat} (hi : 0 < lnlW h k) (hdg : decode cc pc = .ok (.arraylength, 1))
    (kk : W p l e R s m args below meth c H locs cells slots Q (F0 m (pc + 1) ls (.int (Int32.ofNat (lnlW h k)) :: rest))) : W p l e R s m args below meth c H locs cells slots Q (F0 m pc ls (.ref (ad k) :: rest)) := by
  by_cases hk : k < h.1 ∧ h.2.1 k = 1
  · have hl : lnlW h k = h.2.2.1 k := by unfold lnlW; rw [if_pos hk]
    refine va_alen C.1 C.2.1 hK hw.1 k 1 (cA := T.2.1) (x := (h.2.2.1 k, .inr (.inl (x k)))) ?_ (ty := .long) rfl (by rw [hl]) hdg kk
    rw [wW_at hk.1, celW_1 hk.2]
  · rw [show lnlW h k = 0 by unfold lnlW; rw [if_neg hk]] at hi
    exact absurd hi (Nat.lt_irrefl 0)

theorem fldW_int {k j : Nat} (hj : j < nfW (h.2.2.1 k)) (hr : h.2.2.2.1 k j = 0) : (fldW h ad g k)[j]? = some (.int (g k j)) := by
  unfold fldW
  rw [List.getElem?_map, List.getElem?_range hj]
  simp only [Option.map_some, hr]
theorem fldW_ref {k j q : Nat} (hj : j < nfW (h.2.2.1 k)) (hr : h.2.2.2.1 k j = q + 1) : (fldW h ad g k)[j]? = some (.ref (ad q)) := by
  unfold fldW
  rw [List.getElem?_map, List.getElem?_range hj]
  simp only [Option.map_some, hr]
theorem fldW_set {k j : Nat} {v : Int32} (hj : j < nfW (h.2.2.1 k)) (hr : h.2.2.2.1 k j = 0) : (fldW h ad g k).set j (.int v) = fldW h ad (st g k j v) k := by
  apply List.ext_getElem?
  intro i
  by_cases hi : i < nfW (h.2.2.1 k)
  · by_cases e : j = i
    · subst e
      rw [List.getElem?_set_self (by unfold fldW; rw [List.length_map, List.length_range]; exact hj), fldW_int hj hr, st_eq]
    · rw [List.getElem?_set_ne e]
      unfold fldW
      rw [List.getElem?_map, List.getElem?_map, List.getElem?_range hi]
      have e2 : st g k j v k i = g k i := by rw [st_at, if_neg (fun q => e q.2.symm)]
      simp only [Option.map_some, e2]
  · rw [List.getElem?_eq_none (by rw [List.length_set]; unfold fldW; rw [List.length_map, List.length_range]; omega), List.getElem?_eq_none (by unfold fldW; rw [List.length_map, List.length_range]; omega)]
theorem celW_obj {k ci : Nat} (hk : k < h.1 ∧ h.2.1 k = 3 ∧ h.2.2.1 k = ci) : (wW h T ad x g)[k]? = some (ad k, .inr (ci, fldW h ad g k)) := by
  rw [wW_at hk.1, celW_3 hk.2.1, hk.2.2]
theorem w_get (C : CallFix p m c cc nL s args Ts own) (hK : va_K D vwCl (tysW T) s) (hw : mW h D T ad A s x g H locs) {k ci j N0 index : Nat} {C0 : String} {T0 : u_T} (hc : vwCl[ci]? = some (C0, T0, N0)) (hk : k < h.1 ∧ h.2.1 k = 3 ∧ h.2.2.1 k = ci) (hin : ∀ w ∈ u_ws C0 T0 N0, w ∈ Ts) (hj : j < N0) (hr : h.2.2.2.1 k j = 0) (hl : Cond.fieldLink own index (T0 j).1 (T0 j).2.1 (T0 j).2.2.1 ∈ Ts) {v : Int32} (hv : g k j = v) (hdg : decode cc pc = .ok (.getfield index, 3))
    (kk : W p l e R s m args below meth c H locs cells slots Q (F0 m (pc + 3) ls (.int v :: rest))) : W p l e R s m args below meth c H locs cells slots Q (F0 m pc ls (.ref (ad k) :: rest)) := by
  subst hv
  have hn : nfW (h.2.2.1 k) = N0 := by unfold nfW; rw [hk.2.2, hc]
  exact va_get (ref := (T0 j).1) C.1 C.2.1 C.2.2.2.2 hin C.2.2.2.1 hK hw.1 k (celW_obj hk) hc j hj (C.2.2.2.2 _ hl) (fun _ q => q) (fldW_int (by rw [hn]; exact hj) hr) hdg kk
theorem w_getr (C : CallFix p m c cc nL s args Ts own) (hK : va_K D vwCl (tysW T) s) (hw : mW h D T ad A s x g H locs) {k ci j q N0 index : Nat} {C0 : String} {T0 : u_T} (hc : vwCl[ci]? = some (C0, T0, N0)) (hk : k < h.1 ∧ h.2.1 k = 3 ∧ h.2.2.1 k = ci) (hin : ∀ w ∈ u_ws C0 T0 N0, w ∈ Ts) (hj : j < N0) (hr : h.2.2.2.1 k j = q + 1) (hl : Cond.fieldLink own index (T0 j).1 (T0 j).2.1 (T0 j).2.2.1 ∈ Ts) (hdg : decode cc pc = .ok (.getfield index, 3))
    (kk : W p l e R s m args below meth c H locs cells slots Q (F0 m (pc + 3) ls (.ref (ad q) :: rest))) : W p l e R s m args below meth c H locs cells slots Q (F0 m pc ls (.ref (ad k) :: rest)) := by
  have hn : nfW (h.2.2.1 k) = N0 := by unfold nfW; rw [hk.2.2, hc]
  exact va_get (ref := (T0 j).1) C.1 C.2.1 C.2.2.2.2 hin C.2.2.2.1 hK hw.1 k (celW_obj hk) hc j hj (C.2.2.2.2 _ hl) (fun _ q => q) (fldW_ref (by rw [hn]; exact hj) hr) hdg kk
theorem celW_put {k j ci : Nat} {v : Int32} (hk : k < h.1 ∧ h.2.1 k = 3 ∧ h.2.2.1 k = ci) (hj : j < nfW ci) (hr : h.2.2.2.1 k j = 0) : (wW h T ad x g).set k (ad k, .inr (ci, (fldW h ad g k).set j (.int v))) = wW h T ad x (st g k j v) := by
  refine wW_ext hk.1 ?_ (fun i hi => celW_st hi)
  rw [celW_3 hk.2.1, fldW_set (by rw [hk.2.2]; exact hj) hr, hk.2.2]
theorem w_put (C : CallFix p m c cc nL s args Ts own) (hK : va_K D vwCl (tysW T) s) (hw : mW h D T ad A s x g H locs) {k ci j N0 index : Nat} {C0 : String} {T0 : u_T} (hc : vwCl[ci]? = some (C0, T0, N0)) (hk : k < h.1 ∧ h.2.1 k = 3 ∧ h.2.2.1 k = ci) (hin : ∀ w ∈ u_ws C0 T0 N0, w ∈ Ts) (ty0 : Nat → FieldType) (hty : ∀ k, k < N0 → parseFieldDescriptor (T0 k).2.2.1 = some (ty0 k)) (hnm : ∀ a, a < N0 → ∀ b, b < N0 → a ≠ b → (T0 a).2.1 ≠ (T0 b).2.1) (hj : j < N0) (hr : h.2.2.2.1 k j = 0) (hl : Cond.fieldLink own index (T0 j).1 (T0 j).2.1 (T0 j).2.2.1 ∈ Ts) (hfin : (T0 j).2.2.2 = false) (hd : parseFieldDescriptor (T0 j).2.2.1 = some .int) {v : Int32} (hdg : decode cc pc = .ok (.putfield index, 3))
    (kk : ∀ (H1 : Heap) (locs1 : List Loc), mW h D T ad A s x (st g k j v) H1 locs1 → W p l e R s m args below meth c H1 locs1 cells slots Q (F0 m (pc + 3) ls rest)) : W p l e R s m args below meth c H locs cells slots Q (F0 m pc ls (.int v :: .ref (ad k) :: rest)) := by
  have hn : nfW ci = N0 := by unfold nfW; rw [hc]
  obtain ⟨hP, hD, hS, hA⟩ := hw
  refine va_put (ref := (T0 j).1) C.1 C.2.1 C.2.2.2.2 hin ty0 hty hnm C.2.2.2.1 hK hP hD hS k (celW_obj hk) hc j hj (C.2.2.2.2 _ hl) (fun _ q => q) hfin hd rfl rfl ?_ hdg (fun H1 locs1 hP1 hD1 hS1 => ?_)
  · unfold fldW
    rw [List.length_map, List.length_range, hk.2.2, hn]
    exact hj
  · rw [celW_put hk (by rw [hn]; exact hj) hr] at hP1 hD1
    exact kk H1 locs1 ⟨hP1, hD1, hS1, hA⟩

theorem w_cVi (C : CallFix p m c cc nL s args Ts own) (hK : va_K D vwCl (tysW T) s) (hw : mW h D T ad A s x g H locs) {y : MethodName} {ws ws' : List Cond} {rm : Room} {cy : ByteArray} {maxL n idx k ci N0 : Nat} {ret : Option FieldType} {As : List Value} {post : Int32 → St × Sl → Prop} {C0 : String} {T0 : u_T}
    (hM : Met l y ws rm (va_Pc (.ref (ad k) :: As) (wPre h D T ad x g H.size)) (va_Qi post (wPost h D T ad (aW h T ad x g H.size)) (aW h T ad x g H.size)) 0 0 (aW h T ad x g H.size))
    (hG : GoodIn Ts (wsV own idx C0 y ws)) (hws : ws = .code y cy maxL ret :: ws') (hd : y.cls = C0 ∧ y.cls ≠ "java/lang/invoke/MethodHandle" ∧ y.cls ≠ "java/lang/invoke/VarHandle" ∧ (parseMethodDescriptor y.desc).map (fun d => d.parameters.length) = some n) (hR : rm.frames + 1 ≤ R.frames ∧ 8 + (maxL + 11) + rm.locals ≤ R.locals) (hrm : rm.cells = 0 ∧ rm.slots = 0) (hcs : cells ≤ R.cells ∧ slots ≤ R.slots) (hc : vwCl[ci]? = some (C0, T0, N0)) (hk : k < h.1 ∧ h.2.1 k = 3 ∧ h.2.2.1 k = ci) (hn : As.length = n) {stk : List Value} (hstk : stk = As.reverse ++ .ref (ad k) :: rest) (hsz : ls.size = nL) (hcat : (rest.map fun v => v.category).sum ≤ 8) (hdg : decode cc pc = .ok (.invokevirtual idx, 3))
    (kk : ∀ (r : Int32) (u : St × Sl) (H1 : Heap) (locs1 : List Loc), post r u → mW h D T ad A s u.2 u.1 H1 locs1 → W p l e R s m args below meth c H1 locs1 cells slots Q (F0 m (pc + 3) ls (.int r :: rest))) : W p l e R s m args below meth c H locs cells slots Q (F0 m pc ls stk) := by
  subst hstk
  obtain ⟨hP, hD, hS, hA⟩ := id hw
  have hFc : ∀ q, aW h T ad x g H.size q → A q := fun q hq => by
    rcases hq with ⟨k9, e9, h9⟩ | hq
    · exact hD.2 k9 _ h9
    · exact hA q (Nat.le_trans hS.1 hq)
  have hpc : ∀ U : State, U.heap = H → s.WarmedH U.vm → va_Pc (.ref (ad k) :: As) (wPre h D T ad x g H.size) (Value.ref (ad k) :: As).toArray U := fun U hU hW => ⟨rfl, by rw [hU], by rw [hU]; exact hP, va_K.moved hW.alike hK, hD.weaken (fun _ _ _ _ => trivial)⟩
  refine va_calli (va_runV (nL := nL) (Ts := Ts) (own := own) (mc := 0) (ms := 0) (As := As) (rest := rest) C hM (cwV n C.2.2.2.2 hG hws hrm.1 hrm.2 hd hR) ⟨wPre_blind, va_recv hK hw.1 hc (celW_obj hk), hpc⟩ rfl hn hsz rfl (lv_room hcat) hdg hcs) hS (fun q _ hq => hFc q hq) hFc (fun r u t H1 locs1 ht hvm hp hB hz1 hk1 hS1 => ?_)
  obtain ⟨hP1, hK1, hD1⟩ := hB
  rw [ht] at hP1
  exact kk r u H1 locs1 hp ⟨hP1, hD1.weaken (fun _ _ _ hq => hFc _ hq), hS1, hA⟩
theorem w_cSi (C : CallFix p m c cc nL s args Ts own) (hK : va_K D vwCl (tysW T) s) (hw : mW h D T ad A s x g H locs) {y : MethodName} {ws ws' : List Cond} {rm : Room} {cy : ByteArray} {maxL n idx : Nat} {ret : Option FieldType} {As : List Value} {post : Int32 → St × Sl → Prop}
    (hM : Met l y ws rm (va_Pc As (wPre h D T ad x g H.size)) (va_Qi post (wPost h D T ad (aW h T ad x g H.size)) (aW h T ad x g H.size)) 0 0 (aW h T ad x g H.size))
    (hG : GoodIn Ts (va_wsS own idx y ws)) (hws : ws = .code y cy maxL ret :: ws') (hd : y.cls ≠ "java/lang/invoke/MethodHandle" ∧ y.cls ≠ "java/lang/invoke/VarHandle" ∧ (parseMethodDescriptor y.desc).map (fun d => d.parameters.length) = some n) (hR : rm.frames + 1 ≤ R.frames ∧ 8 + (maxL + 11) + rm.locals ≤ R.locals) (hrm : rm.cells = 0 ∧ rm.slots = 0) (hcs : cells ≤ R.cells ∧ slots ≤ R.slots) (hn : As.length = n) {stk : List Value} (hstk : stk = As.reverse ++ rest) (hsz : ls.size = nL) (hcat : (rest.map fun v => v.category).sum ≤ 8) (hdg : decode cc pc = .ok (.invokestatic idx, 3))
    (kk : ∀ (r : Int32) (u : St × Sl) (H1 : Heap) (locs1 : List Loc), post r u → mW h D T ad A s u.2 u.1 H1 locs1 → W p l e R s m args below meth c H1 locs1 cells slots Q (F0 m (pc + 3) ls (.int r :: rest))) : W p l e R s m args below meth c H locs cells slots Q (F0 m pc ls stk) := by
  subst hstk
  obtain ⟨hP, hD, hS, hA⟩ := id hw
  have hFc : ∀ q, aW h T ad x g H.size q → A q := fun q hq => by
    rcases hq with ⟨k9, e9, h9⟩ | hq
    · exact hD.2 k9 _ h9
    · exact hA q (Nat.le_trans hS.1 hq)
  have hpc : ∀ U : State, U.heap = H → s.WarmedH U.vm → va_Pc As (wPre h D T ad x g H.size) As.toArray U := fun U hU hW => ⟨rfl, by rw [hU], by rw [hU]; exact hP, va_K.moved hW.alike hK, hD.weaken (fun _ _ _ _ => trivial)⟩
  refine va_calli (va_runS (nL := nL) (Ts := Ts) (own := own) (mc := 0) (ms := 0) (As := As) (rest := rest) C hM (va_cwS n C.2.2.2.2 hG hws hrm.1 hrm.2 hd hR) ⟨wPre_blind, hpc⟩ rfl hn hsz rfl (lv_room hcat) hdg hcs) hS (fun q _ hq => hFc q hq) hFc (fun r u t H1 locs1 ht hvm hp hB hz1 hk1 hS1 => ?_)
  obtain ⟨hP1, hK1, hD1⟩ := hB
  rw [ht] at hP1
  exact kk r u H1 locs1 hp ⟨hP1, hD1.weaken (fun _ _ _ hq => hFc _ hq), hS1, hA⟩
theorem w_cVl (C : CallFix p m c cc nL s args Ts own) (hK : va_K D vwCl (tysW T) s) (hw : mW h D T ad A s x g H locs) {y : MethodName} {ws ws' : List Cond} {rm : Room} {cy : ByteArray} {maxL n idx k ci N0 : Nat} {ret : Option FieldType} {As : List Value} {post : Int64 → St × Sl → Prop} {C0 : String} {T0 : u_T}
    (hM : Met l y ws rm (va_Pc (.ref (ad k) :: As) (wPre h D T ad x g H.size)) (va_Ql post (wPost h D T ad (aW h T ad x g H.size)) (aW h T ad x g H.size)) 0 0 (aW h T ad x g H.size))
    (hG : GoodIn Ts (wsV own idx C0 y ws)) (hws : ws = .code y cy maxL ret :: ws') (hd : y.cls = C0 ∧ y.cls ≠ "java/lang/invoke/MethodHandle" ∧ y.cls ≠ "java/lang/invoke/VarHandle" ∧ (parseMethodDescriptor y.desc).map (fun d => d.parameters.length) = some n) (hR : rm.frames + 1 ≤ R.frames ∧ 8 + (maxL + 11) + rm.locals ≤ R.locals) (hrm : rm.cells = 0 ∧ rm.slots = 0) (hcs : cells ≤ R.cells ∧ slots ≤ R.slots) (hc : vwCl[ci]? = some (C0, T0, N0)) (hk : k < h.1 ∧ h.2.1 k = 3 ∧ h.2.2.1 k = ci) (hn : As.length = n) {stk : List Value} (hstk : stk = As.reverse ++ .ref (ad k) :: rest) (hsz : ls.size = nL) (hcat : (rest.map fun v => v.category).sum ≤ 8) (hdg : decode cc pc = .ok (.invokevirtual idx, 3))
    (kk : ∀ (r : Int64) (u : St × Sl) (H1 : Heap) (locs1 : List Loc), post r u → mW h D T ad A s u.2 u.1 H1 locs1 → W p l e R s m args below meth c H1 locs1 cells slots Q (F0 m (pc + 3) ls (.long r :: rest))) : W p l e R s m args below meth c H locs cells slots Q (F0 m pc ls stk) := by
  subst hstk
  obtain ⟨hP, hD, hS, hA⟩ := id hw
  have hFc : ∀ q, aW h T ad x g H.size q → A q := fun q hq => by
    rcases hq with ⟨k9, e9, h9⟩ | hq
    · exact hD.2 k9 _ h9
    · exact hA q (Nat.le_trans hS.1 hq)
  have hpc : ∀ U : State, U.heap = H → s.WarmedH U.vm → va_Pc (.ref (ad k) :: As) (wPre h D T ad x g H.size) (Value.ref (ad k) :: As).toArray U := fun U hU hW => ⟨rfl, by rw [hU], by rw [hU]; exact hP, va_K.moved hW.alike hK, hD.weaken (fun _ _ _ _ => trivial)⟩
  refine va_calll (va_runV (nL := nL) (Ts := Ts) (own := own) (mc := 0) (ms := 0) (As := As) (rest := rest) C hM (cwV n C.2.2.2.2 hG hws hrm.1 hrm.2 hd hR) ⟨wPre_blind, va_recv hK hw.1 hc (celW_obj hk), hpc⟩ rfl hn hsz rfl (lv_room hcat) hdg hcs) hS (fun q _ hq => hFc q hq) hFc (fun r u t H1 locs1 ht hvm hp hB hz1 hk1 hS1 => ?_)
  obtain ⟨hP1, hK1, hD1⟩ := hB
  rw [ht] at hP1
  exact kk r u H1 locs1 hp ⟨hP1, hD1.weaken (fun _ _ _ hq => hFc _ hq), hS1, hA⟩
theorem w_cSl (C : CallFix p m c cc nL s args Ts own) (hK : va_K D vwCl (tysW T) s) (hw : mW h D T ad A s x g H locs) {y : MethodName} {ws ws' : List Cond} {rm : Room} {cy : ByteArray} {maxL n idx : Nat} {ret : Option FieldType} {As : List Value} {post : Int64 → St × Sl → Prop}
    (hM : Met l y ws rm (va_Pc As (wPre h D T ad x g H.size)) (va_Ql post (wPost h D T ad (aW h T ad x g H.size)) (aW h T ad x g H.size)) 0 0 (aW h T ad x g H.size))
    (hG : GoodIn Ts (va_wsS own idx y ws)) (hws : ws = .code y cy maxL ret :: ws') (hd : y.cls ≠ "java/lang/invoke/MethodHandle" ∧ y.cls ≠ "java/lang/invoke/VarHandle" ∧ (parseMethodDescriptor y.desc).map (fun d => d.parameters.length) = some n) (hR : rm.frames + 1 ≤ R.frames ∧ 8 + (maxL + 11) + rm.locals ≤ R.locals) (hrm : rm.cells = 0 ∧ rm.slots = 0) (hcs : cells ≤ R.cells ∧ slots ≤ R.slots) (hn : As.length = n) {stk : List Value} (hstk : stk = As.reverse ++ rest) (hsz : ls.size = nL) (hcat : (rest.map fun v => v.category).sum ≤ 8) (hdg : decode cc pc = .ok (.invokestatic idx, 3))
    (kk : ∀ (r : Int64) (u : St × Sl) (H1 : Heap) (locs1 : List Loc), post r u → mW h D T ad A s u.2 u.1 H1 locs1 → W p l e R s m args below meth c H1 locs1 cells slots Q (F0 m (pc + 3) ls (.long r :: rest))) : W p l e R s m args below meth c H locs cells slots Q (F0 m pc ls stk) := by
  subst hstk
  obtain ⟨hP, hD, hS, hA⟩ := id hw
  have hFc : ∀ q, aW h T ad x g H.size q → A q := fun q hq => by
    rcases hq with ⟨k9, e9, h9⟩ | hq
    · exact hD.2 k9 _ h9
    · exact hA q (Nat.le_trans hS.1 hq)
  have hpc : ∀ U : State, U.heap = H → s.WarmedH U.vm → va_Pc As (wPre h D T ad x g H.size) As.toArray U := fun U hU hW => ⟨rfl, by rw [hU], by rw [hU]; exact hP, va_K.moved hW.alike hK, hD.weaken (fun _ _ _ _ => trivial)⟩
  refine va_calll (va_runS (nL := nL) (Ts := Ts) (own := own) (mc := 0) (ms := 0) (As := As) (rest := rest) C hM (va_cwS n C.2.2.2.2 hG hws hrm.1 hrm.2 hd hR) ⟨wPre_blind, hpc⟩ rfl hn hsz rfl (lv_room hcat) hdg hcs) hS (fun q _ hq => hFc q hq) hFc (fun r u t H1 locs1 ht hvm hp hB hz1 hk1 hS1 => ?_)
  obtain ⟨hP1, hK1, hD1⟩ := hB
  rw [ht] at hP1
  exact kk r u H1 locs1 hp ⟨hP1, hD1.weaken (fun _ _ _ hq => hFc _ hq), hS1, hA⟩
theorem w_cVv (C : CallFix p m c cc nL s args Ts own) (hK : va_K D vwCl (tysW T) s) (hw : mW h D T ad A s x g H locs) {y : MethodName} {ws ws' : List Cond} {rm : Room} {cy : ByteArray} {maxL n idx k ci N0 : Nat} {ret : Option FieldType} {As : List Value} {post : St × Sl → Prop} {C0 : String} {T0 : u_T}
    (hM : Met l y ws rm (va_Pc (.ref (ad k) :: As) (wPre h D T ad x g H.size)) (va_Qv post (wPost h D T ad (aW h T ad x g H.size)) (aW h T ad x g H.size)) 0 0 (aW h T ad x g H.size))
    (hG : GoodIn Ts (wsV own idx C0 y ws)) (hws : ws = .code y cy maxL ret :: ws') (hd : y.cls = C0 ∧ y.cls ≠ "java/lang/invoke/MethodHandle" ∧ y.cls ≠ "java/lang/invoke/VarHandle" ∧ (parseMethodDescriptor y.desc).map (fun d => d.parameters.length) = some n) (hR : rm.frames + 1 ≤ R.frames ∧ 8 + (maxL + 11) + rm.locals ≤ R.locals) (hrm : rm.cells = 0 ∧ rm.slots = 0) (hcs : cells ≤ R.cells ∧ slots ≤ R.slots) (hc : vwCl[ci]? = some (C0, T0, N0)) (hk : k < h.1 ∧ h.2.1 k = 3 ∧ h.2.2.1 k = ci) (hn : As.length = n) {stk : List Value} (hstk : stk = As.reverse ++ .ref (ad k) :: rest) (hsz : ls.size = nL) (hcat : (rest.map fun v => v.category).sum ≤ 8) (hdg : decode cc pc = .ok (.invokevirtual idx, 3))
    (kk : ∀ (u : St × Sl) (H1 : Heap) (locs1 : List Loc), post u → mW h D T ad A s u.2 u.1 H1 locs1 → W p l e R s m args below meth c H1 locs1 cells slots Q (F0 m (pc + 3) ls rest)) : W p l e R s m args below meth c H locs cells slots Q (F0 m pc ls stk) := by
  subst hstk
  obtain ⟨hP, hD, hS, hA⟩ := id hw
  have hFc : ∀ q, aW h T ad x g H.size q → A q := fun q hq => by
    rcases hq with ⟨k9, e9, h9⟩ | hq
    · exact hD.2 k9 _ h9
    · exact hA q (Nat.le_trans hS.1 hq)
  have hpc : ∀ U : State, U.heap = H → s.WarmedH U.vm → va_Pc (.ref (ad k) :: As) (wPre h D T ad x g H.size) (Value.ref (ad k) :: As).toArray U := fun U hU hW => ⟨rfl, by rw [hU], by rw [hU]; exact hP, va_K.moved hW.alike hK, hD.weaken (fun _ _ _ _ => trivial)⟩
  refine va_callv (va_runV (nL := nL) (Ts := Ts) (own := own) (mc := 0) (ms := 0) (As := As) (rest := rest) C hM (cwV n C.2.2.2.2 hG hws hrm.1 hrm.2 hd hR) ⟨wPre_blind, va_recv hK hw.1 hc (celW_obj hk), hpc⟩ rfl hn hsz rfl (lv_room hcat) hdg hcs) hS (fun q _ hq => hFc q hq) hFc (fun u t H1 locs1 ht hvm hp hB hz1 hk1 hS1 => ?_)
  obtain ⟨hP1, hK1, hD1⟩ := hB
  rw [ht] at hP1
  exact kk u H1 locs1 hp ⟨hP1, hD1.weaken (fun _ _ _ hq => hFc _ hq), hS1, hA⟩
theorem w_cSv (C : CallFix p m c cc nL s args Ts own) (hK : va_K D vwCl (tysW T) s) (hw : mW h D T ad A s x g H locs) {y : MethodName} {ws ws' : List Cond} {rm : Room} {cy : ByteArray} {maxL n idx : Nat} {ret : Option FieldType} {As : List Value} {post : St × Sl → Prop}
    (hM : Met l y ws rm (va_Pc As (wPre h D T ad x g H.size)) (va_Qv post (wPost h D T ad (aW h T ad x g H.size)) (aW h T ad x g H.size)) 0 0 (aW h T ad x g H.size))
    (hG : GoodIn Ts (va_wsS own idx y ws)) (hws : ws = .code y cy maxL ret :: ws') (hd : y.cls ≠ "java/lang/invoke/MethodHandle" ∧ y.cls ≠ "java/lang/invoke/VarHandle" ∧ (parseMethodDescriptor y.desc).map (fun d => d.parameters.length) = some n) (hR : rm.frames + 1 ≤ R.frames ∧ 8 + (maxL + 11) + rm.locals ≤ R.locals) (hrm : rm.cells = 0 ∧ rm.slots = 0) (hcs : cells ≤ R.cells ∧ slots ≤ R.slots) (hn : As.length = n) {stk : List Value} (hstk : stk = As.reverse ++ rest) (hsz : ls.size = nL) (hcat : (rest.map fun v => v.category).sum ≤ 8) (hdg : decode cc pc = .ok (.invokestatic idx, 3))
    (kk : ∀ (u : St × Sl) (H1 : Heap) (locs1 : List Loc), post u → mW h D T ad A s u.2 u.1 H1 locs1 → W p l e R s m args below meth c H1 locs1 cells slots Q (F0 m (pc + 3) ls rest)) : W p l e R s m args below meth c H locs cells slots Q (F0 m pc ls stk) := by
  subst hstk
  obtain ⟨hP, hD, hS, hA⟩ := id hw
  have hFc : ∀ q, aW h T ad x g H.size q → A q := fun q hq => by
    rcases hq with ⟨k9, e9, h9⟩ | hq
    · exact hD.2 k9 _ h9
    · exact hA q (Nat.le_trans hS.1 hq)
  have hpc : ∀ U : State, U.heap = H → s.WarmedH U.vm → va_Pc As (wPre h D T ad x g H.size) As.toArray U := fun U hU hW => ⟨rfl, by rw [hU], by rw [hU]; exact hP, va_K.moved hW.alike hK, hD.weaken (fun _ _ _ _ => trivial)⟩
  refine va_callv (va_runS (nL := nL) (Ts := Ts) (own := own) (mc := 0) (ms := 0) (As := As) (rest := rest) C hM (va_cwS n C.2.2.2.2 hG hws hrm.1 hrm.2 hd hR) ⟨wPre_blind, hpc⟩ rfl hn hsz rfl (lv_room hcat) hdg hcs) hS (fun q _ hq => hFc q hq) hFc (fun u t H1 locs1 ht hvm hp hB hz1 hk1 hS1 => ?_)
  obtain ⟨hP1, hK1, hD1⟩ := hB
  rw [ht] at hP1
  exact kk u H1 locs1 hp ⟨hP1, hD1.weaken (fun _ _ _ hq => hFc _ hq), hS1, hA⟩
theorem w_iret (C : CallFix p m c cc nL s args Ts own) (hr : meth.sig.returnType = some .int) (hlk : meth.locks = false) (hK : va_K D vwCl (tysW T) s) (hw : mW h D T ad A s x g H locs) {v : Int32} {post : Int32 → St × Sl → Prop} (hp : post v (g, x)) (hdg : decode cc pc = .ok (.ireturn, 1)) : W p l e R s m args below meth c H locs cells slots (MQ below (va_Qi post (wPost h D T ad A) A) args s cells slots A) (F0 m pc ls [.int v]) := by
  obtain ⟨hP, hD, hS, hA⟩ := hw
  exact W.iret C.1 C.2.1 hr (fun t ht hW => ⟨⟨v, (g, x), rfl, hp, by rw [ht]; exact hP, va_K.moved hW.alike hK, hD⟩, hS.F ht⟩) hS.2.2 hdg hlk
theorem w_zret (C : CallFix p m c cc nL s args Ts own) (hr : meth.sig.returnType = some .boolean) (hlk : meth.locks = false) (hK : va_K D vwCl (tysW T) s) (hw : mW h D T ad A s x g H locs) {v : Int32} {post : Int32 → St × Sl → Prop} (hz : narrow .boolean (.int v) = .int v) (hp : post v (g, x)) (hdg : decode cc pc = .ok (.ireturn, 1)) : W p l e R s m args below meth c H locs cells slots (MQ below (va_Qi post (wPost h D T ad A) A) args s cells slots A) (F0 m pc ls [.int v]) := by
  obtain ⟨hP, hD, hS, hA⟩ := hw
  exact W.zret C.1 C.2.1 hr hz (fun t ht hW => ⟨⟨v, (g, x), rfl, hp, by rw [ht]; exact hP, va_K.moved hW.alike hK, hD⟩, hS.F ht⟩) hS.2.2 hdg hlk
theorem w_lret (C : CallFix p m c cc nL s args Ts own) (hr : meth.sig.returnType = some .long) (hlk : meth.locks = false) (hK : va_K D vwCl (tysW T) s) (hw : mW h D T ad A s x g H locs) {v : Int64} {post : Int64 → St × Sl → Prop} (hp : post v (g, x)) (hdg : decode cc pc = .ok (.lreturn, 1)) : W p l e R s m args below meth c H locs cells slots (MQ below (va_Ql post (wPost h D T ad A) A) args s cells slots A) (F0 m pc ls [.long v]) := by
  obtain ⟨hP, hD, hS, hA⟩ := hw
  exact W.lret C.1 C.2.1 hr (fun t ht hW => ⟨⟨v, (g, x), rfl, hp, by rw [ht]; exact hP, va_K.moved hW.alike hK, hD⟩, hS.F ht⟩) hS.2.2 hdg hlk
theorem w_vret (C : CallFix p m c cc nL s args Ts own) (hr : meth.sig.returnType = none) (hlk : meth.locks = false) (hK : va_K D vwCl (tysW T) s) (hw : mW h D T ad A s x g H locs) {post : St × Sl → Prop} (hp : post (g, x)) (hdg : decode cc pc = .ok (.return_, 1)) : W p l e R s m args below meth c H locs cells slots (MQ below (va_Qv post (wPost h D T ad A) A) args s cells slots A) (F0 m pc ls []) := by
  obtain ⟨hP, hD, hS, hA⟩ := hw
  exact W.vret C.1 C.2.1 hr (fun t ht hW => ⟨⟨(g, x), rfl, hp, by rw [ht]; exact hP, va_K.moved hW.alike hK, hD⟩, hS.F ht⟩) hS.2.2 hdg hlk
end BASE
/-- a method's start -/
theorem w_start {l : Launch} {h : Sh} {D : va_G} {T : cT} {ad : Nat → Nat} {x : Sl} {g : St} {sz : Nat} {y : MethodName} {ws ws' : List Cond} {rm : Room} {cc : ByteArray} {maxL : Nat} {ret : Option FieldType} {own : String} {av : List Value} {Qc : (Nat → Prop) → Array Value → State → Outcome → State → Prop} (hy : plainName y.cls = true) (hws : ws = .code y cc maxL ret :: ws') (hcl : y.cls = own) (hav : (lg_sl av).length ≤ maxL)
    (body : ∀ (p : Program) (e : Env) (s : State) (m : MethodId) (args : Array Value) (below : List Frame) (meth : Method) (c : Code) (A : Nat → Prop) (ls : Array Slot), CallFix p m c cc maxL s args ws own → meth.sig.returnType = ret → meth.locks = false → va_K D vwCl (tysW T) s → mW h D T ad A s x g s.heap [] → lv_has ls maxL (lv_args 0 av) → W p l e rm s m args below meth c s.heap [] 0 0 (MQ below (Qc A) args s 0 0 A) (F0 m 0 ls [])) :
    Met l y ws rm (va_Pc av (wPre h D T ad x g sz)) (Qc (aW h T ad x g sz)) 0 0 (aW h T ad x g sz) := by
  refine Met.ofW (cc := cc) (maxL := maxL) (ret := ret) hy hws ?_
  intro p e s m args below meth c s₁ B hml hv
  obtain ⟨rfl, hsz, hP, hK, hD0⟩ := hv
  subst hsz
  have hts := atoms_spec (ws := ws) B.pre
  have hown : s.vm.findClass own = some m.cls := by rw [← hcl]; exact findClass_of_methodNamed B.named
  have hD := hD0.self (sz := s.heap.size)
  have hl := lv_entry av (n := maxL) hav
  rw [lg_entry_eq]
  exact body p e s m _ below meth c _ _ ⟨B.exec, B.bytes, hml, hown, hts⟩ B.returns B.notSynchronized hK ⟨hP, hD, va_S.rf, fun q hq => Or.inr hq⟩ hl
end
section
/-- a walk's fixed things: program, environment, start, method, arguments, frames below, method's own, code, cells -/
abbrev Cxt : Type := Program × Env × State × MethodId × Array Value × List Frame × Method × Code × (Nat → Prop)
abbrev Cxt.p (Γ : Cxt) : Program := Γ.1
abbrev Cxt.e (Γ : Cxt) : Env := Γ.2.1
abbrev Cxt.s (Γ : Cxt) : State := Γ.2.2.1
abbrev Cxt.m (Γ : Cxt) : MethodId := Γ.2.2.2.1
abbrev Cxt.args (Γ : Cxt) : Array Value := Γ.2.2.2.2.1
abbrev Cxt.below (Γ : Cxt) : List Frame := Γ.2.2.2.2.2.1
abbrev Cxt.meth (Γ : Cxt) : Method := Γ.2.2.2.2.2.2.1
abbrev Cxt.c (Γ : Cxt) : Code := Γ.2.2.2.2.2.2.2.1
abbrev Cxt.A (Γ : Cxt) : Nat → Prop := Γ.2.2.2.2.2.2.2.2
/-- the machine at pc with these locals and this stack, and the world as x, g say, comes to Q -/
def Gj (l : Launch) (h : Sh) (D : va_G) (T : cT) (ad : Nat → Nat) (nL : Nat) (R : Room) (kc ks : Nat) (Γ : Cxt) (Q : State → Prop) (x : Sl) (g : St) (pc : Nat) (lv : List (Nat × Value)) (stk : List Value) : Prop :=
  ∀ (H : Heap) (locs : List Loc) (ls : Array Slot), mW h D T ad Γ.A Γ.s x g H locs → lv_has ls nL lv → W Γ.p l Γ.e R Γ.s Γ.m Γ.args Γ.below Γ.meth Γ.c H locs kc ks Q (F0 Γ.m pc ls stk)
/-- what a walk stands on -/
def Cx (D : va_G) (T : cT) (cc : ByteArray) (nL : Nat) (Ts : List Cond) (own : String) (ret : Option FieldType) (Γ : Cxt) : Prop :=
  CallFix Γ.p Γ.m Γ.c cc nL Γ.s Γ.args Ts own ∧ va_K D vwCl (tysW T) Γ.s ∧ Γ.meth.sig.returnType = ret ∧ Γ.meth.locks = false
section ROWS
variable {l : Launch} {h : Sh} {D : va_G} {T : cT} {ad : Nat → Nat} {nL : Nat} {R : Room} {kc ks : Nat} {Γ : Cxt} {Q : State → Prop} {x : Sl} {g : St} {pc : Nat} {lv lv' : List (Nat × Value)} {rest : List Value} {cc : ByteArray} {Ts : List Cond} {own : String} {ret : Option FieldType}
theorem g_sub (ks' : List Nat) (hl : lv_pick lv ks' = lv') (K : Gj l h D T ad nL R kc ks Γ Q x g pc lv' rest) : Gj l h D T ad nL R kc ks Γ Q x g pc lv rest := fun H locs ls hw hl' => K H locs ls hw (lv_sub hl' ks' hl)
theorem g_iconst (C : Cx D T cc nL Ts own ret Γ) {n : Int} {v : Int32} (hdg : decode cc pc = .ok (.iconst n, 1)) (hv : Int32.ofInt n = v) (K : Gj l h D T ad nL R kc ks Γ Q x g (pc + 1) lv (.int v :: rest)) : Gj l h D T ad nL R kc ks Γ Q x g pc lv (rest) := fun H locs ls hw hl => lv_iconst C.1.1 C.1.2.1 hdg hv (K H locs ls hw hl)
theorem g_bipush (C : Cx D T cc nL Ts own ret Γ) {n : Int} {v : Int32} (hdg : decode cc pc = .ok (.bipush n, 2)) (hv : (Int8.ofInt n).toInt32 = v) (K : Gj l h D T ad nL R kc ks Γ Q x g (pc + 2) lv (.int v :: rest)) : Gj l h D T ad nL R kc ks Γ Q x g pc lv (rest) := fun H locs ls hw hl => lv_bipush C.1.1 C.1.2.1 hdg hv (K H locs ls hw hl)
theorem g_sipush (C : Cx D T cc nL Ts own ret Γ) {n : Int} {v : Int32} (hdg : decode cc pc = .ok (.sipush n, 3)) (hv : (Int16.ofInt n).toInt32 = v) (K : Gj l h D T ad nL R kc ks Γ Q x g (pc + 3) lv (.int v :: rest)) : Gj l h D T ad nL R kc ks Γ Q x g pc lv (rest) := fun H locs ls hw hl => lv_sipush C.1.1 C.1.2.1 hdg hv (K H locs ls hw hl)
theorem g_lconst (C : Cx D T cc nL Ts own ret Γ) {n : Fin 2} {v : Int64} (hdg : decode cc pc = .ok (.lconst n, 1)) (hv : Int64.ofNat (n : Nat) = v) (K : Gj l h D T ad nL R kc ks Γ Q x g (pc + 1) lv (.long v :: rest)) : Gj l h D T ad nL R kc ks Γ Q x g pc lv (rest) := fun H locs ls hw hl => lv_lconst C.1.1 C.1.2.1 hdg hv (K H locs ls hw hl)
theorem g_iload_n (C : Cx D T cc nL Ts own ret Γ) {k : Fin 4} {i : Nat} {v : Int32} (hdg : decode cc pc = .ok (.iload_n k, 1)) (hi : (k : Nat) = i) (j : Nat) (hj : lv[j]? = some (i, .int v)) (K : Gj l h D T ad nL R kc ks Γ Q x g (pc + 1) lv (.int v :: rest)) : Gj l h D T ad nL R kc ks Γ Q x g pc lv (rest) := fun H locs ls hw hl => lv_iload_n C.1.1 C.1.2.1 hdg hi (lv_at hl j hj) (K H locs ls hw hl)
theorem g_iload (C : Cx D T cc nL Ts own ret Γ) {i : Nat} {v : Int32} (hdg : decode cc pc = .ok (.iload i, 2)) (j : Nat) (hj : lv[j]? = some (i, .int v)) (K : Gj l h D T ad nL R kc ks Γ Q x g (pc + 2) lv (.int v :: rest)) : Gj l h D T ad nL R kc ks Γ Q x g pc lv (rest) := fun H locs ls hw hl => lv_iload C.1.1 C.1.2.1 hdg (lv_at hl j hj) (K H locs ls hw hl)
theorem g_istore_n (C : Cx D T cc nL Ts own ret Γ) {k : Fin 4} {i : Nat} {v : Int32} (hdg : decode cc pc = .ok (.istore_n k, 1)) (hi : (k : Nat) = i) (hn : i < nL) (hl : (i, Value.int v) :: lv.filter (fun q => !(q.1 == i) && !(q.1 + 1 == i && q.2.category == 2)) = lv') (K : Gj l h D T ad nL R kc ks Γ Q x g (pc + 1) lv' (rest)) : Gj l h D T ad nL R kc ks Γ Q x g pc lv (.int v :: rest) := fun H locs ls hw hl' => lv_istore_n C.1.1 C.1.2.1 hdg hi hl' hn hl (fun ls hl => K H locs ls hw hl)
theorem g_istore (C : Cx D T cc nL Ts own ret Γ) {i : Nat} {v : Int32} (hdg : decode cc pc = .ok (.istore i, 2)) (hn : i < nL) (hl : (i, Value.int v) :: lv.filter (fun q => !(q.1 == i) && !(q.1 + 1 == i && q.2.category == 2)) = lv') (K : Gj l h D T ad nL R kc ks Γ Q x g (pc + 2) lv' (rest)) : Gj l h D T ad nL R kc ks Γ Q x g pc lv (.int v :: rest) := fun H locs ls hw hl' => lv_istore C.1.1 C.1.2.1 hdg hl' hn hl (fun ls hl => K H locs ls hw hl)
theorem g_lload_n (C : Cx D T cc nL Ts own ret Γ) {k : Fin 4} {i : Nat} {v : Int64} (hdg : decode cc pc = .ok (.lload_n k, 1)) (hi : (k : Nat) = i) (j : Nat) (hj : lv[j]? = some (i, .long v)) (K : Gj l h D T ad nL R kc ks Γ Q x g (pc + 1) lv (.long v :: rest)) : Gj l h D T ad nL R kc ks Γ Q x g pc lv (rest) := fun H locs ls hw hl => lv_lload_n C.1.1 C.1.2.1 hdg hi (lv_at hl j hj) (K H locs ls hw hl)
theorem g_lload (C : Cx D T cc nL Ts own ret Γ) {i : Nat} {v : Int64} (hdg : decode cc pc = .ok (.lload i, 2)) (j : Nat) (hj : lv[j]? = some (i, .long v)) (K : Gj l h D T ad nL R kc ks Γ Q x g (pc + 2) lv (.long v :: rest)) : Gj l h D T ad nL R kc ks Γ Q x g pc lv (rest) := fun H locs ls hw hl => lv_lload C.1.1 C.1.2.1 hdg (lv_at hl j hj) (K H locs ls hw hl)
theorem g_lstore_n (C : Cx D T cc nL Ts own ret Γ) {k : Fin 4} {i : Nat} {v : Int64} (hdg : decode cc pc = .ok (.lstore_n k, 1)) (hi : (k : Nat) = i) (hn : i + 1 < nL) (hl : (i, Value.long v) :: lv.filter (fun q => !(q.1 == i) && (!(q.1 == i + 1) && !(q.1 + 1 == i && q.2.category == 2))) = lv') (K : Gj l h D T ad nL R kc ks Γ Q x g (pc + 1) lv' (rest)) : Gj l h D T ad nL R kc ks Γ Q x g pc lv (.long v :: rest) := fun H locs ls hw hl' => lv_lstore_n C.1.1 C.1.2.1 hdg hi hl' hn hl (fun ls hl => K H locs ls hw hl)
theorem g_lstore (C : Cx D T cc nL Ts own ret Γ) {i : Nat} {v : Int64} (hdg : decode cc pc = .ok (.lstore i, 2)) (hn : i + 1 < nL) (hl : (i, Value.long v) :: lv.filter (fun q => !(q.1 == i) && (!(q.1 == i + 1) && !(q.1 + 1 == i && q.2.category == 2))) = lv') (K : Gj l h D T ad nL R kc ks Γ Q x g (pc + 2) lv' (rest)) : Gj l h D T ad nL R kc ks Γ Q x g pc lv (.long v :: rest) := fun H locs ls hw hl' => lv_lstore C.1.1 C.1.2.1 hdg hl' hn hl (fun ls hl => K H locs ls hw hl)
theorem g_aload_n (C : Cx D T cc nL Ts own ret Γ) {k : Fin 4} {i : Nat} {v : Nat} (hdg : decode cc pc = .ok (.aload_n k, 1)) (hi : (k : Nat) = i) (j : Nat) (hj : lv[j]? = some (i, .ref v)) (K : Gj l h D T ad nL R kc ks Γ Q x g (pc + 1) lv (.ref v :: rest)) : Gj l h D T ad nL R kc ks Γ Q x g pc lv (rest) := fun H locs ls hw hl => lv_aload_n C.1.1 C.1.2.1 hdg hi (lv_at hl j hj) (K H locs ls hw hl)
theorem g_aload (C : Cx D T cc nL Ts own ret Γ) {i : Nat} {v : Nat} (hdg : decode cc pc = .ok (.aload i, 2)) (j : Nat) (hj : lv[j]? = some (i, .ref v)) (K : Gj l h D T ad nL R kc ks Γ Q x g (pc + 2) lv (.ref v :: rest)) : Gj l h D T ad nL R kc ks Γ Q x g pc lv (rest) := fun H locs ls hw hl => lv_aload C.1.1 C.1.2.1 hdg (lv_at hl j hj) (K H locs ls hw hl)
theorem g_astore_n (C : Cx D T cc nL Ts own ret Γ) {k : Fin 4} {i : Nat} {v : Nat} (hdg : decode cc pc = .ok (.astore_n k, 1)) (hi : (k : Nat) = i) (hn : i < nL) (hl : (i, Value.ref v) :: lv.filter (fun q => !(q.1 == i) && !(q.1 + 1 == i && q.2.category == 2)) = lv') (K : Gj l h D T ad nL R kc ks Γ Q x g (pc + 1) lv' (rest)) : Gj l h D T ad nL R kc ks Γ Q x g pc lv (.ref v :: rest) := fun H locs ls hw hl' => lv_astore_n C.1.1 C.1.2.1 hdg hi hl' hn hl (fun ls hl => K H locs ls hw hl)
theorem g_astore (C : Cx D T cc nL Ts own ret Γ) {i : Nat} {v : Nat} (hdg : decode cc pc = .ok (.astore i, 2)) (hn : i < nL) (hl : (i, Value.ref v) :: lv.filter (fun q => !(q.1 == i) && !(q.1 + 1 == i && q.2.category == 2)) = lv') (K : Gj l h D T ad nL R kc ks Γ Q x g (pc + 2) lv' (rest)) : Gj l h D T ad nL R kc ks Γ Q x g pc lv (.ref v :: rest) := fun H locs ls hw hl' => lv_astore C.1.1 C.1.2.1 hdg hl' hn hl (fun ls hl => K H locs ls hw hl)
theorem g_iinc (C : Cx D T cc nL Ts own ret Γ) {i k : Nat} {n : Int} {u v : Int32} (hdg : decode cc pc = .ok (.iinc i n, 3)) (k : Nat) (hk : lv[k]? = some (i, .int u)) (hv : u + Int32.ofInt n = v) (hn : i < nL) (hl : (i, Value.int v) :: lv.filter (fun q => !(q.1 == i) && !(q.1 + 1 == i && q.2.category == 2)) = lv') (K : Gj l h D T ad nL R kc ks Γ Q x g (pc + 3) lv' (rest)) : Gj l h D T ad nL R kc ks Γ Q x g pc lv (rest) := fun H locs ls hw hl' => lv_iinc C.1.1 C.1.2.1 hdg hl' hk hv hn hl (fun ls hl => K H locs ls hw hl)
theorem g_iadd (C : Cx D T cc nL Ts own ret Γ) {u v : Int32} (hdg : decode cc pc = .ok (.iadd, 1))  (K : Gj l h D T ad nL R kc ks Γ Q x g (pc + 1) lv (.int (u + v) :: rest)) : Gj l h D T ad nL R kc ks Γ Q x g pc lv (.int v :: .int u :: rest) := fun H locs ls hw hl => lv_iadd C.1.1 C.1.2.1 hdg (K H locs ls hw hl)
theorem g_isub (C : Cx D T cc nL Ts own ret Γ) {u v : Int32} (hdg : decode cc pc = .ok (.isub, 1))  (K : Gj l h D T ad nL R kc ks Γ Q x g (pc + 1) lv (.int (u - v) :: rest)) : Gj l h D T ad nL R kc ks Γ Q x g pc lv (.int v :: .int u :: rest) := fun H locs ls hw hl => lv_isub C.1.1 C.1.2.1 hdg (K H locs ls hw hl)
theorem g_imul (C : Cx D T cc nL Ts own ret Γ) {u v : Int32} (hdg : decode cc pc = .ok (.imul, 1))  (K : Gj l h D T ad nL R kc ks Γ Q x g (pc + 1) lv (.int (u * v) :: rest)) : Gj l h D T ad nL R kc ks Γ Q x g pc lv (.int v :: .int u :: rest) := fun H locs ls hw hl => lv_imul C.1.1 C.1.2.1 hdg (K H locs ls hw hl)
theorem g_iand (C : Cx D T cc nL Ts own ret Γ) {u v : Int32} (hdg : decode cc pc = .ok (.iand, 1))  (K : Gj l h D T ad nL R kc ks Γ Q x g (pc + 1) lv (.int (u &&& v) :: rest)) : Gj l h D T ad nL R kc ks Γ Q x g pc lv (.int v :: .int u :: rest) := fun H locs ls hw hl => lv_iand C.1.1 C.1.2.1 hdg (K H locs ls hw hl)
theorem g_ior (C : Cx D T cc nL Ts own ret Γ) {u v : Int32} (hdg : decode cc pc = .ok (.ior, 1))  (K : Gj l h D T ad nL R kc ks Γ Q x g (pc + 1) lv (.int (u ||| v) :: rest)) : Gj l h D T ad nL R kc ks Γ Q x g pc lv (.int v :: .int u :: rest) := fun H locs ls hw hl => lv_ior C.1.1 C.1.2.1 hdg (K H locs ls hw hl)
theorem g_ixor (C : Cx D T cc nL Ts own ret Γ) {u v : Int32} (hdg : decode cc pc = .ok (.ixor, 1))  (K : Gj l h D T ad nL R kc ks Γ Q x g (pc + 1) lv (.int (u ^^^ v) :: rest)) : Gj l h D T ad nL R kc ks Γ Q x g pc lv (.int v :: .int u :: rest) := fun H locs ls hw hl => lv_ixor C.1.1 C.1.2.1 hdg (K H locs ls hw hl)
theorem g_ishl (C : Cx D T cc nL Ts own ret Γ) {u v : Int32} (hdg : decode cc pc = .ok (.ishl, 1))  (K : Gj l h D T ad nL R kc ks Γ Q x g (pc + 1) lv (.int (u <<< (v &&& 31)) :: rest)) : Gj l h D T ad nL R kc ks Γ Q x g pc lv (.int v :: .int u :: rest) := fun H locs ls hw hl => lv_ishl C.1.1 C.1.2.1 hdg (K H locs ls hw hl)
theorem g_ishr (C : Cx D T cc nL Ts own ret Γ) {u v : Int32} (hdg : decode cc pc = .ok (.ishr, 1))  (K : Gj l h D T ad nL R kc ks Γ Q x g (pc + 1) lv (.int (u >>> (v &&& 31)) :: rest)) : Gj l h D T ad nL R kc ks Γ Q x g pc lv (.int v :: .int u :: rest) := fun H locs ls hw hl => lv_ishr C.1.1 C.1.2.1 hdg (K H locs ls hw hl)
theorem g_idiv (C : Cx D T cc nL Ts own ret Γ) {u v : Int32} (hdg : decode cc pc = .ok (.idiv, 1)) (hne : ¬ v = 0) (K : Gj l h D T ad nL R kc ks Γ Q x g (pc + 1) lv (.int (u / v) :: rest)) : Gj l h D T ad nL R kc ks Γ Q x g pc lv (.int v :: .int u :: rest) := fun H locs ls hw hl => lv_idiv C.1.1 C.1.2.1 hdg hne (K H locs ls hw hl)
theorem g_irem (C : Cx D T cc nL Ts own ret Γ) {u v : Int32} (hdg : decode cc pc = .ok (.irem, 1)) (hne : ¬ v = 0) (K : Gj l h D T ad nL R kc ks Γ Q x g (pc + 1) lv (.int (u - u / v * v) :: rest)) : Gj l h D T ad nL R kc ks Γ Q x g pc lv (.int v :: .int u :: rest) := fun H locs ls hw hl => lv_irem C.1.1 C.1.2.1 hdg hne (K H locs ls hw hl)
theorem g_ladd (C : Cx D T cc nL Ts own ret Γ) {u v : Int64} (hdg : decode cc pc = .ok (.ladd, 1))  (K : Gj l h D T ad nL R kc ks Γ Q x g (pc + 1) lv (.long (u + v) :: rest)) : Gj l h D T ad nL R kc ks Γ Q x g pc lv (.long v :: .long u :: rest) := fun H locs ls hw hl => lv_ladd C.1.1 C.1.2.1 hdg (K H locs ls hw hl)
theorem g_lsub (C : Cx D T cc nL Ts own ret Γ) {u v : Int64} (hdg : decode cc pc = .ok (.lsub, 1))  (K : Gj l h D T ad nL R kc ks Γ Q x g (pc + 1) lv (.long (u - v) :: rest)) : Gj l h D T ad nL R kc ks Γ Q x g pc lv (.long v :: .long u :: rest) := fun H locs ls hw hl => lv_lsub C.1.1 C.1.2.1 hdg (K H locs ls hw hl)
theorem g_lmul (C : Cx D T cc nL Ts own ret Γ) {u v : Int64} (hdg : decode cc pc = .ok (.lmul, 1))  (K : Gj l h D T ad nL R kc ks Γ Q x g (pc + 1) lv (.long (u * v) :: rest)) : Gj l h D T ad nL R kc ks Γ Q x g pc lv (.long v :: .long u :: rest) := fun H locs ls hw hl => lv_lmul C.1.1 C.1.2.1 hdg (K H locs ls hw hl)
theorem g_land (C : Cx D T cc nL Ts own ret Γ) {u v : Int64} (hdg : decode cc pc = .ok (.land, 1))  (K : Gj l h D T ad nL R kc ks Γ Q x g (pc + 1) lv (.long (u &&& v) :: rest)) : Gj l h D T ad nL R kc ks Γ Q x g pc lv (.long v :: .long u :: rest) := fun H locs ls hw hl => lv_land C.1.1 C.1.2.1 hdg (K H locs ls hw hl)
theorem g_ldiv (C : Cx D T cc nL Ts own ret Γ) {u v : Int64} (hdg : decode cc pc = .ok (.ldiv, 1)) (hne : ¬ v = 0) (K : Gj l h D T ad nL R kc ks Γ Q x g (pc + 1) lv (.long (u / v) :: rest)) : Gj l h D T ad nL R kc ks Γ Q x g pc lv (.long v :: .long u :: rest) := fun H locs ls hw hl => lv_ldiv C.1.1 C.1.2.1 hdg hne (K H locs ls hw hl)
theorem g_lrem (C : Cx D T cc nL Ts own ret Γ) {u v : Int64} (hdg : decode cc pc = .ok (.lrem, 1)) (hne : ¬ v = 0) (K : Gj l h D T ad nL R kc ks Γ Q x g (pc + 1) lv (.long (u - u / v * v) :: rest)) : Gj l h D T ad nL R kc ks Γ Q x g pc lv (.long v :: .long u :: rest) := fun H locs ls hw hl => lv_lrem C.1.1 C.1.2.1 hdg hne (K H locs ls hw hl)
theorem g_ineg (C : Cx D T cc nL Ts own ret Γ) {u : Int32} (hdg : decode cc pc = .ok (.ineg, 1))  (K : Gj l h D T ad nL R kc ks Γ Q x g (pc + 1) lv (.int (-u) :: rest)) : Gj l h D T ad nL R kc ks Γ Q x g pc lv (.int u :: rest) := fun H locs ls hw hl => lv_ineg C.1.1 C.1.2.1 hdg (K H locs ls hw hl)
theorem g_i2l (C : Cx D T cc nL Ts own ret Γ) {u : Int32} (hdg : decode cc pc = .ok (.i2l, 1))  (K : Gj l h D T ad nL R kc ks Γ Q x g (pc + 1) lv (.long u.toInt64 :: rest)) : Gj l h D T ad nL R kc ks Γ Q x g pc lv (.int u :: rest) := fun H locs ls hw hl => lv_i2l C.1.1 C.1.2.1 hdg rfl (K H locs ls hw hl)
theorem g_l2i (C : Cx D T cc nL Ts own ret Γ) {u : Int64} (hdg : decode cc pc = .ok (.l2i, 1))  (K : Gj l h D T ad nL R kc ks Γ Q x g (pc + 1) lv (.int u.toInt32 :: rest)) : Gj l h D T ad nL R kc ks Γ Q x g pc lv (.long u :: rest) := fun H locs ls hw hl => lv_l2i C.1.1 C.1.2.1 hdg rfl (K H locs ls hw hl)
theorem g_iushr (C : Cx D T cc nL Ts own ret Γ) {u v : Int32} (hdg : decode cc pc = .ok (.iushr, 1))  (K : Gj l h D T ad nL R kc ks Γ Q x g (pc + 1) lv (.int (u.toUInt32 >>> (v.toUInt32 &&& Int32.toUInt32 31)).toInt32 :: rest)) : Gj l h D T ad nL R kc ks Γ Q x g pc lv (.int v :: .int u :: rest) := fun H locs ls hw hl => lv_iushr C.1.1 C.1.2.1 hdg rfl (K H locs ls hw hl)
theorem g_lshl (C : Cx D T cc nL Ts own ret Γ) {u : Int64} {v : Int32} (hdg : decode cc pc = .ok (.lshl, 1))  (K : Gj l h D T ad nL R kc ks Γ Q x g (pc + 1) lv (.long (u <<< (v.toInt64 &&& 63)) :: rest)) : Gj l h D T ad nL R kc ks Γ Q x g pc lv (.int v :: .long u :: rest) := fun H locs ls hw hl => lv_lshl C.1.1 C.1.2.1 hdg rfl (K H locs ls hw hl)
theorem g_lshr (C : Cx D T cc nL Ts own ret Γ) {u : Int64} {v : Int32} (hdg : decode cc pc = .ok (.lshr, 1))  (K : Gj l h D T ad nL R kc ks Γ Q x g (pc + 1) lv (.long (u >>> (v.toInt64 &&& 63)) :: rest)) : Gj l h D T ad nL R kc ks Γ Q x g pc lv (.int v :: .long u :: rest) := fun H locs ls hw hl => lv_lshr C.1.1 C.1.2.1 hdg rfl (K H locs ls hw hl)
theorem g_lcmp (C : Cx D T cc nL Ts own ret Γ) {u v : Int64} (hdg : decode cc pc = .ok (.lcmp, 1))  (K : Gj l h D T ad nL R kc ks Γ Q x g (pc + 1) lv (.int (lg_cmp u v) :: rest)) : Gj l h D T ad nL R kc ks Γ Q x g pc lv (.long v :: .long u :: rest) := fun H locs ls hw hl => W.lcmp C.1.1 C.1.2.1 hdg (K H locs ls hw hl)
theorem g_dup (C : Cx D T cc nL Ts own ret Γ) {u : Value} (hdg : decode cc pc = .ok (.dup, 1)) (hu : u.category = 1) (K : Gj l h D T ad nL R kc ks Γ Q x g (pc + 1) lv (u :: u :: rest)) : Gj l h D T ad nL R kc ks Γ Q x g pc lv (u :: rest) := fun H locs ls hw hl => lv_dup C.1.1 C.1.2.1 hdg hu (K H locs ls hw hl)
theorem g_pop (C : Cx D T cc nL Ts own ret Γ) {u : Value} (hdg : decode cc pc = .ok (.pop, 1)) (hu : u.category = 1) (K : Gj l h D T ad nL R kc ks Γ Q x g (pc + 1) lv (rest)) : Gj l h D T ad nL R kc ks Γ Q x g pc lv (u :: rest) := fun H locs ls hw hl => lv_pop C.1.1 C.1.2.1 hdg hu (K H locs ls hw hl)
theorem g_dup2 (C : Cx D T cc nL Ts own ret Γ) {u v : Value} (hdg : decode cc pc = .ok (.dup2, 1)) (hu : u.category = 1) (hv : v.category = 1) (K : Gj l h D T ad nL R kc ks Γ Q x g (pc + 1) lv (u :: v :: u :: v :: rest)) : Gj l h D T ad nL R kc ks Γ Q x g pc lv (u :: v :: rest) := fun H locs ls hw hl => lv_dup2_11 C.1.1 C.1.2.1 hdg hu hv (K H locs ls hw hl)
theorem g_dup_x1 (C : Cx D T cc nL Ts own ret Γ) {u v : Value} (hdg : decode cc pc = .ok (.dup_x1, 1)) (hu : u.category = 1) (hv : v.category = 1) (K : Gj l h D T ad nL R kc ks Γ Q x g (pc + 1) lv (u :: v :: u :: rest)) : Gj l h D T ad nL R kc ks Γ Q x g pc lv (u :: v :: rest) := fun H locs ls hw hl => lv_dup_x1 C.1.1 C.1.2.1 hdg hu hv (K H locs ls hw hl)
theorem g_ldc (C : Cx D T cc nL Ts own ret Γ) {index : Nat} {v : Int32} (hdg : decode cc pc = .ok (.ldc index, 2)) (hc : Cond.constant own index v ∈ Ts) (K : Gj l h D T ad nL R kc ks Γ Q x g (pc + 2) lv (.int v :: rest)) : Gj l h D T ad nL R kc ks Γ Q x g pc lv (rest) := fun H locs ls hw hl => lv_ldc C.1.1 C.1.2.1 C.1.2.2.2.1 (C.1.2.2.2.2 _ hc) hdg (K H locs ls hw hl)
theorem g_ldc_w (C : Cx D T cc nL Ts own ret Γ) {index : Nat} {v : Int32} (hdg : decode cc pc = .ok (.ldc_w index, 3)) (hc : Cond.constant own index v ∈ Ts) (K : Gj l h D T ad nL R kc ks Γ Q x g (pc + 3) lv (.int v :: rest)) : Gj l h D T ad nL R kc ks Γ Q x g pc lv (rest) := fun H locs ls hw hl => lv_ldcw C.1.1 C.1.2.1 C.1.2.2.2.1 (C.1.2.2.2.2 _ hc) hdg (K H locs ls hw hl)
theorem g_goto (C : Cx D T cc nL Ts own ret Γ) {off : Int} {tgt : Nat} (hdg : decode cc pc = .ok (.goto off, 3)) (ht : (pc : Int) + off = (tgt : Int)) (K : Gj l h D T ad nL R kc ks Γ Q x g tgt lv (rest)) : Gj l h D T ad nL R kc ks Γ Q x g pc lv (rest) := fun H locs ls hw hl => lv_goto C.1.1 C.1.2.1 hdg ht (K H locs ls hw hl)
theorem g_if_eq (C : Cx D T cc nL Ts own ret Γ) {u : Int32} {off : Int} (tgt : Nat) (hdg : decode cc pc = .ok (.ifCond .eq off, 3)) (ht : (pc : Int) + off = (tgt : Int)) (kt : u = 0 → Gj l h D T ad nL R kc ks Γ Q x g tgt lv (rest)) (kf : ¬ u = 0 → Gj l h D T ad nL R kc ks Γ Q x g (pc + 3) lv (rest)) : Gj l h D T ad nL R kc ks Γ Q x g pc lv (.int u :: rest) := fun H locs ls hw hl => lv_if_eq C.1.1 C.1.2.1 hdg ht (fun q => kt q H locs ls hw hl) (fun q => kf q H locs ls hw hl)
theorem g_icmp_eq (C : Cx D T cc nL Ts own ret Γ) {u v : Int32} {off : Int} (tgt : Nat) (hdg : decode cc pc = .ok (.if_icmp .eq off, 3)) (ht : (pc : Int) + off = (tgt : Int)) (kt : u = v → Gj l h D T ad nL R kc ks Γ Q x g tgt lv (rest)) (kf : ¬ u = v → Gj l h D T ad nL R kc ks Γ Q x g (pc + 3) lv (rest)) : Gj l h D T ad nL R kc ks Γ Q x g pc lv (.int v :: .int u :: rest) := fun H locs ls hw hl => lv_icmp_eq C.1.1 C.1.2.1 hdg ht (fun q => kt q H locs ls hw hl) (fun q => kf q H locs ls hw hl)
theorem g_if_ne (C : Cx D T cc nL Ts own ret Γ) {u : Int32} {off : Int} (tgt : Nat) (hdg : decode cc pc = .ok (.ifCond .ne off, 3)) (ht : (pc : Int) + off = (tgt : Int)) (kf : u = 0 → Gj l h D T ad nL R kc ks Γ Q x g (pc + 3) lv (rest)) (kt : ¬ u = 0 → Gj l h D T ad nL R kc ks Γ Q x g tgt lv (rest)) : Gj l h D T ad nL R kc ks Γ Q x g pc lv (.int u :: rest) := fun H locs ls hw hl => lv_if_ne C.1.1 C.1.2.1 hdg ht (fun q => kt q H locs ls hw hl) (fun q => kf q H locs ls hw hl)
theorem g_icmp_ne (C : Cx D T cc nL Ts own ret Γ) {u v : Int32} {off : Int} (tgt : Nat) (hdg : decode cc pc = .ok (.if_icmp .ne off, 3)) (ht : (pc : Int) + off = (tgt : Int)) (kf : u = v → Gj l h D T ad nL R kc ks Γ Q x g (pc + 3) lv (rest)) (kt : ¬ u = v → Gj l h D T ad nL R kc ks Γ Q x g tgt lv (rest)) : Gj l h D T ad nL R kc ks Γ Q x g pc lv (.int v :: .int u :: rest) := fun H locs ls hw hl => lv_icmp_ne C.1.1 C.1.2.1 hdg ht (fun q => kt q H locs ls hw hl) (fun q => kf q H locs ls hw hl)
theorem g_if_lt (C : Cx D T cc nL Ts own ret Γ) {u : Int32} {off : Int} (tgt : Nat) (hdg : decode cc pc = .ok (.ifCond .lt off, 3)) (ht : (pc : Int) + off = (tgt : Int)) (kt : u < 0 → Gj l h D T ad nL R kc ks Γ Q x g tgt lv (rest)) (kf : ¬ u < 0 → Gj l h D T ad nL R kc ks Γ Q x g (pc + 3) lv (rest)) : Gj l h D T ad nL R kc ks Γ Q x g pc lv (.int u :: rest) := fun H locs ls hw hl => lv_if_lt C.1.1 C.1.2.1 hdg ht (fun q => kt q H locs ls hw hl) (fun q => kf q H locs ls hw hl)
theorem g_icmp_lt (C : Cx D T cc nL Ts own ret Γ) {u v : Int32} {off : Int} (tgt : Nat) (hdg : decode cc pc = .ok (.if_icmp .lt off, 3)) (ht : (pc : Int) + off = (tgt : Int)) (kt : u < v → Gj l h D T ad nL R kc ks Γ Q x g tgt lv (rest)) (kf : ¬ u < v → Gj l h D T ad nL R kc ks Γ Q x g (pc + 3) lv (rest)) : Gj l h D T ad nL R kc ks Γ Q x g pc lv (.int v :: .int u :: rest) := fun H locs ls hw hl => lv_icmp_lt C.1.1 C.1.2.1 hdg ht (fun q => kt q H locs ls hw hl) (fun q => kf q H locs ls hw hl)
theorem g_if_ge (C : Cx D T cc nL Ts own ret Γ) {u : Int32} {off : Int} (tgt : Nat) (hdg : decode cc pc = .ok (.ifCond .ge off, 3)) (ht : (pc : Int) + off = (tgt : Int)) (kt : 0 ≤ u → Gj l h D T ad nL R kc ks Γ Q x g tgt lv (rest)) (kf : ¬ 0 ≤ u → Gj l h D T ad nL R kc ks Γ Q x g (pc + 3) lv (rest)) : Gj l h D T ad nL R kc ks Γ Q x g pc lv (.int u :: rest) := fun H locs ls hw hl => lv_if_ge C.1.1 C.1.2.1 hdg ht (fun q => kt q H locs ls hw hl) (fun q => kf q H locs ls hw hl)
theorem g_icmp_ge (C : Cx D T cc nL Ts own ret Γ) {u v : Int32} {off : Int} (tgt : Nat) (hdg : decode cc pc = .ok (.if_icmp .ge off, 3)) (ht : (pc : Int) + off = (tgt : Int)) (kt : v ≤ u → Gj l h D T ad nL R kc ks Γ Q x g tgt lv (rest)) (kf : ¬ v ≤ u → Gj l h D T ad nL R kc ks Γ Q x g (pc + 3) lv (rest)) : Gj l h D T ad nL R kc ks Γ Q x g pc lv (.int v :: .int u :: rest) := fun H locs ls hw hl => lv_icmp_ge C.1.1 C.1.2.1 hdg ht (fun q => kt q H locs ls hw hl) (fun q => kf q H locs ls hw hl)
theorem g_if_gt (C : Cx D T cc nL Ts own ret Γ) {u : Int32} {off : Int} (tgt : Nat) (hdg : decode cc pc = .ok (.ifCond .gt off, 3)) (ht : (pc : Int) + off = (tgt : Int)) (kt : 0 < u → Gj l h D T ad nL R kc ks Γ Q x g tgt lv (rest)) (kf : ¬ 0 < u → Gj l h D T ad nL R kc ks Γ Q x g (pc + 3) lv (rest)) : Gj l h D T ad nL R kc ks Γ Q x g pc lv (.int u :: rest) := fun H locs ls hw hl => lv_if_gt C.1.1 C.1.2.1 hdg ht (fun q => kt q H locs ls hw hl) (fun q => kf q H locs ls hw hl)
theorem g_icmp_gt (C : Cx D T cc nL Ts own ret Γ) {u v : Int32} {off : Int} (tgt : Nat) (hdg : decode cc pc = .ok (.if_icmp .gt off, 3)) (ht : (pc : Int) + off = (tgt : Int)) (kt : v < u → Gj l h D T ad nL R kc ks Γ Q x g tgt lv (rest)) (kf : ¬ v < u → Gj l h D T ad nL R kc ks Γ Q x g (pc + 3) lv (rest)) : Gj l h D T ad nL R kc ks Γ Q x g pc lv (.int v :: .int u :: rest) := fun H locs ls hw hl => lv_icmp_gt C.1.1 C.1.2.1 hdg ht (fun q => kt q H locs ls hw hl) (fun q => kf q H locs ls hw hl)
theorem g_if_le (C : Cx D T cc nL Ts own ret Γ) {u : Int32} {off : Int} (tgt : Nat) (hdg : decode cc pc = .ok (.ifCond .le off, 3)) (ht : (pc : Int) + off = (tgt : Int)) (kt : u ≤ 0 → Gj l h D T ad nL R kc ks Γ Q x g tgt lv (rest)) (kf : ¬ u ≤ 0 → Gj l h D T ad nL R kc ks Γ Q x g (pc + 3) lv (rest)) : Gj l h D T ad nL R kc ks Γ Q x g pc lv (.int u :: rest) := fun H locs ls hw hl => lv_if_le C.1.1 C.1.2.1 hdg ht (fun q => kt q H locs ls hw hl) (fun q => kf q H locs ls hw hl)
theorem g_icmp_le (C : Cx D T cc nL Ts own ret Γ) {u v : Int32} {off : Int} (tgt : Nat) (hdg : decode cc pc = .ok (.if_icmp .le off, 3)) (ht : (pc : Int) + off = (tgt : Int)) (kt : u ≤ v → Gj l h D T ad nL R kc ks Γ Q x g tgt lv (rest)) (kf : ¬ u ≤ v → Gj l h D T ad nL R kc ks Γ Q x g (pc + 3) lv (rest)) : Gj l h D T ad nL R kc ks Γ Q x g pc lv (.int v :: .int u :: rest) := fun H locs ls hw hl => lv_icmp_le C.1.1 C.1.2.1 hdg ht (fun q => kt q H locs ls hw hl) (fun q => kf q H locs ls hw hl)
theorem g_ifnull (C : Cx D T cc nL Ts own ret Γ) {a : Nat} {off : Int} (hdg : decode cc pc = .ok (.ifnull off, 3)) (K : Gj l h D T ad nL R kc ks Γ Q x g (pc + 3) lv (rest)) : Gj l h D T ad nL R kc ks Γ Q x g pc lv (.ref a :: rest) := fun H locs ls hw hl => lv_ifnull C.1.1 C.1.2.1 hdg (K H locs ls hw hl)
theorem g_tabIn (C : Cx D T cc nL Ts own ret Γ) {dflt lo hi off : Int} {offs : Array Int} {len : Nat} {u : Int32} (v : Int32) (tgt : Nat) (hdg : decode cc pc = .ok (.tableswitch dflt lo hi offs, len)) (hu : u = v) (h1 : ¬ v.toInt < lo) (h2 : ¬ hi < v.toInt) (ho : offs[(v.toInt - lo).toNat]? = some off) (ht : (pc : Int) + off = (tgt : Int)) (K : Gj l h D T ad nL R kc ks Γ Q x g tgt lv (rest)) : Gj l h D T ad nL R kc ks Γ Q x g pc lv (.int u :: rest) := fun H locs ls hw hl => by subst hu; exact lv_tableIn C.1.1 C.1.2.1 hdg h1 h2 ho ht (K H locs ls hw hl)
theorem g_tabOut (C : Cx D T cc nL Ts own ret Γ) {dflt lo hi : Int} {offs : Array Int} {len : Nat} {u : Int32} (tgt : Nat) (hdg : decode cc pc = .ok (.tableswitch dflt lo hi offs, len)) (hu : u.toInt < lo ∨ hi < u.toInt) (ht : (pc : Int) + dflt = (tgt : Int)) (K : Gj l h D T ad nL R kc ks Γ Q x g tgt lv (rest)) : Gj l h D T ad nL R kc ks Γ Q x g pc lv (.int u :: rest) := fun H locs ls hw hl => lv_tableOut C.1.1 C.1.2.1 hdg hu ht (K H locs ls hw hl)
theorem g_lookup (C : Cx D T cc nL Ts own ret Γ) {dflt off : Int} {ps : Array (Int × Int)} {len : Nat} {u : Int32} (tgt : Nat) (hdg : decode cc pc = .ok (.lookupswitch dflt ps, len)) (hp : (ps.toList.zip (ps.toList.drop 1)).all (fun (a, next) => a.1 < next.1) = true) (ho : Op.lookupswitch.offset ps.toList dflt u.toInt = off) (ht : (pc : Int) + off = (tgt : Int)) (K : Gj l h D T ad nL R kc ks Γ Q x g tgt lv (rest)) : Gj l h D T ad nL R kc ks Γ Q x g pc lv (.int u :: rest) := fun H locs ls hw hl => lv_lookup C.1.1 C.1.2.1 hdg hp ho ht (K H locs ls hw hl)
theorem g_iald (C : Cx D T cc nL Ts own ret Γ) {k n : Nat} {i : Int32} {v : Int32} (hn : lenW h k = n) (hi : ¬ (i < 0 ∨ n ≤ i.toNatClampNeg)) (hv : g k i.toNatClampNeg = v) (hdg : decode cc pc = .ok (.iaload, 1)) (K : Gj l h D T ad nL R kc ks Γ Q x g (pc + 1) lv (.int v :: rest)) : Gj l h D T ad nL R kc ks Γ Q x g pc lv (.int i :: .ref (ad k) :: rest) := fun H locs ls hw hl => by subst hn; exact w_ald C.1 C.2.1 hw hi hv hdg (K H locs ls hw hl)
theorem g_iast (C : Cx D T cc nL Ts own ret Γ) {k n q : Nat} {i v : Int32} (hn : lenW h k = n) (hi : ¬ (i < 0 ∨ n ≤ i.toNatClampNeg)) (hq : i.toNatClampNeg = q) (hdg : decode cc pc = .ok (.iastore, 1)) (K : Gj l h D T ad nL R kc ks Γ Q x (st g k q v) (pc + 1) lv (rest)) : Gj l h D T ad nL R kc ks Γ Q x g pc lv (.int v :: .int i :: .ref (ad k) :: rest) := fun H locs ls hw hl => by subst hn; subst hq; exact w_ast C.1 C.2.1 hw hi hdg (fun H locs hw => K H locs ls hw hl)
theorem g_lald (C : Cx D T cc nL Ts own ret Γ) {k n : Nat} {i : Int32} {v : Int64} (hn : lnlW h k = n) (hi : ¬ (i < 0 ∨ n ≤ i.toNatClampNeg)) (hv : x k i.toNatClampNeg = v) (hdg : decode cc pc = .ok (.laload, 1)) (K : Gj l h D T ad nL R kc ks Γ Q x g (pc + 1) lv (.long v :: rest)) : Gj l h D T ad nL R kc ks Γ Q x g pc lv (.int i :: .ref (ad k) :: rest) := fun H locs ls hw hl => by subst hn; exact w_lald C.1 C.2.1 hw hi hv hdg (K H locs ls hw hl)
theorem g_last (C : Cx D T cc nL Ts own ret Γ) {k n q : Nat} {i : Int32} {v : Int64} (hn : lnlW h k = n) (hi : ¬ (i < 0 ∨ n ≤ i.toNatClampNeg)) (hq : i.toNatClampNeg = q) (hdg : decode cc pc = .ok (.lastore, 1)) (K : Gj l h D T ad nL R kc ks Γ Q (sl x k q v) g (pc + 1) lv (rest)) : Gj l h D T ad nL R kc ks Γ Q x g pc lv (.long v :: .int i :: .ref (ad k) :: rest) := fun H locs ls hw hl => by subst hn; subst hq; exact w_last C.1 C.2.1 hw hi hdg (fun H locs hw => K H locs ls hw hl)
theorem g_aald (C : Cx D T cc nL Ts own ret Γ) {k n q : Nat} {i : Int32} (hn : lngW h k = n) (hi : ¬ (i < 0 ∨ n ≤ i.toNatClampNeg)) (hq : h.2.2.2.2 k + i.toNatClampNeg = q) (hdg : decode cc pc = .ok (.aaload, 1)) (K : Gj l h D T ad nL R kc ks Γ Q x g (pc + 1) lv (.ref (ad q) :: rest)) : Gj l h D T ad nL R kc ks Γ Q x g pc lv (.int i :: .ref (ad k) :: rest) := fun H locs ls hw hl => by subst hn; subst hq; exact w_aald C.1 C.2.1 hw hi hdg (K H locs ls hw hl)
theorem g_alen (C : Cx D T cc nL Ts own ret Γ) {k n : Nat} {v : Int32} (hn : lenW h k = n) (hi : 0 < n) (hv : Int32.ofNat n = v) (hdg : decode cc pc = .ok (.arraylength, 1)) (K : Gj l h D T ad nL R kc ks Γ Q x g (pc + 1) lv (.int v :: rest)) : Gj l h D T ad nL R kc ks Γ Q x g pc lv (.ref (ad k) :: rest) := fun H locs ls hw hl => by subst hn; subst hv; exact w_alen C.1 C.2.1 hw hi hdg (K H locs ls hw hl)
theorem g_alenl (C : Cx D T cc nL Ts own ret Γ) {k n : Nat} {v : Int32} (hn : lnlW h k = n) (hi : 0 < n) (hv : Int32.ofNat n = v) (hdg : decode cc pc = .ok (.arraylength, 1)) (K : Gj l h D T ad nL R kc ks Γ Q x g (pc + 1) lv (.int v :: rest)) : Gj l h D T ad nL R kc ks Γ Q x g pc lv (.ref (ad k) :: rest) := fun H locs ls hw hl => by subst hn; subst hv; exact w_alenl C.1 C.2.1 hw hi hdg (K H locs ls hw hl)
theorem g_get (C : Cx D T cc nL Ts own ret Γ) {k ci j N0 index : Nat} {C0 : String} {T0 : u_T} (hc : vwCl[ci]? = some (C0, T0, N0)) (hk : k < h.1 ∧ h.2.1 k = 3 ∧ h.2.2.1 k = ci) (hin : ∀ w ∈ u_ws C0 T0 N0, w ∈ Ts) (hj : j < N0) (hr : h.2.2.2.1 k j = 0) (hl : Cond.fieldLink own index (T0 j).1 (T0 j).2.1 (T0 j).2.2.1 ∈ Ts) {v : Int32} (hv : g k j = v) (hdg : decode cc pc = .ok (.getfield index, 3)) (K : Gj l h D T ad nL R kc ks Γ Q x g (pc + 3) lv (.int v :: rest)) : Gj l h D T ad nL R kc ks Γ Q x g pc lv (.ref (ad k) :: rest) := fun H locs ls hw hl' => w_get C.1 C.2.1 hw hc hk hin hj hr hl hv hdg (K H locs ls hw hl')
theorem g_getr (C : Cx D T cc nL Ts own ret Γ) {k ci j q N0 index : Nat} {C0 : String} {T0 : u_T} (hc : vwCl[ci]? = some (C0, T0, N0)) (hk : k < h.1 ∧ h.2.1 k = 3 ∧ h.2.2.1 k = ci) (hin : ∀ w ∈ u_ws C0 T0 N0, w ∈ Ts) (hj : j < N0) (hr : h.2.2.2.1 k j = q + 1) (hl : Cond.fieldLink own index (T0 j).1 (T0 j).2.1 (T0 j).2.2.1 ∈ Ts) (hdg : decode cc pc = .ok (.getfield index, 3)) (K : Gj l h D T ad nL R kc ks Γ Q x g (pc + 3) lv (.ref (ad q) :: rest)) : Gj l h D T ad nL R kc ks Γ Q x g pc lv (.ref (ad k) :: rest) := fun H locs ls hw hl' => w_getr C.1 C.2.1 hw hc hk hin hj hr hl hdg (K H locs ls hw hl')
theorem g_put (C : Cx D T cc nL Ts own ret Γ) {k ci j N0 index : Nat} {C0 : String} {T0 : u_T} (hc : vwCl[ci]? = some (C0, T0, N0)) (hk : k < h.1 ∧ h.2.1 k = 3 ∧ h.2.2.1 k = ci) (hin : ∀ w ∈ u_ws C0 T0 N0, w ∈ Ts) (ty0 : Nat → FieldType) (hty : ∀ k, k < N0 → parseFieldDescriptor (T0 k).2.2.1 = some (ty0 k)) (hnm : ∀ a, a < N0 → ∀ b, b < N0 → a ≠ b → (T0 a).2.1 ≠ (T0 b).2.1) (hj : j < N0) (hr : h.2.2.2.1 k j = 0) (hl : Cond.fieldLink own index (T0 j).1 (T0 j).2.1 (T0 j).2.2.1 ∈ Ts) (hfin : (T0 j).2.2.2 = false) (hd : parseFieldDescriptor (T0 j).2.2.1 = some .int) {v : Int32} (hdg : decode cc pc = .ok (.putfield index, 3)) (K : Gj l h D T ad nL R kc ks Γ Q x (st g k j v) (pc + 3) lv (rest)) : Gj l h D T ad nL R kc ks Γ Q x g pc lv (.int v :: .ref (ad k) :: rest) := fun H locs ls hw hl' => w_put C.1 C.2.1 hw hc hk hin ty0 hty hnm hj hr hl hfin hd hdg (fun H locs hw => K H locs ls hw hl')
/-- a contract's end: the answer, the world -/
abbrev eqI (ro : Int32) (go : St) (xo : Sl) : Int32 → St × Sl → Prop := fun r u => r = ro ∧ u = (go, xo)
abbrev eqZ (ro : Int32) (go : St) (xo : Sl) : Int32 → St × Sl → Prop := fun r u => (r = ro ∧ u = (go, xo)) ∧ narrow .boolean (.int r) = .int r
abbrev eqL (ro : Int64) (go : St) (xo : Sl) : Int64 → St × Sl → Prop := fun r u => r = ro ∧ u = (go, xo)
abbrev eqV (go : St) (xo : Sl) : St × Sl → Prop := fun u => u = (go, xo)
theorem g_iret (C : Cx D T cc nL Ts own (some .int) Γ) {v : Int32} {ro : Int32} {go : St} {xo : Sl} (hv : v = ro) (hg : g = go) (hx : x = xo) (hdg : decode cc pc = .ok (.ireturn, 1)) : Gj l h D T ad nL R kc ks Γ (MQ Γ.below (va_Qi (eqI ro go xo) (wPost h D T ad Γ.A) Γ.A) Γ.args Γ.s kc ks Γ.A) x g pc lv [.int v] := fun H locs ls hw hl => w_iret C.1 C.2.2.1 C.2.2.2 C.2.1 hw ⟨hv, by rw [hg, hx]⟩ hdg
theorem g_zret (C : Cx D T cc nL Ts own (some .boolean) Γ) {v : Int32} {ro : Int32} {go : St} {xo : Sl} (hz : narrow .boolean (.int v) = .int v) (hv : v = ro) (hg : g = go) (hx : x = xo) (hdg : decode cc pc = .ok (.ireturn, 1)) : Gj l h D T ad nL R kc ks Γ (MQ Γ.below (va_Qi (eqZ ro go xo) (wPost h D T ad Γ.A) Γ.A) Γ.args Γ.s kc ks Γ.A) x g pc lv [.int v] := fun H locs ls hw hl => w_zret C.1 C.2.2.1 C.2.2.2 C.2.1 hw hz ⟨⟨hv, by rw [hg, hx]⟩, hz⟩ hdg
theorem g_lret (C : Cx D T cc nL Ts own (some .long) Γ) {v : Int64} {ro : Int64} {go : St} {xo : Sl} (hv : v = ro) (hg : g = go) (hx : x = xo) (hdg : decode cc pc = .ok (.lreturn, 1)) : Gj l h D T ad nL R kc ks Γ (MQ Γ.below (va_Ql (eqL ro go xo) (wPost h D T ad Γ.A) Γ.A) Γ.args Γ.s kc ks Γ.A) x g pc lv [.long v] := fun H locs ls hw hl => w_lret C.1 C.2.2.1 C.2.2.2 C.2.1 hw ⟨hv, by rw [hg, hx]⟩ hdg
theorem g_vret (C : Cx D T cc nL Ts own none Γ) {go : St} {xo : Sl} (hg : g = go) (hx : x = xo) (hdg : decode cc pc = .ok (.return_, 1)) : Gj l h D T ad nL R kc ks Γ (MQ Γ.below (va_Qv (eqV go xo) (wPost h D T ad Γ.A) Γ.A) Γ.args Γ.s kc ks Γ.A) x g pc lv [] := fun H locs ls hw hl => w_vret C.1 C.2.2.1 C.2.2.2 C.2.1 hw (by show (g, x) = (go, xo); rw [hg, hx]) hdg
/-- a callee's fixed facts -/
def kV (Ts : List Cond) (own C0 : String) (idx : Nat) (y : MethodName) (cy : ByteArray) (maxL n : Nat) (ret : Option FieldType) (ws : List Cond) : Prop := GoodIn Ts (wsV own idx C0 y ws) ∧ (∃ ws', ws = Cond.code y cy maxL ret :: ws') ∧ (y.cls = C0 ∧ y.cls ≠ "java/lang/invoke/MethodHandle" ∧ y.cls ≠ "java/lang/invoke/VarHandle" ∧ (parseMethodDescriptor y.desc).map (fun d => d.parameters.length) = some n)
def kS (Ts : List Cond) (own : String) (idx : Nat) (y : MethodName) (cy : ByteArray) (maxL n : Nat) (ret : Option FieldType) (ws : List Cond) : Prop := GoodIn Ts (va_wsS own idx y ws) ∧ (∃ ws', ws = Cond.code y cy maxL ret :: ws') ∧ (y.cls ≠ "java/lang/invoke/MethodHandle" ∧ y.cls ≠ "java/lang/invoke/VarHandle" ∧ (parseMethodDescriptor y.desc).map (fun d => d.parameters.length) = some n)
theorem g_cVi (C : Cx D T cc nL Ts own ret Γ) {y : MethodName} {ws : List Cond} {rm : Room} {cy : ByteArray} {maxL n idx : Nat} {ret0 : Option FieldType} {As : List Value} {ro : Int32} {go : St} {xo : Sl} {k ci N0 : Nat} {C0 : String} {T0 : u_T} 
    (hM : ∀ sz : Nat, Met l y ws rm (va_Pc (.ref (ad k) :: As) (wPre h D T ad x g sz)) (va_Qi (eqI ro go xo) (wPost h D T ad (aW h T ad x g sz)) (aW h T ad x g sz)) 0 0 (aW h T ad x g sz))
    (hk0 : kV Ts own C0 idx y cy maxL n ret0 ws) (hR : rm.frames + 1 ≤ R.frames ∧ 8 + (maxL + 11) + rm.locals ≤ R.locals) (hrm : rm.cells = 0 ∧ rm.slots = 0) (hcs : kc ≤ R.cells ∧ ks ≤ R.slots) (hc : vwCl[ci]? = some (C0, T0, N0)) (hk : k < h.1 ∧ h.2.1 k = 3 ∧ h.2.2.1 k = ci) (hn : As.length = n) {stk : List Value} (hstk : stk = As.reverse ++ .ref (ad k) :: rest) (hcat : (rest.map fun v => v.category).sum ≤ 8) (hdg : decode cc pc = .ok (.invokevirtual idx, 3))
    (K : Gj l h D T ad nL R kc ks Γ Q xo go (pc + 3) lv (.int ro :: rest)) : Gj l h D T ad nL R kc ks Γ Q x g pc lv (stk) := by
  obtain ⟨hG, ⟨ws', hws⟩, hd⟩ := hk0
  intro H locs ls hw hl
  refine w_cVi C.1 C.2.1 hw (hM H.size) hG hws hd hR hrm hcs hc hk hn hstk hl.1 hcat hdg (fun r u H1 locs1 hp hw1 => ?_)
  obtain ⟨rfl, rfl⟩ := hp
  exact K H1 locs1 ls hw1 hl
theorem g_cSi (C : Cx D T cc nL Ts own ret Γ) {y : MethodName} {ws : List Cond} {rm : Room} {cy : ByteArray} {maxL n idx : Nat} {ret0 : Option FieldType} {As : List Value} {ro : Int32} {go : St} {xo : Sl} 
    (hM : ∀ sz : Nat, Met l y ws rm (va_Pc As (wPre h D T ad x g sz)) (va_Qi (eqI ro go xo) (wPost h D T ad (aW h T ad x g sz)) (aW h T ad x g sz)) 0 0 (aW h T ad x g sz))
    (hk0 : kS Ts own idx y cy maxL n ret0 ws) (hR : rm.frames + 1 ≤ R.frames ∧ 8 + (maxL + 11) + rm.locals ≤ R.locals) (hrm : rm.cells = 0 ∧ rm.slots = 0) (hcs : kc ≤ R.cells ∧ ks ≤ R.slots) (hn : As.length = n) {stk : List Value} (hstk : stk = As.reverse ++ rest) (hcat : (rest.map fun v => v.category).sum ≤ 8) (hdg : decode cc pc = .ok (.invokestatic idx, 3))
    (K : Gj l h D T ad nL R kc ks Γ Q xo go (pc + 3) lv (.int ro :: rest)) : Gj l h D T ad nL R kc ks Γ Q x g pc lv (stk) := by
  obtain ⟨hG, ⟨ws', hws⟩, hd⟩ := hk0
  intro H locs ls hw hl
  refine w_cSi C.1 C.2.1 hw (hM H.size) hG hws hd hR hrm hcs hn hstk hl.1 hcat hdg (fun r u H1 locs1 hp hw1 => ?_)
  obtain ⟨rfl, rfl⟩ := hp
  exact K H1 locs1 ls hw1 hl
theorem g_cVz (C : Cx D T cc nL Ts own ret Γ) {y : MethodName} {ws : List Cond} {rm : Room} {cy : ByteArray} {maxL n idx : Nat} {ret0 : Option FieldType} {As : List Value} {ro : Int32} {go : St} {xo : Sl} {k ci N0 : Nat} {C0 : String} {T0 : u_T} 
    (hM : ∀ sz : Nat, Met l y ws rm (va_Pc (.ref (ad k) :: As) (wPre h D T ad x g sz)) (va_Qi (eqZ ro go xo) (wPost h D T ad (aW h T ad x g sz)) (aW h T ad x g sz)) 0 0 (aW h T ad x g sz))
    (hk0 : kV Ts own C0 idx y cy maxL n ret0 ws) (hR : rm.frames + 1 ≤ R.frames ∧ 8 + (maxL + 11) + rm.locals ≤ R.locals) (hrm : rm.cells = 0 ∧ rm.slots = 0) (hcs : kc ≤ R.cells ∧ ks ≤ R.slots) (hc : vwCl[ci]? = some (C0, T0, N0)) (hk : k < h.1 ∧ h.2.1 k = 3 ∧ h.2.2.1 k = ci) (hn : As.length = n) {stk : List Value} (hstk : stk = As.reverse ++ .ref (ad k) :: rest) (hcat : (rest.map fun v => v.category).sum ≤ 8) (hdg : decode cc pc = .ok (.invokevirtual idx, 3))
    (K : narrow .boolean (.int ro) = .int ro → Gj l h D T ad nL R kc ks Γ Q xo go (pc + 3) lv (.int ro :: rest)) : Gj l h D T ad nL R kc ks Γ Q x g pc lv (stk) := by
  obtain ⟨hG, ⟨ws', hws⟩, hd⟩ := hk0
  intro H locs ls hw hl
  refine w_cVi C.1 C.2.1 hw (hM H.size) hG hws hd hR hrm hcs hc hk hn hstk hl.1 hcat hdg (fun r u H1 locs1 hp hw1 => ?_)
  obtain ⟨⟨rfl, rfl⟩, hz⟩ := hp
  exact K hz H1 locs1 ls hw1 hl
theorem g_cSz (C : Cx D T cc nL Ts own ret Γ) {y : MethodName} {ws : List Cond} {rm : Room} {cy : ByteArray} {maxL n idx : Nat} {ret0 : Option FieldType} {As : List Value} {ro : Int32} {go : St} {xo : Sl} 
    (hM : ∀ sz : Nat, Met l y ws rm (va_Pc As (wPre h D T ad x g sz)) (va_Qi (eqZ ro go xo) (wPost h D T ad (aW h T ad x g sz)) (aW h T ad x g sz)) 0 0 (aW h T ad x g sz))
    (hk0 : kS Ts own idx y cy maxL n ret0 ws) (hR : rm.frames + 1 ≤ R.frames ∧ 8 + (maxL + 11) + rm.locals ≤ R.locals) (hrm : rm.cells = 0 ∧ rm.slots = 0) (hcs : kc ≤ R.cells ∧ ks ≤ R.slots) (hn : As.length = n) {stk : List Value} (hstk : stk = As.reverse ++ rest) (hcat : (rest.map fun v => v.category).sum ≤ 8) (hdg : decode cc pc = .ok (.invokestatic idx, 3))
    (K : narrow .boolean (.int ro) = .int ro → Gj l h D T ad nL R kc ks Γ Q xo go (pc + 3) lv (.int ro :: rest)) : Gj l h D T ad nL R kc ks Γ Q x g pc lv (stk) := by
  obtain ⟨hG, ⟨ws', hws⟩, hd⟩ := hk0
  intro H locs ls hw hl
  refine w_cSi C.1 C.2.1 hw (hM H.size) hG hws hd hR hrm hcs hn hstk hl.1 hcat hdg (fun r u H1 locs1 hp hw1 => ?_)
  obtain ⟨⟨rfl, rfl⟩, hz⟩ := hp
  exact K hz H1 locs1 ls hw1 hl
theorem g_cVl (C : Cx D T cc nL Ts own ret Γ) {y : MethodName} {ws : List Cond} {rm : Room} {cy : ByteArray} {maxL n idx : Nat} {ret0 : Option FieldType} {As : List Value} {ro : Int64} {go : St} {xo : Sl} {k ci N0 : Nat} {C0 : String} {T0 : u_T} 
    (hM : ∀ sz : Nat, Met l y ws rm (va_Pc (.ref (ad k) :: As) (wPre h D T ad x g sz)) (va_Ql (eqL ro go xo) (wPost h D T ad (aW h T ad x g sz)) (aW h T ad x g sz)) 0 0 (aW h T ad x g sz))
    (hk0 : kV Ts own C0 idx y cy maxL n ret0 ws) (hR : rm.frames + 1 ≤ R.frames ∧ 8 + (maxL + 11) + rm.locals ≤ R.locals) (hrm : rm.cells = 0 ∧ rm.slots = 0) (hcs : kc ≤ R.cells ∧ ks ≤ R.slots) (hc : vwCl[ci]? = some (C0, T0, N0)) (hk : k < h.1 ∧ h.2.1 k = 3 ∧ h.2.2.1 k = ci) (hn : As.length = n) {stk : List Value} (hstk : stk = As.reverse ++ .ref (ad k) :: rest) (hcat : (rest.map fun v => v.category).sum ≤ 8) (hdg : decode cc pc = .ok (.invokevirtual idx, 3))
    (K : Gj l h D T ad nL R kc ks Γ Q xo go (pc + 3) lv (.long ro :: rest)) : Gj l h D T ad nL R kc ks Γ Q x g pc lv (stk) := by
  obtain ⟨hG, ⟨ws', hws⟩, hd⟩ := hk0
  intro H locs ls hw hl
  refine w_cVl C.1 C.2.1 hw (hM H.size) hG hws hd hR hrm hcs hc hk hn hstk hl.1 hcat hdg (fun r u H1 locs1 hp hw1 => ?_)
  obtain ⟨rfl, rfl⟩ := hp
  exact K H1 locs1 ls hw1 hl
theorem g_cSl (C : Cx D T cc nL Ts own ret Γ) {y : MethodName} {ws : List Cond} {rm : Room} {cy : ByteArray} {maxL n idx : Nat} {ret0 : Option FieldType} {As : List Value} {ro : Int64} {go : St} {xo : Sl} 
    (hM : ∀ sz : Nat, Met l y ws rm (va_Pc As (wPre h D T ad x g sz)) (va_Ql (eqL ro go xo) (wPost h D T ad (aW h T ad x g sz)) (aW h T ad x g sz)) 0 0 (aW h T ad x g sz))
    (hk0 : kS Ts own idx y cy maxL n ret0 ws) (hR : rm.frames + 1 ≤ R.frames ∧ 8 + (maxL + 11) + rm.locals ≤ R.locals) (hrm : rm.cells = 0 ∧ rm.slots = 0) (hcs : kc ≤ R.cells ∧ ks ≤ R.slots) (hn : As.length = n) {stk : List Value} (hstk : stk = As.reverse ++ rest) (hcat : (rest.map fun v => v.category).sum ≤ 8) (hdg : decode cc pc = .ok (.invokestatic idx, 3))
    (K : Gj l h D T ad nL R kc ks Γ Q xo go (pc + 3) lv (.long ro :: rest)) : Gj l h D T ad nL R kc ks Γ Q x g pc lv (stk) := by
  obtain ⟨hG, ⟨ws', hws⟩, hd⟩ := hk0
  intro H locs ls hw hl
  refine w_cSl C.1 C.2.1 hw (hM H.size) hG hws hd hR hrm hcs hn hstk hl.1 hcat hdg (fun r u H1 locs1 hp hw1 => ?_)
  obtain ⟨rfl, rfl⟩ := hp
  exact K H1 locs1 ls hw1 hl
theorem g_cVv (C : Cx D T cc nL Ts own ret Γ) {y : MethodName} {ws : List Cond} {rm : Room} {cy : ByteArray} {maxL n idx : Nat} {ret0 : Option FieldType} {As : List Value} {go : St} {xo : Sl} {k ci N0 : Nat} {C0 : String} {T0 : u_T} 
    (hM : ∀ sz : Nat, Met l y ws rm (va_Pc (.ref (ad k) :: As) (wPre h D T ad x g sz)) (va_Qv (eqV go xo) (wPost h D T ad (aW h T ad x g sz)) (aW h T ad x g sz)) 0 0 (aW h T ad x g sz))
    (hk0 : kV Ts own C0 idx y cy maxL n ret0 ws) (hR : rm.frames + 1 ≤ R.frames ∧ 8 + (maxL + 11) + rm.locals ≤ R.locals) (hrm : rm.cells = 0 ∧ rm.slots = 0) (hcs : kc ≤ R.cells ∧ ks ≤ R.slots) (hc : vwCl[ci]? = some (C0, T0, N0)) (hk : k < h.1 ∧ h.2.1 k = 3 ∧ h.2.2.1 k = ci) (hn : As.length = n) {stk : List Value} (hstk : stk = As.reverse ++ .ref (ad k) :: rest) (hcat : (rest.map fun v => v.category).sum ≤ 8) (hdg : decode cc pc = .ok (.invokevirtual idx, 3))
    (K : Gj l h D T ad nL R kc ks Γ Q xo go (pc + 3) lv (rest)) : Gj l h D T ad nL R kc ks Γ Q x g pc lv (stk) := by
  obtain ⟨hG, ⟨ws', hws⟩, hd⟩ := hk0
  intro H locs ls hw hl
  refine w_cVv C.1 C.2.1 hw (hM H.size) hG hws hd hR hrm hcs hc hk hn hstk hl.1 hcat hdg (fun u H1 locs1 hp hw1 => ?_)
  cases hp
  exact K H1 locs1 ls hw1 hl
theorem g_cSv (C : Cx D T cc nL Ts own ret Γ) {y : MethodName} {ws : List Cond} {rm : Room} {cy : ByteArray} {maxL n idx : Nat} {ret0 : Option FieldType} {As : List Value} {go : St} {xo : Sl} 
    (hM : ∀ sz : Nat, Met l y ws rm (va_Pc As (wPre h D T ad x g sz)) (va_Qv (eqV go xo) (wPost h D T ad (aW h T ad x g sz)) (aW h T ad x g sz)) 0 0 (aW h T ad x g sz))
    (hk0 : kS Ts own idx y cy maxL n ret0 ws) (hR : rm.frames + 1 ≤ R.frames ∧ 8 + (maxL + 11) + rm.locals ≤ R.locals) (hrm : rm.cells = 0 ∧ rm.slots = 0) (hcs : kc ≤ R.cells ∧ ks ≤ R.slots) (hn : As.length = n) {stk : List Value} (hstk : stk = As.reverse ++ rest) (hcat : (rest.map fun v => v.category).sum ≤ 8) (hdg : decode cc pc = .ok (.invokestatic idx, 3))
    (K : Gj l h D T ad nL R kc ks Γ Q xo go (pc + 3) lv (rest)) : Gj l h D T ad nL R kc ks Γ Q x g pc lv (stk) := by
  obtain ⟨hG, ⟨ws', hws⟩, hd⟩ := hk0
  intro H locs ls hw hl
  refine w_cSv C.1 C.2.1 hw (hM H.size) hG hws hd hR hrm hcs hn hstk hl.1 hcat hdg (fun u H1 locs1 hp hw1 => ?_)
  cases hp
  exact K H1 locs1 ls hw1 hl
end ROWS
theorem g_start {l : Launch} {h : Sh} {D : va_G} {T : cT} {ad : Nat → Nat} {x : Sl} {g : St} {sz : Nat} {y : MethodName} {ws ws' : List Cond} {rm : Room} {cc : ByteArray} {maxL : Nat} {ret : Option FieldType} {own : String} {av : List Value} {Qc : (Nat → Prop) → Array Value → State → Outcome → State → Prop} (hy : plainName y.cls = true) (hws : ws = .code y cc maxL ret :: ws') (hcl : y.cls = own) (hav : (lg_sl av).length ≤ maxL) {lv : List (Nat × Value)} (hlv : lv_args 0 av = lv)
    (body : ∀ Γ : Cxt, Cx D T cc maxL ws own ret Γ → Gj l h D T ad maxL rm 0 0 Γ (MQ Γ.below (Qc Γ.A) Γ.args Γ.s 0 0 Γ.A) x g 0 lv []) :
    Met l y ws rm (va_Pc av (wPre h D T ad x g sz)) (Qc (aW h T ad x g sz)) 0 0 (aW h T ad x g sz) := by
  refine w_start hy hws hcl hav (Qc := Qc) (fun p e s m args below meth c A ls C hr hlk hK hw hl => ?_)
  subst hlv
  exact body (p, e, s, m, args, below, meth, c, A) ⟨C, hK, hr, hlk⟩ _ _ ls hw hl
end
section
theorem zz_last : True := trivial
end
