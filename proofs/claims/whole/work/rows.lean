section
/-- a private method of a class that the tables say can be made, by its rows of tables_1 -/
def lw_okq (q : MethodName × Nat) : Prop := (q.1.cls ≠ "java/lang/invoke/MethodHandle" ∧ q.1.cls ≠ "java/lang/invoke/VarHandle") ∧ Cond.instantiable q.1.cls q.2 ∈ tables_1 ∧ Cond.privateMethod q.1 ∈ tables_1 ∧ Cond.instanceMethod q.1 ∈ tables_1
theorem lw_p0 : lw_okq (⟨"TruthWalk", "bookAt", "(I)LTruthWalk$Book;"⟩, 10) := ⟨⟨by decide +kernel, by decide +kernel⟩, List.mem_of_getElem? (i := 14) (by decide +kernel), List.mem_of_getElem? (i := 279) (by decide +kernel), List.mem_of_getElem? (i := 280) (by decide +kernel)⟩
theorem lw_p1 : lw_okq (⟨"TruthWalk", "refuse", "(I)I"⟩, 10) := ⟨⟨by decide +kernel, by decide +kernel⟩, List.mem_of_getElem? (i := 14) (by decide +kernel), List.mem_of_getElem? (i := 283) (by decide +kernel), List.mem_of_getElem? (i := 284) (by decide +kernel)⟩
theorem lw_p2 : lw_okq (⟨"TruthWalk", "putClause", "(LTruthWalk$Book;I)I"⟩, 10) := ⟨⟨by decide +kernel, by decide +kernel⟩, List.mem_of_getElem? (i := 14) (by decide +kernel), List.mem_of_getElem? (i := 302) (by decide +kernel), List.mem_of_getElem? (i := 303) (by decide +kernel)⟩
theorem lw_p3 : lw_okq (⟨"TruthWalk$Level", "take", "([III)V"⟩, 9) := ⟨⟨by decide +kernel, by decide +kernel⟩, List.mem_of_getElem? (i := 189) (by decide +kernel), List.mem_of_getElem? (i := 399) (by decide +kernel), List.mem_of_getElem? (i := 400) (by decide +kernel)⟩
theorem lw_p4 : lw_okq (⟨"TruthWalk$Level", "addUnlike", "(I)V"⟩, 9) := ⟨⟨by decide +kernel, by decide +kernel⟩, List.mem_of_getElem? (i := 189) (by decide +kernel), List.mem_of_getElem? (i := 406) (by decide +kernel), List.mem_of_getElem? (i := 407) (by decide +kernel)⟩
theorem lw_p5 : lw_okq (⟨"TruthWalk$Maker", "makeList", "(LTruthWalk$Graph;I)I"⟩, 4) := ⟨⟨by decide +kernel, by decide +kernel⟩, List.mem_of_getElem? (i := 150) (by decide +kernel), List.mem_of_getElem? (i := 410) (by decide +kernel), List.mem_of_getElem? (i := 411) (by decide +kernel)⟩
theorem lw_p6 : lw_okq (⟨"TruthWalk$Level", "hasClauseWithoutSign", "()Z"⟩, 9) := ⟨⟨by decide +kernel, by decide +kernel⟩, List.mem_of_getElem? (i := 189) (by decide +kernel), List.mem_of_getElem? (i := 418) (by decide +kernel), List.mem_of_getElem? (i := 419) (by decide +kernel)⟩
theorem lw_p7 : lw_okq (⟨"TruthWalk$Level", "firstLoneSign", "()I"⟩, 9) := ⟨⟨by decide +kernel, by decide +kernel⟩, List.mem_of_getElem? (i := 189) (by decide +kernel), List.mem_of_getElem? (i := 422) (by decide +kernel), List.mem_of_getElem? (i := 423) (by decide +kernel)⟩
theorem lw_p8 : lw_okq (⟨"TruthWalk$Level", "spreadPiece", "(II)V"⟩, 9) := ⟨⟨by decide +kernel, by decide +kernel⟩, List.mem_of_getElem? (i := 189) (by decide +kernel), List.mem_of_getElem? (i := 431) (by decide +kernel), List.mem_of_getElem? (i := 432) (by decide +kernel)⟩
theorem lw_p9 : lw_okq (⟨"TruthWalk$Maker", "makePiece", "(LTruthWalk$Graph;I)I"⟩, 4) := ⟨⟨by decide +kernel, by decide +kernel⟩, List.mem_of_getElem? (i := 150) (by decide +kernel), List.mem_of_getElem? (i := 442) (by decide +kernel), List.mem_of_getElem? (i := 443) (by decide +kernel)⟩
theorem lw_p10 : lw_okq (⟨"TruthWalk$Met", "isSame", "(I[II)Z"⟩, 8) := ⟨⟨by decide +kernel, by decide +kernel⟩, List.mem_of_getElem? (i := 158) (by decide +kernel), List.mem_of_getElem? (i := 453) (by decide +kernel), List.mem_of_getElem? (i := 454) (by decide +kernel)⟩
theorem lw_p11 : lw_okq (⟨"TruthWalk$Level", "clausesWith", "(I)I"⟩, 9) := ⟨⟨by decide +kernel, by decide +kernel⟩, List.mem_of_getElem? (i := 189) (by decide +kernel), List.mem_of_getElem? (i := 462) (by decide +kernel), List.mem_of_getElem? (i := 463) (by decide +kernel)⟩
theorem lw_p12 : lw_okq (⟨"TruthWalk$Maker", "makeSide", "(LTruthWalk$Graph;II)I"⟩, 4) := ⟨⟨by decide +kernel, by decide +kernel⟩, List.mem_of_getElem? (i := 150) (by decide +kernel), List.mem_of_getElem? (i := 467) (by decide +kernel), List.mem_of_getElem? (i := 468) (by decide +kernel)⟩
theorem lw_p13 : lw_okq (⟨"TruthWalk$Maker", "nodeOfList", "(LTruthWalk$Graph;LTruthWalk$Level;)I"⟩, 4) := ⟨⟨by decide +kernel, by decide +kernel⟩, List.mem_of_getElem? (i := 150) (by decide +kernel), List.mem_of_getElem? (i := 488) (by decide +kernel), List.mem_of_getElem? (i := 489) (by decide +kernel)⟩
theorem lw_p14 : lw_okq (⟨"TruthWalk$Maker", "litOf", "(LTruthWalk$Graph;I)I"⟩, 4) := ⟨⟨by decide +kernel, by decide +kernel⟩, List.mem_of_getElem? (i := 150) (by decide +kernel), List.mem_of_getElem? (i := 492) (by decide +kernel), List.mem_of_getElem? (i := 493) (by decide +kernel)⟩
theorem lw_p15 : lw_okq (⟨"TruthWalk$Graph", "gatherLetters", "(I)V"⟩, 12) := ⟨⟨by decide +kernel, by decide +kernel⟩, List.mem_of_getElem? (i := 28) (by decide +kernel), List.mem_of_getElem? (i := 522) (by decide +kernel), List.mem_of_getElem? (i := 523) (by decide +kernel)⟩
def lw_privs_1 : List (MethodName × Nat) := [(⟨"TruthWalk", "bookAt", "(I)LTruthWalk$Book;"⟩, 10), (⟨"TruthWalk", "refuse", "(I)I"⟩, 10), (⟨"TruthWalk", "putClause", "(LTruthWalk$Book;I)I"⟩, 10), (⟨"TruthWalk$Level", "take", "([III)V"⟩, 9), (⟨"TruthWalk$Level", "addUnlike", "(I)V"⟩, 9), (⟨"TruthWalk$Maker", "makeList", "(LTruthWalk$Graph;I)I"⟩, 4), (⟨"TruthWalk$Level", "hasClauseWithoutSign", "()Z"⟩, 9), (⟨"TruthWalk$Level", "firstLoneSign", "()I"⟩, 9), (⟨"TruthWalk$Level", "spreadPiece", "(II)V"⟩, 9), (⟨"TruthWalk$Maker", "makePiece", "(LTruthWalk$Graph;I)I"⟩, 4), (⟨"TruthWalk$Met", "isSame", "(I[II)Z"⟩, 8), (⟨"TruthWalk$Level", "clausesWith", "(I)I"⟩, 9), (⟨"TruthWalk$Maker", "makeSide", "(LTruthWalk$Graph;II)I"⟩, 4), (⟨"TruthWalk$Maker", "nodeOfList", "(LTruthWalk$Graph;LTruthWalk$Level;)I"⟩, 4), (⟨"TruthWalk$Maker", "litOf", "(LTruthWalk$Graph;I)I"⟩, 4), (⟨"TruthWalk$Graph", "gatherLetters", "(I)V"⟩, 12)]
theorem lw_r1 : ∀ q ∈ lw_privs_1, lw_okq q := List.forall_mem_cons.mpr ⟨lw_p0, List.forall_mem_cons.mpr ⟨lw_p1, List.forall_mem_cons.mpr ⟨lw_p2, List.forall_mem_cons.mpr ⟨lw_p3, List.forall_mem_cons.mpr ⟨lw_p4, List.forall_mem_cons.mpr ⟨lw_p5, List.forall_mem_cons.mpr ⟨lw_p6, List.forall_mem_cons.mpr ⟨lw_p7, List.forall_mem_cons.mpr ⟨lw_p8, List.forall_mem_cons.mpr ⟨lw_p9, List.forall_mem_cons.mpr ⟨lw_p10, List.forall_mem_cons.mpr ⟨lw_p11, List.forall_mem_cons.mpr ⟨lw_p12, List.forall_mem_cons.mpr ⟨lw_p13, List.forall_mem_cons.mpr ⟨lw_p14, List.forall_mem_cons.mpr ⟨lw_p15, fun _ h => absurd h List.not_mem_nil⟩⟩⟩⟩⟩⟩⟩⟩⟩⟩⟩⟩⟩⟩⟩⟩
theorem lw_p16 : lw_okq (⟨"TruthWalk$Graph", "partsShare", "(I)Z"⟩, 12) := ⟨⟨by decide +kernel, by decide +kernel⟩, List.mem_of_getElem? (i := 28) (by decide +kernel), List.mem_of_getElem? (i := 537) (by decide +kernel), List.mem_of_getElem? (i := 538) (by decide +kernel)⟩
theorem lw_p17 : lw_okq (⟨"TruthWalk$Graph", "wordOfRoot", "(II)J"⟩, 12) := ⟨⟨by decide +kernel, by decide +kernel⟩, List.mem_of_getElem? (i := 28) (by decide +kernel), List.mem_of_getElem? (i := 563) (by decide +kernel), List.mem_of_getElem? (i := 564) (by decide +kernel)⟩
theorem lw_p18 : lw_okq (⟨"TruthWalk$Graph", "wordOfNode", "(III)J"⟩, 12) := ⟨⟨by decide +kernel, by decide +kernel⟩, List.mem_of_getElem? (i := 28) (by decide +kernel), List.mem_of_getElem? (i := 567) (by decide +kernel), List.mem_of_getElem? (i := 568) (by decide +kernel)⟩
theorem lw_p19 : lw_okq (⟨"TruthWalk$Graph", "wordOfBoth", "(I)J"⟩, 12) := ⟨⟨by decide +kernel, by decide +kernel⟩, List.mem_of_getElem? (i := 28) (by decide +kernel), List.mem_of_getElem? (i := 581) (by decide +kernel), List.mem_of_getElem? (i := 582) (by decide +kernel)⟩
theorem lw_p20 : lw_okq (⟨"TruthWalk$Graph", "wordOfChoice", "(IJ)J"⟩, 12) := ⟨⟨by decide +kernel, by decide +kernel⟩, List.mem_of_getElem? (i := 28) (by decide +kernel), List.mem_of_getElem? (i := 585) (by decide +kernel), List.mem_of_getElem? (i := 586) (by decide +kernel)⟩
theorem lw_p21 : lw_okq (⟨"TruthWalk$Book", "wholeRows", "(I)J"⟩, 9) := ⟨⟨by decide +kernel, by decide +kernel⟩, List.mem_of_getElem? (i := 22) (by decide +kernel), List.mem_of_getElem? (i := 594) (by decide +kernel), List.mem_of_getElem? (i := 595) (by decide +kernel)⟩
theorem lw_p22 : lw_okq (⟨"TruthWalk$Book", "rowsOfClause", "(II)J"⟩, 9) := ⟨⟨by decide +kernel, by decide +kernel⟩, List.mem_of_getElem? (i := 22) (by decide +kernel), List.mem_of_getElem? (i := 600) (by decide +kernel), List.mem_of_getElem? (i := 601) (by decide +kernel)⟩
theorem lw_p23 : lw_okq (⟨"TruthWalk", "refuseWithZero", "(I)J"⟩, 10) := ⟨⟨by decide +kernel, by decide +kernel⟩, List.mem_of_getElem? (i := 14) (by decide +kernel), List.mem_of_getElem? (i := 665) (by decide +kernel), List.mem_of_getElem? (i := 666) (by decide +kernel)⟩
theorem lw_p24 : lw_okq (⟨"TruthWalk", "weightOfAll", "(LTruthWalk$RowSet;)J"⟩, 10) := ⟨⟨by decide +kernel, by decide +kernel⟩, List.mem_of_getElem? (i := 14) (by decide +kernel), List.mem_of_getElem? (i := 675) (by decide +kernel), List.mem_of_getElem? (i := 676) (by decide +kernel)⟩
theorem lw_p25 : lw_okq (⟨"TruthWalk$RowSet", "rowOfRankFrom", "(II)I"⟩, 4) := ⟨⟨by decide +kernel, by decide +kernel⟩, List.mem_of_getElem? (i := 34) (by decide +kernel), List.mem_of_getElem? (i := 699) (by decide +kernel), List.mem_of_getElem? (i := 700) (by decide +kernel)⟩
theorem lw_p26 : lw_okq (⟨"TruthWalk", "heaviest", "(LTruthWalk$RowSet;Z)I"⟩, 10) := ⟨⟨by decide +kernel, by decide +kernel⟩, List.mem_of_getElem? (i := 14) (by decide +kernel), List.mem_of_getElem? (i := 717) (by decide +kernel), List.mem_of_getElem? (i := 718) (by decide +kernel)⟩
theorem lw_p27 : lw_okq (⟨"TruthWalk", "putInRow", "(I)V"⟩, 10) := ⟨⟨by decide +kernel, by decide +kernel⟩, List.mem_of_getElem? (i := 14) (by decide +kernel), List.mem_of_getElem? (i := 759) (by decide +kernel), List.mem_of_getElem? (i := 760) (by decide +kernel)⟩
theorem lw_p28 : lw_okq (⟨"TruthWalkModel", "no", "(I)I"⟩, 49) := ⟨⟨by decide +kernel, by decide +kernel⟩, List.mem_of_getElem? (i := 786) (by decide +kernel), List.mem_of_getElem? (i := 950) (by decide +kernel), List.mem_of_getElem? (i := 951) (by decide +kernel)⟩
theorem lw_p29 : lw_okq (⟨"TruthWalkModel", "mayBe", "(II)Z"⟩, 49) := ⟨⟨by decide +kernel, by decide +kernel⟩, List.mem_of_getElem? (i := 786) (by decide +kernel), List.mem_of_getElem? (i := 962) (by decide +kernel), List.mem_of_getElem? (i := 963) (by decide +kernel)⟩
theorem lw_p30 : lw_okq (⟨"TruthWalkModel", "isSign", "(II)Z"⟩, 49) := ⟨⟨by decide +kernel, by decide +kernel⟩, List.mem_of_getElem? (i := 786) (by decide +kernel), List.mem_of_getElem? (i := 966) (by decide +kernel), List.mem_of_getElem? (i := 967) (by decide +kernel)⟩
theorem lw_p31 : lw_okq (⟨"TruthWalkModel", "adds", "(II)I"⟩, 49) := ⟨⟨by decide +kernel, by decide +kernel⟩, List.mem_of_getElem? (i := 786) (by decide +kernel), List.mem_of_getElem? (i := 973) (by decide +kernel), List.mem_of_getElem? (i := 974) (by decide +kernel)⟩
def lw_privs_2 : List (MethodName × Nat) := [(⟨"TruthWalk$Graph", "partsShare", "(I)Z"⟩, 12), (⟨"TruthWalk$Graph", "wordOfRoot", "(II)J"⟩, 12), (⟨"TruthWalk$Graph", "wordOfNode", "(III)J"⟩, 12), (⟨"TruthWalk$Graph", "wordOfBoth", "(I)J"⟩, 12), (⟨"TruthWalk$Graph", "wordOfChoice", "(IJ)J"⟩, 12), (⟨"TruthWalk$Book", "wholeRows", "(I)J"⟩, 9), (⟨"TruthWalk$Book", "rowsOfClause", "(II)J"⟩, 9), (⟨"TruthWalk", "refuseWithZero", "(I)J"⟩, 10), (⟨"TruthWalk", "weightOfAll", "(LTruthWalk$RowSet;)J"⟩, 10), (⟨"TruthWalk$RowSet", "rowOfRankFrom", "(II)I"⟩, 4), (⟨"TruthWalk", "heaviest", "(LTruthWalk$RowSet;Z)I"⟩, 10), (⟨"TruthWalk", "putInRow", "(I)V"⟩, 10), (⟨"TruthWalkModel", "no", "(I)I"⟩, 49), (⟨"TruthWalkModel", "mayBe", "(II)Z"⟩, 49), (⟨"TruthWalkModel", "isSign", "(II)Z"⟩, 49), (⟨"TruthWalkModel", "adds", "(II)I"⟩, 49)]
theorem lw_r2 : ∀ q ∈ lw_privs_2, lw_okq q := List.forall_mem_cons.mpr ⟨lw_p16, List.forall_mem_cons.mpr ⟨lw_p17, List.forall_mem_cons.mpr ⟨lw_p18, List.forall_mem_cons.mpr ⟨lw_p19, List.forall_mem_cons.mpr ⟨lw_p20, List.forall_mem_cons.mpr ⟨lw_p21, List.forall_mem_cons.mpr ⟨lw_p22, List.forall_mem_cons.mpr ⟨lw_p23, List.forall_mem_cons.mpr ⟨lw_p24, List.forall_mem_cons.mpr ⟨lw_p25, List.forall_mem_cons.mpr ⟨lw_p26, List.forall_mem_cons.mpr ⟨lw_p27, List.forall_mem_cons.mpr ⟨lw_p28, List.forall_mem_cons.mpr ⟨lw_p29, List.forall_mem_cons.mpr ⟨lw_p30, List.forall_mem_cons.mpr ⟨lw_p31, fun _ h => absurd h List.not_mem_nil⟩⟩⟩⟩⟩⟩⟩⟩⟩⟩⟩⟩⟩⟩⟩⟩
theorem lw_p32 : lw_okq (⟨"TruthWalkModel", "isLetter", "(II)Z"⟩, 49) := ⟨⟨by decide +kernel, by decide +kernel⟩, List.mem_of_getElem? (i := 786) (by decide +kernel), List.mem_of_getElem? (i := 995) (by decide +kernel), List.mem_of_getElem? (i := 996) (by decide +kernel)⟩
theorem lw_p33 : lw_okq (⟨"TruthWalkModel", "comes", "(III)I"⟩, 49) := ⟨⟨by decide +kernel, by decide +kernel⟩, List.mem_of_getElem? (i := 786) (by decide +kernel), List.mem_of_getElem? (i := 1026) (by decide +kernel), List.mem_of_getElem? (i := 1027) (by decide +kernel)⟩
theorem lw_p34 : lw_okq (⟨"TruthWalkModel", "addsTo", "(II)V"⟩, 49) := ⟨⟨by decide +kernel, by decide +kernel⟩, List.mem_of_getElem? (i := 786) (by decide +kernel), List.mem_of_getElem? (i := 1031) (by decide +kernel), List.mem_of_getElem? (i := 1032) (by decide +kernel)⟩
theorem lw_p35 : lw_okq (⟨"TruthWalkModel", "opens", "()V"⟩, 49) := ⟨⟨by decide +kernel, by decide +kernel⟩, List.mem_of_getElem? (i := 786) (by decide +kernel), List.mem_of_getElem? (i := 1035) (by decide +kernel), List.mem_of_getElem? (i := 1036) (by decide +kernel)⟩
theorem lw_p36 : lw_okq (⟨"TruthWalkModel", "simplifies", "(I)Z"⟩, 49) := ⟨⟨by decide +kernel, by decide +kernel⟩, List.mem_of_getElem? (i := 786) (by decide +kernel), List.mem_of_getElem? (i := 1039) (by decide +kernel), List.mem_of_getElem? (i := 1040) (by decide +kernel)⟩
theorem lw_p37 : lw_okq (⟨"TruthWalkModel", "withSigns", "(II)I"⟩, 49) := ⟨⟨by decide +kernel, by decide +kernel⟩, List.mem_of_getElem? (i := 786) (by decide +kernel), List.mem_of_getElem? (i := 1043) (by decide +kernel), List.mem_of_getElem? (i := 1044) (by decide +kernel)⟩
theorem lw_p38 : lw_okq (⟨"TruthWalkModel", "takes", "(II)V"⟩, 49) := ⟨⟨by decide +kernel, by decide +kernel⟩, List.mem_of_getElem? (i := 786) (by decide +kernel), List.mem_of_getElem? (i := 1047) (by decide +kernel), List.mem_of_getElem? (i := 1048) (by decide +kernel)⟩
theorem lw_p39 : lw_okq (⟨"TruthWalkModel", "findPieces", "(I)V"⟩, 49) := ⟨⟨by decide +kernel, by decide +kernel⟩, List.mem_of_getElem? (i := 786) (by decide +kernel), List.mem_of_getElem? (i := 1051) (by decide +kernel), List.mem_of_getElem? (i := 1052) (by decide +kernel)⟩
theorem lw_p40 : lw_okq (⟨"TruthWalkModel", "goesOn", "(I)V"⟩, 49) := ⟨⟨by decide +kernel, by decide +kernel⟩, List.mem_of_getElem? (i := 786) (by decide +kernel), List.mem_of_getElem? (i := 1055) (by decide +kernel), List.mem_of_getElem? (i := 1056) (by decide +kernel)⟩
theorem lw_p41 : lw_okq (⟨"TruthWalkModel", "closes", "(II)V"⟩, 49) := ⟨⟨by decide +kernel, by decide +kernel⟩, List.mem_of_getElem? (i := 786) (by decide +kernel), List.mem_of_getElem? (i := 1059) (by decide +kernel), List.mem_of_getElem? (i := 1060) (by decide +kernel)⟩
theorem lw_p42 : lw_okq (⟨"TruthWalkModel", "litOf", "(II)I"⟩, 49) := ⟨⟨by decide +kernel, by decide +kernel⟩, List.mem_of_getElem? (i := 786) (by decide +kernel), List.mem_of_getElem? (i := 1063) (by decide +kernel), List.mem_of_getElem? (i := 1064) (by decide +kernel)⟩
theorem lw_p43 : lw_okq (⟨"TruthWalkModel", "addPart", "(III)V"⟩, 49) := ⟨⟨by decide +kernel, by decide +kernel⟩, List.mem_of_getElem? (i := 786) (by decide +kernel), List.mem_of_getElem? (i := 1067) (by decide +kernel), List.mem_of_getElem? (i := 1068) (by decide +kernel)⟩
theorem lw_p44 : lw_okq (⟨"TruthWalkModel", "begins", "(II)V"⟩, 49) := ⟨⟨by decide +kernel, by decide +kernel⟩, List.mem_of_getElem? (i := 786) (by decide +kernel), List.mem_of_getElem? (i := 1071) (by decide +kernel), List.mem_of_getElem? (i := 1072) (by decide +kernel)⟩
theorem lw_p45 : lw_okq (⟨"TruthWalkModel", "metPiece", "(I)I"⟩, 49) := ⟨⟨by decide +kernel, by decide +kernel⟩, List.mem_of_getElem? (i := 786) (by decide +kernel), List.mem_of_getElem? (i := 1075) (by decide +kernel), List.mem_of_getElem? (i := 1076) (by decide +kernel)⟩
theorem lw_p46 : lw_okq (⟨"TruthWalkModel", "tells", "(II)V"⟩, 49) := ⟨⟨by decide +kernel, by decide +kernel⟩, List.mem_of_getElem? (i := 786) (by decide +kernel), List.mem_of_getElem? (i := 1079) (by decide +kernel), List.mem_of_getElem? (i := 1080) (by decide +kernel)⟩
theorem lw_p47 : lw_okq (⟨"TruthWalkModel", "letterOf", "(II)I"⟩, 49) := ⟨⟨by decide +kernel, by decide +kernel⟩, List.mem_of_getElem? (i := 786) (by decide +kernel), List.mem_of_getElem? (i := 1083) (by decide +kernel), List.mem_of_getElem? (i := 1084) (by decide +kernel)⟩
def lw_privs_3 : List (MethodName × Nat) := [(⟨"TruthWalkModel", "isLetter", "(II)Z"⟩, 49), (⟨"TruthWalkModel", "comes", "(III)I"⟩, 49), (⟨"TruthWalkModel", "addsTo", "(II)V"⟩, 49), (⟨"TruthWalkModel", "opens", "()V"⟩, 49), (⟨"TruthWalkModel", "simplifies", "(I)Z"⟩, 49), (⟨"TruthWalkModel", "withSigns", "(II)I"⟩, 49), (⟨"TruthWalkModel", "takes", "(II)V"⟩, 49), (⟨"TruthWalkModel", "findPieces", "(I)V"⟩, 49), (⟨"TruthWalkModel", "goesOn", "(I)V"⟩, 49), (⟨"TruthWalkModel", "closes", "(II)V"⟩, 49), (⟨"TruthWalkModel", "litOf", "(II)I"⟩, 49), (⟨"TruthWalkModel", "addPart", "(III)V"⟩, 49), (⟨"TruthWalkModel", "begins", "(II)V"⟩, 49), (⟨"TruthWalkModel", "metPiece", "(I)I"⟩, 49), (⟨"TruthWalkModel", "tells", "(II)V"⟩, 49), (⟨"TruthWalkModel", "letterOf", "(II)I"⟩, 49)]
theorem lw_r3 : ∀ q ∈ lw_privs_3, lw_okq q := List.forall_mem_cons.mpr ⟨lw_p32, List.forall_mem_cons.mpr ⟨lw_p33, List.forall_mem_cons.mpr ⟨lw_p34, List.forall_mem_cons.mpr ⟨lw_p35, List.forall_mem_cons.mpr ⟨lw_p36, List.forall_mem_cons.mpr ⟨lw_p37, List.forall_mem_cons.mpr ⟨lw_p38, List.forall_mem_cons.mpr ⟨lw_p39, List.forall_mem_cons.mpr ⟨lw_p40, List.forall_mem_cons.mpr ⟨lw_p41, List.forall_mem_cons.mpr ⟨lw_p42, List.forall_mem_cons.mpr ⟨lw_p43, List.forall_mem_cons.mpr ⟨lw_p44, List.forall_mem_cons.mpr ⟨lw_p45, List.forall_mem_cons.mpr ⟨lw_p46, List.forall_mem_cons.mpr ⟨lw_p47, fun _ h => absurd h List.not_mem_nil⟩⟩⟩⟩⟩⟩⟩⟩⟩⟩⟩⟩⟩⟩⟩⟩
theorem lw_p48 : lw_okq (⟨"TruthWalkModel", "goesInto", "(II)V"⟩, 49) := ⟨⟨by decide +kernel, by decide +kernel⟩, List.mem_of_getElem? (i := 786) (by decide +kernel), List.mem_of_getElem? (i := 1087) (by decide +kernel), List.mem_of_getElem? (i := 1088) (by decide +kernel)⟩
theorem lw_p49 : lw_okq (⟨"TruthWalkModel", "chooses", "(III)V"⟩, 49) := ⟨⟨by decide +kernel, by decide +kernel⟩, List.mem_of_getElem? (i := 786) (by decide +kernel), List.mem_of_getElem? (i := 1091) (by decide +kernel), List.mem_of_getElem? (i := 1092) (by decide +kernel)⟩
theorem lw_p50 : lw_okq (⟨"TruthWalkModel", "meets", "(II)V"⟩, 49) := ⟨⟨by decide +kernel, by decide +kernel⟩, List.mem_of_getElem? (i := 786) (by decide +kernel), List.mem_of_getElem? (i := 1095) (by decide +kernel), List.mem_of_getElem? (i := 1096) (by decide +kernel)⟩
theorem lw_p51 : lw_okq (⟨"TruthWalkModel", "whyNode", "(II)I"⟩, 49) := ⟨⟨by decide +kernel, by decide +kernel⟩, List.mem_of_getElem? (i := 786) (by decide +kernel), List.mem_of_getElem? (i := 1107) (by decide +kernel), List.mem_of_getElem? (i := 1108) (by decide +kernel)⟩
theorem lw_p52 : lw_okq (⟨"TruthWalkModel", "findLetters", "(I)V"⟩, 49) := ⟨⟨by decide +kernel, by decide +kernel⟩, List.mem_of_getElem? (i := 786) (by decide +kernel), List.mem_of_getElem? (i := 1111) (by decide +kernel), List.mem_of_getElem? (i := 1112) (by decide +kernel)⟩
theorem lw_p53 : lw_okq (⟨"TruthWalkModel", "whyPart", "(III)I"⟩, 49) := ⟨⟨by decide +kernel, by decide +kernel⟩, List.mem_of_getElem? (i := 786) (by decide +kernel), List.mem_of_getElem? (i := 1119) (by decide +kernel), List.mem_of_getElem? (i := 1120) (by decide +kernel)⟩
theorem lw_p54 : lw_okq (⟨"TruthWalkModel", "lays", "(I)V"⟩, 49) := ⟨⟨by decide +kernel, by decide +kernel⟩, List.mem_of_getElem? (i := 786) (by decide +kernel), List.mem_of_getElem? (i := 1131) (by decide +kernel), List.mem_of_getElem? (i := 1132) (by decide +kernel)⟩
theorem lw_p55 : lw_okq (⟨"TruthWalkModel", "sayOf", "(III)Z"⟩, 49) := ⟨⟨by decide +kernel, by decide +kernel⟩, List.mem_of_getElem? (i := 786) (by decide +kernel), List.mem_of_getElem? (i := 1135) (by decide +kernel), List.mem_of_getElem? (i := 1136) (by decide +kernel)⟩
theorem lw_p56 : lw_okq (⟨"TruthWalkModel", "holds", "(III)Z"⟩, 49) := ⟨⟨by decide +kernel, by decide +kernel⟩, List.mem_of_getElem? (i := 786) (by decide +kernel), List.mem_of_getElem? (i := 1139) (by decide +kernel), List.mem_of_getElem? (i := 1140) (by decide +kernel)⟩
theorem lw_p57 : lw_okq (⟨"TruthWalkModel", "sharesLetters", "(II)Z"⟩, 49) := ⟨⟨by decide +kernel, by decide +kernel⟩, List.mem_of_getElem? (i := 786) (by decide +kernel), List.mem_of_getElem? (i := 1143) (by decide +kernel), List.mem_of_getElem? (i := 1144) (by decide +kernel)⟩
theorem lw_p58 : lw_okq (⟨"TruthWalkModel", "hasOwnLetter", "(II)Z"⟩, 49) := ⟨⟨by decide +kernel, by decide +kernel⟩, List.mem_of_getElem? (i := 786) (by decide +kernel), List.mem_of_getElem? (i := 1147) (by decide +kernel), List.mem_of_getElem? (i := 1148) (by decide +kernel)⟩
theorem lw_p59 : lw_okq (⟨"TruthWalkModel", "isWhole", "(II)Z"⟩, 49) := ⟨⟨by decide +kernel, by decide +kernel⟩, List.mem_of_getElem? (i := 786) (by decide +kernel), List.mem_of_getElem? (i := 1151) (by decide +kernel), List.mem_of_getElem? (i := 1152) (by decide +kernel)⟩
theorem lw_p60 : lw_okq (⟨"TruthWalkModel", "whyGraph", "(I)I"⟩, 49) := ⟨⟨by decide +kernel, by decide +kernel⟩, List.mem_of_getElem? (i := 786) (by decide +kernel), List.mem_of_getElem? (i := 1163) (by decide +kernel), List.mem_of_getElem? (i := 1164) (by decide +kernel)⟩
theorem lw_p61 : lw_okq (⟨"TruthWalkModel", "rowsBefore", "(II)I"⟩, 49) := ⟨⟨by decide +kernel, by decide +kernel⟩, List.mem_of_getElem? (i := 786) (by decide +kernel), List.mem_of_getElem? (i := 1167) (by decide +kernel), List.mem_of_getElem? (i := 1168) (by decide +kernel)⟩
theorem lw_p62 : lw_okq (⟨"TruthWalkModel", "isRow", "(II)Z"⟩, 49) := ⟨⟨by decide +kernel, by decide +kernel⟩, List.mem_of_getElem? (i := 786) (by decide +kernel), List.mem_of_getElem? (i := 1171) (by decide +kernel), List.mem_of_getElem? (i := 1172) (by decide +kernel)⟩
theorem lw_p63 : lw_okq (⟨"TruthWalkModel", "sums", "(II)J"⟩, 49) := ⟨⟨by decide +kernel, by decide +kernel⟩, List.mem_of_getElem? (i := 786) (by decide +kernel), List.mem_of_getElem? (i := 1183) (by decide +kernel), List.mem_of_getElem? (i := 1184) (by decide +kernel)⟩
def lw_privs_4 : List (MethodName × Nat) := [(⟨"TruthWalkModel", "goesInto", "(II)V"⟩, 49), (⟨"TruthWalkModel", "chooses", "(III)V"⟩, 49), (⟨"TruthWalkModel", "meets", "(II)V"⟩, 49), (⟨"TruthWalkModel", "whyNode", "(II)I"⟩, 49), (⟨"TruthWalkModel", "findLetters", "(I)V"⟩, 49), (⟨"TruthWalkModel", "whyPart", "(III)I"⟩, 49), (⟨"TruthWalkModel", "lays", "(I)V"⟩, 49), (⟨"TruthWalkModel", "sayOf", "(III)Z"⟩, 49), (⟨"TruthWalkModel", "holds", "(III)Z"⟩, 49), (⟨"TruthWalkModel", "sharesLetters", "(II)Z"⟩, 49), (⟨"TruthWalkModel", "hasOwnLetter", "(II)Z"⟩, 49), (⟨"TruthWalkModel", "isWhole", "(II)Z"⟩, 49), (⟨"TruthWalkModel", "whyGraph", "(I)I"⟩, 49), (⟨"TruthWalkModel", "rowsBefore", "(II)I"⟩, 49), (⟨"TruthWalkModel", "isRow", "(II)Z"⟩, 49), (⟨"TruthWalkModel", "sums", "(II)J"⟩, 49)]
theorem lw_r4 : ∀ q ∈ lw_privs_4, lw_okq q := List.forall_mem_cons.mpr ⟨lw_p48, List.forall_mem_cons.mpr ⟨lw_p49, List.forall_mem_cons.mpr ⟨lw_p50, List.forall_mem_cons.mpr ⟨lw_p51, List.forall_mem_cons.mpr ⟨lw_p52, List.forall_mem_cons.mpr ⟨lw_p53, List.forall_mem_cons.mpr ⟨lw_p54, List.forall_mem_cons.mpr ⟨lw_p55, List.forall_mem_cons.mpr ⟨lw_p56, List.forall_mem_cons.mpr ⟨lw_p57, List.forall_mem_cons.mpr ⟨lw_p58, List.forall_mem_cons.mpr ⟨lw_p59, List.forall_mem_cons.mpr ⟨lw_p60, List.forall_mem_cons.mpr ⟨lw_p61, List.forall_mem_cons.mpr ⟨lw_p62, List.forall_mem_cons.mpr ⟨lw_p63, fun _ h => absurd h List.not_mem_nil⟩⟩⟩⟩⟩⟩⟩⟩⟩⟩⟩⟩⟩⟩⟩⟩
theorem lw_p64 : lw_okq (⟨"TruthWalkModel", "weightOf", "(II)J"⟩, 49) := ⟨⟨by decide +kernel, by decide +kernel⟩, List.mem_of_getElem? (i := 786) (by decide +kernel), List.mem_of_getElem? (i := 1187) (by decide +kernel), List.mem_of_getElem? (i := 1188) (by decide +kernel)⟩
def lw_privs_5 : List (MethodName × Nat) := [(⟨"TruthWalkModel", "weightOf", "(II)J"⟩, 49)]
theorem lw_r5 : ∀ q ∈ lw_privs_5, lw_okq q := List.forall_mem_cons.mpr ⟨lw_p64, fun _ h => absurd h List.not_mem_nil⟩
def lw_privs : List (MethodName × Nat) := lw_privs_1 ++ (lw_privs_2 ++ (lw_privs_3 ++ (lw_privs_4 ++ (lw_privs_5))))
def lw_tbl : List Cond := k2_sels lw_privs ++ tables_1
theorem lw_privs_ok : ∀ q ∈ lw_privs, lw_okq q := by
  show ∀ q ∈ lw_privs_1 ++ (lw_privs_2 ++ (lw_privs_3 ++ (lw_privs_4 ++ (lw_privs_5)))), lw_okq q
  exact List.forall_mem_append.mpr ⟨lw_r1, List.forall_mem_append.mpr ⟨lw_r2, List.forall_mem_append.mpr ⟨lw_r3, List.forall_mem_append.mpr ⟨lw_r4, lw_r5⟩⟩⟩⟩
end
section
/-! tables: names, fields, methods, links (printed by wip/whole/gen_tables.py) -/
def cnm : Nat → String
  | 0 => "TruthWalk$Book"
  | 1 => "TruthWalk$Graph"
  | 2 => "TruthWalk$Level"
  | 3 => "TruthWalk$Maker"
  | 4 => "TruthWalk$Met"
  | 5 => "TruthWalk$RowSet"
  | 6 => "TruthWalk"
  | 7 => "TruthWalkModel"
  | 8 => "TruthWalkLaw"
  | 9 => "java/lang/Integer"
  | 10 => "java/lang/Long"
  | 11 => "java/lang/Math"
  | _ => ""
def FF0 : u_T := fun k => match k with
  | 0 => ("TruthWalk$Book", "clauses", "[I", true)
  | 1 => ("TruthWalk$Book", "weights", "[I", true)
  | 2 => ("TruthWalk$Book", "graph", "LTruthWalk$Graph;", true)
  | 3 => ("TruthWalk$Book", "told", "LTruthWalk$RowSet;", true)
  | 4 => ("TruthWalk$Book", "letterCount", "I", false)
  | 5 => ("TruthWalk$Book", "clauseCount", "I", false)
  | 6 => ("TruthWalk$Book", "askedLetters", "I", false)
  | 7 => ("TruthWalk$Book", "fixedSigns", "I", false)
  | _ => ("TruthWalk$Book", "compiled", "Z", false)
def FT0 : Nat → FieldType := fun k => match k with
  | 0 => .array .int
  | 1 => .array .int
  | 2 => .object "TruthWalk$Graph"
  | 3 => .object "TruthWalk$RowSet"
  | 4 => .int
  | 5 => .int
  | 6 => .int
  | 7 => .int
  | _ => .boolean
def FF1 : u_T := fun k => match k with
  | 0 => ("TruthWalk$Graph", "kinds", "[I", true)
  | 1 => ("TruthWalk$Graph", "names", "[I", true)
  | 2 => ("TruthWalk$Graph", "partCounts", "[I", true)
  | 3 => ("TruthWalk$Graph", "letterSets", "[I", true)
  | 4 => ("TruthWalk$Graph", "parts", "[I", true)
  | 5 => ("TruthWalk$Graph", "saidByNode", "[J", true)
  | 6 => ("TruthWalk$Graph", "said", "LTruthWalk$RowSet;", true)
  | 7 => ("TruthWalk$Graph", "saidIsOld", "Z", false)
  | 8 => ("TruthWalk$Graph", "nodeCount", "I", false)
  | 9 => ("TruthWalk$Graph", "rootNode", "I", false)
  | 10 => ("TruthWalk$Graph", "metAgain", "I", false)
  | _ => ("TruthWalk$Graph", "spent", "Z", false)
def FT1 : Nat → FieldType := fun k => match k with
  | 0 => .array .int
  | 1 => .array .int
  | 2 => .array .int
  | 3 => .array .int
  | 4 => .array .int
  | 5 => .array .long
  | 6 => .object "TruthWalk$RowSet"
  | 7 => .boolean
  | 8 => .int
  | 9 => .int
  | 10 => .int
  | _ => .boolean
def FF2 : u_T := fun k => match k with
  | 0 => ("TruthWalk$Level", "list", "[I", true)
  | 1 => ("TruthWalk$Level", "pieceOf", "[I", true)
  | 2 => ("TruthWalk$Level", "piece", "[I", true)
  | 3 => ("TruthWalk$Level", "taken", "[I", true)
  | 4 => ("TruthWalk$Level", "pieceNodes", "[I", true)
  | 5 => ("TruthWalk$Level", "size", "I", false)
  | 6 => ("TruthWalk$Level", "pieceSize", "I", false)
  | 7 => ("TruthWalk$Level", "takenCount", "I", false)
  | _ => ("TruthWalk$Level", "nodeCount", "I", false)
def FT2 : Nat → FieldType := fun k => match k with
  | 0 => .array .int
  | 1 => .array .int
  | 2 => .array .int
  | 3 => .array .int
  | 4 => .array .int
  | 5 => .int
  | 6 => .int
  | 7 => .int
  | _ => .int
def FF3 : u_T := fun k => match k with
  | 0 => ("TruthWalk$Maker", "levels", "[LTruthWalk$Level;", true)
  | 1 => ("TruthWalk$Maker", "met", "LTruthWalk$Met;", true)
  | 2 => ("TruthWalk$Maker", "lits", "[I", true)
  | _ => ("TruthWalk$Maker", "askedLetters", "I", false)
def FT3 : Nat → FieldType := fun k => match k with
  | 0 => .array (.object "TruthWalk$Level")
  | 1 => .object "TruthWalk$Met"
  | 2 => .array .int
  | _ => .int
def FF4 : u_T := fun k => match k with
  | 0 => ("TruthWalk$Met", "clauses", "[I", true)
  | 1 => ("TruthWalk$Met", "starts", "[I", true)
  | 2 => ("TruthWalk$Met", "sizes", "[I", true)
  | 3 => ("TruthWalk$Met", "nodes", "[I", true)
  | 4 => ("TruthWalk$Met", "earlier", "[I", true)
  | 5 => ("TruthWalk$Met", "latest", "[I", true)
  | 6 => ("TruthWalk$Met", "metCount", "I", false)
  | _ => ("TruthWalk$Met", "clausesUsed", "I", false)
def FT4 : Nat → FieldType := fun k => match k with
  | 0 => .array .int
  | 1 => .array .int
  | 2 => .array .int
  | 3 => .array .int
  | 4 => .array .int
  | 5 => .array .int
  | 6 => .int
  | _ => .int
def FF5 : u_T := fun k => match k with
  | 0 => ("TruthWalk$RowSet", "words", "[J", true)
  | 1 => ("TruthWalk$RowSet", "letterCount", "I", false)
  | 2 => ("TruthWalk$RowSet", "rowLimit", "I", false)
  | _ => ("TruthWalk$RowSet", "wordCount", "I", false)
def FT5 : Nat → FieldType := fun k => match k with
  | 0 => .array .long
  | 1 => .int
  | 2 => .int
  | _ => .int
def FF6 : u_T := fun k => match k with
  | 0 => ("TruthWalk", "bookZero", "LTruthWalk$Book;", true)
  | 1 => ("TruthWalk", "bookOne", "LTruthWalk$Book;", true)
  | 2 => ("TruthWalk", "maker", "LTruthWalk$Maker;", true)
  | 3 => ("TruthWalk", "rowWeights", "[J", true)
  | 4 => ("TruthWalk", "ways", "LTruthWalk$RowSet;", true)
  | 5 => ("TruthWalk", "theRow", "[I", true)
  | 6 => ("TruthWalk", "refusals", "[I", true)
  | 7 => ("TruthWalk", "rowSize", "I", false)
  | 8 => ("TruthWalk", "rowThere", "Z", false)
  | _ => ("TruthWalk", "culprit", "I", false)
def FT6 : Nat → FieldType := fun k => match k with
  | 0 => .object "TruthWalk$Book"
  | 1 => .object "TruthWalk$Book"
  | 2 => .object "TruthWalk$Maker"
  | 3 => .array .long
  | 4 => .object "TruthWalk$RowSet"
  | 5 => .array .int
  | 6 => .array .int
  | 7 => .int
  | 8 => .boolean
  | _ => .int
def FF7 : u_T := fun k => match k with
  | 0 => ("TruthWalkModel", "n", "[I", true)
  | 1 => ("TruthWalkModel", "clauses", "[I", true)
  | 2 => ("TruthWalkModel", "clauseCount", "[I", true)
  | 3 => ("TruthWalkModel", "askedLetters", "[I", true)
  | 4 => ("TruthWalkModel", "fixedYes", "[I", true)
  | 5 => ("TruthWalkModel", "fixedNo", "[I", true)
  | 6 => ("TruthWalkModel", "weights", "[I", true)
  | 7 => ("TruthWalkModel", "refused", "[I", true)
  | 8 => ("TruthWalkModel", "nodes", "[I", true)
  | 9 => ("TruthWalkModel", "roots", "[I", true)
  | 10 => ("TruthWalkModel", "metAgain", "[I", true)
  | 11 => ("TruthWalkModel", "kind", "[I", true)
  | 12 => ("TruthWalkModel", "told", "[I", true)
  | 13 => ("TruthWalkModel", "partAt", "[I", true)
  | 14 => ("TruthWalkModel", "partCount", "[I", true)
  | 15 => ("TruthWalkModel", "parts", "[I", true)
  | 16 => ("TruthWalkModel", "partsUsed", "[I", true)
  | 17 => ("TruthWalkModel", "litNode", "[I", true)
  | 18 => ("TruthWalkModel", "isSpent", "Z", false)
  | 19 => ("TruthWalkModel", "list", "[I", true)
  | 20 => ("TruthWalkModel", "listSize", "[I", true)
  | 21 => ("TruthWalkModel", "taken", "[I", true)
  | 22 => ("TruthWalkModel", "takenCount", "[I", true)
  | 23 => ("TruthWalkModel", "pieceOf", "[I", true)
  | 24 => ("TruthWalkModel", "pieceCount", "[I", true)
  | 25 => ("TruthWalkModel", "pieceAt", "[I", true)
  | 26 => ("TruthWalkModel", "pieceNode", "[I", true)
  | 27 => ("TruthWalkModel", "piece", "[I", true)
  | 28 => ("TruthWalkModel", "pieceSize", "[I", true)
  | 29 => ("TruthWalkModel", "letterAt", "[I", true)
  | 30 => ("TruthWalkModel", "stage", "[I", true)
  | 31 => ("TruthWalkModel", "yesNode", "[I", true)
  | 32 => ("TruthWalkModel", "metAt", "[I", true)
  | 33 => ("TruthWalkModel", "metSize", "[I", true)
  | 34 => ("TruthWalkModel", "metNode", "[I", true)
  | 35 => ("TruthWalkModel", "pool", "[I", true)
  | 36 => ("TruthWalkModel", "mets", "I", false)
  | 37 => ("TruthWalkModel", "pooled", "I", false)
  | 38 => ("TruthWalkModel", "depth", "I", false)
  | 39 => ("TruthWalkModel", "result", "I", false)
  | 40 => ("TruthWalkModel", "lettersIn", "[I", true)
  | 41 => ("TruthWalkModel", "says", "[Z", true)
  | 42 => ("TruthWalkModel", "saysNode", "[Z", true)
  | 43 => ("TruthWalkModel", "isLaid", "[Z", true)
  | 44 => ("TruthWalkModel", "guilty", "I", false)
  | 45 => ("TruthWalkModel", "seen", "[Z", true)
  | 46 => ("TruthWalkModel", "row", "[I", true)
  | 47 => ("TruthWalkModel", "moved", "[I", true)
  | _ => ("TruthWalkModel", "rowSize", "I", false)
def FT7 : Nat → FieldType := fun k => match k with
  | 0 => .array .int
  | 1 => .array .int
  | 2 => .array .int
  | 3 => .array .int
  | 4 => .array .int
  | 5 => .array .int
  | 6 => .array .int
  | 7 => .array .int
  | 8 => .array .int
  | 9 => .array .int
  | 10 => .array .int
  | 11 => .array .int
  | 12 => .array .int
  | 13 => .array .int
  | 14 => .array .int
  | 15 => .array .int
  | 16 => .array .int
  | 17 => .array .int
  | 18 => .boolean
  | 19 => .array .int
  | 20 => .array .int
  | 21 => .array .int
  | 22 => .array .int
  | 23 => .array .int
  | 24 => .array .int
  | 25 => .array .int
  | 26 => .array .int
  | 27 => .array .int
  | 28 => .array .int
  | 29 => .array .int
  | 30 => .array .int
  | 31 => .array .int
  | 32 => .array .int
  | 33 => .array .int
  | 34 => .array .int
  | 35 => .array .int
  | 36 => .int
  | 37 => .int
  | 38 => .int
  | 39 => .int
  | 40 => .array .int
  | 41 => .array .boolean
  | 42 => .array .boolean
  | 43 => .array .boolean
  | 44 => .int
  | 45 => .array .boolean
  | 46 => .array .int
  | 47 => .array .int
  | _ => .int
def nfs : Nat → Nat
  | 0 => 9
  | 1 => 12
  | 2 => 9
  | 3 => 4
  | 4 => 8
  | 5 => 4
  | 6 => 10
  | 7 => 49
  | _ => 0
def FF : Nat → u_T
  | 0 => FF0
  | 1 => FF1
  | 2 => FF2
  | 3 => FF3
  | 4 => FF4
  | 5 => FF5
  | 6 => FF6
  | _ => FF7
def FT : Nat → Nat → FieldType
  | 0 => FT0
  | 1 => FT1
  | 2 => FT2
  | 3 => FT3
  | 4 => FT4
  | 5 => FT5
  | 6 => FT6
  | _ => FT7
abbrev clss : List vw_C := [("TruthWalk$Book", FF0, 9), ("TruthWalk$Graph", FF1, 12), ("TruthWalk$Level", FF2, 9), ("TruthWalk$Maker", FF3, 4), ("TruthWalk$Met", FF4, 8), ("TruthWalk$RowSet", FF5, 4), ("TruthWalk", FF6, 10), ("TruthWalkModel", FF7, 49)]
def fty (ci k : Nat) : Nat := match FT ci k with | .int => 0 | .boolean => 1 | _ => 2
def byt : Nat → ByteArray
  | 0 => prog_2_method_1_code
  | 1 => prog_2_method_2_code
  | 2 => prog_2_method_3_code
  | 3 => prog_2_method_4_code
  | 4 => prog_2_method_5_code
  | 5 => prog_2_method_6_code
  | 6 => prog_2_method_7_code
  | 7 => prog_2_method_8_code
  | 8 => prog_2_method_9_code
  | 9 => prog_2_method_10_code
  | 10 => prog_2_method_11_code
  | 11 => prog_2_method_12_code
  | 12 => prog_2_method_13_code
  | 13 => prog_2_method_14_code
  | 14 => prog_2_method_15_code
  | 15 => prog_2_method_16_code
  | 16 => prog_2_method_17_code
  | 17 => prog_2_method_18_code
  | 18 => prog_2_method_19_code
  | 19 => prog_3_method_1_code
  | 20 => prog_3_method_2_code
  | 21 => prog_3_method_3_code
  | 22 => prog_3_method_4_code
  | 23 => prog_3_method_5_code
  | 24 => prog_3_method_6_code
  | 25 => prog_3_method_7_code
  | 26 => prog_3_method_8_code
  | 27 => prog_3_method_9_code
  | 28 => prog_3_method_10_code
  | 29 => prog_3_method_11_code
  | 30 => prog_3_method_12_code
  | 31 => prog_3_method_13_code
  | 32 => prog_3_method_14_code
  | 33 => prog_3_method_15_code
  | 34 => prog_3_method_16_code
  | 35 => prog_4_method_1_code
  | 36 => prog_4_method_2_code
  | 37 => prog_4_method_3_code
  | 38 => prog_4_method_4_code
  | 39 => prog_4_method_5_code
  | 40 => prog_4_method_6_code
  | 41 => prog_4_method_7_code
  | 42 => prog_4_method_8_code
  | 43 => prog_4_method_9_code
  | 44 => prog_4_method_10_code
  | 45 => prog_4_method_11_code
  | 46 => prog_4_method_12_code
  | 47 => prog_4_method_13_code
  | 48 => prog_5_method_1_code
  | 49 => prog_5_method_2_code
  | 50 => prog_5_method_3_code
  | 51 => prog_5_method_4_code
  | 52 => prog_5_method_5_code
  | 53 => prog_5_method_6_code
  | 54 => prog_5_method_7_code
  | 55 => prog_6_method_1_code
  | 56 => prog_6_method_2_code
  | 57 => prog_6_method_3_code
  | 58 => prog_6_method_4_code
  | 59 => prog_6_method_5_code
  | 60 => prog_6_method_6_code
  | 61 => prog_7_method_1_code
  | 62 => prog_7_method_2_code
  | 63 => prog_7_method_3_code
  | 64 => prog_7_method_4_code
  | 65 => prog_7_method_5_code
  | 66 => prog_7_method_6_code
  | 67 => prog_7_method_7_code
  | 68 => prog_7_method_8_code
  | 69 => prog_7_method_9_code
  | 70 => prog_7_method_10_code
  | 71 => prog_7_method_11_code
  | 72 => prog_7_method_12_code
  | 73 => prog_7_method_13_code
  | 74 => prog_1_method_1_code
  | 75 => prog_1_method_2_code
  | 76 => prog_1_method_3_code
  | 77 => prog_1_method_4_code
  | 78 => prog_1_method_5_code
  | 79 => prog_1_method_6_code
  | 80 => prog_1_method_7_code
  | 81 => prog_1_method_8_code
  | 82 => prog_1_method_9_code
  | 83 => prog_1_method_10_code
  | 84 => prog_1_method_11_code
  | 85 => prog_1_method_12_code
  | 86 => prog_1_method_13_code
  | 87 => prog_1_method_14_code
  | 88 => prog_1_method_15_code
  | 89 => prog_1_method_16_code
  | 90 => prog_1_method_17_code
  | 91 => prog_1_method_18_code
  | 92 => prog_1_method_19_code
  | 93 => prog_1_method_20_code
  | 94 => prog_1_method_21_code
  | 95 => prog_1_method_22_code
  | 96 => prog_1_method_23_code
  | 97 => prog_1_method_24_code
  | 98 => prog_1_method_25_code
  | 99 => prog_1_method_26_code
  | 100 => prog_1_method_27_code
  | 101 => prog_1_method_28_code
  | 102 => prog_1_method_29_code
  | 103 => prog_1_method_30_code
  | 104 => prog_1_method_31_code
  | 105 => prog_1_method_32_code
  | 106 => prog_1_method_33_code
  | 107 => prog_1_method_34_code
  | 108 => prog_1_method_35_code
  | 109 => prog_1_method_36_code
  | 110 => prog_1_method_37_code
  | 111 => prog_1_method_38_code
  | 112 => prog_1_method_39_code
  | 113 => prog_1_method_40_code
  | 114 => prog_1_method_41_code
  | 115 => prog_1_method_42_code
  | 116 => prog_1_method_43_code
  | 117 => prog_1_method_44_code
  | 118 => prog_1_method_45_code
  | 119 => prog_1_method_46_code
  | 120 => prog_1_method_47_code
  | 121 => prog_1_method_48_code
  | 122 => prog_1_method_49_code
  | 123 => prog_9_method_1_code
  | 124 => prog_9_method_2_code
  | 125 => prog_9_method_3_code
  | 126 => prog_9_method_4_code
  | 127 => prog_9_method_5_code
  | 128 => prog_9_method_6_code
  | 129 => prog_9_method_7_code
  | 130 => prog_9_method_8_code
  | 131 => prog_9_method_9_code
  | 132 => prog_9_method_10_code
  | 133 => prog_9_method_11_code
  | 134 => prog_9_method_12_code
  | 135 => prog_9_method_13_code
  | 136 => prog_9_method_14_code
  | 137 => prog_9_method_15_code
  | 138 => prog_9_method_16_code
  | 139 => prog_9_method_17_code
  | 140 => prog_9_method_18_code
  | 141 => prog_9_method_19_code
  | 142 => prog_9_method_20_code
  | 143 => prog_9_method_21_code
  | 144 => prog_9_method_22_code
  | 145 => prog_9_method_23_code
  | 146 => prog_9_method_24_code
  | 147 => prog_9_method_25_code
  | 148 => prog_9_method_26_code
  | 149 => prog_9_method_27_code
  | 150 => prog_9_method_28_code
  | 151 => prog_9_method_29_code
  | 152 => prog_9_method_30_code
  | 153 => prog_9_method_31_code
  | 154 => prog_9_method_32_code
  | 155 => prog_9_method_33_code
  | 156 => prog_9_method_34_code
  | 157 => prog_9_method_35_code
  | 158 => prog_9_method_36_code
  | 159 => prog_9_method_37_code
  | 160 => prog_9_method_38_code
  | 161 => prog_9_method_39_code
  | 162 => prog_9_method_40_code
  | 163 => prog_9_method_41_code
  | 164 => prog_9_method_42_code
  | 165 => prog_9_method_43_code
  | 166 => prog_9_method_44_code
  | 167 => prog_9_method_45_code
  | 168 => prog_9_method_46_code
  | 169 => prog_9_method_47_code
  | 170 => prog_9_method_48_code
  | 171 => prog_9_method_49_code
  | 172 => prog_9_method_50_code
  | 173 => prog_9_method_51_code
  | 174 => prog_9_method_52_code
  | 175 => prog_9_method_53_code
  | 176 => prog_9_method_54_code
  | 177 => prog_9_method_55_code
  | 178 => prog_9_method_56_code
  | 179 => prog_9_method_57_code
  | 180 => prog_9_method_58_code
  | 181 => prog_9_method_59_code
  | 182 => prog_9_method_60_code
  | 183 => prog_9_method_61_code
  | 184 => prog_9_method_62_code
  | 185 => prog_9_method_63_code
  | 186 => prog_9_method_64_code
  | 187 => prog_9_method_65_code
  | 188 => prog_9_method_66_code
  | 189 => prog_9_method_67_code
  | 190 => prog_9_method_68_code
  | 191 => prog_9_method_69_code
  | 192 => prog_9_method_70_code
  | 193 => prog_9_method_71_code
  | 194 => prog_9_method_72_code
  | 195 => prog_9_method_73_code
  | 196 => prog_9_method_74_code
  | 197 => prog_9_method_75_code
  | 198 => prog_9_method_76_code
  | 199 => prog_9_method_77_code
  | 200 => prog_9_method_78_code
  | 201 => prog_9_method_79_code
  | 202 => prog_9_method_80_code
  | 203 => prog_10_method_49_code
  | 204 => prog_11_method_50_code
  | 205 => prog_12_method_59_code
  | 206 => prog_12_method_65_code
  | 207 => prog_12_method_69_code
  | _ => code
def mth : Nat → MethodName
  | 0 => ⟨"TruthWalk$Book", "<init>", "()V"⟩
  | 1 => ⟨"TruthWalk$Book", "startAnew", "(I)V"⟩
  | 2 => ⟨"TruthWalk$Book", "rowCount", "()I"⟩
  | 3 => ⟨"TruthWalk$Book", "hasLetter", "(I)Z"⟩
  | 4 => ⟨"TruthWalk$Book", "hasSign", "(I)Z"⟩
  | 5 => ⟨"TruthWalk$Book", "allows", "(I)Z"⟩
  | 6 => ⟨"TruthWalk$Book", "clauseAt", "(I)I"⟩
  | 7 => ⟨"TruthWalk$Book", "addClause", "(I)V"⟩
  | 8 => ⟨"TruthWalk$Book", "widenLast", "(I)V"⟩
  | 9 => ⟨"TruthWalk$Book", "dropLast", "()V"⟩
  | 10 => ⟨"TruthWalk$Book", "weightOf", "(I)I"⟩
  | 11 => ⟨"TruthWalk$Book", "setWeight", "(II)V"⟩
  | 12 => ⟨"TruthWalk$Book", "weightOfRow", "(I)J"⟩
  | 13 => ⟨"TruthWalk$Book", "weighAllRows", "([J)V"⟩
  | 14 => ⟨"TruthWalk$Book", "rowBitsOfAsked", "()I"⟩
  | 15 => ⟨"TruthWalk$Book", "toldRows", "()LTruthWalk$RowSet;"⟩
  | 16 => ⟨"TruthWalk$Book", "leastRowToldWrong", "()I"⟩
  | 17 => ⟨"TruthWalk$Book", "wholeRows", "(I)J"⟩
  | 18 => ⟨"TruthWalk$Book", "rowsOfClause", "(II)J"⟩
  | 19 => ⟨"TruthWalk$Graph", "<init>", "()V"⟩
  | 20 => ⟨"TruthWalk$Graph", "startAnew", "()V"⟩
  | 21 => ⟨"TruthWalk$Graph", "hasNode", "(I)Z"⟩
  | 22 => ⟨"TruthWalk$Graph", "addNode", "(III)I"⟩
  | 23 => ⟨"TruthWalk$Graph", "addPart", "(II)V"⟩
  | 24 => ⟨"TruthWalk$Graph", "partAt", "(II)I"⟩
  | 25 => ⟨"TruthWalk$Graph", "bendPart", "(III)V"⟩
  | 26 => ⟨"TruthWalk$Graph", "gatherLetters", "(I)V"⟩
  | 27 => ⟨"TruthWalk$Graph", "leastSharingBoth", "()I"⟩
  | 28 => ⟨"TruthWalk$Graph", "partsShare", "(I)Z"⟩
  | 29 => ⟨"TruthWalk$Graph", "leastRepeatingChoice", "()I"⟩
  | 30 => ⟨"TruthWalk$Graph", "saidByRoot", "(I)LTruthWalk$RowSet;"⟩
  | 31 => ⟨"TruthWalk$Graph", "wordOfRoot", "(II)J"⟩
  | 32 => ⟨"TruthWalk$Graph", "wordOfNode", "(III)J"⟩
  | 33 => ⟨"TruthWalk$Graph", "wordOfBoth", "(I)J"⟩
  | 34 => ⟨"TruthWalk$Graph", "wordOfChoice", "(IJ)J"⟩
  | 35 => ⟨"TruthWalk$Level", "<init>", "()V"⟩
  | 36 => ⟨"TruthWalk$Level", "load", "([III)V"⟩
  | 37 => ⟨"TruthWalk$Level", "take", "([III)V"⟩
  | 38 => ⟨"TruthWalk$Level", "addUnlike", "(I)V"⟩
  | 39 => ⟨"TruthWalk$Level", "takeLoneSigns", "()Z"⟩
  | 40 => ⟨"TruthWalk$Level", "hasClauseWithoutSign", "()Z"⟩
  | 41 => ⟨"TruthWalk$Level", "firstLoneSign", "()I"⟩
  | 42 => ⟨"TruthWalk$Level", "markPieces", "()I"⟩
  | 43 => ⟨"TruthWalk$Level", "spreadPiece", "(II)V"⟩
  | 44 => ⟨"TruthWalk$Level", "pickPiece", "(I)V"⟩
  | 45 => ⟨"TruthWalk$Level", "keepNode", "(I)V"⟩
  | 46 => ⟨"TruthWalk$Level", "letterToChoose", "(I)I"⟩
  | 47 => ⟨"TruthWalk$Level", "clausesWith", "(I)I"⟩
  | 48 => ⟨"TruthWalk$Maker", "<init>", "()V"⟩
  | 49 => ⟨"TruthWalk$Maker", "makeGraph", "(LTruthWalk$Book;)Z"⟩
  | 50 => ⟨"TruthWalk$Maker", "makeList", "(LTruthWalk$Graph;I)I"⟩
  | 51 => ⟨"TruthWalk$Maker", "makePiece", "(LTruthWalk$Graph;I)I"⟩
  | 52 => ⟨"TruthWalk$Maker", "makeSide", "(LTruthWalk$Graph;II)I"⟩
  | 53 => ⟨"TruthWalk$Maker", "nodeOfList", "(LTruthWalk$Graph;LTruthWalk$Level;)I"⟩
  | 54 => ⟨"TruthWalk$Maker", "litOf", "(LTruthWalk$Graph;I)I"⟩
  | 55 => ⟨"TruthWalk$Met", "<init>", "()V"⟩
  | 56 => ⟨"TruthWalk$Met", "forgetAll", "()V"⟩
  | 57 => ⟨"TruthWalk$Met", "nodeOf", "([II)I"⟩
  | 58 => ⟨"TruthWalk$Met", "remember", "([III)Z"⟩
  | 59 => ⟨"TruthWalk$Met", "isSame", "(I[II)Z"⟩
  | 60 => ⟨"TruthWalk$Met", "chainOf", "([II)I"⟩
  | 61 => ⟨"TruthWalk$RowSet", "<init>", "()V"⟩
  | 62 => ⟨"TruthWalk$RowSet", "empty", "(I)V"⟩
  | 63 => ⟨"TruthWalk$RowSet", "become", "(LTruthWalk$RowSet;)V"⟩
  | 64 => ⟨"TruthWalk$RowSet", "setWord", "(IJ)V"⟩
  | 65 => ⟨"TruthWalk$RowSet", "put", "(I)V"⟩
  | 66 => ⟨"TruthWalk$RowSet", "has", "(I)Z"⟩
  | 67 => ⟨"TruthWalk$RowSet", "keepWhere", "(I)V"⟩
  | 68 => ⟨"TruthWalk$RowSet", "size", "()I"⟩
  | 69 => ⟨"TruthWalk$RowSet", "sizeBelow", "(I)I"⟩
  | 70 => ⟨"TruthWalk$RowSet", "sizeWithout", "(LTruthWalk$RowSet;)I"⟩
  | 71 => ⟨"TruthWalk$RowSet", "leastFrom", "(I)I"⟩
  | 72 => ⟨"TruthWalk$RowSet", "rowOfRank", "(I)I"⟩
  | 73 => ⟨"TruthWalk$RowSet", "rowOfRankFrom", "(II)I"⟩
  | 74 => ⟨"TruthWalk", "<init>", "()V"⟩
  | 75 => ⟨"TruthWalk", "letters", "(II)I"⟩
  | 76 => ⟨"TruthWalk", "clause", "(IIIII)I"⟩
  | 77 => ⟨"TruthWalk", "more", "(II)I"⟩
  | 78 => ⟨"TruthWalk", "drop", "(I)I"⟩
  | 79 => ⟨"TruthWalk", "ask", "(IIZ)I"⟩
  | 80 => ⟨"TruthWalk", "fix", "(II)I"⟩
  | 81 => ⟨"TruthWalk", "loose", "(II)I"⟩
  | 82 => ⟨"TruthWalk", "weight", "(III)I"⟩
  | 83 => ⟨"TruthWalk", "count", "(II)I"⟩
  | 84 => ⟨"TruthWalk", "compile", "(I)I"⟩
  | 85 => ⟨"TruthWalk", "root", "(I)I"⟩
  | 86 => ⟨"TruthWalk", "node", "(III)I"⟩
  | 87 => ⟨"TruthWalk", "part", "(III)I"⟩
  | 88 => ⟨"TruthWalk", "bend", "(IIII)I"⟩
  | 89 => ⟨"TruthWalk", "judge", "(I)I"⟩
  | 90 => ⟨"TruthWalk", "guilty", "()I"⟩
  | 91 => ⟨"TruthWalk", "rows", "(I)I"⟩
  | 92 => ⟨"TruthWalk", "says", "(II)I"⟩
  | 93 => ⟨"TruthWalk", "sum", "(I)J"⟩
  | 94 => ⟨"TruthWalk", "chance", "(IIZ)J"⟩
  | 95 => ⟨"TruthWalk", "sure", "(II)I"⟩
  | 96 => ⟨"TruthWalk", "kth", "(II)I"⟩
  | 97 => ⟨"TruthWalk", "rank", "(II)I"⟩
  | 98 => ⟨"TruthWalk", "next", "(II)I"⟩
  | 99 => ⟨"TruthWalk", "most", "(IZ)I"⟩
  | 100 => ⟨"TruthWalk", "weigh", "(II)J"⟩
  | 101 => ⟨"TruthWalk", "asked", "(I)I"⟩
  | 102 => ⟨"TruthWalk", "less", "(Z)I"⟩
  | 103 => ⟨"TruthWalk", "join", "()I"⟩
  | 104 => ⟨"TruthWalk", "lay", "(II)I"⟩
  | 105 => ⟨"TruthWalk", "tear", "()I"⟩
  | 106 => ⟨"TruthWalk", "row", "(I)I"⟩
  | 107 => ⟨"TruthWalk", "copy", "(III)I"⟩
  | 108 => ⟨"TruthWalk", "give", "(I)I"⟩
  | 109 => ⟨"TruthWalk", "status", "(I)I"⟩
  | 110 => ⟨"TruthWalk", "bookAt", "(I)LTruthWalk$Book;"⟩
  | 111 => ⟨"TruthWalk", "refuse", "(I)I"⟩
  | 112 => ⟨"TruthWalk", "refuseWithZero", "(I)J"⟩
  | 113 => ⟨"TruthWalk", "putClause", "(LTruthWalk$Book;I)I"⟩
  | 114 => ⟨"TruthWalk", "putInRow", "(I)V"⟩
  | 115 => ⟨"TruthWalk", "weightOfAll", "(LTruthWalk$RowSet;)J"⟩
  | 116 => ⟨"TruthWalk", "heaviest", "(LTruthWalk$RowSet;Z)I"⟩
  | 117 => ⟨"TruthWalk", "greatestDivisor", "(JJ)J"⟩
  | 118 => ⟨"TruthWalk", "placeOf", "(I)I"⟩
  | 119 => ⟨"TruthWalk", "bitOf", "(I)I"⟩
  | 120 => ⟨"TruthWalk", "denialOf", "(I)I"⟩
  | 121 => ⟨"TruthWalk", "lettersOf", "(I)I"⟩
  | 122 => ⟨"TruthWalk", "rowsWhere", "(III)J"⟩
  | 123 => ⟨"TruthWalkModel", "<init>", "()V"⟩
  | 124 => ⟨"TruthWalkModel", "isIn", "(JJJ)Z"⟩
  | 125 => ⟨"TruthWalkModel", "no", "(I)I"⟩
  | 126 => ⟨"TruthWalkModel", "isBook", "(I)Z"⟩
  | 127 => ⟨"TruthWalkModel", "isSign", "(II)Z"⟩
  | 128 => ⟨"TruthWalkModel", "bitOf", "(I)I"⟩
  | 129 => ⟨"TruthWalkModel", "many", "(I)I"⟩
  | 130 => ⟨"TruthWalkModel", "denied", "(I)I"⟩
  | 131 => ⟨"TruthWalkModel", "lettersOf", "(I)I"⟩
  | 132 => ⟨"TruthWalkModel", "letters", "(II)I"⟩
  | 133 => ⟨"TruthWalkModel", "adds", "(II)I"⟩
  | 134 => ⟨"TruthWalkModel", "mayBe", "(II)Z"⟩
  | 135 => ⟨"TruthWalkModel", "clause", "(IIIII)I"⟩
  | 136 => ⟨"TruthWalkModel", "more", "(II)I"⟩
  | 137 => ⟨"TruthWalkModel", "drop", "(I)I"⟩
  | 138 => ⟨"TruthWalkModel", "isLetter", "(II)Z"⟩
  | 139 => ⟨"TruthWalkModel", "ask", "(IIZ)I"⟩
  | 140 => ⟨"TruthWalkModel", "fix", "(II)I"⟩
  | 141 => ⟨"TruthWalkModel", "loose", "(II)I"⟩
  | 142 => ⟨"TruthWalkModel", "weightAt", "(II)I"⟩
  | 143 => ⟨"TruthWalkModel", "weight", "(III)I"⟩
  | 144 => ⟨"TruthWalkModel", "count", "(II)I"⟩
  | 145 => ⟨"TruthWalkModel", "comes", "(III)I"⟩
  | 146 => ⟨"TruthWalkModel", "addPart", "(III)V"⟩
  | 147 => ⟨"TruthWalkModel", "addsTo", "(II)V"⟩
  | 148 => ⟨"TruthWalkModel", "takes", "(II)V"⟩
  | 149 => ⟨"TruthWalkModel", "withSigns", "(II)I"⟩
  | 150 => ⟨"TruthWalkModel", "simplifies", "(I)Z"⟩
  | 151 => ⟨"TruthWalkModel", "findPieces", "(I)V"⟩
  | 152 => ⟨"TruthWalkModel", "opens", "()V"⟩
  | 153 => ⟨"TruthWalkModel", "metPiece", "(I)I"⟩
  | 154 => ⟨"TruthWalkModel", "meets", "(II)V"⟩
  | 155 => ⟨"TruthWalkModel", "letterOf", "(II)I"⟩
  | 156 => ⟨"TruthWalkModel", "goesInto", "(II)V"⟩
  | 157 => ⟨"TruthWalkModel", "litOf", "(II)I"⟩
  | 158 => ⟨"TruthWalkModel", "closes", "(II)V"⟩
  | 159 => ⟨"TruthWalkModel", "tells", "(II)V"⟩
  | 160 => ⟨"TruthWalkModel", "begins", "(II)V"⟩
  | 161 => ⟨"TruthWalkModel", "chooses", "(III)V"⟩
  | 162 => ⟨"TruthWalkModel", "goesOn", "(I)V"⟩
  | 163 => ⟨"TruthWalkModel", "compile", "(I)I"⟩
  | 164 => ⟨"TruthWalkModel", "root", "(I)I"⟩
  | 165 => ⟨"TruthWalkModel", "whyNode", "(II)I"⟩
  | 166 => ⟨"TruthWalkModel", "findLetters", "(I)V"⟩
  | 167 => ⟨"TruthWalkModel", "node", "(III)I"⟩
  | 168 => ⟨"TruthWalkModel", "whyPart", "(III)I"⟩
  | 169 => ⟨"TruthWalkModel", "part", "(III)I"⟩
  | 170 => ⟨"TruthWalkModel", "bend", "(IIII)I"⟩
  | 171 => ⟨"TruthWalkModel", "holds", "(III)Z"⟩
  | 172 => ⟨"TruthWalkModel", "sayOf", "(III)Z"⟩
  | 173 => ⟨"TruthWalkModel", "lays", "(I)V"⟩
  | 174 => ⟨"TruthWalkModel", "isWhole", "(II)Z"⟩
  | 175 => ⟨"TruthWalkModel", "sharesLetters", "(II)Z"⟩
  | 176 => ⟨"TruthWalkModel", "hasOwnLetter", "(II)Z"⟩
  | 177 => ⟨"TruthWalkModel", "judge", "(I)I"⟩
  | 178 => ⟨"TruthWalkModel", "guilty", "()I"⟩
  | 179 => ⟨"TruthWalkModel", "isRow", "(II)Z"⟩
  | 180 => ⟨"TruthWalkModel", "whyGraph", "(I)I"⟩
  | 181 => ⟨"TruthWalkModel", "rowsBefore", "(II)I"⟩
  | 182 => ⟨"TruthWalkModel", "rows", "(I)I"⟩
  | 183 => ⟨"TruthWalkModel", "says", "(II)I"⟩
  | 184 => ⟨"TruthWalkModel", "weightOf", "(II)J"⟩
  | 185 => ⟨"TruthWalkModel", "sums", "(II)J"⟩
  | 186 => ⟨"TruthWalkModel", "sum", "(I)J"⟩
  | 187 => ⟨"TruthWalkModel", "chance", "(IIZ)J"⟩
  | 188 => ⟨"TruthWalkModel", "sure", "(II)I"⟩
  | 189 => ⟨"TruthWalkModel", "kth", "(II)I"⟩
  | 190 => ⟨"TruthWalkModel", "rank", "(II)I"⟩
  | 191 => ⟨"TruthWalkModel", "next", "(II)I"⟩
  | 192 => ⟨"TruthWalkModel", "most", "(IZ)I"⟩
  | 193 => ⟨"TruthWalkModel", "weigh", "(II)J"⟩
  | 194 => ⟨"TruthWalkModel", "asked", "(I)I"⟩
  | 195 => ⟨"TruthWalkModel", "less", "(Z)I"⟩
  | 196 => ⟨"TruthWalkModel", "join", "()I"⟩
  | 197 => ⟨"TruthWalkModel", "lay", "(II)I"⟩
  | 198 => ⟨"TruthWalkModel", "tear", "()I"⟩
  | 199 => ⟨"TruthWalkModel", "row", "(I)I"⟩
  | 200 => ⟨"TruthWalkModel", "copy", "(III)I"⟩
  | 201 => ⟨"TruthWalkModel", "give", "(I)I"⟩
  | 202 => ⟨"TruthWalkModel", "status", "(I)I"⟩
  | 203 => ⟨"java/lang/Integer", "bitCount", "(I)I"⟩
  | 204 => ⟨"java/lang/Long", "bitCount", "(J)I"⟩
  | 205 => ⟨"java/lang/Math", "abs", "(I)I"⟩
  | 206 => ⟨"java/lang/Math", "max", "(II)I"⟩
  | 207 => ⟨"java/lang/Math", "min", "(II)I"⟩
  | _ => ⟨"TruthWalkLaw", "law", "([I)Z"⟩
def mxl : Nat → Nat
  | 0 => 1
  | 1 => 3
  | 2 => 1
  | 3 => 2
  | 4 => 2
  | 5 => 2
  | 6 => 2
  | 7 => 2
  | 8 => 2
  | 9 => 1
  | 10 => 2
  | 11 => 3
  | 12 => 6
  | 13 => 7
  | 14 => 3
  | 15 => 2
  | 16 => 3
  | 17 => 5
  | 18 => 8
  | 19 => 1
  | 20 => 1
  | 21 => 2
  | 22 => 5
  | 23 => 3
  | 24 => 3
  | 25 => 5
  | 26 => 4
  | 27 => 2
  | 28 => 5
  | 29 => 3
  | 30 => 3
  | 31 => 4
  | 32 => 4
  | 33 => 6
  | 34 => 5
  | 35 => 1
  | 36 => 4
  | 37 => 6
  | 38 => 3
  | 39 => 3
  | 40 => 2
  | 41 => 2
  | 42 => 3
  | 43 => 7
  | 44 => 3
  | 45 => 2
  | 46 => 7
  | 47 => 4
  | 48 => 2
  | 49 => 3
  | 50 => 7
  | 51 => 9
  | 52 => 4
  | 53 => 5
  | 54 => 6
  | 55 => 1
  | 56 => 2
  | 57 => 5
  | 58 => 6
  | 59 => 5
  | 60 => 4
  | 61 => 1
  | 62 => 3
  | 63 => 3
  | 64 => 4
  | 65 => 2
  | 66 => 2
  | 67 => 3
  | 68 => 1
  | 69 => 5
  | 70 => 4
  | 71 => 3
  | 72 => 5
  | 73 => 5
  | 74 => 1
  | 75 => 5
  | 76 => 7
  | 77 => 5
  | 78 => 3
  | 79 => 7
  | 80 => 7
  | 81 => 6
  | 82 => 6
  | 83 => 4
  | 84 => 3
  | 85 => 3
  | 86 => 5
  | 87 => 5
  | 88 => 7
  | 89 => 3
  | 90 => 1
  | 91 => 3
  | 92 => 4
  | 93 => 3
  | 94 => 12
  | 95 => 7
  | 96 => 5
  | 97 => 4
  | 98 => 4
  | 99 => 5
  | 100 => 4
  | 101 => 6
  | 102 => 4
  | 103 => 2
  | 104 => 6
  | 105 => 2
  | 106 => 2
  | 107 => 4
  | 108 => 5
  | 109 => 2
  | 110 => 2
  | 111 => 2
  | 112 => 2
  | 113 => 3
  | 114 => 2
  | 115 => 5
  | 116 => 10
  | 117 => 11
  | 118 => 1
  | 119 => 1
  | 120 => 1
  | 121 => 1
  | 122 => 6
  | 123 => 2
  | 124 => 6
  | 125 => 2
  | 126 => 1
  | 127 => 3
  | 128 => 1
  | 129 => 3
  | 130 => 1
  | 131 => 1
  | 132 => 5
  | 133 => 3
  | 134 => 3
  | 135 => 7
  | 136 => 4
  | 137 => 2
  | 138 => 3
  | 139 => 6
  | 140 => 6
  | 141 => 5
  | 142 => 2
  | 143 => 5
  | 144 => 3
  | 145 => 5
  | 146 => 5
  | 147 => 4
  | 148 => 6
  | 149 => 4
  | 150 => 3
  | 151 => 7
  | 152 => 2
  | 153 => 5
  | 154 => 4
  | 155 => 9
  | 156 => 5
  | 157 => 4
  | 158 => 5
  | 159 => 3
  | 160 => 4
  | 161 => 5
  | 162 => 3
  | 163 => 4
  | 164 => 2
  | 165 => 3
  | 166 => 6
  | 167 => 6
  | 168 => 6
  | 169 => 5
  | 170 => 8
  | 171 => 4
  | 172 => 7
  | 173 => 4
  | 174 => 7
  | 175 => 7
  | 176 => 6
  | 177 => 3
  | 178 => 1
  | 179 => 5
  | 180 => 2
  | 181 => 5
  | 182 => 3
  | 183 => 4
  | 184 => 6
  | 185 => 6
  | 186 => 4
  | 187 => 15
  | 188 => 7
  | 189 => 6
  | 190 => 4
  | 191 => 5
  | 192 => 6
  | 193 => 4
  | 194 => 6
  | 195 => 4
  | 196 => 2
  | 197 => 5
  | 198 => 2
  | 199 => 3
  | 200 => 5
  | 201 => 4
  | 202 => 2
  | 203 => 1
  | 204 => 2
  | 205 => 1
  | 206 => 2
  | 207 => 2
  | _ => 4
def rty : Nat → Option FieldType
  | 0 => none
  | 1 => none
  | 2 => (some (.int))
  | 3 => (some (.boolean))
  | 4 => (some (.boolean))
  | 5 => (some (.boolean))
  | 6 => (some (.int))
  | 7 => none
  | 8 => none
  | 9 => none
  | 10 => (some (.int))
  | 11 => none
  | 12 => (some (.long))
  | 13 => none
  | 14 => (some (.int))
  | 15 => (some (.object "TruthWalk$RowSet"))
  | 16 => (some (.int))
  | 17 => (some (.long))
  | 18 => (some (.long))
  | 19 => none
  | 20 => none
  | 21 => (some (.boolean))
  | 22 => (some (.int))
  | 23 => none
  | 24 => (some (.int))
  | 25 => none
  | 26 => none
  | 27 => (some (.int))
  | 28 => (some (.boolean))
  | 29 => (some (.int))
  | 30 => (some (.object "TruthWalk$RowSet"))
  | 31 => (some (.long))
  | 32 => (some (.long))
  | 33 => (some (.long))
  | 34 => (some (.long))
  | 35 => none
  | 36 => none
  | 37 => none
  | 38 => none
  | 39 => (some (.boolean))
  | 40 => (some (.boolean))
  | 41 => (some (.int))
  | 42 => (some (.int))
  | 43 => none
  | 44 => none
  | 45 => none
  | 46 => (some (.int))
  | 47 => (some (.int))
  | 48 => none
  | 49 => (some (.boolean))
  | 50 => (some (.int))
  | 51 => (some (.int))
  | 52 => (some (.int))
  | 53 => (some (.int))
  | 54 => (some (.int))
  | 55 => none
  | 56 => none
  | 57 => (some (.int))
  | 58 => (some (.boolean))
  | 59 => (some (.boolean))
  | 60 => (some (.int))
  | 61 => none
  | 62 => none
  | 63 => none
  | 64 => none
  | 65 => none
  | 66 => (some (.boolean))
  | 67 => none
  | 68 => (some (.int))
  | 69 => (some (.int))
  | 70 => (some (.int))
  | 71 => (some (.int))
  | 72 => (some (.int))
  | 73 => (some (.int))
  | 74 => none
  | 75 => (some (.int))
  | 76 => (some (.int))
  | 77 => (some (.int))
  | 78 => (some (.int))
  | 79 => (some (.int))
  | 80 => (some (.int))
  | 81 => (some (.int))
  | 82 => (some (.int))
  | 83 => (some (.int))
  | 84 => (some (.int))
  | 85 => (some (.int))
  | 86 => (some (.int))
  | 87 => (some (.int))
  | 88 => (some (.int))
  | 89 => (some (.int))
  | 90 => (some (.int))
  | 91 => (some (.int))
  | 92 => (some (.int))
  | 93 => (some (.long))
  | 94 => (some (.long))
  | 95 => (some (.int))
  | 96 => (some (.int))
  | 97 => (some (.int))
  | 98 => (some (.int))
  | 99 => (some (.int))
  | 100 => (some (.long))
  | 101 => (some (.int))
  | 102 => (some (.int))
  | 103 => (some (.int))
  | 104 => (some (.int))
  | 105 => (some (.int))
  | 106 => (some (.int))
  | 107 => (some (.int))
  | 108 => (some (.int))
  | 109 => (some (.int))
  | 110 => (some (.object "TruthWalk$Book"))
  | 111 => (some (.int))
  | 112 => (some (.long))
  | 113 => (some (.int))
  | 114 => none
  | 115 => (some (.long))
  | 116 => (some (.int))
  | 117 => (some (.long))
  | 118 => (some (.int))
  | 119 => (some (.int))
  | 120 => (some (.int))
  | 121 => (some (.int))
  | 122 => (some (.long))
  | 123 => none
  | 124 => (some (.boolean))
  | 125 => (some (.int))
  | 126 => (some (.boolean))
  | 127 => (some (.boolean))
  | 128 => (some (.int))
  | 129 => (some (.int))
  | 130 => (some (.int))
  | 131 => (some (.int))
  | 132 => (some (.int))
  | 133 => (some (.int))
  | 134 => (some (.boolean))
  | 135 => (some (.int))
  | 136 => (some (.int))
  | 137 => (some (.int))
  | 138 => (some (.boolean))
  | 139 => (some (.int))
  | 140 => (some (.int))
  | 141 => (some (.int))
  | 142 => (some (.int))
  | 143 => (some (.int))
  | 144 => (some (.int))
  | 145 => (some (.int))
  | 146 => none
  | 147 => none
  | 148 => none
  | 149 => (some (.int))
  | 150 => (some (.boolean))
  | 151 => none
  | 152 => none
  | 153 => (some (.int))
  | 154 => none
  | 155 => (some (.int))
  | 156 => none
  | 157 => (some (.int))
  | 158 => none
  | 159 => none
  | 160 => none
  | 161 => none
  | 162 => none
  | 163 => (some (.int))
  | 164 => (some (.int))
  | 165 => (some (.int))
  | 166 => none
  | 167 => (some (.int))
  | 168 => (some (.int))
  | 169 => (some (.int))
  | 170 => (some (.int))
  | 171 => (some (.boolean))
  | 172 => (some (.boolean))
  | 173 => none
  | 174 => (some (.boolean))
  | 175 => (some (.boolean))
  | 176 => (some (.boolean))
  | 177 => (some (.int))
  | 178 => (some (.int))
  | 179 => (some (.boolean))
  | 180 => (some (.int))
  | 181 => (some (.int))
  | 182 => (some (.int))
  | 183 => (some (.int))
  | 184 => (some (.long))
  | 185 => (some (.long))
  | 186 => (some (.long))
  | 187 => (some (.long))
  | 188 => (some (.int))
  | 189 => (some (.int))
  | 190 => (some (.int))
  | 191 => (some (.int))
  | 192 => (some (.int))
  | 193 => (some (.long))
  | 194 => (some (.int))
  | 195 => (some (.int))
  | 196 => (some (.int))
  | 197 => (some (.int))
  | 198 => (some (.int))
  | 199 => (some (.int))
  | 200 => (some (.int))
  | 201 => (some (.int))
  | 202 => (some (.int))
  | 203 => (some (.int))
  | 204 => (some (.int))
  | 205 => (some (.int))
  | 206 => (some (.int))
  | 207 => (some (.int))
  | _ => some .boolean
def ocl : Nat → Nat
  | 0 => 0
  | 1 => 0
  | 2 => 0
  | 3 => 0
  | 4 => 0
  | 5 => 0
  | 6 => 0
  | 7 => 0
  | 8 => 0
  | 9 => 0
  | 10 => 0
  | 11 => 0
  | 12 => 0
  | 13 => 0
  | 14 => 0
  | 15 => 0
  | 16 => 0
  | 17 => 0
  | 18 => 0
  | 19 => 1
  | 20 => 1
  | 21 => 1
  | 22 => 1
  | 23 => 1
  | 24 => 1
  | 25 => 1
  | 26 => 1
  | 27 => 1
  | 28 => 1
  | 29 => 1
  | 30 => 1
  | 31 => 1
  | 32 => 1
  | 33 => 1
  | 34 => 1
  | 35 => 2
  | 36 => 2
  | 37 => 2
  | 38 => 2
  | 39 => 2
  | 40 => 2
  | 41 => 2
  | 42 => 2
  | 43 => 2
  | 44 => 2
  | 45 => 2
  | 46 => 2
  | 47 => 2
  | 48 => 3
  | 49 => 3
  | 50 => 3
  | 51 => 3
  | 52 => 3
  | 53 => 3
  | 54 => 3
  | 55 => 4
  | 56 => 4
  | 57 => 4
  | 58 => 4
  | 59 => 4
  | 60 => 4
  | 61 => 5
  | 62 => 5
  | 63 => 5
  | 64 => 5
  | 65 => 5
  | 66 => 5
  | 67 => 5
  | 68 => 5
  | 69 => 5
  | 70 => 5
  | 71 => 5
  | 72 => 5
  | 73 => 5
  | 74 => 6
  | 75 => 6
  | 76 => 6
  | 77 => 6
  | 78 => 6
  | 79 => 6
  | 80 => 6
  | 81 => 6
  | 82 => 6
  | 83 => 6
  | 84 => 6
  | 85 => 6
  | 86 => 6
  | 87 => 6
  | 88 => 6
  | 89 => 6
  | 90 => 6
  | 91 => 6
  | 92 => 6
  | 93 => 6
  | 94 => 6
  | 95 => 6
  | 96 => 6
  | 97 => 6
  | 98 => 6
  | 99 => 6
  | 100 => 6
  | 101 => 6
  | 102 => 6
  | 103 => 6
  | 104 => 6
  | 105 => 6
  | 106 => 6
  | 107 => 6
  | 108 => 6
  | 109 => 6
  | 110 => 6
  | 111 => 6
  | 112 => 6
  | 113 => 6
  | 114 => 6
  | 115 => 6
  | 116 => 6
  | 117 => 6
  | 118 => 6
  | 119 => 6
  | 120 => 6
  | 121 => 6
  | 122 => 6
  | 123 => 7
  | 124 => 7
  | 125 => 7
  | 126 => 7
  | 127 => 7
  | 128 => 7
  | 129 => 7
  | 130 => 7
  | 131 => 7
  | 132 => 7
  | 133 => 7
  | 134 => 7
  | 135 => 7
  | 136 => 7
  | 137 => 7
  | 138 => 7
  | 139 => 7
  | 140 => 7
  | 141 => 7
  | 142 => 7
  | 143 => 7
  | 144 => 7
  | 145 => 7
  | 146 => 7
  | 147 => 7
  | 148 => 7
  | 149 => 7
  | 150 => 7
  | 151 => 7
  | 152 => 7
  | 153 => 7
  | 154 => 7
  | 155 => 7
  | 156 => 7
  | 157 => 7
  | 158 => 7
  | 159 => 7
  | 160 => 7
  | 161 => 7
  | 162 => 7
  | 163 => 7
  | 164 => 7
  | 165 => 7
  | 166 => 7
  | 167 => 7
  | 168 => 7
  | 169 => 7
  | 170 => 7
  | 171 => 7
  | 172 => 7
  | 173 => 7
  | 174 => 7
  | 175 => 7
  | 176 => 7
  | 177 => 7
  | 178 => 7
  | 179 => 7
  | 180 => 7
  | 181 => 7
  | 182 => 7
  | 183 => 7
  | 184 => 7
  | 185 => 7
  | 186 => 7
  | 187 => 7
  | 188 => 7
  | 189 => 7
  | 190 => 7
  | 191 => 7
  | 192 => 7
  | 193 => 7
  | 194 => 7
  | 195 => 7
  | 196 => 7
  | 197 => 7
  | 198 => 7
  | 199 => 7
  | 200 => 7
  | 201 => 7
  | 202 => 7
  | 203 => 9
  | 204 => 10
  | 205 => 11
  | 206 => 11
  | 207 => 11
  | _ => 8
def npr : Nat → Nat
  | 0 => 0
  | 1 => 1
  | 2 => 0
  | 3 => 1
  | 4 => 1
  | 5 => 1
  | 6 => 1
  | 7 => 1
  | 8 => 1
  | 9 => 0
  | 10 => 1
  | 11 => 2
  | 12 => 1
  | 13 => 1
  | 14 => 0
  | 15 => 0
  | 16 => 0
  | 17 => 1
  | 18 => 2
  | 19 => 0
  | 20 => 0
  | 21 => 1
  | 22 => 3
  | 23 => 2
  | 24 => 2
  | 25 => 3
  | 26 => 1
  | 27 => 0
  | 28 => 1
  | 29 => 0
  | 30 => 1
  | 31 => 2
  | 32 => 3
  | 33 => 1
  | 34 => 2
  | 35 => 0
  | 36 => 3
  | 37 => 3
  | 38 => 1
  | 39 => 0
  | 40 => 0
  | 41 => 0
  | 42 => 0
  | 43 => 2
  | 44 => 1
  | 45 => 1
  | 46 => 1
  | 47 => 1
  | 48 => 0
  | 49 => 1
  | 50 => 2
  | 51 => 2
  | 52 => 3
  | 53 => 2
  | 54 => 2
  | 55 => 0
  | 56 => 0
  | 57 => 2
  | 58 => 3
  | 59 => 3
  | 60 => 2
  | 61 => 0
  | 62 => 1
  | 63 => 1
  | 64 => 2
  | 65 => 1
  | 66 => 1
  | 67 => 1
  | 68 => 0
  | 69 => 1
  | 70 => 1
  | 71 => 1
  | 72 => 1
  | 73 => 2
  | 74 => 0
  | 75 => 2
  | 76 => 5
  | 77 => 2
  | 78 => 1
  | 79 => 3
  | 80 => 2
  | 81 => 2
  | 82 => 3
  | 83 => 2
  | 84 => 1
  | 85 => 1
  | 86 => 3
  | 87 => 3
  | 88 => 4
  | 89 => 1
  | 90 => 0
  | 91 => 1
  | 92 => 2
  | 93 => 1
  | 94 => 3
  | 95 => 2
  | 96 => 2
  | 97 => 2
  | 98 => 2
  | 99 => 2
  | 100 => 2
  | 101 => 1
  | 102 => 1
  | 103 => 0
  | 104 => 2
  | 105 => 0
  | 106 => 1
  | 107 => 3
  | 108 => 1
  | 109 => 1
  | 110 => 1
  | 111 => 1
  | 112 => 1
  | 113 => 2
  | 114 => 1
  | 115 => 1
  | 116 => 2
  | 117 => 2
  | 118 => 1
  | 119 => 1
  | 120 => 1
  | 121 => 1
  | 122 => 3
  | 123 => 0
  | 124 => 3
  | 125 => 1
  | 126 => 1
  | 127 => 2
  | 128 => 1
  | 129 => 1
  | 130 => 1
  | 131 => 1
  | 132 => 2
  | 133 => 2
  | 134 => 2
  | 135 => 5
  | 136 => 2
  | 137 => 1
  | 138 => 2
  | 139 => 3
  | 140 => 2
  | 141 => 2
  | 142 => 2
  | 143 => 3
  | 144 => 2
  | 145 => 3
  | 146 => 3
  | 147 => 2
  | 148 => 2
  | 149 => 2
  | 150 => 1
  | 151 => 1
  | 152 => 0
  | 153 => 1
  | 154 => 2
  | 155 => 2
  | 156 => 2
  | 157 => 2
  | 158 => 2
  | 159 => 2
  | 160 => 2
  | 161 => 3
  | 162 => 1
  | 163 => 1
  | 164 => 1
  | 165 => 2
  | 166 => 1
  | 167 => 3
  | 168 => 3
  | 169 => 3
  | 170 => 4
  | 171 => 3
  | 172 => 3
  | 173 => 1
  | 174 => 2
  | 175 => 2
  | 176 => 2
  | 177 => 1
  | 178 => 0
  | 179 => 2
  | 180 => 1
  | 181 => 2
  | 182 => 1
  | 183 => 2
  | 184 => 2
  | 185 => 2
  | 186 => 1
  | 187 => 3
  | 188 => 2
  | 189 => 2
  | 190 => 2
  | 191 => 2
  | 192 => 2
  | 193 => 2
  | 194 => 1
  | 195 => 1
  | 196 => 0
  | 197 => 2
  | 198 => 0
  | 199 => 1
  | 200 => 3
  | 201 => 1
  | 202 => 1
  | 203 => 1
  | 204 => 1
  | 205 => 1
  | 206 => 2
  | 207 => 2
  | _ => 1
def mcs : Nat → Nat × Nat
  | 0 => (13, 25712)
  | 19 => (8, 25568)
  | 35 => (5, 144)
  | 48 => (87, 45254)
  | 55 => (6, 43220)
  | 61 => (1, 64)
  | 74 => (121, 100879)
  | 123 => (42, 290208)
  | 208 => (600000, 7302250)
  | _ => (0, 0)
def isCt (k : Nat) : Bool := match k with
  | 0 => true
  | 19 => true
  | 35 => true
  | 48 => true
  | 55 => true
  | 61 => true
  | 74 => true
  | 123 => true
  | _ => false
def fldL : List (Nat × Nat × Nat × Nat × Nat) := [(5, 9, 5, 0, 104), (0, 91, 5, 0, 105), (5, 15, 5, 1, 106), (5, 19, 5, 2, 107), (6, 245, 5, 2, 108), (5, 22, 5, 3, 109), (1, 84, 5, 3, 110), (0, 88, 5, 3, 111), (1, 9, 1, 0, 123), (6, 142, 1, 0, 124), (1, 15, 1, 1, 125), (6, 145, 1, 1, 126), (1, 18, 1, 2, 127), (6, 148, 1, 2, 128), (1, 21, 1, 3, 129), (6, 151, 1, 3, 130), (1, 24, 1, 4, 131), (1, 27, 1, 5, 132), (1, 34, 1, 6, 133), (1, 38, 1, 7, 134), (1, 42, 1, 8, 135), (6, 124, 1, 8, 136), (1, 46, 1, 9, 137), (3, 62, 1, 9, 138), (6, 136, 1, 9, 139), (1, 49, 1, 10, 140), (3, 101, 1, 10, 141), (6, 129, 1, 10, 142), (1, 52, 1, 11, 143), (3, 65, 1, 11, 144), (0, 9, 0, 0, 176), (3, 48, 0, 0, 177), (0, 15, 0, 1, 178), (0, 21, 0, 2, 179), (3, 39, 0, 2, 180), (6, 120, 0, 2, 181), (0, 28, 0, 3, 182), (0, 32, 0, 4, 183), (6, 63, 0, 4, 184), (0, 36, 0, 5, 185), (3, 51, 0, 5, 186), (6, 84, 0, 5, 187), (0, 39, 0, 6, 188), (3, 33, 0, 6, 189), (6, 104, 0, 6, 190), (0, 42, 0, 7, 191), (6, 110, 0, 7, 192), (0, 45, 0, 8, 193), (6, 107, 0, 8, 194), (4, 10, 4, 0, 229), (4, 16, 4, 1, 230), (4, 19, 4, 2, 231), (4, 22, 4, 3, 232), (4, 25, 4, 4, 233), (4, 28, 4, 5, 234), (4, 31, 4, 6, 235), (4, 35, 4, 7, 236), (2, 9, 2, 0, 259), (2, 15, 2, 1, 260), (2, 18, 2, 2, 261), (3, 91, 2, 2, 262), (2, 21, 2, 3, 263), (3, 130, 2, 3, 264), (2, 24, 2, 4, 265), (3, 139, 2, 4, 266), (2, 27, 2, 5, 267), (2, 31, 2, 6, 268), (3, 94, 2, 6, 269), (2, 34, 2, 7, 270), (3, 127, 2, 7, 271), (2, 37, 2, 8, 272), (3, 136, 2, 8, 273), (3, 11, 3, 0, 293), (3, 20, 3, 1, 294), (3, 24, 3, 2, 295), (3, 28, 3, 3, 296), (6, 12, 6, 0, 308), (6, 16, 6, 1, 309), (6, 22, 6, 2, 310), (6, 26, 6, 3, 311), (6, 33, 6, 4, 312), (6, 37, 6, 5, 313), (6, 41, 6, 6, 314), (6, 44, 6, 7, 315), (6, 48, 6, 8, 316), (6, 52, 6, 9, 317), (7, 7, 7, 0, 858), (7, 13, 7, 1, 859), (7, 16, 7, 2, 860), (7, 19, 7, 3, 861), (7, 22, 7, 4, 862), (7, 25, 7, 5, 863), (7, 28, 7, 6, 864), (7, 31, 7, 7, 865), (7, 34, 7, 8, 866), (7, 37, 7, 9, 867), (7, 40, 7, 10, 868), (7, 43, 7, 11, 869), (7, 46, 7, 12, 870), (7, 49, 7, 13, 871), (7, 52, 7, 14, 872), (7, 56, 7, 15, 873), (7, 59, 7, 16, 874), (7, 62, 7, 17, 875), (7, 191, 7, 18, 876), (7, 65, 7, 19, 877), (7, 68, 7, 20, 878), (7, 71, 7, 21, 879), (7, 74, 7, 22, 880), (7, 77, 7, 23, 881), (7, 80, 7, 24, 882), (7, 83, 7, 25, 883), (7, 86, 7, 26, 884), (7, 89, 7, 27, 885), (7, 92, 7, 28, 886), (7, 95, 7, 29, 887), (7, 98, 7, 30, 888), (7, 101, 7, 31, 889), (7, 104, 7, 32, 890), (7, 107, 7, 33, 891), (7, 110, 7, 34, 892), (7, 114, 7, 35, 893), (7, 219, 7, 36, 894), (7, 222, 7, 37, 895), (7, 206, 7, 38, 896), (7, 212, 7, 39, 897), (7, 117, 7, 40, 898), (7, 120, 7, 41, 899), (7, 124, 7, 42, 900), (7, 127, 7, 43, 901), (7, 130, 7, 44, 902), (7, 134, 7, 45, 903), (7, 137, 7, 46, 904), (7, 140, 7, 47, 905), (7, 143, 7, 48, 906)]
def calL : List (Nat × Nat × Nat × Nat × Nat × Nat × Nat × Nat × Nat) := [(8, 9, 4, 74, 80, 81, 0, 82, 66),
  (6, 3, 6, 0, 83, 0, 0, 0, 0),
  (6, 11, 4, 0, 88, 89, 0, 90, 67),
  (0, 3, 6, 0, 91, 0, 0, 0, 0),
  (0, 20, 5, 19, 94, 95, 0, 96, 68),
  (1, 3, 6, 0, 97, 0, 0, 0, 0),
  (1, 33, 5, 61, 100, 101, 0, 102, 69),
  (5, 3, 6, 0, 103, 0, 0, 0, 0),
  (0, 27, 5, 61, 171, 101, 0, 102, 69),
  (0, 49, 0, 1, 172, 173, 174, 175, 67),
  (6, 21, 4, 48, 216, 217, 0, 218, 70),
  (3, 3, 6, 0, 219, 0, 0, 0, 0),
  (3, 19, 5, 55, 224, 225, 0, 226, 71),
  (4, 3, 6, 0, 227, 0, 0, 0, 0),
  (3, 32, 5, 35, 255, 256, 0, 257, 72),
  (2, 3, 6, 0, 258, 0, 0, 0, 0),
  (6, 32, 5, 61, 307, 101, 0, 102, 69),
  (8, 13, 0, 75, 339, 340, 341, 342, 66),
  (6, 55, 0, 110, 343, 345, 0, 346, 66),
  (6, 59, 0, 111, 347, 349, 1, 350, 66),
  (6, 66, 0, 1, 351, 173, 174, 175, 67),
  (8, 18, 0, 76, 352, 353, 354, 355, 66),
  (6, 70, 0, 5, 356, 357, 358, 359, 67),
  (6, 74, 2, 119, 360, 361, 0, 362, 66),
  (6, 248, 2, 118, 363, 364, 0, 365, 66),
  (6, 77, 0, 113, 366, 368, 2, 369, 66),
  (6, 233, 0, 7, 370, 371, 372, 373, 67),
  (8, 23, 0, 77, 374, 375, 376, 377, 66),
  (6, 81, 0, 4, 378, 379, 380, 381, 67),
  (0, 53, 0, 5, 382, 357, 358, 359, 67),
  (6, 87, 0, 6, 383, 384, 385, 386, 67),
  (6, 90, 2, 203, 387, 388, 0, 389, 74),
  (6, 95, 0, 8, 393, 394, 395, 396, 67),
  (8, 27, 0, 78, 397, 398, 399, 400, 66),
  (6, 98, 0, 9, 401, 402, 403, 404, 67),
  (8, 32, 0, 79, 405, 406, 407, 408, 66),
  (6, 101, 0, 3, 409, 410, 411, 412, 67),
  (8, 37, 0, 80, 413, 414, 415, 416, 66),
  (8, 41, 0, 81, 417, 418, 419, 420, 66),
  (8, 45, 0, 82, 421, 422, 423, 424, 66),
  (6, 113, 0, 10, 425, 426, 427, 428, 67),
  (0, 57, 0, 4, 429, 379, 380, 381, 67),
  (0, 60, 3, 118, 430, 364, 0, 365, 66),
  (6, 116, 0, 11, 431, 432, 433, 434, 67),
  (8, 50, 0, 83, 435, 436, 437, 438, 66),
  (8, 54, 0, 84, 439, 440, 441, 442, 66),
  (6, 132, 0, 49, 443, 444, 445, 446, 70),
  (3, 36, 0, 56, 447, 448, 449, 450, 71),
  (3, 43, 0, 20, 451, 452, 453, 454, 68),
  (1, 55, 0, 22, 455, 456, 457, 458, 68),
  (3, 54, 0, 36, 459, 460, 461, 462, 72),
  (2, 40, 0, 37, 463, 465, 3, 466, 72),
  (2, 44, 3, 120, 467, 468, 0, 469, 66),
  (2, 48, 0, 38, 470, 472, 4, 473, 72),
  (3, 58, 0, 50, 474, 476, 5, 477, 70),
  (3, 69, 0, 39, 478, 479, 480, 481, 72),
  (2, 52, 0, 40, 482, 484, 6, 485, 72),
  (2, 56, 0, 41, 486, 488, 7, 489, 72),
  (2, 60, 2, 203, 490, 388, 0, 389, 74),
  (3, 73, 0, 42, 491, 492, 493, 494, 72),
  (2, 65, 0, 43, 495, 497, 8, 498, 72),
  (2, 69, 3, 121, 499, 500, 0, 501, 66),
  (3, 77, 0, 44, 502, 503, 504, 505, 72),
  (3, 81, 0, 51, 506, 508, 9, 509, 70),
  (3, 97, 0, 57, 510, 511, 512, 513, 71),
  (4, 38, 2, 60, 514, 515, 0, 516, 71),
  (4, 42, 0, 59, 517, 519, 10, 520, 71),
  (3, 104, 0, 46, 521, 522, 523, 524, 72),
  (2, 72, 3, 119, 525, 361, 0, 362, 66),
  (2, 75, 0, 47, 526, 528, 11, 529, 72),
  (3, 108, 3, 119, 530, 361, 0, 362, 66),
  (3, 111, 0, 52, 531, 533, 12, 534, 70),
  (3, 115, 0, 22, 535, 456, 457, 458, 68),
  (3, 119, 0, 23, 536, 537, 538, 539, 68),
  (1, 59, 0, 21, 540, 541, 542, 543, 68),
  (3, 123, 0, 58, 544, 545, 546, 547, 71),
  (3, 84, 0, 45, 548, 549, 550, 551, 72),
  (3, 87, 0, 53, 552, 554, 13, 555, 70),
  (3, 133, 0, 54, 556, 558, 14, 559, 70),
  (3, 142, 2, 203, 560, 388, 0, 389, 74),
  (8, 58, 0, 85, 561, 562, 563, 564, 66),
  (8, 62, 0, 86, 565, 566, 567, 568, 66),
  (6, 139, 0, 21, 569, 541, 542, 543, 68),
  (8, 66, 0, 87, 570, 571, 572, 573, 66),
  (6, 154, 0, 24, 574, 575, 576, 577, 68),
  (8, 70, 0, 88, 578, 579, 580, 581, 66),
  (6, 158, 0, 25, 582, 583, 584, 585, 68),
  (1, 63, 0, 26, 586, 588, 15, 589, 68),
  (1, 67, 3, 119, 590, 361, 0, 362, 66),
  (1, 71, 3, 121, 591, 500, 0, 501, 66),
  (1, 74, 0, 24, 592, 575, 576, 577, 68),
  (8, 75, 0, 89, 593, 594, 595, 596, 66),
  (6, 162, 0, 27, 597, 598, 599, 600, 68),
  (1, 78, 0, 28, 601, 603, 16, 604, 68),
  (6, 166, 0, 29, 605, 606, 607, 608, 68),
  (6, 169, 0, 16, 609, 610, 611, 612, 67),
  (0, 74, 0, 30, 613, 614, 615, 616, 68),
  (1, 81, 0, 62, 617, 618, 619, 620, 69),
  (5, 25, 2, 206, 621, 622, 0, 623, 75),
  (5, 31, 2, 207, 624, 625, 0, 626, 75),
  (1, 87, 0, 31, 627, 629, 17, 630, 68),
  (1, 95, 0, 32, 631, 633, 18, 634, 68),
  (1, 101, 3, 122, 636, 637, 0, 638, 66),
  (6, 251, 2, 205, 639, 640, 0, 641, 75),
  (1, 104, 0, 33, 645, 647, 19, 648, 68),
  (1, 108, 0, 34, 649, 651, 20, 652, 68),
  (1, 91, 0, 64, 653, 654, 655, 656, 69),
  (0, 85, 0, 62, 657, 618, 619, 620, 69),
  (0, 95, 0, 17, 658, 660, 21, 661, 67),
  (0, 108, 0, 6, 663, 384, 385, 386, 67),
  (0, 111, 0, 18, 664, 666, 22, 667, 67),
  (0, 115, 3, 121, 668, 500, 0, 501, 66),
  (0, 71, 3, 119, 669, 361, 0, 362, 66),
  (0, 118, 3, 122, 670, 637, 0, 638, 66),
  (0, 99, 0, 64, 671, 654, 655, 656, 69),
  (0, 103, 0, 71, 672, 673, 674, 675, 69),
  (5, 54, 0, 66, 676, 677, 678, 679, 69),
  (8, 79, 0, 90, 680, 681, 682, 683, 66),
  (8, 84, 0, 91, 684, 685, 686, 687, 66),
  (6, 172, 0, 15, 688, 689, 690, 691, 67),
  (0, 78, 0, 63, 692, 693, 694, 695, 69),
  (5, 34, 0, 62, 696, 618, 619, 620, 69),
  (0, 82, 0, 67, 697, 698, 699, 700, 69),
  (5, 38, 3, 122, 701, 637, 0, 638, 66),
  (6, 176, 0, 68, 702, 703, 704, 705, 69),
  (5, 42, 0, 69, 706, 707, 708, 709, 69),
  (5, 46, 2, 204, 710, 711, 0, 712, 76),
  (8, 88, 0, 92, 716, 717, 718, 719, 66),
  (6, 179, 0, 2, 720, 721, 722, 723, 67),
  (6, 182, 0, 66, 724, 677, 678, 679, 69),
  (8, 92, 0, 93, 725, 726, 727, 728, 66),
  (6, 185, 0, 112, 729, 731, 23, 732, 66),
  (6, 189, 0, 13, 733, 734, 735, 736, 67),
  (0, 67, 0, 2, 737, 721, 722, 723, 67),
  (0, 64, 0, 10, 738, 426, 427, 428, 67),
  (6, 193, 0, 115, 739, 741, 24, 742, 66),
  (8, 97, 0, 94, 743, 744, 745, 746, 66),
  (6, 197, 0, 67, 747, 698, 699, 700, 69),
  (6, 200, 2, 117, 748, 749, 0, 750, 66),
  (8, 102, 0, 95, 751, 752, 753, 754, 66),
  (8, 106, 0, 96, 755, 756, 757, 758, 66),
  (6, 204, 0, 72, 759, 760, 761, 762, 69),
  (5, 58, 0, 73, 763, 765, 25, 766, 69),
  (8, 110, 0, 97, 767, 768, 769, 770, 66),
  (6, 207, 0, 69, 771, 707, 708, 709, 69),
  (8, 114, 0, 98, 772, 773, 774, 775, 66),
  (6, 210, 0, 71, 776, 673, 674, 675, 69),
  (8, 118, 0, 99, 777, 778, 779, 780, 66),
  (6, 213, 0, 116, 781, 783, 26, 784, 66),
  (8, 123, 0, 100, 785, 786, 787, 788, 66),
  (6, 217, 0, 12, 789, 790, 791, 792, 67),
  (8, 128, 0, 101, 793, 794, 795, 796, 66),
  (6, 220, 0, 14, 797, 798, 799, 800, 67),
  (6, 223, 0, 62, 801, 618, 619, 620, 69),
  (6, 226, 0, 65, 802, 803, 804, 805, 69),
  (8, 132, 0, 102, 806, 807, 808, 809, 66),
  (6, 229, 0, 70, 810, 811, 812, 813, 69),
  (8, 137, 0, 103, 815, 816, 817, 818, 66),
  (8, 141, 0, 104, 819, 820, 821, 822, 66),
  (6, 236, 0, 114, 823, 825, 27, 826, 66),
  (8, 145, 0, 105, 827, 828, 829, 830, 66),
  (8, 149, 0, 106, 831, 832, 833, 834, 66),
  (8, 153, 0, 107, 835, 836, 837, 838, 66),
  (6, 239, 7, 0, 839, 0, 0, 0, 0),
  (8, 157, 0, 108, 842, 843, 844, 845, 66),
  (8, 161, 0, 109, 846, 847, 848, 849, 66),
  (8, 12, 4, 123, 852, 853, 0, 854, 73),
  (7, 1, 6, 0, 855, 0, 0, 0, 0),
  (8, 17, 0, 132, 1007, 1008, 1009, 1010, 73),
  (7, 150, 2, 126, 1011, 1012, 0, 1013, 73),
  (7, 154, 0, 125, 1014, 1016, 28, 1017, 73),
  (7, 146, 2, 124, 1019, 1020, 0, 1021, 73),
  (8, 22, 0, 135, 1022, 1023, 1024, 1025, 73),
  (7, 167, 0, 134, 1026, 1028, 29, 1029, 73),
  (7, 163, 0, 127, 1030, 1032, 30, 1033, 73),
  (7, 170, 2, 128, 1034, 1035, 0, 1036, 73),
  (7, 173, 0, 133, 1037, 1039, 31, 1040, 73),
  (7, 160, 2, 130, 1041, 1042, 0, 1043, 73),
  (8, 26, 0, 136, 1044, 1045, 1046, 1047, 73),
  (7, 177, 2, 129, 1048, 1049, 0, 1050, 73),
  (8, 31, 0, 137, 1051, 1052, 1053, 1054, 73),
  (8, 36, 0, 139, 1055, 1056, 1057, 1058, 73),
  (7, 180, 0, 138, 1059, 1061, 32, 1062, 73),
  (8, 40, 0, 140, 1063, 1064, 1065, 1066, 73),
  (7, 183, 2, 131, 1067, 1068, 0, 1069, 73),
  (8, 44, 0, 141, 1070, 1071, 1072, 1073, 73),
  (8, 49, 0, 143, 1074, 1075, 1076, 1077, 73),
  (7, 188, 2, 142, 1079, 1080, 0, 1081, 73),
  (8, 53, 0, 144, 1082, 1083, 1084, 1085, 73),
  (8, 57, 0, 163, 1086, 1087, 1088, 1089, 73),
  (7, 228, 0, 145, 1090, 1092, 33, 1093, 73),
  (7, 196, 0, 147, 1095, 1097, 34, 1098, 73),
  (7, 225, 0, 152, 1099, 1101, 35, 1102, 73),
  (7, 209, 0, 150, 1103, 1105, 36, 1106, 73),
  (7, 200, 0, 149, 1107, 1109, 37, 1110, 73),
  (7, 203, 0, 148, 1111, 1113, 38, 1114, 73),
  (7, 215, 0, 151, 1115, 1117, 39, 1118, 73),
  (7, 263, 0, 162, 1119, 1121, 40, 1122, 73),
  (7, 254, 0, 158, 1123, 1125, 41, 1126, 73),
  (7, 232, 0, 157, 1127, 1129, 42, 1130, 73),
  (7, 235, 0, 146, 1131, 1133, 43, 1134, 73),
  (7, 257, 0, 160, 1135, 1137, 44, 1138, 73),
  (7, 239, 0, 153, 1139, 1141, 45, 1142, 73),
  (7, 242, 0, 159, 1143, 1145, 46, 1146, 73),
  (7, 245, 0, 155, 1147, 1149, 47, 1150, 73),
  (7, 248, 0, 156, 1151, 1153, 48, 1154, 73),
  (7, 260, 0, 161, 1155, 1157, 49, 1158, 73),
  (7, 251, 0, 154, 1159, 1161, 50, 1162, 73),
  (8, 61, 0, 164, 1163, 1164, 1165, 1166, 73),
  (8, 65, 0, 167, 1167, 1168, 1169, 1170, 73),
  (7, 266, 0, 165, 1171, 1173, 51, 1174, 73),
  (7, 269, 0, 166, 1175, 1177, 52, 1178, 73),
  (8, 69, 0, 169, 1179, 1180, 1181, 1182, 73),
  (7, 272, 0, 168, 1183, 1185, 53, 1186, 73),
  (8, 74, 0, 170, 1187, 1188, 1189, 1190, 73),
  (8, 78, 0, 177, 1191, 1192, 1193, 1194, 73),
  (7, 282, 0, 173, 1195, 1197, 54, 1198, 73),
  (7, 279, 0, 172, 1199, 1201, 55, 1202, 73),
  (7, 275, 0, 171, 1203, 1205, 56, 1206, 73),
  (7, 285, 0, 175, 1207, 1209, 57, 1210, 73),
  (7, 288, 0, 176, 1211, 1213, 58, 1214, 73),
  (7, 291, 0, 174, 1215, 1217, 59, 1218, 73),
  (8, 83, 0, 178, 1219, 1220, 1221, 1222, 73),
  (8, 87, 0, 182, 1223, 1224, 1225, 1226, 73),
  (7, 297, 0, 180, 1227, 1229, 60, 1230, 73),
  (7, 300, 0, 181, 1231, 1233, 61, 1234, 73),
  (7, 294, 0, 179, 1235, 1237, 62, 1238, 73),
  (8, 91, 0, 183, 1239, 1240, 1241, 1242, 73),
  (8, 96, 0, 186, 1243, 1244, 1245, 1246, 73),
  (7, 307, 0, 185, 1247, 1249, 63, 1250, 73),
  (7, 303, 0, 184, 1251, 1253, 64, 1254, 73),
  (8, 101, 0, 187, 1255, 1256, 1257, 1258, 73),
  (8, 105, 0, 188, 1259, 1260, 1261, 1262, 73),
  (8, 109, 0, 189, 1263, 1264, 1265, 1266, 73),
  (8, 113, 0, 190, 1267, 1268, 1269, 1270, 73),
  (8, 117, 0, 191, 1271, 1272, 1273, 1274, 73),
  (8, 122, 0, 192, 1276, 1277, 1278, 1279, 73),
  (8, 127, 0, 193, 1280, 1281, 1282, 1283, 73),
  (8, 131, 0, 194, 1284, 1285, 1286, 1287, 73),
  (8, 136, 0, 195, 1288, 1289, 1290, 1291, 73),
  (8, 140, 0, 196, 1292, 1293, 1294, 1295, 73),
  (8, 144, 0, 197, 1296, 1297, 1298, 1299, 73),
  (8, 148, 0, 198, 1300, 1301, 1302, 1303, 73),
  (8, 152, 0, 199, 1304, 1305, 1306, 1307, 73),
  (8, 156, 0, 200, 1308, 1309, 1310, 1311, 73),
  (8, 160, 0, 201, 1312, 1313, 1314, 1315, 73),
  (8, 164, 0, 202, 1316, 1317, 1318, 1319, 73)]
def newL : List (Nat × Nat × Nat × Nat × Nat × Nat) := [(8, 7, 6, 78, 79, 66), (6, 9, 0, 86, 87, 67), (0, 18, 1, 92, 93, 68), (1, 31, 5, 98, 99, 69), (0, 25, 5, 170, 99, 69), (6, 19, 3, 214, 215, 70), (3, 9, 2, 220, 254, 72), (3, 17, 4, 222, 223, 71), (6, 30, 5, 306, 99, 69), (8, 10, 7, 850, 851, 73)]
def ldcL : List (Nat × Nat × Int32 × Nat) := [(4, 9, 34776, 228), (9, 265, 1431655765, 390), (9, 266, 858993459, 391), (9, 267, 252645135, 392), (7, 55, 80000, 856), (7, 113, 168000, 857), (7, 195, 40000, 1094)]
def ldlL : List (Nat × Nat × Int64 × Nat) := [(1, 99, -1, 635), (6, 259, -1, 644), (0, 106, -1, 662), (10, 314, 6148914691236517205, 713), (10, 316, 3689348814741910323, 714), (10, 318, 1085102592571150095, 715), (5, 52, -1, 814), (7, 158, 12, 1018), (7, 186, 7, 1078), (7, 310, -1, 1275), (7, 312, -9, 1320), (7, 314, -2, 1321)]
def layP0 : List Nat := [195, 197, 199, 201, 203, 205, 207, 209, 211]
def layP1 : List Nat := [145, 147, 149, 151, 153, 155, 157, 159, 161, 163, 165, 167]
def layP2 : List Nat := [274, 276, 278, 280, 282, 284, 286, 288, 290]
def layP3 : List Nat := [297, 299, 301, 303]
def layP4 : List Nat := [237, 239, 241, 243, 245, 247, 249, 251]
def layP5 : List Nat := [112, 114, 116, 118]
def layP6 : List Nat := [318, 320, 322, 324, 326, 328, 330, 332, 334, 336]
def layP7 : List Nat := [907, 909, 911, 913, 915, 917, 919, 921, 923, 925, 927, 929, 931, 933, 935, 937, 939, 941, 943, 945, 947, 949, 951, 953, 955, 957, 959, 961, 963, 965, 967, 969, 971, 973, 975, 977, 979, 981, 983, 985, 987, 989, 991, 993, 995, 997, 999, 1001, 1003]
def fldT (o i : Nat) : Option (Nat × Nat) := (fldL.find? (fun x => x.1 == o && x.2.1 == i)).map (fun x => (x.2.2.1, x.2.2.2.1))
def calT (o i : Nat) : Option (Nat × Nat) := (calL.find? (fun x => x.1 == o && x.2.1 == i)).map (fun x => (x.2.2.1, x.2.2.2.1))
def newT (o i : Nat) : Option Nat := (newL.find? (fun x => x.1 == o && x.2.1 == i)).map (fun x => x.2.2.1)
def ldcT (o i : Nat) : Option Int32 := (ldcL.find? (fun x => x.1 == o && x.2.1 == i)).map (fun x => x.2.2.1)
def ldlT (o i : Nat) : Option Int64 := (ldlL.find? (fun x => x.1 == o && x.2.1 == i)).map (fun x => x.2.2.1)
end
section
/-! the small machine: cells have numbers; G = (cells made, slots made, shapes, references), I = ints, J = longs -/
abbrev GT : Type := Nat × Nat × (Nat → Nat × Nat) × (Nat → Nat → Option Nat)
abbrev IT : Type := Nat → Nat → Int32
abbrev JT : Type := Nat → Nat → Int64
abbrev KT : Type := Option Value → GT → IT → JT → Prop
abbrev RES : Type := Option ((Nat × List Value × List Value × GT × IT × JT) ⊕ ((Option Value × GT × IT × JT) ⊕ (Nat × List Value × Nat × List Value × List Value)))
def rN (pc : Nat) (L st : List Value) (G : GT) (I : IT) (J : JT) : RES := some (.inl (pc, L, st, G, I, J))
def rR (r : Option Value) (G : GT) (I : IT) (J : JT) : RES := some (.inr (.inl (r, G, I, J)))
def rC (y : Nat) (as : List Value) (pc : Nat) (L st : List Value) : RES := some (.inr (.inr (y, as, pc, L, st)))
abbrev scrC : Nat := 1000000
abbrev patC : Nat := 1000001
abbrev nv : Value := .retAddr 0
def nth : List Value → Nat → Value
  | [], _ => nv
  | a :: _, 0 => a
  | _ :: l, k + 1 => nth l k
def kil (v : Value) : Value := match v with
  | .long _ => nv
  | .double _ => nv
  | w => w
/-- a place of one word is set; a long that reaches into it goes -/
def setL : List Value → Nat → Value → List Value
  | [], _, _ => []
  | _ :: l, 0, v => v :: l
  | a :: l, 1, v => kil a :: setL l 0 v
  | a :: l, k + 2, v => a :: setL l (k + 1) v
/-- a long is set, its second word goes -/
def setJ : List Value → Nat → Value → List Value
  | [], _, _ => []
  | [_], _, _ => []
  | _ :: _ :: l, 0, v => v :: nv :: l
  | a :: b :: l, 1, v => kil a :: setJ (b :: l) 0 v
  | a :: b :: l, k + 2, v => a :: setJ (b :: l) (k + 1) v
def up2 {α : Type} (f : Nat → Nat → α) (c k : Nat) (v : α) : Nat → Nat → α := fun a b => if a = c then (if b = k then v else f a b) else f a b
def up1 {α : Type} (f : Nat → α) (c : Nat) (v : α) : Nat → α := fun a => if a = c then v else f a
def refV (r : Option Nat) : Value := match r with
  | none => .null
  | some c => .ref c
def gate (p : Prop) [Decidable p] (r : RES) : RES := if p then r else none
def tgtOf (pc : Nat) (off : Int) : Option Nat := if 0 ≤ (pc : Int) + off then some ((pc : Int) + off).toNat else none
def goTo (t : Option Nat) (L st : List Value) (G : GT) (I : IT) (J : JT) : RES := match t with
  | some pc => rN pc L st G I J
  | none => none
def pop1 (st : List Value) (f : Int32 → List Value → RES) : RES := match st with
  | .int x :: r => f x r
  | _ => none
def pop2 (st : List Value) (f : Int32 → Int32 → List Value → RES) : RES := match st with
  | .int y :: .int x :: r => f x y r
  | _ => none
def popJ (st : List Value) (f : Int64 → List Value → RES) : RES := match st with
  | .long x :: r => f x r
  | _ => none
def popJJ (st : List Value) (f : Int64 → Int64 → List Value → RES) : RES := match st with
  | .long y :: .long x :: r => f x y r
  | _ => none
def popJI (st : List Value) (f : Int64 → Int32 → List Value → RES) : RES := match st with
  | .int y :: .long x :: r => f x y r
  | _ => none
def ldI (v : Value) (f : Int32 → RES) : RES := match v with
  | .int x => f x
  | _ => none
def ldJ (v : Value) (f : Int64 → RES) : RES := match v with
  | .long x => f x
  | _ => none
def ldA (v : Value) (f : Value → RES) : RES := match v with
  | .ref x => f (.ref x)
  | .null => f .null
  | _ => none
def cmpC (c : Jvm.ClassFile.Cond) (x y : Int32) : Bool := match c with
  | .eq => decide (x = y)
  | .ne => decide (¬ x = y)
  | .lt => decide (x < y)
  | .ge => decide (y ≤ x)
  | .gt => decide (y < x)
  | .le => decide (x ≤ y)
def catS (st : List Value) : Nat := (st.map fun v => v.category).sum
def lcm (x y : Int64) : Int32 := lg_cmp x y
end
section
def shp (G : GT) (c : Nat) : Nat × Nat := if c < G.1 ∨ c = scrC ∨ c = patC then G.2.2.1 c else (9, 0)
def iOK (s : Nat × Nat) (j : Int32) : Prop := (s.1 = 1 ∨ s.1 = 5) ∧ vp_in j s.2
def jOK (s : Nat × Nat) (j : Int32) : Prop := (s.1 = 2 ∨ s.1 = 6) ∧ vp_in j s.2
def wOK (s : Nat × Nat) (t : Nat) (j : Int32) : Prop := s.1 = t ∧ vp_in j s.2
def lOK (s : Nat × Nat) : Prop := 1 ≤ s.1 ∧ s.1 ≤ 6
noncomputable def gteP (p : Prop) (r : RES) : RES := @ite RES p (Classical.propDecidable p) r none
def rtc (k : Nat) : Nat := match rty k with
  | none => 0
  | some .int => 1
  | some .boolean => 2
  | some .long => 3
  | some (.object _) => 4
  | some (.array _) => 4
  | _ => 9
def psh (v : Option Value) (st : List Value) : List Value := match v with
  | none => st
  | some x => x :: st
def entA : List Value → List Value
  | [] => []
  | .long x :: r => .long x :: nv :: entA r
  | v :: r => v :: entA r
def entL (y : Nat) (as : List Value) : List Value := entA as ++ List.replicate (mxl y - (entA as).length) nv
def fvl (G : GT) (I : IT) (c ci fk : Nat) : Value := match fty ci fk with
  | 2 => refV (G.2.2.2 c fk)
  | _ => .int (I c fk)
def newO (G : GT) (ci : Nat) : GT := (G.1 + 1, G.2.1 + nfs ci, up1 G.2.2.1 G.1 (0, ci), up1 G.2.2.2 G.1 (fun _ => none))
def newA (G : GT) (t N : Nat) : GT := (G.1 + 1, G.2.1 + N, up1 G.2.2.1 G.1 (t, N), up1 G.2.2.2 G.1 (fun _ => none))
def putR (G : GT) (c k v : Nat) : GT := (G.1, G.2.1, G.2.2.1, up2 G.2.2.2 c k (some v))
noncomputable def doGet (k pc : Nat) (e : Option (Nat × Nat)) (L st : List Value) (G : GT) (I : IT) (J : JT) : RES := match e, st with
  | some (ci, fk), .ref c :: r => gteP (shp G c = (0, ci)) (rN (pc + 3) L (fvl G I c ci fk :: r) G I J)
  | _, _ => none
noncomputable def doPut (k pc : Nat) (e : Option (Nat × Nat)) (L st : List Value) (G : GT) (I : IT) (J : JT) : RES := match e, st with
  | some (ci, fk), .int x :: .ref c :: r => gteP (shp G c = (0, ci) ∧ (fty ci fk = 0 ∨ (fty ci fk = 1 ∧ (x = 0 ∨ x = 1)))) (rN (pc + 3) L r G (up2 I c fk x) J)
  | some (ci, fk), .ref a :: .ref c :: r => gteP (shp G c = (0, ci) ∧ fty ci fk = 2 ∧ isCt k = true ∧ ocl k = ci) (rN (pc + 3) L r (putR G c fk a) I J)
  | _, _ => none
noncomputable def doNew (pc : Nat) (e : Option Nat) (L st : List Value) (G : GT) (I : IT) (J : JT) (E : Nat × Nat) : RES := match e with
  | some ci => gteP (G.1 + 1 ≤ E.1 ∧ G.2.1 + nfs ci ≤ E.2) (rN (pc + 3) L (.ref G.1 :: st) (newO G ci) (up1 I G.1 (fun _ => 0)) J)
  | none => none
noncomputable def doNewA (pc : Nat) (ty : ArrayType) (L st : List Value) (G : GT) (I : IT) (J : JT) (E : Nat × Nat) : RES := match ty, st with
  | .int, .int x :: r => gteP (¬ x < 0 ∧ x.toNatClampNeg ≤ 60000000 ∧ G.1 + 1 ≤ E.1 ∧ G.2.1 + x.toNatClampNeg ≤ E.2) (rN (pc + 2) L (.ref G.1 :: r) (newA G 1 x.toNatClampNeg) (up1 I G.1 (fun _ => 0)) J)
  | .boolean, .int x :: r => gteP (¬ x < 0 ∧ x.toNatClampNeg ≤ 60000000 ∧ G.1 + 1 ≤ E.1 ∧ G.2.1 + x.toNatClampNeg ≤ E.2) (rN (pc + 2) L (.ref G.1 :: r) (newA G 3 x.toNatClampNeg) (up1 I G.1 (fun _ => 0)) J)
  | .long, .int x :: r => gteP (¬ x < 0 ∧ x.toNatClampNeg ≤ 60000000 ∧ G.1 + 1 ≤ E.1 ∧ G.2.1 + x.toNatClampNeg ≤ E.2) (rN (pc + 2) L (.ref G.1 :: r) (newA G 2 x.toNatClampNeg) I (up1 J G.1 (fun _ => 0)))
  | _, _ => none
noncomputable def doNewQ (pc : Nat) (e : Option Nat) (L st : List Value) (G : GT) (I : IT) (J : JT) (E : Nat × Nat) : RES := match e, st with
  | some 2, .int x :: r => gteP (¬ x < 0 ∧ x.toNatClampNeg ≤ 60000000 ∧ G.1 + 1 ≤ E.1 ∧ G.2.1 + x.toNatClampNeg ≤ E.2) (rN (pc + 3) L (.ref G.1 :: r) (newA G 4 x.toNatClampNeg) I J)
  | _, _ => none
noncomputable def doV (y pc : Nat) (L st : List Value) (G : GT) : RES := match st.drop (npr y) with
  | .ref c :: r => gteP (shp G c = (0, ocl y) ∧ catS r ≤ 8) (rC y (.ref c :: (st.take (npr y)).reverse) (pc + 3) L r)
  | _ => none
noncomputable def doI (y pc : Nat) (L st : List Value) : RES := match st.drop (npr y) with
  | .ref c :: r => gteP (catS r ≤ 8) (rC y (.ref c :: (st.take (npr y)).reverse) (pc + 3) L r)
  | _ => none
noncomputable def doS (y pc : Nat) (L st : List Value) : RES := gteP (npr y ≤ st.length ∧ catS (st.drop (npr y)) ≤ 8) (rC y (st.take (npr y)).reverse (pc + 3) L (st.drop (npr y)))
noncomputable def doCp (pc : Nat) (L st : List Value) (G : GT) (I : IT) (J : JT) : RES := match st with
  | .int n :: .int dp :: .ref b :: .int sp :: .ref a :: r => gteP ((shp G a).1 = 1 ∧ (shp G b).1 = 1 ∧ ¬ sp < 0 ∧ ¬ dp < 0 ∧ ¬ n < 0 ∧ sp.toNatClampNeg + n.toNatClampNeg ≤ (shp G a).2 ∧ dp.toNatClampNeg + n.toNatClampNeg ≤ (shp G b).2 ∧ catS r ≤ 8) (rN (pc + 3) L r G (up1 I b (va_cpy (I a) (I b) sp.toNatClampNeg dp.toNatClampNeg n.toNatClampNeg)) J)
  | _ => none
noncomputable def doInv (sort pc : Nat) (e : Option (Nat × Nat)) (L st : List Value) (G : GT) (I : IT) (J : JT) : RES := match e with
  | some (kd, y) => match sort, kd with
    | 0, 0 => doV y pc L st G
    | 0, 1 => doV y pc L st G
    | 1, 2 => doS y pc L st
    | 1, 3 => doS y pc L st
    | 1, 7 => doCp pc L st G I J
    | 2, 4 => doI y pc L st
    | 2, 5 => doI y pc L st
    | 2, 6 => (match st with
      | .ref _ :: r => gteP (catS r ≤ 8) (rN (pc + 3) L r G I J)
      | _ => none)
    | _, _ => none
  | none => none
noncomputable def doAr (i : Instr) (pc : Nat) (L st : List Value) (G : GT) (I : IT) (J : JT) : RES := match i, st with
  | .iaload, .int j :: .ref c :: r => gteP (iOK (shp G c) j) (rN (pc + 1) L (.int (I c j.toNatClampNeg) :: r) G I J)
  | .laload, .int j :: .ref c :: r => gteP (jOK (shp G c) j) (rN (pc + 1) L (.long (J c j.toNatClampNeg) :: r) G I J)
  | .baload, .int j :: .ref c :: r => gteP (wOK (shp G c) 3 j) (rN (pc + 1) L (.int (I c j.toNatClampNeg) :: r) G I J)
  | .aaload, .int j :: .ref c :: r => gteP (wOK (shp G c) 4 j) (rN (pc + 1) L (refV (G.2.2.2 c j.toNatClampNeg) :: r) G I J)
  | .iastore, .int x :: .int j :: .ref c :: r => gteP (wOK (shp G c) 1 j) (rN (pc + 1) L r G (up2 I c j.toNatClampNeg x) J)
  | .lastore, .long x :: .int j :: .ref c :: r => gteP (wOK (shp G c) 2 j) (rN (pc + 1) L r G I (up2 J c j.toNatClampNeg x))
  | .bastore, .int x :: .int j :: .ref c :: r => gteP (wOK (shp G c) 3 j ∧ (x = 0 ∨ x = 1)) (rN (pc + 1) L r G (up2 I c j.toNatClampNeg x) J)
  | .aastore, .ref v :: .int j :: .ref c :: r => gteP (wOK (shp G c) 4 j ∧ shp G v = (0, 2)) (rN (pc + 1) L r (putR G c j.toNatClampNeg v) I J)
  | .arraylength, .ref c :: r => gteP (lOK (shp G c)) (rN (pc + 1) L (.int (Int32.ofNat (shp G c).2) :: r) G I J)
  | _, _ => none
noncomputable def doRet (i : Instr) (k : Nat) (st : List Value) (G : GT) (I : IT) (J : JT) (E : Nat × Nat) : RES := match i, st with
  | .ireturn, [.int v] => gteP (G.1 = E.1 ∧ G.2.1 = E.2 ∧ (rtc k = 1 ∨ (rtc k = 2 ∧ (v = 0 ∨ v = 1)))) (rR (some (.int v)) G I J)
  | .lreturn, [.long v] => gteP (G.1 = E.1 ∧ G.2.1 = E.2 ∧ rtc k = 3) (rR (some (.long v)) G I J)
  | .areturn, [.ref v] => gteP (G.1 = E.1 ∧ G.2.1 = E.2 ∧ rtc k = 4) (rR (some (.ref v)) G I J)
  | .areturn, [.null] => gteP (G.1 = E.1 ∧ G.2.1 = E.2 ∧ rtc k = 4) (rR (some .null) G I J)
  | .return_, [] => gteP (G.1 = E.1 ∧ G.2.1 = E.2 ∧ rtc k = 0) (rR none G I J)
  | _, _ => none
noncomputable def doLd (i : Instr) (pc : Nat) (L st : List Value) (G : GT) (I : IT) (J : JT) : RES := match i with
  | .iload_n n => ldI (nth L n) (fun x => rN (pc + 1) L (.int x :: st) G I J)
  | .iload n => ldI (nth L n) (fun x => rN (pc + 2) L (.int x :: st) G I J)
  | .lload_n n => ldJ (nth L n) (fun x => rN (pc + 1) L (.long x :: st) G I J)
  | .lload n => ldJ (nth L n) (fun x => rN (pc + 2) L (.long x :: st) G I J)
  | .aload_n n => ldA (nth L n) (fun x => rN (pc + 1) L (x :: st) G I J)
  | .aload n => ldA (nth L n) (fun x => rN (pc + 2) L (x :: st) G I J)
  | .istore_n n => pop1 st (fun x r => gteP (n < L.length) (rN (pc + 1) (setL L n (.int x)) r G I J))
  | .istore n => pop1 st (fun x r => gteP (n < L.length) (rN (pc + 2) (setL L n (.int x)) r G I J))
  | .lstore_n n => popJ st (fun x r => gteP (n + 1 < L.length) (rN (pc + 1) (setJ L n (.long x)) r G I J))
  | .lstore n => popJ st (fun x r => gteP (n + 1 < L.length) (rN (pc + 2) (setJ L n (.long x)) r G I J))
  | .astore_n n => (match st with
    | .ref x :: r => gteP (n < L.length) (rN (pc + 1) (setL L n (.ref x)) r G I J)
    | .null :: r => gteP (n < L.length) (rN (pc + 1) (setL L n .null) r G I J)
    | _ => none)
  | .astore n => (match st with
    | .ref x :: r => gteP (n < L.length) (rN (pc + 2) (setL L n (.ref x)) r G I J)
    | .null :: r => gteP (n < L.length) (rN (pc + 2) (setL L n .null) r G I J)
    | _ => none)
  | .iinc n c => ldI (nth L n) (fun x => gteP (n < L.length) (rN (pc + 3) (setL L n (.int (x + Int32.ofInt c))) st G I J))
  | _ => none
noncomputable def doOp (i : Instr) (k pc : Nat) (L st : List Value) (G : GT) (I : IT) (J : JT) : RES := match i with
  | .aconst_null => rN (pc + 1) L (.null :: st) G I J
  | .iconst n => rN (pc + 1) L (.int (Int32.ofInt n) :: st) G I J
  | .bipush n => rN (pc + 2) L (.int (Int8.ofInt n).toInt32 :: st) G I J
  | .sipush n => rN (pc + 3) L (.int (Int16.ofInt n).toInt32 :: st) G I J
  | .lconst n => rN (pc + 1) L (.long (Int64.ofNat n) :: st) G I J
  | .ldc x => (match ldcT (ocl k) x with
    | some v => rN (pc + 2) L (.int v :: st) G I J
    | none => none)
  | .ldc_w x => (match ldcT (ocl k) x with
    | some v => rN (pc + 3) L (.int v :: st) G I J
    | none => none)
  | .ldc2_w x => (match ldlT (ocl k) x with
    | some v => rN (pc + 3) L (.long v :: st) G I J
    | none => none)
  | .iadd => pop2 st (fun x y r => rN (pc + 1) L (.int (x + y) :: r) G I J)
  | .isub => pop2 st (fun x y r => rN (pc + 1) L (.int (x - y) :: r) G I J)
  | .imul => pop2 st (fun x y r => rN (pc + 1) L (.int (x * y) :: r) G I J)
  | .iand => pop2 st (fun x y r => rN (pc + 1) L (.int (x &&& y) :: r) G I J)
  | .ior => pop2 st (fun x y r => rN (pc + 1) L (.int (x ||| y) :: r) G I J)
  | .ixor => pop2 st (fun x y r => rN (pc + 1) L (.int (x ^^^ y) :: r) G I J)
  | .idiv => pop2 st (fun x y r => gteP (¬ y = 0) (rN (pc + 1) L (.int (x / y) :: r) G I J))
  | .irem => pop2 st (fun x y r => gteP (¬ y = 0) (rN (pc + 1) L (.int (x - x / y * y) :: r) G I J))
  | .ishl => pop2 st (fun x y r => rN (pc + 1) L (.int (x <<< (y &&& 31)) :: r) G I J)
  | .ishr => pop2 st (fun x y r => rN (pc + 1) L (.int (x >>> (y &&& 31)) :: r) G I J)
  | .iushr => pop2 st (fun x y r => rN (pc + 1) L (.int (x.toUInt32 >>> (y.toUInt32 &&& Int32.toUInt32 31)).toInt32 :: r) G I J)
  | .ineg => pop1 st (fun x r => rN (pc + 1) L (.int (-x) :: r) G I J)
  | .i2l => pop1 st (fun x r => rN (pc + 1) L (.long x.toInt64 :: r) G I J)
  | .l2i => popJ st (fun x r => rN (pc + 1) L (.int x.toInt32 :: r) G I J)
  | .ladd => popJJ st (fun x y r => rN (pc + 1) L (.long (x + y) :: r) G I J)
  | .lsub => popJJ st (fun x y r => rN (pc + 1) L (.long (x - y) :: r) G I J)
  | .lmul => popJJ st (fun x y r => rN (pc + 1) L (.long (x * y) :: r) G I J)
  | .land => popJJ st (fun x y r => rN (pc + 1) L (.long (x &&& y) :: r) G I J)
  | .lor => popJJ st (fun x y r => rN (pc + 1) L (.long (x ||| y) :: r) G I J)
  | .lxor => popJJ st (fun x y r => rN (pc + 1) L (.long (x ^^^ y) :: r) G I J)
  | .ldiv => popJJ st (fun x y r => gteP (¬ y = 0) (rN (pc + 1) L (.long (x / y) :: r) G I J))
  | .lrem => popJJ st (fun x y r => gteP (¬ y = 0) (rN (pc + 1) L (.long (x - x / y * y) :: r) G I J))
  | .lshl => popJI st (fun x y r => rN (pc + 1) L (.long (x <<< (y.toInt64 &&& 63)) :: r) G I J)
  | .lshr => popJI st (fun x y r => rN (pc + 1) L (.long (x >>> (y.toInt64 &&& 63)) :: r) G I J)
  | .lushr => popJI st (fun x y r => rN (pc + 1) L (.long (x.toUInt64 >>> (y.toInt64.toUInt64 &&& Int64.toUInt64 63)).toInt64 :: r) G I J)
  | .lcmp => popJJ st (fun x y r => rN (pc + 1) L (.int (lg_cmp x y) :: r) G I J)
  | _ => none
noncomputable def doBr (i : Instr) (pc : Nat) (L st : List Value) (G : GT) (I : IT) (J : JT) : RES := match i with
  | .ifCond c off => pop1 st (fun x r => goTo (if cmpC c x 0 then tgtOf pc off else some (pc + 3)) L r G I J)
  | .if_icmp c off => pop2 st (fun x y r => goTo (if cmpC c x y then tgtOf pc off else some (pc + 3)) L r G I J)
  | .ifnull off => (match st with
    | .null :: r => goTo (tgtOf pc off) L r G I J
    | .ref _ :: r => rN (pc + 3) L r G I J
    | _ => none)
  | .ifnonnull off => (match st with
    | .ref _ :: r => goTo (tgtOf pc off) L r G I J
    | .null :: r => rN (pc + 3) L r G I J
    | _ => none)
  | .goto off => goTo (tgtOf pc off) L st G I J
  | .tableswitch dd lo hi offs => pop1 st (fun x r => if x.toInt < lo ∨ hi < x.toInt then goTo (tgtOf pc dd) L r G I J else goTo (match offs[(x.toInt - lo).toNat]? with
    | some off => tgtOf pc off
    | none => none) L r G I J)
  | .dup => (match st with
    | v :: r => gteP (v.category = 1) (rN (pc + 1) L (v :: v :: r) G I J)
    | _ => none)
  | .dup2 => (match st with
    | a :: b :: r => gteP (a.category = 1 ∧ b.category = 1) (rN (pc + 1) L (a :: b :: a :: b :: r) G I J)
    | _ => none)
  | .pop => (match st with
    | v :: r => gteP (v.category = 1) (rN (pc + 1) L r G I J)
    | _ => none)
  | _ => none
/-- which family an instruction is of, and its length (0: any) -/
def fam (i : Instr) : Nat × Nat := match i with
  | .iload_n _ | .lload_n _ | .aload_n _ | .istore_n _ | .lstore_n _ | .astore_n _ => (0, 1)
  | .iload _ | .lload _ | .aload _ | .istore _ | .lstore _ | .astore _ => (0, 2)
  | .iinc _ _ => (0, 3)
  | .aconst_null | .iconst _ | .lconst _ | .iadd | .isub | .imul | .iand | .ior | .ixor | .idiv | .irem | .ishl | .ishr | .iushr | .ineg | .i2l | .l2i | .ladd | .lsub | .lmul | .land | .lor | .lxor | .ldiv | .lrem | .lshl | .lshr | .lushr | .lcmp => (1, 1)
  | .bipush _ | .ldc _ => (1, 2)
  | .sipush _ | .ldc_w _ | .ldc2_w _ => (1, 3)
  | .ifCond _ _ | .if_icmp _ _ | .ifnull _ | .ifnonnull _ | .goto _ => (2, 3)
  | .tableswitch _ _ _ _ => (2, 0)
  | .dup | .dup2 | .pop => (2, 1)
  | .iaload | .laload | .baload | .aaload | .iastore | .lastore | .bastore | .aastore | .arraylength => (3, 1)
  | .ireturn | .lreturn | .areturn | .return_ => (4, 1)
  | .getfield _ => (5, 3)
  | .putfield _ => (6, 3)
  | .getstatic _ => (7, 3)
  | .new _ => (8, 3)
  | .newarray _ => (9, 2)
  | .anewarray _ => (10, 3)
  | .invokevirtual _ | .invokestatic _ | .invokespecial _ => (11, 3)
  | _ => (99, 99)
noncomputable def ins1 (k pc : Nat) (i : Instr) (L st : List Value) (G : GT) (I : IT) (J : JT) (E : Nat × Nat) : RES := match (fam i).1 with
  | 0 => doLd i pc L st G I J
  | 1 => doOp i k pc L st G I J
  | 2 => doBr i pc L st G I J
  | 3 => doAr i pc L st G I J
  | 4 => doRet i k st G I J E
  | _ => match i with
    | .getfield x => doGet k pc (fldT (ocl k) x) L st G I J
    | .putfield x => doPut k pc (fldT (ocl k) x) L st G I J
    | .getstatic x => if ocl k = 6 ∧ x = 256 then rN (pc + 3) L (.ref patC :: st) G I J else none
    | .new x => doNew pc (newT (ocl k) x) L st G I J E
    | .newarray ty => doNewA pc ty L st G I J E
    | .anewarray x => doNewQ pc (newT (ocl k) x) L st G I J E
    | .invokevirtual x => doInv 0 pc (calT (ocl k) x) L st G I J
    | .invokestatic x => doInv 1 pc (calT (ocl k) x) L st G I J
    | .invokespecial x => doInv 2 pc (calT (ocl k) x) L st G I J
    | _ => none
def lenOK (i : Instr) (len : Nat) : Bool := (fam i).2 == 0 || (fam i).2 == len
noncomputable def stp (k pc : Nat) (L st : List Value) (G : GT) (I : IT) (J : JT) (E : Nat × Nat) : RES := match decode (byt k) pc with
  | .ok (i, len) => if lenOK i len then ins1 k pc i L st G I J E else none
  | .error _ => none
/-- what a step's outcome says, with P for the frame that goes on, C for calls, K for the end -/
def sP (C : Nat → List Value → GT → IT → JT → KT → Prop) (K : KT) (P : Nat → List Value → List Value → GT → IT → JT → Prop) (G : GT) (I : IT) (J : JT) (r : RES) : Prop := match r with
  | none => False
  | some (.inl (pc, L, st, G', I', J')) => P pc L st G' I' J'
  | some (.inr (.inl (v, G', I', J'))) => K v G' I' J'
  | some (.inr (.inr (y, as, pc, L, st))) => C y as G I J (fun v G' I' J' => P pc L (psh v st) G' I' J')
def AWF (C : Nat → List Value → GT → IT → JT → KT → Prop) (E : Nat × Nat) (K : KT) (k pc : Nat) (L st : List Value) (G : GT) (I : IT) (J : JT) : Prop :=
  ∀ P : Nat → List Value → List Value → GT → IT → JT → Prop, (∀ pc L st G I J, sP C K P G I J (stp k pc L st G I J E) → P pc L st G I J) → P pc L st G I J
def ACall : Nat → Nat → List Value → GT → IT → JT → KT → Prop
  | 0 => fun _ _ _ _ _ _ => False
  | d + 1 => fun y as G I J K => AWF (ACall d) (G.1 + (mcs y).1, G.2.1 + (mcs y).2) K y 0 (entL y as) [] G I J
def AW (d : Nat) (E : Nat × Nat) (K : KT) (k pc : Nat) (L st : List Value) (G : GT) (I : IT) (J : JT) : Prop := AWF (ACall d) E K k pc L st G I J
theorem sP_mono {C : Nat → List Value → GT → IT → JT → KT → Prop} (hC : ∀ y as G I J (K K' : KT), (∀ v G I J, K v G I J → K' v G I J) → C y as G I J K → C y as G I J K') {K K' : KT} (hK : ∀ v G I J, K v G I J → K' v G I J) {P P' : Nat → List Value → List Value → GT → IT → JT → Prop} (hP : ∀ pc L st G I J, P pc L st G I J → P' pc L st G I J) {G : GT} {I : IT} {J : JT} {r : RES} (h : sP C K P G I J r) : sP C K' P' G I J r := by
  unfold sP at h ⊢
  match r, h with
  | some (.inl (pc, L, st, G', I', J')), h => exact hP _ _ _ _ _ _ h
  | some (.inr (.inl (v, G', I', J'))), h => exact hK _ _ _ _ h
  | some (.inr (.inr (y, as, pc, L, st))), h => exact hC _ _ _ _ _ _ _ (fun v G I J q => hP _ _ _ _ _ _ q) h
theorem AWF_mono {C : Nat → List Value → GT → IT → JT → KT → Prop} (hC : ∀ y as G I J (K K' : KT), (∀ v G I J, K v G I J → K' v G I J) → C y as G I J K → C y as G I J K') {E : Nat × Nat} {K K' : KT} (hK : ∀ v G I J, K v G I J → K' v G I J) {k pc : Nat} {L st : List Value} {G : GT} {I : IT} {J : JT} (h : AWF C E K k pc L st G I J) : AWF C E K' k pc L st G I J := by
  intro P hP
  exact h P (fun pc L st G I J q => hP _ _ _ _ _ _ (sP_mono hC hK (fun _ _ _ _ _ _ z => z) q))
theorem ACall_mono : ∀ (d y : Nat) (as : List Value) (G : GT) (I : IT) (J : JT) (K K' : KT), (∀ v G I J, K v G I J → K' v G I J) → ACall d y as G I J K → ACall d y as G I J K' := by
  intro d
  induction d with
  | zero => intro y as G I J K K' _ h; exact h
  | succ d ih => intro y as G I J K K' hK h; exact AWF_mono ih hK h
theorem AWF_unfold {C : Nat → List Value → GT → IT → JT → KT → Prop} (hC : ∀ y as G I J (K K' : KT), (∀ v G I J, K v G I J → K' v G I J) → C y as G I J K → C y as G I J K') {E : Nat × Nat} {K : KT} {k pc : Nat} {L st : List Value} {G : GT} {I : IT} {J : JT} : AWF C E K k pc L st G I J ↔ sP C K (AWF C E K k) G I J (stp k pc L st G I J E) := by
  constructor
  · intro h
    refine h (fun pc L st G I J => sP C K (AWF C E K k) G I J (stp k pc L st G I J E)) ?_
    intro pc L st G I J q
    refine sP_mono hC (fun _ _ _ _ z => z) ?_ q
    intro pc L st G I J z P hP
    exact hP _ _ _ _ _ _ (sP_mono hC (fun _ _ _ _ z => z) (fun pc L st G I J w => w P hP) z)
  · intro h P hP
    exact hP _ _ _ _ _ _ (sP_mono hC (fun _ _ _ _ z => z) (fun pc L st G I J w => w P hP) h)
theorem AW_unfold {d : Nat} {E : Nat × Nat} {K : KT} {k pc : Nat} {L st : List Value} {G : GT} {I : IT} {J : JT} : AW d E K k pc L st G I J ↔ sP (ACall d) K (AW d E K k) G I J (stp k pc L st G I J E) := AWF_unfold (ACall_mono d)
theorem AW_mono {d : Nat} {E : Nat × Nat} {K K' : KT} (hK : ∀ v G I J, K v G I J → K' v G I J) {k pc : Nat} {L st : List Value} {G : GT} {I : IT} {J : JT} (h : AW d E K k pc L st G I J) : AW d E K' k pc L st G I J := AWF_mono (ACall_mono d) hK h
theorem ACall_entry {d y : Nat} {as : List Value} {G : GT} {I : IT} {J : JT} {K : KT} : ACall (d + 1) y as G I J K ↔ AW d (G.1 + (mcs y).1, G.2.1 + (mcs y).2) K y 0 (entL y as) [] G I J := Iff.rfl
/-- more depth does no harm -/
theorem sP_deep {C C' : Nat → List Value → GT → IT → JT → KT → Prop} (hC : ∀ y as G I J K, C y as G I J K → C' y as G I J K) {K : KT} {P : Nat → List Value → List Value → GT → IT → JT → Prop} {G : GT} {I : IT} {J : JT} {r : RES} (q : sP C K P G I J r) : sP C' K P G I J r := by
  unfold sP at q ⊢
  match r, q with
  | some (.inl (pc, L, st, G', I', J')), q => exact q
  | some (.inr (.inl (v, G', I', J'))), q => exact q
  | some (.inr (.inr (y, as, pc, L, st))), q => exact hC _ _ _ _ _ _ q
theorem AWF_deep {C C' : Nat → List Value → GT → IT → JT → KT → Prop} (hC : ∀ y as G I J K, C y as G I J K → C' y as G I J K) {E : Nat × Nat} {K : KT} {k pc : Nat} {L st : List Value} {G : GT} {I : IT} {J : JT} (h : AWF C E K k pc L st G I J) : AWF C' E K k pc L st G I J := by
  intro P hP
  exact h P (fun pc L st G I J q => hP _ _ _ _ _ _ (sP_deep hC q))
theorem ACall_deep {d y : Nat} {as : List Value} {G : GT} {I : IT} {J : JT} {K : KT} (h : ACall d y as G I J K) : ACall (d + 1) y as G I J K := by
  induction d generalizing y as G I J K with
  | zero => exact absurd h (by simp [ACall])
  | succ d ih => exact AWF_deep (C := ACall d) (fun y as G I J K q => ih q) h
theorem gteP_pos {p : Prop} {r : RES} (h : p) : gteP p r = r := by unfold gteP; exact if_pos h
theorem sP_gte {C : Nat → List Value → GT → IT → JT → KT → Prop} {K : KT} {P : Nat → List Value → List Value → GT → IT → JT → Prop} {G : GT} {I : IT} {J : JT} {p : Prop} {r : RES} : sP C K P G I J (gteP p r) ↔ p ∧ sP C K P G I J r := by
  unfold gteP
  by_cases h : p
  · rw [if_pos h]; exact ⟨fun q => ⟨h, q⟩, fun q => q.2⟩
  · rw [if_neg h]; exact ⟨fun q => absurd q (by simp [sP]), fun q => absurd q.1 h⟩
end
section
section AwRows
variable {d : Nat} {E : Nat × Nat} {K : KT} {k pc pc2 : Nat} {L st : List Value} {G : GT} {I : IT} {J : JT}
theorem stp_eq {i : Instr} {len : Nat} (D : decode (byt k) pc = .ok (i, len)) (hl : lenOK i len = true) : stp k pc L st G I J E = ins1 k pc i L st G I J E := by
  unfold stp
  rw [D]
  show (if lenOK i len = true then _ else _) = _
  rw [if_pos hl]
theorem aw_go {L' st' : List Value} {G' : GT} {I' : IT} {J' : JT} (h : stp k pc L st G I J E = rN pc2 L' st' G' I' J') : AW d E K k pc L st G I J ↔ AW d E K k pc2 L' st' G' I' J' := by
  rw [AW_unfold, h]
  exact Iff.rfl
theorem aw_gt {p : Prop} {L' st' : List Value} {G' : GT} {I' : IT} {J' : JT} (h : stp k pc L st G I J E = gteP p (rN pc2 L' st' G' I' J')) : AW d E K k pc L st G I J ↔ p ∧ AW d E K k pc2 L' st' G' I' J' := by
  rw [AW_unfold, h, sP_gte]
  exact Iff.rfl
theorem aw_gs {p : Prop} {L' st' : List Value} {G' : GT} {I' : IT} {J' : JT} (h : stp k pc L st G I J E = gteP p (rN pc2 L' st' G' I' J')) (hp : p) : AW d E K k pc L st G I J ↔ AW d E K k pc2 L' st' G' I' J' := (aw_gt h).trans ⟨fun q => q.2, fun q => ⟨hp, q⟩⟩
theorem aw_gc {p : Prop} {y : Nat} {as L' st' : List Value} (h : stp k pc L st G I J E = gteP p (rC y as pc2 L' st')) : AW d E K k pc L st G I J ↔ p ∧ ACall d y as G I J (fun v G I J => AW d E K k pc2 L' (psh v st') G I J) := by
  rw [AW_unfold, h, sP_gte]
  exact Iff.rfl
theorem aw_gr {p : Prop} {v : Option Value} (h : stp k pc L st G I J E = gteP p (rR v G I J)) : AW d E K k pc L st G I J ↔ p ∧ K v G I J := by
  rw [AW_unfold, h, sP_gte]
  exact Iff.rfl
theorem aw_br {p : Prop} (i : Decidable p) {b : Bool} {t t2 : Option Nat} {u u2 : Nat} {L' st' : List Value} (h : stp k pc L st G I J E = goTo (if b = true then t else t2) L' st' G I J) (hb : b = decide p) (ht : t = some u) (ht2 : t2 = some u2) : AW d E K k pc L st G I J ↔ if p then AW d E K k u L' st' G I J else AW d E K k u2 L' st' G I J := by
  subst hb; subst ht; subst ht2
  by_cases hp : p
  · rw [if_pos hp]
    rw [decide_eq_true hp, if_pos rfl] at h
    exact aw_go h
  · rw [if_neg hp]
    rw [decide_eq_false hp, if_neg (by decide)] at h
    exact aw_go h
theorem tgt_of {t : Nat} {off : Int} (h : (pc : Int) + off = (t : Int)) : tgtOf pc off = some t := by
  unfold tgtOf
  rw [if_pos (by omega), h]
  rfl
theorem aw_iload_0 {x : Int32} (D : decode (byt k) pc = .ok (.iload_n 0, 1)) (hp : pc + 1 = pc2) : AW d E K k pc (.int x :: L) st G I J ↔ AW d E K k pc2 (.int x :: L) (.int x :: st) G I J := by
  subst hp; exact aw_go ((stp_eq D rfl).trans rfl)
theorem aw_iload_1 {a0 : Value} {x : Int32} (D : decode (byt k) pc = .ok (.iload_n 1, 1)) (hp : pc + 1 = pc2) : AW d E K k pc (a0 :: .int x :: L) st G I J ↔ AW d E K k pc2 (a0 :: .int x :: L) (.int x :: st) G I J := by
  subst hp; exact aw_go ((stp_eq D rfl).trans rfl)
theorem aw_iload_2 {a0 a1 : Value} {x : Int32} (D : decode (byt k) pc = .ok (.iload_n 2, 1)) (hp : pc + 1 = pc2) : AW d E K k pc (a0 :: a1 :: .int x :: L) st G I J ↔ AW d E K k pc2 (a0 :: a1 :: .int x :: L) (.int x :: st) G I J := by
  subst hp; exact aw_go ((stp_eq D rfl).trans rfl)
theorem aw_iload_3 {a0 a1 a2 : Value} {x : Int32} (D : decode (byt k) pc = .ok (.iload_n 3, 1)) (hp : pc + 1 = pc2) : AW d E K k pc (a0 :: a1 :: a2 :: .int x :: L) st G I J ↔ AW d E K k pc2 (a0 :: a1 :: a2 :: .int x :: L) (.int x :: st) G I J := by
  subst hp; exact aw_go ((stp_eq D rfl).trans rfl)
theorem aw_iload_4 {a0 a1 a2 a3 : Value} {x : Int32} (D : decode (byt k) pc = .ok (.iload 4, 2)) (hp : pc + 2 = pc2) : AW d E K k pc (a0 :: a1 :: a2 :: a3 :: .int x :: L) st G I J ↔ AW d E K k pc2 (a0 :: a1 :: a2 :: a3 :: .int x :: L) (.int x :: st) G I J := by
  subst hp; exact aw_go ((stp_eq D rfl).trans rfl)
theorem aw_iload_5 {a0 a1 a2 a3 a4 : Value} {x : Int32} (D : decode (byt k) pc = .ok (.iload 5, 2)) (hp : pc + 2 = pc2) : AW d E K k pc (a0 :: a1 :: a2 :: a3 :: a4 :: .int x :: L) st G I J ↔ AW d E K k pc2 (a0 :: a1 :: a2 :: a3 :: a4 :: .int x :: L) (.int x :: st) G I J := by
  subst hp; exact aw_go ((stp_eq D rfl).trans rfl)
theorem aw_iload_6 {a0 a1 a2 a3 a4 a5 : Value} {x : Int32} (D : decode (byt k) pc = .ok (.iload 6, 2)) (hp : pc + 2 = pc2) : AW d E K k pc (a0 :: a1 :: a2 :: a3 :: a4 :: a5 :: .int x :: L) st G I J ↔ AW d E K k pc2 (a0 :: a1 :: a2 :: a3 :: a4 :: a5 :: .int x :: L) (.int x :: st) G I J := by
  subst hp; exact aw_go ((stp_eq D rfl).trans rfl)
theorem aw_iload_7 {a0 a1 a2 a3 a4 a5 a6 : Value} {x : Int32} (D : decode (byt k) pc = .ok (.iload 7, 2)) (hp : pc + 2 = pc2) : AW d E K k pc (a0 :: a1 :: a2 :: a3 :: a4 :: a5 :: a6 :: .int x :: L) st G I J ↔ AW d E K k pc2 (a0 :: a1 :: a2 :: a3 :: a4 :: a5 :: a6 :: .int x :: L) (.int x :: st) G I J := by
  subst hp; exact aw_go ((stp_eq D rfl).trans rfl)
theorem aw_iload_8 {a0 a1 a2 a3 a4 a5 a6 a7 : Value} {x : Int32} (D : decode (byt k) pc = .ok (.iload 8, 2)) (hp : pc + 2 = pc2) : AW d E K k pc (a0 :: a1 :: a2 :: a3 :: a4 :: a5 :: a6 :: a7 :: .int x :: L) st G I J ↔ AW d E K k pc2 (a0 :: a1 :: a2 :: a3 :: a4 :: a5 :: a6 :: a7 :: .int x :: L) (.int x :: st) G I J := by
  subst hp; exact aw_go ((stp_eq D rfl).trans rfl)
theorem aw_iload_9 {a0 a1 a2 a3 a4 a5 a6 a7 a8 : Value} {x : Int32} (D : decode (byt k) pc = .ok (.iload 9, 2)) (hp : pc + 2 = pc2) : AW d E K k pc (a0 :: a1 :: a2 :: a3 :: a4 :: a5 :: a6 :: a7 :: a8 :: .int x :: L) st G I J ↔ AW d E K k pc2 (a0 :: a1 :: a2 :: a3 :: a4 :: a5 :: a6 :: a7 :: a8 :: .int x :: L) (.int x :: st) G I J := by
  subst hp; exact aw_go ((stp_eq D rfl).trans rfl)
theorem aw_iload_10 {a0 a1 a2 a3 a4 a5 a6 a7 a8 a9 : Value} {x : Int32} (D : decode (byt k) pc = .ok (.iload 10, 2)) (hp : pc + 2 = pc2) : AW d E K k pc (a0 :: a1 :: a2 :: a3 :: a4 :: a5 :: a6 :: a7 :: a8 :: a9 :: .int x :: L) st G I J ↔ AW d E K k pc2 (a0 :: a1 :: a2 :: a3 :: a4 :: a5 :: a6 :: a7 :: a8 :: a9 :: .int x :: L) (.int x :: st) G I J := by
  subst hp; exact aw_go ((stp_eq D rfl).trans rfl)
theorem aw_iload_11 {a0 a1 a2 a3 a4 a5 a6 a7 a8 a9 a10 : Value} {x : Int32} (D : decode (byt k) pc = .ok (.iload 11, 2)) (hp : pc + 2 = pc2) : AW d E K k pc (a0 :: a1 :: a2 :: a3 :: a4 :: a5 :: a6 :: a7 :: a8 :: a9 :: a10 :: .int x :: L) st G I J ↔ AW d E K k pc2 (a0 :: a1 :: a2 :: a3 :: a4 :: a5 :: a6 :: a7 :: a8 :: a9 :: a10 :: .int x :: L) (.int x :: st) G I J := by
  subst hp; exact aw_go ((stp_eq D rfl).trans rfl)
theorem aw_iload_12 {a0 a1 a2 a3 a4 a5 a6 a7 a8 a9 a10 a11 : Value} {x : Int32} (D : decode (byt k) pc = .ok (.iload 12, 2)) (hp : pc + 2 = pc2) : AW d E K k pc (a0 :: a1 :: a2 :: a3 :: a4 :: a5 :: a6 :: a7 :: a8 :: a9 :: a10 :: a11 :: .int x :: L) st G I J ↔ AW d E K k pc2 (a0 :: a1 :: a2 :: a3 :: a4 :: a5 :: a6 :: a7 :: a8 :: a9 :: a10 :: a11 :: .int x :: L) (.int x :: st) G I J := by
  subst hp; exact aw_go ((stp_eq D rfl).trans rfl)
theorem aw_iload_13 {a0 a1 a2 a3 a4 a5 a6 a7 a8 a9 a10 a11 a12 : Value} {x : Int32} (D : decode (byt k) pc = .ok (.iload 13, 2)) (hp : pc + 2 = pc2) : AW d E K k pc (a0 :: a1 :: a2 :: a3 :: a4 :: a5 :: a6 :: a7 :: a8 :: a9 :: a10 :: a11 :: a12 :: .int x :: L) st G I J ↔ AW d E K k pc2 (a0 :: a1 :: a2 :: a3 :: a4 :: a5 :: a6 :: a7 :: a8 :: a9 :: a10 :: a11 :: a12 :: .int x :: L) (.int x :: st) G I J := by
  subst hp; exact aw_go ((stp_eq D rfl).trans rfl)
theorem aw_iload_14 {a0 a1 a2 a3 a4 a5 a6 a7 a8 a9 a10 a11 a12 a13 : Value} {x : Int32} (D : decode (byt k) pc = .ok (.iload 14, 2)) (hp : pc + 2 = pc2) : AW d E K k pc (a0 :: a1 :: a2 :: a3 :: a4 :: a5 :: a6 :: a7 :: a8 :: a9 :: a10 :: a11 :: a12 :: a13 :: .int x :: L) st G I J ↔ AW d E K k pc2 (a0 :: a1 :: a2 :: a3 :: a4 :: a5 :: a6 :: a7 :: a8 :: a9 :: a10 :: a11 :: a12 :: a13 :: .int x :: L) (.int x :: st) G I J := by
  subst hp; exact aw_go ((stp_eq D rfl).trans rfl)
theorem aw_iload_15 {a0 a1 a2 a3 a4 a5 a6 a7 a8 a9 a10 a11 a12 a13 a14 : Value} {x : Int32} (D : decode (byt k) pc = .ok (.iload 15, 2)) (hp : pc + 2 = pc2) : AW d E K k pc (a0 :: a1 :: a2 :: a3 :: a4 :: a5 :: a6 :: a7 :: a8 :: a9 :: a10 :: a11 :: a12 :: a13 :: a14 :: .int x :: L) st G I J ↔ AW d E K k pc2 (a0 :: a1 :: a2 :: a3 :: a4 :: a5 :: a6 :: a7 :: a8 :: a9 :: a10 :: a11 :: a12 :: a13 :: a14 :: .int x :: L) (.int x :: st) G I J := by
  subst hp; exact aw_go ((stp_eq D rfl).trans rfl)
theorem aw_lload_0 {x : Int64} (D : decode (byt k) pc = .ok (.lload_n 0, 1)) (hp : pc + 1 = pc2) : AW d E K k pc (.long x :: L) st G I J ↔ AW d E K k pc2 (.long x :: L) (.long x :: st) G I J := by
  subst hp; exact aw_go ((stp_eq D rfl).trans rfl)
theorem aw_lload_1 {a0 : Value} {x : Int64} (D : decode (byt k) pc = .ok (.lload_n 1, 1)) (hp : pc + 1 = pc2) : AW d E K k pc (a0 :: .long x :: L) st G I J ↔ AW d E K k pc2 (a0 :: .long x :: L) (.long x :: st) G I J := by
  subst hp; exact aw_go ((stp_eq D rfl).trans rfl)
theorem aw_lload_2 {a0 a1 : Value} {x : Int64} (D : decode (byt k) pc = .ok (.lload_n 2, 1)) (hp : pc + 1 = pc2) : AW d E K k pc (a0 :: a1 :: .long x :: L) st G I J ↔ AW d E K k pc2 (a0 :: a1 :: .long x :: L) (.long x :: st) G I J := by
  subst hp; exact aw_go ((stp_eq D rfl).trans rfl)
theorem aw_lload_3 {a0 a1 a2 : Value} {x : Int64} (D : decode (byt k) pc = .ok (.lload_n 3, 1)) (hp : pc + 1 = pc2) : AW d E K k pc (a0 :: a1 :: a2 :: .long x :: L) st G I J ↔ AW d E K k pc2 (a0 :: a1 :: a2 :: .long x :: L) (.long x :: st) G I J := by
  subst hp; exact aw_go ((stp_eq D rfl).trans rfl)
theorem aw_lload_4 {a0 a1 a2 a3 : Value} {x : Int64} (D : decode (byt k) pc = .ok (.lload 4, 2)) (hp : pc + 2 = pc2) : AW d E K k pc (a0 :: a1 :: a2 :: a3 :: .long x :: L) st G I J ↔ AW d E K k pc2 (a0 :: a1 :: a2 :: a3 :: .long x :: L) (.long x :: st) G I J := by
  subst hp; exact aw_go ((stp_eq D rfl).trans rfl)
theorem aw_lload_5 {a0 a1 a2 a3 a4 : Value} {x : Int64} (D : decode (byt k) pc = .ok (.lload 5, 2)) (hp : pc + 2 = pc2) : AW d E K k pc (a0 :: a1 :: a2 :: a3 :: a4 :: .long x :: L) st G I J ↔ AW d E K k pc2 (a0 :: a1 :: a2 :: a3 :: a4 :: .long x :: L) (.long x :: st) G I J := by
  subst hp; exact aw_go ((stp_eq D rfl).trans rfl)
theorem aw_lload_6 {a0 a1 a2 a3 a4 a5 : Value} {x : Int64} (D : decode (byt k) pc = .ok (.lload 6, 2)) (hp : pc + 2 = pc2) : AW d E K k pc (a0 :: a1 :: a2 :: a3 :: a4 :: a5 :: .long x :: L) st G I J ↔ AW d E K k pc2 (a0 :: a1 :: a2 :: a3 :: a4 :: a5 :: .long x :: L) (.long x :: st) G I J := by
  subst hp; exact aw_go ((stp_eq D rfl).trans rfl)
theorem aw_lload_7 {a0 a1 a2 a3 a4 a5 a6 : Value} {x : Int64} (D : decode (byt k) pc = .ok (.lload 7, 2)) (hp : pc + 2 = pc2) : AW d E K k pc (a0 :: a1 :: a2 :: a3 :: a4 :: a5 :: a6 :: .long x :: L) st G I J ↔ AW d E K k pc2 (a0 :: a1 :: a2 :: a3 :: a4 :: a5 :: a6 :: .long x :: L) (.long x :: st) G I J := by
  subst hp; exact aw_go ((stp_eq D rfl).trans rfl)
theorem aw_lload_8 {a0 a1 a2 a3 a4 a5 a6 a7 : Value} {x : Int64} (D : decode (byt k) pc = .ok (.lload 8, 2)) (hp : pc + 2 = pc2) : AW d E K k pc (a0 :: a1 :: a2 :: a3 :: a4 :: a5 :: a6 :: a7 :: .long x :: L) st G I J ↔ AW d E K k pc2 (a0 :: a1 :: a2 :: a3 :: a4 :: a5 :: a6 :: a7 :: .long x :: L) (.long x :: st) G I J := by
  subst hp; exact aw_go ((stp_eq D rfl).trans rfl)
theorem aw_lload_9 {a0 a1 a2 a3 a4 a5 a6 a7 a8 : Value} {x : Int64} (D : decode (byt k) pc = .ok (.lload 9, 2)) (hp : pc + 2 = pc2) : AW d E K k pc (a0 :: a1 :: a2 :: a3 :: a4 :: a5 :: a6 :: a7 :: a8 :: .long x :: L) st G I J ↔ AW d E K k pc2 (a0 :: a1 :: a2 :: a3 :: a4 :: a5 :: a6 :: a7 :: a8 :: .long x :: L) (.long x :: st) G I J := by
  subst hp; exact aw_go ((stp_eq D rfl).trans rfl)
theorem aw_lload_10 {a0 a1 a2 a3 a4 a5 a6 a7 a8 a9 : Value} {x : Int64} (D : decode (byt k) pc = .ok (.lload 10, 2)) (hp : pc + 2 = pc2) : AW d E K k pc (a0 :: a1 :: a2 :: a3 :: a4 :: a5 :: a6 :: a7 :: a8 :: a9 :: .long x :: L) st G I J ↔ AW d E K k pc2 (a0 :: a1 :: a2 :: a3 :: a4 :: a5 :: a6 :: a7 :: a8 :: a9 :: .long x :: L) (.long x :: st) G I J := by
  subst hp; exact aw_go ((stp_eq D rfl).trans rfl)
theorem aw_lload_11 {a0 a1 a2 a3 a4 a5 a6 a7 a8 a9 a10 : Value} {x : Int64} (D : decode (byt k) pc = .ok (.lload 11, 2)) (hp : pc + 2 = pc2) : AW d E K k pc (a0 :: a1 :: a2 :: a3 :: a4 :: a5 :: a6 :: a7 :: a8 :: a9 :: a10 :: .long x :: L) st G I J ↔ AW d E K k pc2 (a0 :: a1 :: a2 :: a3 :: a4 :: a5 :: a6 :: a7 :: a8 :: a9 :: a10 :: .long x :: L) (.long x :: st) G I J := by
  subst hp; exact aw_go ((stp_eq D rfl).trans rfl)
theorem aw_lload_12 {a0 a1 a2 a3 a4 a5 a6 a7 a8 a9 a10 a11 : Value} {x : Int64} (D : decode (byt k) pc = .ok (.lload 12, 2)) (hp : pc + 2 = pc2) : AW d E K k pc (a0 :: a1 :: a2 :: a3 :: a4 :: a5 :: a6 :: a7 :: a8 :: a9 :: a10 :: a11 :: .long x :: L) st G I J ↔ AW d E K k pc2 (a0 :: a1 :: a2 :: a3 :: a4 :: a5 :: a6 :: a7 :: a8 :: a9 :: a10 :: a11 :: .long x :: L) (.long x :: st) G I J := by
  subst hp; exact aw_go ((stp_eq D rfl).trans rfl)
theorem aw_lload_13 {a0 a1 a2 a3 a4 a5 a6 a7 a8 a9 a10 a11 a12 : Value} {x : Int64} (D : decode (byt k) pc = .ok (.lload 13, 2)) (hp : pc + 2 = pc2) : AW d E K k pc (a0 :: a1 :: a2 :: a3 :: a4 :: a5 :: a6 :: a7 :: a8 :: a9 :: a10 :: a11 :: a12 :: .long x :: L) st G I J ↔ AW d E K k pc2 (a0 :: a1 :: a2 :: a3 :: a4 :: a5 :: a6 :: a7 :: a8 :: a9 :: a10 :: a11 :: a12 :: .long x :: L) (.long x :: st) G I J := by
  subst hp; exact aw_go ((stp_eq D rfl).trans rfl)
theorem aw_lload_14 {a0 a1 a2 a3 a4 a5 a6 a7 a8 a9 a10 a11 a12 a13 : Value} {x : Int64} (D : decode (byt k) pc = .ok (.lload 14, 2)) (hp : pc + 2 = pc2) : AW d E K k pc (a0 :: a1 :: a2 :: a3 :: a4 :: a5 :: a6 :: a7 :: a8 :: a9 :: a10 :: a11 :: a12 :: a13 :: .long x :: L) st G I J ↔ AW d E K k pc2 (a0 :: a1 :: a2 :: a3 :: a4 :: a5 :: a6 :: a7 :: a8 :: a9 :: a10 :: a11 :: a12 :: a13 :: .long x :: L) (.long x :: st) G I J := by
  subst hp; exact aw_go ((stp_eq D rfl).trans rfl)
theorem aw_lload_15 {a0 a1 a2 a3 a4 a5 a6 a7 a8 a9 a10 a11 a12 a13 a14 : Value} {x : Int64} (D : decode (byt k) pc = .ok (.lload 15, 2)) (hp : pc + 2 = pc2) : AW d E K k pc (a0 :: a1 :: a2 :: a3 :: a4 :: a5 :: a6 :: a7 :: a8 :: a9 :: a10 :: a11 :: a12 :: a13 :: a14 :: .long x :: L) st G I J ↔ AW d E K k pc2 (a0 :: a1 :: a2 :: a3 :: a4 :: a5 :: a6 :: a7 :: a8 :: a9 :: a10 :: a11 :: a12 :: a13 :: a14 :: .long x :: L) (.long x :: st) G I J := by
  subst hp; exact aw_go ((stp_eq D rfl).trans rfl)
theorem aw_aload_0 {x : Nat} (D : decode (byt k) pc = .ok (.aload_n 0, 1)) (hp : pc + 1 = pc2) : AW d E K k pc (.ref x :: L) st G I J ↔ AW d E K k pc2 (.ref x :: L) (.ref x :: st) G I J := by
  subst hp; exact aw_go ((stp_eq D rfl).trans rfl)
theorem aw_aload_1 {a0 : Value} {x : Nat} (D : decode (byt k) pc = .ok (.aload_n 1, 1)) (hp : pc + 1 = pc2) : AW d E K k pc (a0 :: .ref x :: L) st G I J ↔ AW d E K k pc2 (a0 :: .ref x :: L) (.ref x :: st) G I J := by
  subst hp; exact aw_go ((stp_eq D rfl).trans rfl)
theorem aw_aload_2 {a0 a1 : Value} {x : Nat} (D : decode (byt k) pc = .ok (.aload_n 2, 1)) (hp : pc + 1 = pc2) : AW d E K k pc (a0 :: a1 :: .ref x :: L) st G I J ↔ AW d E K k pc2 (a0 :: a1 :: .ref x :: L) (.ref x :: st) G I J := by
  subst hp; exact aw_go ((stp_eq D rfl).trans rfl)
theorem aw_aload_3 {a0 a1 a2 : Value} {x : Nat} (D : decode (byt k) pc = .ok (.aload_n 3, 1)) (hp : pc + 1 = pc2) : AW d E K k pc (a0 :: a1 :: a2 :: .ref x :: L) st G I J ↔ AW d E K k pc2 (a0 :: a1 :: a2 :: .ref x :: L) (.ref x :: st) G I J := by
  subst hp; exact aw_go ((stp_eq D rfl).trans rfl)
theorem aw_aload_4 {a0 a1 a2 a3 : Value} {x : Nat} (D : decode (byt k) pc = .ok (.aload 4, 2)) (hp : pc + 2 = pc2) : AW d E K k pc (a0 :: a1 :: a2 :: a3 :: .ref x :: L) st G I J ↔ AW d E K k pc2 (a0 :: a1 :: a2 :: a3 :: .ref x :: L) (.ref x :: st) G I J := by
  subst hp; exact aw_go ((stp_eq D rfl).trans rfl)
theorem aw_aload_5 {a0 a1 a2 a3 a4 : Value} {x : Nat} (D : decode (byt k) pc = .ok (.aload 5, 2)) (hp : pc + 2 = pc2) : AW d E K k pc (a0 :: a1 :: a2 :: a3 :: a4 :: .ref x :: L) st G I J ↔ AW d E K k pc2 (a0 :: a1 :: a2 :: a3 :: a4 :: .ref x :: L) (.ref x :: st) G I J := by
  subst hp; exact aw_go ((stp_eq D rfl).trans rfl)
theorem aw_aload_6 {a0 a1 a2 a3 a4 a5 : Value} {x : Nat} (D : decode (byt k) pc = .ok (.aload 6, 2)) (hp : pc + 2 = pc2) : AW d E K k pc (a0 :: a1 :: a2 :: a3 :: a4 :: a5 :: .ref x :: L) st G I J ↔ AW d E K k pc2 (a0 :: a1 :: a2 :: a3 :: a4 :: a5 :: .ref x :: L) (.ref x :: st) G I J := by
  subst hp; exact aw_go ((stp_eq D rfl).trans rfl)
theorem aw_aload_7 {a0 a1 a2 a3 a4 a5 a6 : Value} {x : Nat} (D : decode (byt k) pc = .ok (.aload 7, 2)) (hp : pc + 2 = pc2) : AW d E K k pc (a0 :: a1 :: a2 :: a3 :: a4 :: a5 :: a6 :: .ref x :: L) st G I J ↔ AW d E K k pc2 (a0 :: a1 :: a2 :: a3 :: a4 :: a5 :: a6 :: .ref x :: L) (.ref x :: st) G I J := by
  subst hp; exact aw_go ((stp_eq D rfl).trans rfl)
theorem aw_aload_8 {a0 a1 a2 a3 a4 a5 a6 a7 : Value} {x : Nat} (D : decode (byt k) pc = .ok (.aload 8, 2)) (hp : pc + 2 = pc2) : AW d E K k pc (a0 :: a1 :: a2 :: a3 :: a4 :: a5 :: a6 :: a7 :: .ref x :: L) st G I J ↔ AW d E K k pc2 (a0 :: a1 :: a2 :: a3 :: a4 :: a5 :: a6 :: a7 :: .ref x :: L) (.ref x :: st) G I J := by
  subst hp; exact aw_go ((stp_eq D rfl).trans rfl)
theorem aw_aload_9 {a0 a1 a2 a3 a4 a5 a6 a7 a8 : Value} {x : Nat} (D : decode (byt k) pc = .ok (.aload 9, 2)) (hp : pc + 2 = pc2) : AW d E K k pc (a0 :: a1 :: a2 :: a3 :: a4 :: a5 :: a6 :: a7 :: a8 :: .ref x :: L) st G I J ↔ AW d E K k pc2 (a0 :: a1 :: a2 :: a3 :: a4 :: a5 :: a6 :: a7 :: a8 :: .ref x :: L) (.ref x :: st) G I J := by
  subst hp; exact aw_go ((stp_eq D rfl).trans rfl)
theorem aw_aload_10 {a0 a1 a2 a3 a4 a5 a6 a7 a8 a9 : Value} {x : Nat} (D : decode (byt k) pc = .ok (.aload 10, 2)) (hp : pc + 2 = pc2) : AW d E K k pc (a0 :: a1 :: a2 :: a3 :: a4 :: a5 :: a6 :: a7 :: a8 :: a9 :: .ref x :: L) st G I J ↔ AW d E K k pc2 (a0 :: a1 :: a2 :: a3 :: a4 :: a5 :: a6 :: a7 :: a8 :: a9 :: .ref x :: L) (.ref x :: st) G I J := by
  subst hp; exact aw_go ((stp_eq D rfl).trans rfl)
theorem aw_aload_11 {a0 a1 a2 a3 a4 a5 a6 a7 a8 a9 a10 : Value} {x : Nat} (D : decode (byt k) pc = .ok (.aload 11, 2)) (hp : pc + 2 = pc2) : AW d E K k pc (a0 :: a1 :: a2 :: a3 :: a4 :: a5 :: a6 :: a7 :: a8 :: a9 :: a10 :: .ref x :: L) st G I J ↔ AW d E K k pc2 (a0 :: a1 :: a2 :: a3 :: a4 :: a5 :: a6 :: a7 :: a8 :: a9 :: a10 :: .ref x :: L) (.ref x :: st) G I J := by
  subst hp; exact aw_go ((stp_eq D rfl).trans rfl)
theorem aw_aload_12 {a0 a1 a2 a3 a4 a5 a6 a7 a8 a9 a10 a11 : Value} {x : Nat} (D : decode (byt k) pc = .ok (.aload 12, 2)) (hp : pc + 2 = pc2) : AW d E K k pc (a0 :: a1 :: a2 :: a3 :: a4 :: a5 :: a6 :: a7 :: a8 :: a9 :: a10 :: a11 :: .ref x :: L) st G I J ↔ AW d E K k pc2 (a0 :: a1 :: a2 :: a3 :: a4 :: a5 :: a6 :: a7 :: a8 :: a9 :: a10 :: a11 :: .ref x :: L) (.ref x :: st) G I J := by
  subst hp; exact aw_go ((stp_eq D rfl).trans rfl)
theorem aw_aload_13 {a0 a1 a2 a3 a4 a5 a6 a7 a8 a9 a10 a11 a12 : Value} {x : Nat} (D : decode (byt k) pc = .ok (.aload 13, 2)) (hp : pc + 2 = pc2) : AW d E K k pc (a0 :: a1 :: a2 :: a3 :: a4 :: a5 :: a6 :: a7 :: a8 :: a9 :: a10 :: a11 :: a12 :: .ref x :: L) st G I J ↔ AW d E K k pc2 (a0 :: a1 :: a2 :: a3 :: a4 :: a5 :: a6 :: a7 :: a8 :: a9 :: a10 :: a11 :: a12 :: .ref x :: L) (.ref x :: st) G I J := by
  subst hp; exact aw_go ((stp_eq D rfl).trans rfl)
theorem aw_aload_14 {a0 a1 a2 a3 a4 a5 a6 a7 a8 a9 a10 a11 a12 a13 : Value} {x : Nat} (D : decode (byt k) pc = .ok (.aload 14, 2)) (hp : pc + 2 = pc2) : AW d E K k pc (a0 :: a1 :: a2 :: a3 :: a4 :: a5 :: a6 :: a7 :: a8 :: a9 :: a10 :: a11 :: a12 :: a13 :: .ref x :: L) st G I J ↔ AW d E K k pc2 (a0 :: a1 :: a2 :: a3 :: a4 :: a5 :: a6 :: a7 :: a8 :: a9 :: a10 :: a11 :: a12 :: a13 :: .ref x :: L) (.ref x :: st) G I J := by
  subst hp; exact aw_go ((stp_eq D rfl).trans rfl)
theorem aw_aload_15 {a0 a1 a2 a3 a4 a5 a6 a7 a8 a9 a10 a11 a12 a13 a14 : Value} {x : Nat} (D : decode (byt k) pc = .ok (.aload 15, 2)) (hp : pc + 2 = pc2) : AW d E K k pc (a0 :: a1 :: a2 :: a3 :: a4 :: a5 :: a6 :: a7 :: a8 :: a9 :: a10 :: a11 :: a12 :: a13 :: a14 :: .ref x :: L) st G I J ↔ AW d E K k pc2 (a0 :: a1 :: a2 :: a3 :: a4 :: a5 :: a6 :: a7 :: a8 :: a9 :: a10 :: a11 :: a12 :: a13 :: a14 :: .ref x :: L) (.ref x :: st) G I J := by
  subst hp; exact aw_go ((stp_eq D rfl).trans rfl)
theorem aw_aloadN_0 (D : decode (byt k) pc = .ok (.aload_n 0, 1)) (hp : pc + 1 = pc2) : AW d E K k pc (.null :: L) st G I J ↔ AW d E K k pc2 (.null :: L) (.null :: st) G I J := by
  subst hp; exact aw_go ((stp_eq D rfl).trans rfl)
theorem aw_aloadN_1 {a0 : Value} (D : decode (byt k) pc = .ok (.aload_n 1, 1)) (hp : pc + 1 = pc2) : AW d E K k pc (a0 :: .null :: L) st G I J ↔ AW d E K k pc2 (a0 :: .null :: L) (.null :: st) G I J := by
  subst hp; exact aw_go ((stp_eq D rfl).trans rfl)
theorem aw_aloadN_2 {a0 a1 : Value} (D : decode (byt k) pc = .ok (.aload_n 2, 1)) (hp : pc + 1 = pc2) : AW d E K k pc (a0 :: a1 :: .null :: L) st G I J ↔ AW d E K k pc2 (a0 :: a1 :: .null :: L) (.null :: st) G I J := by
  subst hp; exact aw_go ((stp_eq D rfl).trans rfl)
theorem aw_aloadN_3 {a0 a1 a2 : Value} (D : decode (byt k) pc = .ok (.aload_n 3, 1)) (hp : pc + 1 = pc2) : AW d E K k pc (a0 :: a1 :: a2 :: .null :: L) st G I J ↔ AW d E K k pc2 (a0 :: a1 :: a2 :: .null :: L) (.null :: st) G I J := by
  subst hp; exact aw_go ((stp_eq D rfl).trans rfl)
theorem aw_aloadN_4 {a0 a1 a2 a3 : Value} (D : decode (byt k) pc = .ok (.aload 4, 2)) (hp : pc + 2 = pc2) : AW d E K k pc (a0 :: a1 :: a2 :: a3 :: .null :: L) st G I J ↔ AW d E K k pc2 (a0 :: a1 :: a2 :: a3 :: .null :: L) (.null :: st) G I J := by
  subst hp; exact aw_go ((stp_eq D rfl).trans rfl)
theorem aw_aloadN_5 {a0 a1 a2 a3 a4 : Value} (D : decode (byt k) pc = .ok (.aload 5, 2)) (hp : pc + 2 = pc2) : AW d E K k pc (a0 :: a1 :: a2 :: a3 :: a4 :: .null :: L) st G I J ↔ AW d E K k pc2 (a0 :: a1 :: a2 :: a3 :: a4 :: .null :: L) (.null :: st) G I J := by
  subst hp; exact aw_go ((stp_eq D rfl).trans rfl)
theorem aw_aloadN_6 {a0 a1 a2 a3 a4 a5 : Value} (D : decode (byt k) pc = .ok (.aload 6, 2)) (hp : pc + 2 = pc2) : AW d E K k pc (a0 :: a1 :: a2 :: a3 :: a4 :: a5 :: .null :: L) st G I J ↔ AW d E K k pc2 (a0 :: a1 :: a2 :: a3 :: a4 :: a5 :: .null :: L) (.null :: st) G I J := by
  subst hp; exact aw_go ((stp_eq D rfl).trans rfl)
theorem aw_aloadN_7 {a0 a1 a2 a3 a4 a5 a6 : Value} (D : decode (byt k) pc = .ok (.aload 7, 2)) (hp : pc + 2 = pc2) : AW d E K k pc (a0 :: a1 :: a2 :: a3 :: a4 :: a5 :: a6 :: .null :: L) st G I J ↔ AW d E K k pc2 (a0 :: a1 :: a2 :: a3 :: a4 :: a5 :: a6 :: .null :: L) (.null :: st) G I J := by
  subst hp; exact aw_go ((stp_eq D rfl).trans rfl)
theorem aw_aloadN_8 {a0 a1 a2 a3 a4 a5 a6 a7 : Value} (D : decode (byt k) pc = .ok (.aload 8, 2)) (hp : pc + 2 = pc2) : AW d E K k pc (a0 :: a1 :: a2 :: a3 :: a4 :: a5 :: a6 :: a7 :: .null :: L) st G I J ↔ AW d E K k pc2 (a0 :: a1 :: a2 :: a3 :: a4 :: a5 :: a6 :: a7 :: .null :: L) (.null :: st) G I J := by
  subst hp; exact aw_go ((stp_eq D rfl).trans rfl)
theorem aw_aloadN_9 {a0 a1 a2 a3 a4 a5 a6 a7 a8 : Value} (D : decode (byt k) pc = .ok (.aload 9, 2)) (hp : pc + 2 = pc2) : AW d E K k pc (a0 :: a1 :: a2 :: a3 :: a4 :: a5 :: a6 :: a7 :: a8 :: .null :: L) st G I J ↔ AW d E K k pc2 (a0 :: a1 :: a2 :: a3 :: a4 :: a5 :: a6 :: a7 :: a8 :: .null :: L) (.null :: st) G I J := by
  subst hp; exact aw_go ((stp_eq D rfl).trans rfl)
theorem aw_aloadN_10 {a0 a1 a2 a3 a4 a5 a6 a7 a8 a9 : Value} (D : decode (byt k) pc = .ok (.aload 10, 2)) (hp : pc + 2 = pc2) : AW d E K k pc (a0 :: a1 :: a2 :: a3 :: a4 :: a5 :: a6 :: a7 :: a8 :: a9 :: .null :: L) st G I J ↔ AW d E K k pc2 (a0 :: a1 :: a2 :: a3 :: a4 :: a5 :: a6 :: a7 :: a8 :: a9 :: .null :: L) (.null :: st) G I J := by
  subst hp; exact aw_go ((stp_eq D rfl).trans rfl)
theorem aw_aloadN_11 {a0 a1 a2 a3 a4 a5 a6 a7 a8 a9 a10 : Value} (D : decode (byt k) pc = .ok (.aload 11, 2)) (hp : pc + 2 = pc2) : AW d E K k pc (a0 :: a1 :: a2 :: a3 :: a4 :: a5 :: a6 :: a7 :: a8 :: a9 :: a10 :: .null :: L) st G I J ↔ AW d E K k pc2 (a0 :: a1 :: a2 :: a3 :: a4 :: a5 :: a6 :: a7 :: a8 :: a9 :: a10 :: .null :: L) (.null :: st) G I J := by
  subst hp; exact aw_go ((stp_eq D rfl).trans rfl)
theorem aw_aloadN_12 {a0 a1 a2 a3 a4 a5 a6 a7 a8 a9 a10 a11 : Value} (D : decode (byt k) pc = .ok (.aload 12, 2)) (hp : pc + 2 = pc2) : AW d E K k pc (a0 :: a1 :: a2 :: a3 :: a4 :: a5 :: a6 :: a7 :: a8 :: a9 :: a10 :: a11 :: .null :: L) st G I J ↔ AW d E K k pc2 (a0 :: a1 :: a2 :: a3 :: a4 :: a5 :: a6 :: a7 :: a8 :: a9 :: a10 :: a11 :: .null :: L) (.null :: st) G I J := by
  subst hp; exact aw_go ((stp_eq D rfl).trans rfl)
theorem aw_aloadN_13 {a0 a1 a2 a3 a4 a5 a6 a7 a8 a9 a10 a11 a12 : Value} (D : decode (byt k) pc = .ok (.aload 13, 2)) (hp : pc + 2 = pc2) : AW d E K k pc (a0 :: a1 :: a2 :: a3 :: a4 :: a5 :: a6 :: a7 :: a8 :: a9 :: a10 :: a11 :: a12 :: .null :: L) st G I J ↔ AW d E K k pc2 (a0 :: a1 :: a2 :: a3 :: a4 :: a5 :: a6 :: a7 :: a8 :: a9 :: a10 :: a11 :: a12 :: .null :: L) (.null :: st) G I J := by
  subst hp; exact aw_go ((stp_eq D rfl).trans rfl)
theorem aw_aloadN_14 {a0 a1 a2 a3 a4 a5 a6 a7 a8 a9 a10 a11 a12 a13 : Value} (D : decode (byt k) pc = .ok (.aload 14, 2)) (hp : pc + 2 = pc2) : AW d E K k pc (a0 :: a1 :: a2 :: a3 :: a4 :: a5 :: a6 :: a7 :: a8 :: a9 :: a10 :: a11 :: a12 :: a13 :: .null :: L) st G I J ↔ AW d E K k pc2 (a0 :: a1 :: a2 :: a3 :: a4 :: a5 :: a6 :: a7 :: a8 :: a9 :: a10 :: a11 :: a12 :: a13 :: .null :: L) (.null :: st) G I J := by
  subst hp; exact aw_go ((stp_eq D rfl).trans rfl)
theorem aw_aloadN_15 {a0 a1 a2 a3 a4 a5 a6 a7 a8 a9 a10 a11 a12 a13 a14 : Value} (D : decode (byt k) pc = .ok (.aload 15, 2)) (hp : pc + 2 = pc2) : AW d E K k pc (a0 :: a1 :: a2 :: a3 :: a4 :: a5 :: a6 :: a7 :: a8 :: a9 :: a10 :: a11 :: a12 :: a13 :: a14 :: .null :: L) st G I J ↔ AW d E K k pc2 (a0 :: a1 :: a2 :: a3 :: a4 :: a5 :: a6 :: a7 :: a8 :: a9 :: a10 :: a11 :: a12 :: a13 :: a14 :: .null :: L) (.null :: st) G I J := by
  subst hp; exact aw_go ((stp_eq D rfl).trans rfl)
theorem aw_istore_0 {a0 : Value} {x : Int32} (D : decode (byt k) pc = .ok (.istore_n 0, 1)) (hp : pc + 1 = pc2) : AW d E K k pc (a0 :: L) (.int x :: st) G I J ↔ AW d E K k pc2 (.int x :: L) st G I J := by
  subst hp; exact aw_gs ((stp_eq D rfl).trans rfl) (by simp only [List.length_cons]; omega)
theorem aw_istore_1 {a0 a1 : Value} {x : Int32} (D : decode (byt k) pc = .ok (.istore_n 1, 1)) (hp : pc + 1 = pc2) : AW d E K k pc (a0 :: a1 :: L) (.int x :: st) G I J ↔ AW d E K k pc2 (kil a0 :: .int x :: L) st G I J := by
  subst hp; exact aw_gs ((stp_eq D rfl).trans rfl) (by simp only [List.length_cons]; omega)
theorem aw_istore_2 {a0 a1 a2 : Value} {x : Int32} (D : decode (byt k) pc = .ok (.istore_n 2, 1)) (hp : pc + 1 = pc2) : AW d E K k pc (a0 :: a1 :: a2 :: L) (.int x :: st) G I J ↔ AW d E K k pc2 (a0 :: kil a1 :: .int x :: L) st G I J := by
  subst hp; exact aw_gs ((stp_eq D rfl).trans rfl) (by simp only [List.length_cons]; omega)
theorem aw_istore_3 {a0 a1 a2 a3 : Value} {x : Int32} (D : decode (byt k) pc = .ok (.istore_n 3, 1)) (hp : pc + 1 = pc2) : AW d E K k pc (a0 :: a1 :: a2 :: a3 :: L) (.int x :: st) G I J ↔ AW d E K k pc2 (a0 :: a1 :: kil a2 :: .int x :: L) st G I J := by
  subst hp; exact aw_gs ((stp_eq D rfl).trans rfl) (by simp only [List.length_cons]; omega)
theorem aw_istore_4 {a0 a1 a2 a3 a4 : Value} {x : Int32} (D : decode (byt k) pc = .ok (.istore 4, 2)) (hp : pc + 2 = pc2) : AW d E K k pc (a0 :: a1 :: a2 :: a3 :: a4 :: L) (.int x :: st) G I J ↔ AW d E K k pc2 (a0 :: a1 :: a2 :: kil a3 :: .int x :: L) st G I J := by
  subst hp; exact aw_gs ((stp_eq D rfl).trans rfl) (by simp only [List.length_cons]; omega)
theorem aw_istore_5 {a0 a1 a2 a3 a4 a5 : Value} {x : Int32} (D : decode (byt k) pc = .ok (.istore 5, 2)) (hp : pc + 2 = pc2) : AW d E K k pc (a0 :: a1 :: a2 :: a3 :: a4 :: a5 :: L) (.int x :: st) G I J ↔ AW d E K k pc2 (a0 :: a1 :: a2 :: a3 :: kil a4 :: .int x :: L) st G I J := by
  subst hp; exact aw_gs ((stp_eq D rfl).trans rfl) (by simp only [List.length_cons]; omega)
theorem aw_istore_6 {a0 a1 a2 a3 a4 a5 a6 : Value} {x : Int32} (D : decode (byt k) pc = .ok (.istore 6, 2)) (hp : pc + 2 = pc2) : AW d E K k pc (a0 :: a1 :: a2 :: a3 :: a4 :: a5 :: a6 :: L) (.int x :: st) G I J ↔ AW d E K k pc2 (a0 :: a1 :: a2 :: a3 :: a4 :: kil a5 :: .int x :: L) st G I J := by
  subst hp; exact aw_gs ((stp_eq D rfl).trans rfl) (by simp only [List.length_cons]; omega)
theorem aw_istore_7 {a0 a1 a2 a3 a4 a5 a6 a7 : Value} {x : Int32} (D : decode (byt k) pc = .ok (.istore 7, 2)) (hp : pc + 2 = pc2) : AW d E K k pc (a0 :: a1 :: a2 :: a3 :: a4 :: a5 :: a6 :: a7 :: L) (.int x :: st) G I J ↔ AW d E K k pc2 (a0 :: a1 :: a2 :: a3 :: a4 :: a5 :: kil a6 :: .int x :: L) st G I J := by
  subst hp; exact aw_gs ((stp_eq D rfl).trans rfl) (by simp only [List.length_cons]; omega)
theorem aw_istore_8 {a0 a1 a2 a3 a4 a5 a6 a7 a8 : Value} {x : Int32} (D : decode (byt k) pc = .ok (.istore 8, 2)) (hp : pc + 2 = pc2) : AW d E K k pc (a0 :: a1 :: a2 :: a3 :: a4 :: a5 :: a6 :: a7 :: a8 :: L) (.int x :: st) G I J ↔ AW d E K k pc2 (a0 :: a1 :: a2 :: a3 :: a4 :: a5 :: a6 :: kil a7 :: .int x :: L) st G I J := by
  subst hp; exact aw_gs ((stp_eq D rfl).trans rfl) (by simp only [List.length_cons]; omega)
theorem aw_istore_9 {a0 a1 a2 a3 a4 a5 a6 a7 a8 a9 : Value} {x : Int32} (D : decode (byt k) pc = .ok (.istore 9, 2)) (hp : pc + 2 = pc2) : AW d E K k pc (a0 :: a1 :: a2 :: a3 :: a4 :: a5 :: a6 :: a7 :: a8 :: a9 :: L) (.int x :: st) G I J ↔ AW d E K k pc2 (a0 :: a1 :: a2 :: a3 :: a4 :: a5 :: a6 :: a7 :: kil a8 :: .int x :: L) st G I J := by
  subst hp; exact aw_gs ((stp_eq D rfl).trans rfl) (by simp only [List.length_cons]; omega)
theorem aw_istore_10 {a0 a1 a2 a3 a4 a5 a6 a7 a8 a9 a10 : Value} {x : Int32} (D : decode (byt k) pc = .ok (.istore 10, 2)) (hp : pc + 2 = pc2) : AW d E K k pc (a0 :: a1 :: a2 :: a3 :: a4 :: a5 :: a6 :: a7 :: a8 :: a9 :: a10 :: L) (.int x :: st) G I J ↔ AW d E K k pc2 (a0 :: a1 :: a2 :: a3 :: a4 :: a5 :: a6 :: a7 :: a8 :: kil a9 :: .int x :: L) st G I J := by
  subst hp; exact aw_gs ((stp_eq D rfl).trans rfl) (by simp only [List.length_cons]; omega)
theorem aw_istore_11 {a0 a1 a2 a3 a4 a5 a6 a7 a8 a9 a10 a11 : Value} {x : Int32} (D : decode (byt k) pc = .ok (.istore 11, 2)) (hp : pc + 2 = pc2) : AW d E K k pc (a0 :: a1 :: a2 :: a3 :: a4 :: a5 :: a6 :: a7 :: a8 :: a9 :: a10 :: a11 :: L) (.int x :: st) G I J ↔ AW d E K k pc2 (a0 :: a1 :: a2 :: a3 :: a4 :: a5 :: a6 :: a7 :: a8 :: a9 :: kil a10 :: .int x :: L) st G I J := by
  subst hp; exact aw_gs ((stp_eq D rfl).trans rfl) (by simp only [List.length_cons]; omega)
theorem aw_istore_12 {a0 a1 a2 a3 a4 a5 a6 a7 a8 a9 a10 a11 a12 : Value} {x : Int32} (D : decode (byt k) pc = .ok (.istore 12, 2)) (hp : pc + 2 = pc2) : AW d E K k pc (a0 :: a1 :: a2 :: a3 :: a4 :: a5 :: a6 :: a7 :: a8 :: a9 :: a10 :: a11 :: a12 :: L) (.int x :: st) G I J ↔ AW d E K k pc2 (a0 :: a1 :: a2 :: a3 :: a4 :: a5 :: a6 :: a7 :: a8 :: a9 :: a10 :: kil a11 :: .int x :: L) st G I J := by
  subst hp; exact aw_gs ((stp_eq D rfl).trans rfl) (by simp only [List.length_cons]; omega)
theorem aw_istore_13 {a0 a1 a2 a3 a4 a5 a6 a7 a8 a9 a10 a11 a12 a13 : Value} {x : Int32} (D : decode (byt k) pc = .ok (.istore 13, 2)) (hp : pc + 2 = pc2) : AW d E K k pc (a0 :: a1 :: a2 :: a3 :: a4 :: a5 :: a6 :: a7 :: a8 :: a9 :: a10 :: a11 :: a12 :: a13 :: L) (.int x :: st) G I J ↔ AW d E K k pc2 (a0 :: a1 :: a2 :: a3 :: a4 :: a5 :: a6 :: a7 :: a8 :: a9 :: a10 :: a11 :: kil a12 :: .int x :: L) st G I J := by
  subst hp; exact aw_gs ((stp_eq D rfl).trans rfl) (by simp only [List.length_cons]; omega)
theorem aw_istore_14 {a0 a1 a2 a3 a4 a5 a6 a7 a8 a9 a10 a11 a12 a13 a14 : Value} {x : Int32} (D : decode (byt k) pc = .ok (.istore 14, 2)) (hp : pc + 2 = pc2) : AW d E K k pc (a0 :: a1 :: a2 :: a3 :: a4 :: a5 :: a6 :: a7 :: a8 :: a9 :: a10 :: a11 :: a12 :: a13 :: a14 :: L) (.int x :: st) G I J ↔ AW d E K k pc2 (a0 :: a1 :: a2 :: a3 :: a4 :: a5 :: a6 :: a7 :: a8 :: a9 :: a10 :: a11 :: a12 :: kil a13 :: .int x :: L) st G I J := by
  subst hp; exact aw_gs ((stp_eq D rfl).trans rfl) (by simp only [List.length_cons]; omega)
theorem aw_istore_15 {a0 a1 a2 a3 a4 a5 a6 a7 a8 a9 a10 a11 a12 a13 a14 a15 : Value} {x : Int32} (D : decode (byt k) pc = .ok (.istore 15, 2)) (hp : pc + 2 = pc2) : AW d E K k pc (a0 :: a1 :: a2 :: a3 :: a4 :: a5 :: a6 :: a7 :: a8 :: a9 :: a10 :: a11 :: a12 :: a13 :: a14 :: a15 :: L) (.int x :: st) G I J ↔ AW d E K k pc2 (a0 :: a1 :: a2 :: a3 :: a4 :: a5 :: a6 :: a7 :: a8 :: a9 :: a10 :: a11 :: a12 :: a13 :: kil a14 :: .int x :: L) st G I J := by
  subst hp; exact aw_gs ((stp_eq D rfl).trans rfl) (by simp only [List.length_cons]; omega)
theorem aw_astore_0 {a0 : Value} {x : Nat} (D : decode (byt k) pc = .ok (.astore_n 0, 1)) (hp : pc + 1 = pc2) : AW d E K k pc (a0 :: L) (.ref x :: st) G I J ↔ AW d E K k pc2 (.ref x :: L) st G I J := by
  subst hp; exact aw_gs ((stp_eq D rfl).trans rfl) (by simp only [List.length_cons]; omega)
theorem aw_astore_1 {a0 a1 : Value} {x : Nat} (D : decode (byt k) pc = .ok (.astore_n 1, 1)) (hp : pc + 1 = pc2) : AW d E K k pc (a0 :: a1 :: L) (.ref x :: st) G I J ↔ AW d E K k pc2 (kil a0 :: .ref x :: L) st G I J := by
  subst hp; exact aw_gs ((stp_eq D rfl).trans rfl) (by simp only [List.length_cons]; omega)
theorem aw_astore_2 {a0 a1 a2 : Value} {x : Nat} (D : decode (byt k) pc = .ok (.astore_n 2, 1)) (hp : pc + 1 = pc2) : AW d E K k pc (a0 :: a1 :: a2 :: L) (.ref x :: st) G I J ↔ AW d E K k pc2 (a0 :: kil a1 :: .ref x :: L) st G I J := by
  subst hp; exact aw_gs ((stp_eq D rfl).trans rfl) (by simp only [List.length_cons]; omega)
theorem aw_astore_3 {a0 a1 a2 a3 : Value} {x : Nat} (D : decode (byt k) pc = .ok (.astore_n 3, 1)) (hp : pc + 1 = pc2) : AW d E K k pc (a0 :: a1 :: a2 :: a3 :: L) (.ref x :: st) G I J ↔ AW d E K k pc2 (a0 :: a1 :: kil a2 :: .ref x :: L) st G I J := by
  subst hp; exact aw_gs ((stp_eq D rfl).trans rfl) (by simp only [List.length_cons]; omega)
theorem aw_astore_4 {a0 a1 a2 a3 a4 : Value} {x : Nat} (D : decode (byt k) pc = .ok (.astore 4, 2)) (hp : pc + 2 = pc2) : AW d E K k pc (a0 :: a1 :: a2 :: a3 :: a4 :: L) (.ref x :: st) G I J ↔ AW d E K k pc2 (a0 :: a1 :: a2 :: kil a3 :: .ref x :: L) st G I J := by
  subst hp; exact aw_gs ((stp_eq D rfl).trans rfl) (by simp only [List.length_cons]; omega)
theorem aw_astore_5 {a0 a1 a2 a3 a4 a5 : Value} {x : Nat} (D : decode (byt k) pc = .ok (.astore 5, 2)) (hp : pc + 2 = pc2) : AW d E K k pc (a0 :: a1 :: a2 :: a3 :: a4 :: a5 :: L) (.ref x :: st) G I J ↔ AW d E K k pc2 (a0 :: a1 :: a2 :: a3 :: kil a4 :: .ref x :: L) st G I J := by
  subst hp; exact aw_gs ((stp_eq D rfl).trans rfl) (by simp only [List.length_cons]; omega)
theorem aw_astore_6 {a0 a1 a2 a3 a4 a5 a6 : Value} {x : Nat} (D : decode (byt k) pc = .ok (.astore 6, 2)) (hp : pc + 2 = pc2) : AW d E K k pc (a0 :: a1 :: a2 :: a3 :: a4 :: a5 :: a6 :: L) (.ref x :: st) G I J ↔ AW d E K k pc2 (a0 :: a1 :: a2 :: a3 :: a4 :: kil a5 :: .ref x :: L) st G I J := by
  subst hp; exact aw_gs ((stp_eq D rfl).trans rfl) (by simp only [List.length_cons]; omega)
theorem aw_astore_7 {a0 a1 a2 a3 a4 a5 a6 a7 : Value} {x : Nat} (D : decode (byt k) pc = .ok (.astore 7, 2)) (hp : pc + 2 = pc2) : AW d E K k pc (a0 :: a1 :: a2 :: a3 :: a4 :: a5 :: a6 :: a7 :: L) (.ref x :: st) G I J ↔ AW d E K k pc2 (a0 :: a1 :: a2 :: a3 :: a4 :: a5 :: kil a6 :: .ref x :: L) st G I J := by
  subst hp; exact aw_gs ((stp_eq D rfl).trans rfl) (by simp only [List.length_cons]; omega)
theorem aw_astore_8 {a0 a1 a2 a3 a4 a5 a6 a7 a8 : Value} {x : Nat} (D : decode (byt k) pc = .ok (.astore 8, 2)) (hp : pc + 2 = pc2) : AW d E K k pc (a0 :: a1 :: a2 :: a3 :: a4 :: a5 :: a6 :: a7 :: a8 :: L) (.ref x :: st) G I J ↔ AW d E K k pc2 (a0 :: a1 :: a2 :: a3 :: a4 :: a5 :: a6 :: kil a7 :: .ref x :: L) st G I J := by
  subst hp; exact aw_gs ((stp_eq D rfl).trans rfl) (by simp only [List.length_cons]; omega)
theorem aw_astore_9 {a0 a1 a2 a3 a4 a5 a6 a7 a8 a9 : Value} {x : Nat} (D : decode (byt k) pc = .ok (.astore 9, 2)) (hp : pc + 2 = pc2) : AW d E K k pc (a0 :: a1 :: a2 :: a3 :: a4 :: a5 :: a6 :: a7 :: a8 :: a9 :: L) (.ref x :: st) G I J ↔ AW d E K k pc2 (a0 :: a1 :: a2 :: a3 :: a4 :: a5 :: a6 :: a7 :: kil a8 :: .ref x :: L) st G I J := by
  subst hp; exact aw_gs ((stp_eq D rfl).trans rfl) (by simp only [List.length_cons]; omega)
theorem aw_astore_10 {a0 a1 a2 a3 a4 a5 a6 a7 a8 a9 a10 : Value} {x : Nat} (D : decode (byt k) pc = .ok (.astore 10, 2)) (hp : pc + 2 = pc2) : AW d E K k pc (a0 :: a1 :: a2 :: a3 :: a4 :: a5 :: a6 :: a7 :: a8 :: a9 :: a10 :: L) (.ref x :: st) G I J ↔ AW d E K k pc2 (a0 :: a1 :: a2 :: a3 :: a4 :: a5 :: a6 :: a7 :: a8 :: kil a9 :: .ref x :: L) st G I J := by
  subst hp; exact aw_gs ((stp_eq D rfl).trans rfl) (by simp only [List.length_cons]; omega)
theorem aw_astore_11 {a0 a1 a2 a3 a4 a5 a6 a7 a8 a9 a10 a11 : Value} {x : Nat} (D : decode (byt k) pc = .ok (.astore 11, 2)) (hp : pc + 2 = pc2) : AW d E K k pc (a0 :: a1 :: a2 :: a3 :: a4 :: a5 :: a6 :: a7 :: a8 :: a9 :: a10 :: a11 :: L) (.ref x :: st) G I J ↔ AW d E K k pc2 (a0 :: a1 :: a2 :: a3 :: a4 :: a5 :: a6 :: a7 :: a8 :: a9 :: kil a10 :: .ref x :: L) st G I J := by
  subst hp; exact aw_gs ((stp_eq D rfl).trans rfl) (by simp only [List.length_cons]; omega)
theorem aw_astore_12 {a0 a1 a2 a3 a4 a5 a6 a7 a8 a9 a10 a11 a12 : Value} {x : Nat} (D : decode (byt k) pc = .ok (.astore 12, 2)) (hp : pc + 2 = pc2) : AW d E K k pc (a0 :: a1 :: a2 :: a3 :: a4 :: a5 :: a6 :: a7 :: a8 :: a9 :: a10 :: a11 :: a12 :: L) (.ref x :: st) G I J ↔ AW d E K k pc2 (a0 :: a1 :: a2 :: a3 :: a4 :: a5 :: a6 :: a7 :: a8 :: a9 :: a10 :: kil a11 :: .ref x :: L) st G I J := by
  subst hp; exact aw_gs ((stp_eq D rfl).trans rfl) (by simp only [List.length_cons]; omega)
theorem aw_astore_13 {a0 a1 a2 a3 a4 a5 a6 a7 a8 a9 a10 a11 a12 a13 : Value} {x : Nat} (D : decode (byt k) pc = .ok (.astore 13, 2)) (hp : pc + 2 = pc2) : AW d E K k pc (a0 :: a1 :: a2 :: a3 :: a4 :: a5 :: a6 :: a7 :: a8 :: a9 :: a10 :: a11 :: a12 :: a13 :: L) (.ref x :: st) G I J ↔ AW d E K k pc2 (a0 :: a1 :: a2 :: a3 :: a4 :: a5 :: a6 :: a7 :: a8 :: a9 :: a10 :: a11 :: kil a12 :: .ref x :: L) st G I J := by
  subst hp; exact aw_gs ((stp_eq D rfl).trans rfl) (by simp only [List.length_cons]; omega)
theorem aw_astore_14 {a0 a1 a2 a3 a4 a5 a6 a7 a8 a9 a10 a11 a12 a13 a14 : Value} {x : Nat} (D : decode (byt k) pc = .ok (.astore 14, 2)) (hp : pc + 2 = pc2) : AW d E K k pc (a0 :: a1 :: a2 :: a3 :: a4 :: a5 :: a6 :: a7 :: a8 :: a9 :: a10 :: a11 :: a12 :: a13 :: a14 :: L) (.ref x :: st) G I J ↔ AW d E K k pc2 (a0 :: a1 :: a2 :: a3 :: a4 :: a5 :: a6 :: a7 :: a8 :: a9 :: a10 :: a11 :: a12 :: kil a13 :: .ref x :: L) st G I J := by
  subst hp; exact aw_gs ((stp_eq D rfl).trans rfl) (by simp only [List.length_cons]; omega)
theorem aw_astore_15 {a0 a1 a2 a3 a4 a5 a6 a7 a8 a9 a10 a11 a12 a13 a14 a15 : Value} {x : Nat} (D : decode (byt k) pc = .ok (.astore 15, 2)) (hp : pc + 2 = pc2) : AW d E K k pc (a0 :: a1 :: a2 :: a3 :: a4 :: a5 :: a6 :: a7 :: a8 :: a9 :: a10 :: a11 :: a12 :: a13 :: a14 :: a15 :: L) (.ref x :: st) G I J ↔ AW d E K k pc2 (a0 :: a1 :: a2 :: a3 :: a4 :: a5 :: a6 :: a7 :: a8 :: a9 :: a10 :: a11 :: a12 :: a13 :: kil a14 :: .ref x :: L) st G I J := by
  subst hp; exact aw_gs ((stp_eq D rfl).trans rfl) (by simp only [List.length_cons]; omega)
theorem aw_astoreN_0 {a0 : Value} (D : decode (byt k) pc = .ok (.astore_n 0, 1)) (hp : pc + 1 = pc2) : AW d E K k pc (a0 :: L) (.null :: st) G I J ↔ AW d E K k pc2 (.null :: L) st G I J := by
  subst hp; exact aw_gs ((stp_eq D rfl).trans rfl) (by simp only [List.length_cons]; omega)
theorem aw_astoreN_1 {a0 a1 : Value} (D : decode (byt k) pc = .ok (.astore_n 1, 1)) (hp : pc + 1 = pc2) : AW d E K k pc (a0 :: a1 :: L) (.null :: st) G I J ↔ AW d E K k pc2 (kil a0 :: .null :: L) st G I J := by
  subst hp; exact aw_gs ((stp_eq D rfl).trans rfl) (by simp only [List.length_cons]; omega)
theorem aw_astoreN_2 {a0 a1 a2 : Value} (D : decode (byt k) pc = .ok (.astore_n 2, 1)) (hp : pc + 1 = pc2) : AW d E K k pc (a0 :: a1 :: a2 :: L) (.null :: st) G I J ↔ AW d E K k pc2 (a0 :: kil a1 :: .null :: L) st G I J := by
  subst hp; exact aw_gs ((stp_eq D rfl).trans rfl) (by simp only [List.length_cons]; omega)
theorem aw_astoreN_3 {a0 a1 a2 a3 : Value} (D : decode (byt k) pc = .ok (.astore_n 3, 1)) (hp : pc + 1 = pc2) : AW d E K k pc (a0 :: a1 :: a2 :: a3 :: L) (.null :: st) G I J ↔ AW d E K k pc2 (a0 :: a1 :: kil a2 :: .null :: L) st G I J := by
  subst hp; exact aw_gs ((stp_eq D rfl).trans rfl) (by simp only [List.length_cons]; omega)
theorem aw_astoreN_4 {a0 a1 a2 a3 a4 : Value} (D : decode (byt k) pc = .ok (.astore 4, 2)) (hp : pc + 2 = pc2) : AW d E K k pc (a0 :: a1 :: a2 :: a3 :: a4 :: L) (.null :: st) G I J ↔ AW d E K k pc2 (a0 :: a1 :: a2 :: kil a3 :: .null :: L) st G I J := by
  subst hp; exact aw_gs ((stp_eq D rfl).trans rfl) (by simp only [List.length_cons]; omega)
theorem aw_astoreN_5 {a0 a1 a2 a3 a4 a5 : Value} (D : decode (byt k) pc = .ok (.astore 5, 2)) (hp : pc + 2 = pc2) : AW d E K k pc (a0 :: a1 :: a2 :: a3 :: a4 :: a5 :: L) (.null :: st) G I J ↔ AW d E K k pc2 (a0 :: a1 :: a2 :: a3 :: kil a4 :: .null :: L) st G I J := by
  subst hp; exact aw_gs ((stp_eq D rfl).trans rfl) (by simp only [List.length_cons]; omega)
theorem aw_astoreN_6 {a0 a1 a2 a3 a4 a5 a6 : Value} (D : decode (byt k) pc = .ok (.astore 6, 2)) (hp : pc + 2 = pc2) : AW d E K k pc (a0 :: a1 :: a2 :: a3 :: a4 :: a5 :: a6 :: L) (.null :: st) G I J ↔ AW d E K k pc2 (a0 :: a1 :: a2 :: a3 :: a4 :: kil a5 :: .null :: L) st G I J := by
  subst hp; exact aw_gs ((stp_eq D rfl).trans rfl) (by simp only [List.length_cons]; omega)
theorem aw_astoreN_7 {a0 a1 a2 a3 a4 a5 a6 a7 : Value} (D : decode (byt k) pc = .ok (.astore 7, 2)) (hp : pc + 2 = pc2) : AW d E K k pc (a0 :: a1 :: a2 :: a3 :: a4 :: a5 :: a6 :: a7 :: L) (.null :: st) G I J ↔ AW d E K k pc2 (a0 :: a1 :: a2 :: a3 :: a4 :: a5 :: kil a6 :: .null :: L) st G I J := by
  subst hp; exact aw_gs ((stp_eq D rfl).trans rfl) (by simp only [List.length_cons]; omega)
theorem aw_astoreN_8 {a0 a1 a2 a3 a4 a5 a6 a7 a8 : Value} (D : decode (byt k) pc = .ok (.astore 8, 2)) (hp : pc + 2 = pc2) : AW d E K k pc (a0 :: a1 :: a2 :: a3 :: a4 :: a5 :: a6 :: a7 :: a8 :: L) (.null :: st) G I J ↔ AW d E K k pc2 (a0 :: a1 :: a2 :: a3 :: a4 :: a5 :: a6 :: kil a7 :: .null :: L) st G I J := by
  subst hp; exact aw_gs ((stp_eq D rfl).trans rfl) (by simp only [List.length_cons]; omega)
theorem aw_astoreN_9 {a0 a1 a2 a3 a4 a5 a6 a7 a8 a9 : Value} (D : decode (byt k) pc = .ok (.astore 9, 2)) (hp : pc + 2 = pc2) : AW d E K k pc (a0 :: a1 :: a2 :: a3 :: a4 :: a5 :: a6 :: a7 :: a8 :: a9 :: L) (.null :: st) G I J ↔ AW d E K k pc2 (a0 :: a1 :: a2 :: a3 :: a4 :: a5 :: a6 :: a7 :: kil a8 :: .null :: L) st G I J := by
  subst hp; exact aw_gs ((stp_eq D rfl).trans rfl) (by simp only [List.length_cons]; omega)
theorem aw_astoreN_10 {a0 a1 a2 a3 a4 a5 a6 a7 a8 a9 a10 : Value} (D : decode (byt k) pc = .ok (.astore 10, 2)) (hp : pc + 2 = pc2) : AW d E K k pc (a0 :: a1 :: a2 :: a3 :: a4 :: a5 :: a6 :: a7 :: a8 :: a9 :: a10 :: L) (.null :: st) G I J ↔ AW d E K k pc2 (a0 :: a1 :: a2 :: a3 :: a4 :: a5 :: a6 :: a7 :: a8 :: kil a9 :: .null :: L) st G I J := by
  subst hp; exact aw_gs ((stp_eq D rfl).trans rfl) (by simp only [List.length_cons]; omega)
theorem aw_astoreN_11 {a0 a1 a2 a3 a4 a5 a6 a7 a8 a9 a10 a11 : Value} (D : decode (byt k) pc = .ok (.astore 11, 2)) (hp : pc + 2 = pc2) : AW d E K k pc (a0 :: a1 :: a2 :: a3 :: a4 :: a5 :: a6 :: a7 :: a8 :: a9 :: a10 :: a11 :: L) (.null :: st) G I J ↔ AW d E K k pc2 (a0 :: a1 :: a2 :: a3 :: a4 :: a5 :: a6 :: a7 :: a8 :: a9 :: kil a10 :: .null :: L) st G I J := by
  subst hp; exact aw_gs ((stp_eq D rfl).trans rfl) (by simp only [List.length_cons]; omega)
theorem aw_astoreN_12 {a0 a1 a2 a3 a4 a5 a6 a7 a8 a9 a10 a11 a12 : Value} (D : decode (byt k) pc = .ok (.astore 12, 2)) (hp : pc + 2 = pc2) : AW d E K k pc (a0 :: a1 :: a2 :: a3 :: a4 :: a5 :: a6 :: a7 :: a8 :: a9 :: a10 :: a11 :: a12 :: L) (.null :: st) G I J ↔ AW d E K k pc2 (a0 :: a1 :: a2 :: a3 :: a4 :: a5 :: a6 :: a7 :: a8 :: a9 :: a10 :: kil a11 :: .null :: L) st G I J := by
  subst hp; exact aw_gs ((stp_eq D rfl).trans rfl) (by simp only [List.length_cons]; omega)
theorem aw_astoreN_13 {a0 a1 a2 a3 a4 a5 a6 a7 a8 a9 a10 a11 a12 a13 : Value} (D : decode (byt k) pc = .ok (.astore 13, 2)) (hp : pc + 2 = pc2) : AW d E K k pc (a0 :: a1 :: a2 :: a3 :: a4 :: a5 :: a6 :: a7 :: a8 :: a9 :: a10 :: a11 :: a12 :: a13 :: L) (.null :: st) G I J ↔ AW d E K k pc2 (a0 :: a1 :: a2 :: a3 :: a4 :: a5 :: a6 :: a7 :: a8 :: a9 :: a10 :: a11 :: kil a12 :: .null :: L) st G I J := by
  subst hp; exact aw_gs ((stp_eq D rfl).trans rfl) (by simp only [List.length_cons]; omega)
theorem aw_astoreN_14 {a0 a1 a2 a3 a4 a5 a6 a7 a8 a9 a10 a11 a12 a13 a14 : Value} (D : decode (byt k) pc = .ok (.astore 14, 2)) (hp : pc + 2 = pc2) : AW d E K k pc (a0 :: a1 :: a2 :: a3 :: a4 :: a5 :: a6 :: a7 :: a8 :: a9 :: a10 :: a11 :: a12 :: a13 :: a14 :: L) (.null :: st) G I J ↔ AW d E K k pc2 (a0 :: a1 :: a2 :: a3 :: a4 :: a5 :: a6 :: a7 :: a8 :: a9 :: a10 :: a11 :: a12 :: kil a13 :: .null :: L) st G I J := by
  subst hp; exact aw_gs ((stp_eq D rfl).trans rfl) (by simp only [List.length_cons]; omega)
theorem aw_astoreN_15 {a0 a1 a2 a3 a4 a5 a6 a7 a8 a9 a10 a11 a12 a13 a14 a15 : Value} (D : decode (byt k) pc = .ok (.astore 15, 2)) (hp : pc + 2 = pc2) : AW d E K k pc (a0 :: a1 :: a2 :: a3 :: a4 :: a5 :: a6 :: a7 :: a8 :: a9 :: a10 :: a11 :: a12 :: a13 :: a14 :: a15 :: L) (.null :: st) G I J ↔ AW d E K k pc2 (a0 :: a1 :: a2 :: a3 :: a4 :: a5 :: a6 :: a7 :: a8 :: a9 :: a10 :: a11 :: a12 :: a13 :: kil a14 :: .null :: L) st G I J := by
  subst hp; exact aw_gs ((stp_eq D rfl).trans rfl) (by simp only [List.length_cons]; omega)
theorem aw_lstore_0 {a0 a1 : Value} {x : Int64} (D : decode (byt k) pc = .ok (.lstore_n 0, 1)) (hp : pc + 1 = pc2) : AW d E K k pc (a0 :: a1 :: L) (.long x :: st) G I J ↔ AW d E K k pc2 (.long x :: nv :: L) st G I J := by
  subst hp; exact aw_gs ((stp_eq D rfl).trans rfl) (by simp only [List.length_cons]; omega)
theorem aw_lstore_1 {a0 a1 a2 : Value} {x : Int64} (D : decode (byt k) pc = .ok (.lstore_n 1, 1)) (hp : pc + 1 = pc2) : AW d E K k pc (a0 :: a1 :: a2 :: L) (.long x :: st) G I J ↔ AW d E K k pc2 (kil a0 :: .long x :: nv :: L) st G I J := by
  subst hp; exact aw_gs ((stp_eq D rfl).trans rfl) (by simp only [List.length_cons]; omega)
theorem aw_lstore_2 {a0 a1 a2 a3 : Value} {x : Int64} (D : decode (byt k) pc = .ok (.lstore_n 2, 1)) (hp : pc + 1 = pc2) : AW d E K k pc (a0 :: a1 :: a2 :: a3 :: L) (.long x :: st) G I J ↔ AW d E K k pc2 (a0 :: kil a1 :: .long x :: nv :: L) st G I J := by
  subst hp; exact aw_gs ((stp_eq D rfl).trans rfl) (by simp only [List.length_cons]; omega)
theorem aw_lstore_3 {a0 a1 a2 a3 a4 : Value} {x : Int64} (D : decode (byt k) pc = .ok (.lstore_n 3, 1)) (hp : pc + 1 = pc2) : AW d E K k pc (a0 :: a1 :: a2 :: a3 :: a4 :: L) (.long x :: st) G I J ↔ AW d E K k pc2 (a0 :: a1 :: kil a2 :: .long x :: nv :: L) st G I J := by
  subst hp; exact aw_gs ((stp_eq D rfl).trans rfl) (by simp only [List.length_cons]; omega)
theorem aw_lstore_4 {a0 a1 a2 a3 a4 a5 : Value} {x : Int64} (D : decode (byt k) pc = .ok (.lstore 4, 2)) (hp : pc + 2 = pc2) : AW d E K k pc (a0 :: a1 :: a2 :: a3 :: a4 :: a5 :: L) (.long x :: st) G I J ↔ AW d E K k pc2 (a0 :: a1 :: a2 :: kil a3 :: .long x :: nv :: L) st G I J := by
  subst hp; exact aw_gs ((stp_eq D rfl).trans rfl) (by simp only [List.length_cons]; omega)
theorem aw_lstore_5 {a0 a1 a2 a3 a4 a5 a6 : Value} {x : Int64} (D : decode (byt k) pc = .ok (.lstore 5, 2)) (hp : pc + 2 = pc2) : AW d E K k pc (a0 :: a1 :: a2 :: a3 :: a4 :: a5 :: a6 :: L) (.long x :: st) G I J ↔ AW d E K k pc2 (a0 :: a1 :: a2 :: a3 :: kil a4 :: .long x :: nv :: L) st G I J := by
  subst hp; exact aw_gs ((stp_eq D rfl).trans rfl) (by simp only [List.length_cons]; omega)
theorem aw_lstore_6 {a0 a1 a2 a3 a4 a5 a6 a7 : Value} {x : Int64} (D : decode (byt k) pc = .ok (.lstore 6, 2)) (hp : pc + 2 = pc2) : AW d E K k pc (a0 :: a1 :: a2 :: a3 :: a4 :: a5 :: a6 :: a7 :: L) (.long x :: st) G I J ↔ AW d E K k pc2 (a0 :: a1 :: a2 :: a3 :: a4 :: kil a5 :: .long x :: nv :: L) st G I J := by
  subst hp; exact aw_gs ((stp_eq D rfl).trans rfl) (by simp only [List.length_cons]; omega)
theorem aw_lstore_7 {a0 a1 a2 a3 a4 a5 a6 a7 a8 : Value} {x : Int64} (D : decode (byt k) pc = .ok (.lstore 7, 2)) (hp : pc + 2 = pc2) : AW d E K k pc (a0 :: a1 :: a2 :: a3 :: a4 :: a5 :: a6 :: a7 :: a8 :: L) (.long x :: st) G I J ↔ AW d E K k pc2 (a0 :: a1 :: a2 :: a3 :: a4 :: a5 :: kil a6 :: .long x :: nv :: L) st G I J := by
  subst hp; exact aw_gs ((stp_eq D rfl).trans rfl) (by simp only [List.length_cons]; omega)
theorem aw_lstore_8 {a0 a1 a2 a3 a4 a5 a6 a7 a8 a9 : Value} {x : Int64} (D : decode (byt k) pc = .ok (.lstore 8, 2)) (hp : pc + 2 = pc2) : AW d E K k pc (a0 :: a1 :: a2 :: a3 :: a4 :: a5 :: a6 :: a7 :: a8 :: a9 :: L) (.long x :: st) G I J ↔ AW d E K k pc2 (a0 :: a1 :: a2 :: a3 :: a4 :: a5 :: a6 :: kil a7 :: .long x :: nv :: L) st G I J := by
  subst hp; exact aw_gs ((stp_eq D rfl).trans rfl) (by simp only [List.length_cons]; omega)
theorem aw_lstore_9 {a0 a1 a2 a3 a4 a5 a6 a7 a8 a9 a10 : Value} {x : Int64} (D : decode (byt k) pc = .ok (.lstore 9, 2)) (hp : pc + 2 = pc2) : AW d E K k pc (a0 :: a1 :: a2 :: a3 :: a4 :: a5 :: a6 :: a7 :: a8 :: a9 :: a10 :: L) (.long x :: st) G I J ↔ AW d E K k pc2 (a0 :: a1 :: a2 :: a3 :: a4 :: a5 :: a6 :: a7 :: kil a8 :: .long x :: nv :: L) st G I J := by
  subst hp; exact aw_gs ((stp_eq D rfl).trans rfl) (by simp only [List.length_cons]; omega)
theorem aw_lstore_10 {a0 a1 a2 a3 a4 a5 a6 a7 a8 a9 a10 a11 : Value} {x : Int64} (D : decode (byt k) pc = .ok (.lstore 10, 2)) (hp : pc + 2 = pc2) : AW d E K k pc (a0 :: a1 :: a2 :: a3 :: a4 :: a5 :: a6 :: a7 :: a8 :: a9 :: a10 :: a11 :: L) (.long x :: st) G I J ↔ AW d E K k pc2 (a0 :: a1 :: a2 :: a3 :: a4 :: a5 :: a6 :: a7 :: a8 :: kil a9 :: .long x :: nv :: L) st G I J := by
  subst hp; exact aw_gs ((stp_eq D rfl).trans rfl) (by simp only [List.length_cons]; omega)
theorem aw_lstore_11 {a0 a1 a2 a3 a4 a5 a6 a7 a8 a9 a10 a11 a12 : Value} {x : Int64} (D : decode (byt k) pc = .ok (.lstore 11, 2)) (hp : pc + 2 = pc2) : AW d E K k pc (a0 :: a1 :: a2 :: a3 :: a4 :: a5 :: a6 :: a7 :: a8 :: a9 :: a10 :: a11 :: a12 :: L) (.long x :: st) G I J ↔ AW d E K k pc2 (a0 :: a1 :: a2 :: a3 :: a4 :: a5 :: a6 :: a7 :: a8 :: a9 :: kil a10 :: .long x :: nv :: L) st G I J := by
  subst hp; exact aw_gs ((stp_eq D rfl).trans rfl) (by simp only [List.length_cons]; omega)
theorem aw_lstore_12 {a0 a1 a2 a3 a4 a5 a6 a7 a8 a9 a10 a11 a12 a13 : Value} {x : Int64} (D : decode (byt k) pc = .ok (.lstore 12, 2)) (hp : pc + 2 = pc2) : AW d E K k pc (a0 :: a1 :: a2 :: a3 :: a4 :: a5 :: a6 :: a7 :: a8 :: a9 :: a10 :: a11 :: a12 :: a13 :: L) (.long x :: st) G I J ↔ AW d E K k pc2 (a0 :: a1 :: a2 :: a3 :: a4 :: a5 :: a6 :: a7 :: a8 :: a9 :: a10 :: kil a11 :: .long x :: nv :: L) st G I J := by
  subst hp; exact aw_gs ((stp_eq D rfl).trans rfl) (by simp only [List.length_cons]; omega)
theorem aw_lstore_13 {a0 a1 a2 a3 a4 a5 a6 a7 a8 a9 a10 a11 a12 a13 a14 : Value} {x : Int64} (D : decode (byt k) pc = .ok (.lstore 13, 2)) (hp : pc + 2 = pc2) : AW d E K k pc (a0 :: a1 :: a2 :: a3 :: a4 :: a5 :: a6 :: a7 :: a8 :: a9 :: a10 :: a11 :: a12 :: a13 :: a14 :: L) (.long x :: st) G I J ↔ AW d E K k pc2 (a0 :: a1 :: a2 :: a3 :: a4 :: a5 :: a6 :: a7 :: a8 :: a9 :: a10 :: a11 :: kil a12 :: .long x :: nv :: L) st G I J := by
  subst hp; exact aw_gs ((stp_eq D rfl).trans rfl) (by simp only [List.length_cons]; omega)
theorem aw_lstore_14 {a0 a1 a2 a3 a4 a5 a6 a7 a8 a9 a10 a11 a12 a13 a14 a15 : Value} {x : Int64} (D : decode (byt k) pc = .ok (.lstore 14, 2)) (hp : pc + 2 = pc2) : AW d E K k pc (a0 :: a1 :: a2 :: a3 :: a4 :: a5 :: a6 :: a7 :: a8 :: a9 :: a10 :: a11 :: a12 :: a13 :: a14 :: a15 :: L) (.long x :: st) G I J ↔ AW d E K k pc2 (a0 :: a1 :: a2 :: a3 :: a4 :: a5 :: a6 :: a7 :: a8 :: a9 :: a10 :: a11 :: a12 :: kil a13 :: .long x :: nv :: L) st G I J := by
  subst hp; exact aw_gs ((stp_eq D rfl).trans rfl) (by simp only [List.length_cons]; omega)
theorem aw_iinc_0 {x y : Int32} {n : Int} (D : decode (byt k) pc = .ok (.iinc 0 n, 3)) (hp : pc + 3 = pc2) (hy : Int32.ofInt n = y) : AW d E K k pc (.int x :: L) st G I J ↔ AW d E K k pc2 (.int (x + y) :: L) st G I J := by
  subst hp; subst hy; exact aw_gs ((stp_eq D rfl).trans rfl) (by simp only [List.length_cons]; omega)
theorem aw_iinc_1 {a0 : Value} {x y : Int32} {n : Int} (D : decode (byt k) pc = .ok (.iinc 1 n, 3)) (hp : pc + 3 = pc2) (hy : Int32.ofInt n = y) : AW d E K k pc (a0 :: .int x :: L) st G I J ↔ AW d E K k pc2 (kil a0 :: .int (x + y) :: L) st G I J := by
  subst hp; subst hy; exact aw_gs ((stp_eq D rfl).trans rfl) (by simp only [List.length_cons]; omega)
theorem aw_iinc_2 {a0 a1 : Value} {x y : Int32} {n : Int} (D : decode (byt k) pc = .ok (.iinc 2 n, 3)) (hp : pc + 3 = pc2) (hy : Int32.ofInt n = y) : AW d E K k pc (a0 :: a1 :: .int x :: L) st G I J ↔ AW d E K k pc2 (a0 :: kil a1 :: .int (x + y) :: L) st G I J := by
  subst hp; subst hy; exact aw_gs ((stp_eq D rfl).trans rfl) (by simp only [List.length_cons]; omega)
theorem aw_iinc_3 {a0 a1 a2 : Value} {x y : Int32} {n : Int} (D : decode (byt k) pc = .ok (.iinc 3 n, 3)) (hp : pc + 3 = pc2) (hy : Int32.ofInt n = y) : AW d E K k pc (a0 :: a1 :: a2 :: .int x :: L) st G I J ↔ AW d E K k pc2 (a0 :: a1 :: kil a2 :: .int (x + y) :: L) st G I J := by
  subst hp; subst hy; exact aw_gs ((stp_eq D rfl).trans rfl) (by simp only [List.length_cons]; omega)
theorem aw_iinc_4 {a0 a1 a2 a3 : Value} {x y : Int32} {n : Int} (D : decode (byt k) pc = .ok (.iinc 4 n, 3)) (hp : pc + 3 = pc2) (hy : Int32.ofInt n = y) : AW d E K k pc (a0 :: a1 :: a2 :: a3 :: .int x :: L) st G I J ↔ AW d E K k pc2 (a0 :: a1 :: a2 :: kil a3 :: .int (x + y) :: L) st G I J := by
  subst hp; subst hy; exact aw_gs ((stp_eq D rfl).trans rfl) (by simp only [List.length_cons]; omega)
theorem aw_iinc_5 {a0 a1 a2 a3 a4 : Value} {x y : Int32} {n : Int} (D : decode (byt k) pc = .ok (.iinc 5 n, 3)) (hp : pc + 3 = pc2) (hy : Int32.ofInt n = y) : AW d E K k pc (a0 :: a1 :: a2 :: a3 :: a4 :: .int x :: L) st G I J ↔ AW d E K k pc2 (a0 :: a1 :: a2 :: a3 :: kil a4 :: .int (x + y) :: L) st G I J := by
  subst hp; subst hy; exact aw_gs ((stp_eq D rfl).trans rfl) (by simp only [List.length_cons]; omega)
theorem aw_iinc_6 {a0 a1 a2 a3 a4 a5 : Value} {x y : Int32} {n : Int} (D : decode (byt k) pc = .ok (.iinc 6 n, 3)) (hp : pc + 3 = pc2) (hy : Int32.ofInt n = y) : AW d E K k pc (a0 :: a1 :: a2 :: a3 :: a4 :: a5 :: .int x :: L) st G I J ↔ AW d E K k pc2 (a0 :: a1 :: a2 :: a3 :: a4 :: kil a5 :: .int (x + y) :: L) st G I J := by
  subst hp; subst hy; exact aw_gs ((stp_eq D rfl).trans rfl) (by simp only [List.length_cons]; omega)
theorem aw_iinc_7 {a0 a1 a2 a3 a4 a5 a6 : Value} {x y : Int32} {n : Int} (D : decode (byt k) pc = .ok (.iinc 7 n, 3)) (hp : pc + 3 = pc2) (hy : Int32.ofInt n = y) : AW d E K k pc (a0 :: a1 :: a2 :: a3 :: a4 :: a5 :: a6 :: .int x :: L) st G I J ↔ AW d E K k pc2 (a0 :: a1 :: a2 :: a3 :: a4 :: a5 :: kil a6 :: .int (x + y) :: L) st G I J := by
  subst hp; subst hy; exact aw_gs ((stp_eq D rfl).trans rfl) (by simp only [List.length_cons]; omega)
theorem aw_iinc_8 {a0 a1 a2 a3 a4 a5 a6 a7 : Value} {x y : Int32} {n : Int} (D : decode (byt k) pc = .ok (.iinc 8 n, 3)) (hp : pc + 3 = pc2) (hy : Int32.ofInt n = y) : AW d E K k pc (a0 :: a1 :: a2 :: a3 :: a4 :: a5 :: a6 :: a7 :: .int x :: L) st G I J ↔ AW d E K k pc2 (a0 :: a1 :: a2 :: a3 :: a4 :: a5 :: a6 :: kil a7 :: .int (x + y) :: L) st G I J := by
  subst hp; subst hy; exact aw_gs ((stp_eq D rfl).trans rfl) (by simp only [List.length_cons]; omega)
theorem aw_iinc_9 {a0 a1 a2 a3 a4 a5 a6 a7 a8 : Value} {x y : Int32} {n : Int} (D : decode (byt k) pc = .ok (.iinc 9 n, 3)) (hp : pc + 3 = pc2) (hy : Int32.ofInt n = y) : AW d E K k pc (a0 :: a1 :: a2 :: a3 :: a4 :: a5 :: a6 :: a7 :: a8 :: .int x :: L) st G I J ↔ AW d E K k pc2 (a0 :: a1 :: a2 :: a3 :: a4 :: a5 :: a6 :: a7 :: kil a8 :: .int (x + y) :: L) st G I J := by
  subst hp; subst hy; exact aw_gs ((stp_eq D rfl).trans rfl) (by simp only [List.length_cons]; omega)
theorem aw_iinc_10 {a0 a1 a2 a3 a4 a5 a6 a7 a8 a9 : Value} {x y : Int32} {n : Int} (D : decode (byt k) pc = .ok (.iinc 10 n, 3)) (hp : pc + 3 = pc2) (hy : Int32.ofInt n = y) : AW d E K k pc (a0 :: a1 :: a2 :: a3 :: a4 :: a5 :: a6 :: a7 :: a8 :: a9 :: .int x :: L) st G I J ↔ AW d E K k pc2 (a0 :: a1 :: a2 :: a3 :: a4 :: a5 :: a6 :: a7 :: a8 :: kil a9 :: .int (x + y) :: L) st G I J := by
  subst hp; subst hy; exact aw_gs ((stp_eq D rfl).trans rfl) (by simp only [List.length_cons]; omega)
theorem aw_iinc_11 {a0 a1 a2 a3 a4 a5 a6 a7 a8 a9 a10 : Value} {x y : Int32} {n : Int} (D : decode (byt k) pc = .ok (.iinc 11 n, 3)) (hp : pc + 3 = pc2) (hy : Int32.ofInt n = y) : AW d E K k pc (a0 :: a1 :: a2 :: a3 :: a4 :: a5 :: a6 :: a7 :: a8 :: a9 :: a10 :: .int x :: L) st G I J ↔ AW d E K k pc2 (a0 :: a1 :: a2 :: a3 :: a4 :: a5 :: a6 :: a7 :: a8 :: a9 :: kil a10 :: .int (x + y) :: L) st G I J := by
  subst hp; subst hy; exact aw_gs ((stp_eq D rfl).trans rfl) (by simp only [List.length_cons]; omega)
theorem aw_iinc_12 {a0 a1 a2 a3 a4 a5 a6 a7 a8 a9 a10 a11 : Value} {x y : Int32} {n : Int} (D : decode (byt k) pc = .ok (.iinc 12 n, 3)) (hp : pc + 3 = pc2) (hy : Int32.ofInt n = y) : AW d E K k pc (a0 :: a1 :: a2 :: a3 :: a4 :: a5 :: a6 :: a7 :: a8 :: a9 :: a10 :: a11 :: .int x :: L) st G I J ↔ AW d E K k pc2 (a0 :: a1 :: a2 :: a3 :: a4 :: a5 :: a6 :: a7 :: a8 :: a9 :: a10 :: kil a11 :: .int (x + y) :: L) st G I J := by
  subst hp; subst hy; exact aw_gs ((stp_eq D rfl).trans rfl) (by simp only [List.length_cons]; omega)
theorem aw_iinc_13 {a0 a1 a2 a3 a4 a5 a6 a7 a8 a9 a10 a11 a12 : Value} {x y : Int32} {n : Int} (D : decode (byt k) pc = .ok (.iinc 13 n, 3)) (hp : pc + 3 = pc2) (hy : Int32.ofInt n = y) : AW d E K k pc (a0 :: a1 :: a2 :: a3 :: a4 :: a5 :: a6 :: a7 :: a8 :: a9 :: a10 :: a11 :: a12 :: .int x :: L) st G I J ↔ AW d E K k pc2 (a0 :: a1 :: a2 :: a3 :: a4 :: a5 :: a6 :: a7 :: a8 :: a9 :: a10 :: a11 :: kil a12 :: .int (x + y) :: L) st G I J := by
  subst hp; subst hy; exact aw_gs ((stp_eq D rfl).trans rfl) (by simp only [List.length_cons]; omega)
theorem aw_iinc_14 {a0 a1 a2 a3 a4 a5 a6 a7 a8 a9 a10 a11 a12 a13 : Value} {x y : Int32} {n : Int} (D : decode (byt k) pc = .ok (.iinc 14 n, 3)) (hp : pc + 3 = pc2) (hy : Int32.ofInt n = y) : AW d E K k pc (a0 :: a1 :: a2 :: a3 :: a4 :: a5 :: a6 :: a7 :: a8 :: a9 :: a10 :: a11 :: a12 :: a13 :: .int x :: L) st G I J ↔ AW d E K k pc2 (a0 :: a1 :: a2 :: a3 :: a4 :: a5 :: a6 :: a7 :: a8 :: a9 :: a10 :: a11 :: a12 :: kil a13 :: .int (x + y) :: L) st G I J := by
  subst hp; subst hy; exact aw_gs ((stp_eq D rfl).trans rfl) (by simp only [List.length_cons]; omega)
theorem aw_iinc_15 {a0 a1 a2 a3 a4 a5 a6 a7 a8 a9 a10 a11 a12 a13 a14 : Value} {x y : Int32} {n : Int} (D : decode (byt k) pc = .ok (.iinc 15 n, 3)) (hp : pc + 3 = pc2) (hy : Int32.ofInt n = y) : AW d E K k pc (a0 :: a1 :: a2 :: a3 :: a4 :: a5 :: a6 :: a7 :: a8 :: a9 :: a10 :: a11 :: a12 :: a13 :: a14 :: .int x :: L) st G I J ↔ AW d E K k pc2 (a0 :: a1 :: a2 :: a3 :: a4 :: a5 :: a6 :: a7 :: a8 :: a9 :: a10 :: a11 :: a12 :: a13 :: kil a14 :: .int (x + y) :: L) st G I J := by
  subst hp; subst hy; exact aw_gs ((stp_eq D rfl).trans rfl) (by simp only [List.length_cons]; omega)
theorem aw_iconst {n : Int} {y : Int32} (D : decode (byt k) pc = .ok (.iconst n, 1)) (hp : pc + 1 = pc2) (hy : Int32.ofInt n = y) : AW d E K k pc L (st) G I J ↔ AW d E K k pc2 L (.int y :: st) G I J := by
  subst hp; subst hy; exact aw_go ((stp_eq D rfl).trans rfl)
theorem aw_bipush {n : Int} {y : Int32} (D : decode (byt k) pc = .ok (.bipush n, 2)) (hp : pc + 2 = pc2) (hy : (Int8.ofInt n).toInt32 = y) : AW d E K k pc L (st) G I J ↔ AW d E K k pc2 L (.int y :: st) G I J := by
  subst hp; subst hy; exact aw_go ((stp_eq D rfl).trans rfl)
theorem aw_sipush {n : Int} {y : Int32} (D : decode (byt k) pc = .ok (.sipush n, 3)) (hp : pc + 3 = pc2) (hy : (Int16.ofInt n).toInt32 = y) : AW d E K k pc L (st) G I J ↔ AW d E K k pc2 L (.int y :: st) G I J := by
  subst hp; subst hy; exact aw_go ((stp_eq D rfl).trans rfl)
theorem aw_lconst {n : Fin 2} {y : Int64} (D : decode (byt k) pc = .ok (.lconst n, 1)) (hp : pc + 1 = pc2) (hy : Int64.ofNat n = y) : AW d E K k pc L (st) G I J ↔ AW d E K k pc2 L (.long y :: st) G I J := by
  subst hp; subst hy; exact aw_go ((stp_eq D rfl).trans rfl)
theorem aw_null (D : decode (byt k) pc = .ok (.aconst_null, 1)) (hp : pc + 1 = pc2) : AW d E K k pc L (st) G I J ↔ AW d E K k pc2 L (.null :: st) G I J := by
  subst hp; exact aw_go ((stp_eq D rfl).trans rfl)
theorem aw_iadd {x y : Int32} (D : decode (byt k) pc = .ok (.iadd, 1)) (hp : pc + 1 = pc2) : AW d E K k pc L (.int y :: .int x :: st) G I J ↔ AW d E K k pc2 L (.int (x + y) :: st) G I J := by
  subst hp; exact aw_go ((stp_eq D rfl).trans rfl)
theorem aw_isub {x y : Int32} (D : decode (byt k) pc = .ok (.isub, 1)) (hp : pc + 1 = pc2) : AW d E K k pc L (.int y :: .int x :: st) G I J ↔ AW d E K k pc2 L (.int (x - y) :: st) G I J := by
  subst hp; exact aw_go ((stp_eq D rfl).trans rfl)
theorem aw_imul {x y : Int32} (D : decode (byt k) pc = .ok (.imul, 1)) (hp : pc + 1 = pc2) : AW d E K k pc L (.int y :: .int x :: st) G I J ↔ AW d E K k pc2 L (.int (x * y) :: st) G I J := by
  subst hp; exact aw_go ((stp_eq D rfl).trans rfl)
theorem aw_iand {x y : Int32} (D : decode (byt k) pc = .ok (.iand, 1)) (hp : pc + 1 = pc2) : AW d E K k pc L (.int y :: .int x :: st) G I J ↔ AW d E K k pc2 L (.int (x &&& y) :: st) G I J := by
  subst hp; exact aw_go ((stp_eq D rfl).trans rfl)
theorem aw_ior {x y : Int32} (D : decode (byt k) pc = .ok (.ior, 1)) (hp : pc + 1 = pc2) : AW d E K k pc L (.int y :: .int x :: st) G I J ↔ AW d E K k pc2 L (.int (x ||| y) :: st) G I J := by
  subst hp; exact aw_go ((stp_eq D rfl).trans rfl)
theorem aw_ixor {x y : Int32} (D : decode (byt k) pc = .ok (.ixor, 1)) (hp : pc + 1 = pc2) : AW d E K k pc L (.int y :: .int x :: st) G I J ↔ AW d E K k pc2 L (.int (x ^^^ y) :: st) G I J := by
  subst hp; exact aw_go ((stp_eq D rfl).trans rfl)
theorem aw_ishl {x y : Int32} (D : decode (byt k) pc = .ok (.ishl, 1)) (hp : pc + 1 = pc2) : AW d E K k pc L (.int y :: .int x :: st) G I J ↔ AW d E K k pc2 L (.int (x <<< (y &&& 31)) :: st) G I J := by
  subst hp; exact aw_go ((stp_eq D rfl).trans rfl)
theorem aw_ishr {x y : Int32} (D : decode (byt k) pc = .ok (.ishr, 1)) (hp : pc + 1 = pc2) : AW d E K k pc L (.int y :: .int x :: st) G I J ↔ AW d E K k pc2 L (.int (x >>> (y &&& 31)) :: st) G I J := by
  subst hp; exact aw_go ((stp_eq D rfl).trans rfl)
theorem aw_iushr {x y : Int32} (D : decode (byt k) pc = .ok (.iushr, 1)) (hp : pc + 1 = pc2) : AW d E K k pc L (.int y :: .int x :: st) G I J ↔ AW d E K k pc2 L (.int ((x.toUInt32 >>> (y.toUInt32 &&& Int32.toUInt32 31)).toInt32) :: st) G I J := by
  subst hp; exact aw_go ((stp_eq D rfl).trans rfl)
theorem aw_ladd {x y : Int64} (D : decode (byt k) pc = .ok (.ladd, 1)) (hp : pc + 1 = pc2) : AW d E K k pc L (.long y :: .long x :: st) G I J ↔ AW d E K k pc2 L (.long (x + y) :: st) G I J := by
  subst hp; exact aw_go ((stp_eq D rfl).trans rfl)
theorem aw_lsub {x y : Int64} (D : decode (byt k) pc = .ok (.lsub, 1)) (hp : pc + 1 = pc2) : AW d E K k pc L (.long y :: .long x :: st) G I J ↔ AW d E K k pc2 L (.long (x - y) :: st) G I J := by
  subst hp; exact aw_go ((stp_eq D rfl).trans rfl)
theorem aw_lmul {x y : Int64} (D : decode (byt k) pc = .ok (.lmul, 1)) (hp : pc + 1 = pc2) : AW d E K k pc L (.long y :: .long x :: st) G I J ↔ AW d E K k pc2 L (.long (x * y) :: st) G I J := by
  subst hp; exact aw_go ((stp_eq D rfl).trans rfl)
theorem aw_land {x y : Int64} (D : decode (byt k) pc = .ok (.land, 1)) (hp : pc + 1 = pc2) : AW d E K k pc L (.long y :: .long x :: st) G I J ↔ AW d E K k pc2 L (.long (x &&& y) :: st) G I J := by
  subst hp; exact aw_go ((stp_eq D rfl).trans rfl)
theorem aw_lor {x y : Int64} (D : decode (byt k) pc = .ok (.lor, 1)) (hp : pc + 1 = pc2) : AW d E K k pc L (.long y :: .long x :: st) G I J ↔ AW d E K k pc2 L (.long (x ||| y) :: st) G I J := by
  subst hp; exact aw_go ((stp_eq D rfl).trans rfl)
theorem aw_lxor {x y : Int64} (D : decode (byt k) pc = .ok (.lxor, 1)) (hp : pc + 1 = pc2) : AW d E K k pc L (.long y :: .long x :: st) G I J ↔ AW d E K k pc2 L (.long (x ^^^ y) :: st) G I J := by
  subst hp; exact aw_go ((stp_eq D rfl).trans rfl)
theorem aw_lshl {x : Int64} {y : Int32} (D : decode (byt k) pc = .ok (.lshl, 1)) (hp : pc + 1 = pc2) : AW d E K k pc L (.int y :: .long x :: st) G I J ↔ AW d E K k pc2 L (.long (x <<< (y.toInt64 &&& 63)) :: st) G I J := by
  subst hp; exact aw_go ((stp_eq D rfl).trans rfl)
theorem aw_lshr {x : Int64} {y : Int32} (D : decode (byt k) pc = .ok (.lshr, 1)) (hp : pc + 1 = pc2) : AW d E K k pc L (.int y :: .long x :: st) G I J ↔ AW d E K k pc2 L (.long (x >>> (y.toInt64 &&& 63)) :: st) G I J := by
  subst hp; exact aw_go ((stp_eq D rfl).trans rfl)
theorem aw_lushr {x : Int64} {y : Int32} (D : decode (byt k) pc = .ok (.lushr, 1)) (hp : pc + 1 = pc2) : AW d E K k pc L (.int y :: .long x :: st) G I J ↔ AW d E K k pc2 L (.long ((x.toUInt64 >>> (y.toInt64.toUInt64 &&& Int64.toUInt64 63)).toInt64) :: st) G I J := by
  subst hp; exact aw_go ((stp_eq D rfl).trans rfl)
theorem aw_lcmp {x y : Int64} (D : decode (byt k) pc = .ok (.lcmp, 1)) (hp : pc + 1 = pc2) : AW d E K k pc L (.long y :: .long x :: st) G I J ↔ AW d E K k pc2 L (.int (lg_cmp x y) :: st) G I J := by
  subst hp; exact aw_go ((stp_eq D rfl).trans rfl)
theorem aw_ineg {x : Int32} (D : decode (byt k) pc = .ok (.ineg, 1)) (hp : pc + 1 = pc2) : AW d E K k pc L (.int x :: st) G I J ↔ AW d E K k pc2 L (.int (-x) :: st) G I J := by
  subst hp; exact aw_go ((stp_eq D rfl).trans rfl)
theorem aw_i2l {x : Int32} (D : decode (byt k) pc = .ok (.i2l, 1)) (hp : pc + 1 = pc2) : AW d E K k pc L (.int x :: st) G I J ↔ AW d E K k pc2 L (.long x.toInt64 :: st) G I J := by
  subst hp; exact aw_go ((stp_eq D rfl).trans rfl)
theorem aw_l2i {x : Int64} (D : decode (byt k) pc = .ok (.l2i, 1)) (hp : pc + 1 = pc2) : AW d E K k pc L (.long x :: st) G I J ↔ AW d E K k pc2 L (.int x.toInt32 :: st) G I J := by
  subst hp; exact aw_go ((stp_eq D rfl).trans rfl)
theorem aw_idiv {x y : Int32} (D : decode (byt k) pc = .ok (.idiv, 1)) (hp : pc + 1 = pc2) : AW d E K k pc L (.int y :: .int x :: st) G I J ↔ (¬ y = 0) ∧ AW d E K k pc2 L (.int (x / y) :: st) G I J := by
  subst hp; exact aw_gt ((stp_eq D rfl).trans (rfl))
theorem aw_irem {x y : Int32} (D : decode (byt k) pc = .ok (.irem, 1)) (hp : pc + 1 = pc2) : AW d E K k pc L (.int y :: .int x :: st) G I J ↔ (¬ y = 0) ∧ AW d E K k pc2 L (.int (x - x / y * y) :: st) G I J := by
  subst hp; exact aw_gt ((stp_eq D rfl).trans (rfl))
theorem aw_ldiv {x y : Int64} (D : decode (byt k) pc = .ok (.ldiv, 1)) (hp : pc + 1 = pc2) : AW d E K k pc L (.long y :: .long x :: st) G I J ↔ (¬ y = 0) ∧ AW d E K k pc2 L (.long (x / y) :: st) G I J := by
  subst hp; exact aw_gt ((stp_eq D rfl).trans (rfl))
theorem aw_lrem {x y : Int64} (D : decode (byt k) pc = .ok (.lrem, 1)) (hp : pc + 1 = pc2) : AW d E K k pc L (.long y :: .long x :: st) G I J ↔ (¬ y = 0) ∧ AW d E K k pc2 L (.long (x - x / y * y) :: st) G I J := by
  subst hp; exact aw_gt ((stp_eq D rfl).trans (rfl))
theorem aw_iaload {j : Int32} {c : Nat} (D : decode (byt k) pc = .ok (.iaload, 1)) (hp : pc + 1 = pc2) : AW d E K k pc L (.int j :: .ref c :: st) G I J ↔ (iOK (shp G c) j) ∧ AW d E K k pc2 L (.int (I c j.toNatClampNeg) :: st) G I J := by
  subst hp; exact aw_gt ((stp_eq D rfl).trans (rfl))
theorem aw_laload {j : Int32} {c : Nat} (D : decode (byt k) pc = .ok (.laload, 1)) (hp : pc + 1 = pc2) : AW d E K k pc L (.int j :: .ref c :: st) G I J ↔ (jOK (shp G c) j) ∧ AW d E K k pc2 L (.long (J c j.toNatClampNeg) :: st) G I J := by
  subst hp; exact aw_gt ((stp_eq D rfl).trans (rfl))
theorem aw_baload {j : Int32} {c : Nat} (D : decode (byt k) pc = .ok (.baload, 1)) (hp : pc + 1 = pc2) : AW d E K k pc L (.int j :: .ref c :: st) G I J ↔ (wOK (shp G c) 3 j) ∧ AW d E K k pc2 L (.int (I c j.toNatClampNeg) :: st) G I J := by
  subst hp; exact aw_gt ((stp_eq D rfl).trans (rfl))
theorem aw_aaload {j : Int32} {c : Nat} (D : decode (byt k) pc = .ok (.aaload, 1)) (hp : pc + 1 = pc2) : AW d E K k pc L (.int j :: .ref c :: st) G I J ↔ (wOK (shp G c) 4 j) ∧ AW d E K k pc2 L (refV (G.2.2.2 c j.toNatClampNeg) :: st) G I J := by
  subst hp; exact aw_gt ((stp_eq D rfl).trans (rfl))
theorem aw_iastore {x j : Int32} {c : Nat} (D : decode (byt k) pc = .ok (.iastore, 1)) (hp : pc + 1 = pc2) : AW d E K k pc L (.int x :: .int j :: .ref c :: st) G I J ↔ (wOK (shp G c) 1 j) ∧ AW d E K k pc2 L (st) G (up2 I c j.toNatClampNeg x) J := by
  subst hp; exact aw_gt ((stp_eq D rfl).trans (rfl))
theorem aw_lastore {x : Int64} {j : Int32} {c : Nat} (D : decode (byt k) pc = .ok (.lastore, 1)) (hp : pc + 1 = pc2) : AW d E K k pc L (.long x :: .int j :: .ref c :: st) G I J ↔ (wOK (shp G c) 2 j) ∧ AW d E K k pc2 L (st) G I (up2 J c j.toNatClampNeg x) := by
  subst hp; exact aw_gt ((stp_eq D rfl).trans (rfl))
theorem aw_bastore {x j : Int32} {c : Nat} (D : decode (byt k) pc = .ok (.bastore, 1)) (hp : pc + 1 = pc2) : AW d E K k pc L (.int x :: .int j :: .ref c :: st) G I J ↔ (wOK (shp G c) 3 j ∧ (x = 0 ∨ x = 1)) ∧ AW d E K k pc2 L (st) G (up2 I c j.toNatClampNeg x) J := by
  subst hp; exact aw_gt ((stp_eq D rfl).trans (rfl))
theorem aw_aastore {j : Int32} {v c : Nat} (D : decode (byt k) pc = .ok (.aastore, 1)) (hp : pc + 1 = pc2) : AW d E K k pc L (.ref v :: .int j :: .ref c :: st) G I J ↔ (wOK (shp G c) 4 j ∧ shp G v = (0, 2)) ∧ AW d E K k pc2 L (st) (putR G c j.toNatClampNeg v) I J := by
  subst hp; exact aw_gt ((stp_eq D rfl).trans (rfl))
theorem aw_alen {c : Nat} (D : decode (byt k) pc = .ok (.arraylength, 1)) (hp : pc + 1 = pc2) : AW d E K k pc L (.ref c :: st) G I J ↔ (lOK (shp G c)) ∧ AW d E K k pc2 L (.int (Int32.ofNat (shp G c).2) :: st) G I J := by
  subst hp; exact aw_gt ((stp_eq D rfl).trans (rfl))
theorem aw_dup {v : Value} (D : decode (byt k) pc = .ok (.dup, 1)) (hp : pc + 1 = pc2) : AW d E K k pc L (v :: st) G I J ↔ (v.category = 1) ∧ AW d E K k pc2 L (v :: v :: st) G I J := by
  subst hp; exact aw_gt ((stp_eq D rfl).trans (rfl))
theorem aw_dup2 {a b : Value} (D : decode (byt k) pc = .ok (.dup2, 1)) (hp : pc + 1 = pc2) : AW d E K k pc L (a :: b :: st) G I J ↔ (a.category = 1 ∧ b.category = 1) ∧ AW d E K k pc2 L (a :: b :: a :: b :: st) G I J := by
  subst hp; exact aw_gt ((stp_eq D rfl).trans (rfl))
theorem aw_pop {v : Value} (D : decode (byt k) pc = .ok (.pop, 1)) (hp : pc + 1 = pc2) : AW d E K k pc L (v :: st) G I J ↔ (v.category = 1) ∧ AW d E K k pc2 L (st) G I J := by
  subst hp; exact aw_gt ((stp_eq D rfl).trans (rfl))
theorem aw_ldc {x : Nat} {v : Int32} (D : decode (byt k) pc = .ok (.ldc x, 2)) (hp : pc + 2 = pc2) (hv : ldcT (ocl k) x = some v) : AW d E K k pc L st G I J ↔ AW d E K k pc2 L (.int v :: st) G I J := by
  subst hp; refine aw_go ((stp_eq D rfl).trans ?_)
  show (match ldcT (ocl k) x with | some v => _ | none => none) = _
  rw [hv]
theorem aw_ldc_w {x : Nat} {v : Int32} (D : decode (byt k) pc = .ok (.ldc_w x, 3)) (hp : pc + 3 = pc2) (hv : ldcT (ocl k) x = some v) : AW d E K k pc L st G I J ↔ AW d E K k pc2 L (.int v :: st) G I J := by
  subst hp; refine aw_go ((stp_eq D rfl).trans ?_)
  show (match ldcT (ocl k) x with | some v => _ | none => none) = _
  rw [hv]
theorem aw_ldc2_w {x : Nat} {v : Int64} (D : decode (byt k) pc = .ok (.ldc2_w x, 3)) (hp : pc + 3 = pc2) (hv : ldlT (ocl k) x = some v) : AW d E K k pc L st G I J ↔ AW d E K k pc2 L (.long v :: st) G I J := by
  subst hp; refine aw_go ((stp_eq D rfl).trans ?_)
  show (match ldlT (ocl k) x with | some v => _ | none => none) = _
  rw [hv]
theorem aw_if_eq {x : Int32} {off : Int} {t : Nat} (D : decode (byt k) pc = .ok (.ifCond .eq off, 3)) (ht : (pc : Int) + off = (t : Int)) (hp : pc + 3 = pc2) : AW d E K k pc L (.int x :: st) G I J ↔ if x = 0 then AW d E K k t L st G I J else AW d E K k pc2 L st G I J := by
  subst hp; exact aw_br _ ((stp_eq D rfl).trans rfl) rfl (tgt_of ht) rfl
theorem aw_if_ne {x : Int32} {off : Int} {t : Nat} (D : decode (byt k) pc = .ok (.ifCond .ne off, 3)) (ht : (pc : Int) + off = (t : Int)) (hp : pc + 3 = pc2) : AW d E K k pc L (.int x :: st) G I J ↔ if ¬ x = 0 then AW d E K k t L st G I J else AW d E K k pc2 L st G I J := by
  subst hp; exact aw_br _ ((stp_eq D rfl).trans rfl) rfl (tgt_of ht) rfl
theorem aw_if_lt {x : Int32} {off : Int} {t : Nat} (D : decode (byt k) pc = .ok (.ifCond .lt off, 3)) (ht : (pc : Int) + off = (t : Int)) (hp : pc + 3 = pc2) : AW d E K k pc L (.int x :: st) G I J ↔ if x < 0 then AW d E K k t L st G I J else AW d E K k pc2 L st G I J := by
  subst hp; exact aw_br _ ((stp_eq D rfl).trans rfl) rfl (tgt_of ht) rfl
theorem aw_if_ge {x : Int32} {off : Int} {t : Nat} (D : decode (byt k) pc = .ok (.ifCond .ge off, 3)) (ht : (pc : Int) + off = (t : Int)) (hp : pc + 3 = pc2) : AW d E K k pc L (.int x :: st) G I J ↔ if 0 ≤ x then AW d E K k t L st G I J else AW d E K k pc2 L st G I J := by
  subst hp; exact aw_br _ ((stp_eq D rfl).trans rfl) rfl (tgt_of ht) rfl
theorem aw_if_gt {x : Int32} {off : Int} {t : Nat} (D : decode (byt k) pc = .ok (.ifCond .gt off, 3)) (ht : (pc : Int) + off = (t : Int)) (hp : pc + 3 = pc2) : AW d E K k pc L (.int x :: st) G I J ↔ if 0 < x then AW d E K k t L st G I J else AW d E K k pc2 L st G I J := by
  subst hp; exact aw_br _ ((stp_eq D rfl).trans rfl) rfl (tgt_of ht) rfl
theorem aw_if_le {x : Int32} {off : Int} {t : Nat} (D : decode (byt k) pc = .ok (.ifCond .le off, 3)) (ht : (pc : Int) + off = (t : Int)) (hp : pc + 3 = pc2) : AW d E K k pc L (.int x :: st) G I J ↔ if x ≤ 0 then AW d E K k t L st G I J else AW d E K k pc2 L st G I J := by
  subst hp; exact aw_br _ ((stp_eq D rfl).trans rfl) rfl (tgt_of ht) rfl
theorem aw_icmp_eq {x y : Int32} {off : Int} {t : Nat} (D : decode (byt k) pc = .ok (.if_icmp .eq off, 3)) (ht : (pc : Int) + off = (t : Int)) (hp : pc + 3 = pc2) : AW d E K k pc L (.int y :: .int x :: st) G I J ↔ if x = y then AW d E K k t L st G I J else AW d E K k pc2 L st G I J := by
  subst hp; exact aw_br _ ((stp_eq D rfl).trans rfl) rfl (tgt_of ht) rfl
theorem aw_icmp_ne {x y : Int32} {off : Int} {t : Nat} (D : decode (byt k) pc = .ok (.if_icmp .ne off, 3)) (ht : (pc : Int) + off = (t : Int)) (hp : pc + 3 = pc2) : AW d E K k pc L (.int y :: .int x :: st) G I J ↔ if ¬ x = y then AW d E K k t L st G I J else AW d E K k pc2 L st G I J := by
  subst hp; exact aw_br _ ((stp_eq D rfl).trans rfl) rfl (tgt_of ht) rfl
theorem aw_icmp_lt {x y : Int32} {off : Int} {t : Nat} (D : decode (byt k) pc = .ok (.if_icmp .lt off, 3)) (ht : (pc : Int) + off = (t : Int)) (hp : pc + 3 = pc2) : AW d E K k pc L (.int y :: .int x :: st) G I J ↔ if x < y then AW d E K k t L st G I J else AW d E K k pc2 L st G I J := by
  subst hp; exact aw_br _ ((stp_eq D rfl).trans rfl) rfl (tgt_of ht) rfl
theorem aw_icmp_ge {x y : Int32} {off : Int} {t : Nat} (D : decode (byt k) pc = .ok (.if_icmp .ge off, 3)) (ht : (pc : Int) + off = (t : Int)) (hp : pc + 3 = pc2) : AW d E K k pc L (.int y :: .int x :: st) G I J ↔ if y ≤ x then AW d E K k t L st G I J else AW d E K k pc2 L st G I J := by
  subst hp; exact aw_br _ ((stp_eq D rfl).trans rfl) rfl (tgt_of ht) rfl
theorem aw_icmp_gt {x y : Int32} {off : Int} {t : Nat} (D : decode (byt k) pc = .ok (.if_icmp .gt off, 3)) (ht : (pc : Int) + off = (t : Int)) (hp : pc + 3 = pc2) : AW d E K k pc L (.int y :: .int x :: st) G I J ↔ if y < x then AW d E K k t L st G I J else AW d E K k pc2 L st G I J := by
  subst hp; exact aw_br _ ((stp_eq D rfl).trans rfl) rfl (tgt_of ht) rfl
theorem aw_icmp_le {x y : Int32} {off : Int} {t : Nat} (D : decode (byt k) pc = .ok (.if_icmp .le off, 3)) (ht : (pc : Int) + off = (t : Int)) (hp : pc + 3 = pc2) : AW d E K k pc L (.int y :: .int x :: st) G I J ↔ if x ≤ y then AW d E K k t L st G I J else AW d E K k pc2 L st G I J := by
  subst hp; exact aw_br _ ((stp_eq D rfl).trans rfl) rfl (tgt_of ht) rfl
theorem goTo_of {t : Option Nat} {u : Nat} (h : t = some u) : goTo t L st G I J = rN u L st G I J := by rw [h]; rfl
theorem aw_goto {off : Int} {t : Nat} (D : decode (byt k) pc = .ok (.goto off, 3)) (ht : (pc : Int) + off = (t : Int)) : AW d E K k pc L st G I J ↔ AW d E K k t L st G I J := aw_go ((stp_eq D rfl).trans (goTo_of (tgt_of ht)))
theorem aw_ifnullN {off : Int} {t : Nat} (D : decode (byt k) pc = .ok (.ifnull off, 3)) (ht : (pc : Int) + off = (t : Int)) : AW d E K k pc L (.null :: st) G I J ↔ AW d E K k t L st G I J := aw_go ((stp_eq D rfl).trans (goTo_of (tgt_of ht)))
theorem aw_ifnull {off : Int} {c : Nat} (D : decode (byt k) pc = .ok (.ifnull off, 3)) (hp : pc + 3 = pc2) : AW d E K k pc L (.ref c :: st) G I J ↔ AW d E K k pc2 L st G I J := by
  subst hp; exact aw_go ((stp_eq D rfl).trans rfl)
theorem aw_ifnonnull {off : Int} {t c : Nat} (D : decode (byt k) pc = .ok (.ifnonnull off, 3)) (ht : (pc : Int) + off = (t : Int)) : AW d E K k pc L (.ref c :: st) G I J ↔ AW d E K k t L st G I J := aw_go ((stp_eq D rfl).trans (goTo_of (tgt_of ht)))
theorem aw_ifnonnullN {off : Int} (D : decode (byt k) pc = .ok (.ifnonnull off, 3)) (hp : pc + 3 = pc2) : AW d E K k pc L (.null :: st) G I J ↔ AW d E K k pc2 L st G I J := by
  subst hp; exact aw_go ((stp_eq D rfl).trans rfl)
theorem aw_tabOut {x : Int32} {dd lo hi : Int} {offs : Array Int} {len t : Nat} (D : decode (byt k) pc = .ok (.tableswitch dd lo hi offs, len)) (h : x.toInt < lo ∨ hi < x.toInt) (ht : (pc : Int) + dd = (t : Int)) : AW d E K k pc L (.int x :: st) G I J ↔ AW d E K k t L st G I J := by
  refine aw_go ((stp_eq D rfl).trans ?_)
  show (if x.toInt < lo ∨ hi < x.toInt then _ else _) = _
  rw [if_pos h]
  exact goTo_of (tgt_of ht)
theorem aw_tabIn {x : Int32} {dd lo hi off : Int} {offs : Array Int} {len t j : Nat} (D : decode (byt k) pc = .ok (.tableswitch dd lo hi offs, len)) (h : x.toInt = lo + (j : Int)) (hj : lo + (j : Int) ≤ hi) (ho : offs[j]? = some off) (ht : (pc : Int) + off = (t : Int)) : AW d E K k pc L (.int x :: st) G I J ↔ AW d E K k t L st G I J := by
  refine aw_go ((stp_eq D rfl).trans ?_)
  show (if x.toInt < lo ∨ hi < x.toInt then _ else _) = _
  rw [if_neg (by omega), h, show (lo + (j : Int) - lo).toNat = j by omega, ho]
  exact goTo_of (tgt_of ht)
theorem aw_getI {x ci fk c : Nat} (D : decode (byt k) pc = .ok (.getfield x, 3)) (hp : pc + 3 = pc2) (hf : fldT (ocl k) x = some (ci, fk)) (ht : (fty ci fk == 2) = false) : AW d E K k pc L (.ref c :: st) G I J ↔ shp G c = (0, ci) ∧ AW d E K k pc2 L (.int (I c fk) :: st) G I J := by
  subst hp
  refine aw_gt ((stp_eq D rfl).trans ?_)
  show doGet k pc (fldT (ocl k) x) L _ G I J = _
  rw [hf]
  show gteP _ (rN (pc + 3) L (fvl G I c ci fk :: st) G I J) = _
  rw [show fvl G I c ci fk = .int (I c fk) by unfold fvl; split <;> simp_all]
theorem aw_getR {x ci fk c : Nat} (D : decode (byt k) pc = .ok (.getfield x, 3)) (hp : pc + 3 = pc2) (hf : fldT (ocl k) x = some (ci, fk)) (ht : (fty ci fk == 2) = true) : AW d E K k pc L (.ref c :: st) G I J ↔ shp G c = (0, ci) ∧ AW d E K k pc2 L (refV (G.2.2.2 c fk) :: st) G I J := by
  subst hp
  refine aw_gt ((stp_eq D rfl).trans ?_)
  show doGet k pc (fldT (ocl k) x) L _ G I J = _
  rw [hf]
  show gteP _ (rN (pc + 3) L (fvl G I c ci fk :: st) G I J) = _
  rw [show fvl G I c ci fk = refV (G.2.2.2 c fk) by unfold fvl; split <;> simp_all]
theorem aw_putI {x ci fk c : Nat} {v : Int32} (D : decode (byt k) pc = .ok (.putfield x, 3)) (hp : pc + 3 = pc2) (hf : fldT (ocl k) x = some (ci, fk)) (ht : fty ci fk = 0) : AW d E K k pc L (.int v :: .ref c :: st) G I J ↔ shp G c = (0, ci) ∧ AW d E K k pc2 L st G (up2 I c fk v) J := by
  subst hp
  refine (aw_gt ((stp_eq D rfl).trans (show doPut k pc (fldT (ocl k) x) L _ G I J = gteP _ (rN (pc + 3) L st G (up2 I c fk v) J) by rw [hf]; exact rfl))).trans ?_
  constructor
  · intro q; exact ⟨q.1.1, q.2⟩
  · intro q; exact ⟨⟨q.1, Or.inl ht⟩, q.2⟩
theorem aw_putZ {x ci fk c : Nat} {v : Int32} (D : decode (byt k) pc = .ok (.putfield x, 3)) (hp : pc + 3 = pc2) (hf : fldT (ocl k) x = some (ci, fk)) (ht : fty ci fk = 1) : AW d E K k pc L (.int v :: .ref c :: st) G I J ↔ (shp G c = (0, ci) ∧ (v = 0 ∨ v = 1)) ∧ AW d E K k pc2 L st G (up2 I c fk v) J := by
  subst hp
  refine (aw_gt ((stp_eq D rfl).trans (show doPut k pc (fldT (ocl k) x) L _ G I J = gteP _ (rN (pc + 3) L st G (up2 I c fk v) J) by rw [hf]; exact rfl))).trans ?_
  constructor
  · intro q; exact ⟨⟨q.1.1, by rcases q.1.2 with z | z; exact absurd (ht.symm.trans z) (by decide); exact z.2⟩, q.2⟩
  · intro q; exact ⟨⟨q.1.1, Or.inr ⟨ht, q.1.2⟩⟩, q.2⟩
theorem aw_putR {x ci fk c v : Nat} (D : decode (byt k) pc = .ok (.putfield x, 3)) (hp : pc + 3 = pc2) (hf : fldT (ocl k) x = some (ci, fk)) (ht : fty ci fk = 2 ∧ isCt k = true ∧ ocl k = ci) : AW d E K k pc L (.ref v :: .ref c :: st) G I J ↔ shp G c = (0, ci) ∧ AW d E K k pc2 L st (putR G c fk v) I J := by
  subst hp
  refine (aw_gt ((stp_eq D rfl).trans (show doPut k pc (fldT (ocl k) x) L _ G I J = gteP _ (rN (pc + 3) L st (putR G c fk v) I J) by rw [hf]; exact rfl))).trans ?_
  constructor
  · intro q; exact ⟨q.1.1, q.2⟩
  · intro q; exact ⟨⟨q.1, ht⟩, q.2⟩
theorem aw_getS {x : Nat} (D : decode (byt k) pc = .ok (.getstatic x, 3)) (hp : pc + 3 = pc2) (hf : ocl k = 6 ∧ x = 256) : AW d E K k pc L st G I J ↔ AW d E K k pc2 L (.ref patC :: st) G I J := by
  subst hp
  refine aw_go ((stp_eq D rfl).trans ?_)
  show (if ocl k = 6 ∧ x = 256 then _ else _) = _
  rw [if_pos hf]
theorem aw_new {x ci : Nat} (D : decode (byt k) pc = .ok (.new x, 3)) (hp : pc + 3 = pc2) (hf : newT (ocl k) x = some ci) : AW d E K k pc L st G I J ↔ (G.1 + 1 ≤ E.1 ∧ G.2.1 + nfs ci ≤ E.2) ∧ AW d E K k pc2 L (.ref G.1 :: st) (newO G ci) (up1 I G.1 (fun _ => 0)) J := by
  subst hp
  refine aw_gt ((stp_eq D rfl).trans ?_)
  show doNew pc (newT (ocl k) x) L st G I J E = _
  rw [hf]
  rfl
theorem aw_newa_int {x : Int32} {N : Nat} (D : decode (byt k) pc = .ok (.newarray .int, 2)) (hp : pc + 2 = pc2) (hN : x.toNatClampNeg = N) (h0 : ¬ x < 0 ∧ N ≤ 60000000) : AW d E K k pc L (.int x :: st) G I J ↔ (G.1 + 1 ≤ E.1 ∧ G.2.1 + N ≤ E.2) ∧ AW d E K k pc2 L (.ref G.1 :: st) (newA G 1 N) (up1 I G.1 (fun _ => 0)) J := by
  subst hp; subst hN
  refine (aw_gt ((stp_eq D rfl).trans rfl)).trans ?_
  exact ⟨fun q => ⟨⟨q.1.2.2.1, q.1.2.2.2⟩, q.2⟩, fun q => ⟨⟨h0.1, h0.2, q.1.1, q.1.2⟩, q.2⟩⟩
theorem aw_newa_boolean {x : Int32} {N : Nat} (D : decode (byt k) pc = .ok (.newarray .boolean, 2)) (hp : pc + 2 = pc2) (hN : x.toNatClampNeg = N) (h0 : ¬ x < 0 ∧ N ≤ 60000000) : AW d E K k pc L (.int x :: st) G I J ↔ (G.1 + 1 ≤ E.1 ∧ G.2.1 + N ≤ E.2) ∧ AW d E K k pc2 L (.ref G.1 :: st) (newA G 3 N) (up1 I G.1 (fun _ => 0)) J := by
  subst hp; subst hN
  refine (aw_gt ((stp_eq D rfl).trans rfl)).trans ?_
  exact ⟨fun q => ⟨⟨q.1.2.2.1, q.1.2.2.2⟩, q.2⟩, fun q => ⟨⟨h0.1, h0.2, q.1.1, q.1.2⟩, q.2⟩⟩
theorem aw_newa_long {x : Int32} {N : Nat} (D : decode (byt k) pc = .ok (.newarray .long, 2)) (hp : pc + 2 = pc2) (hN : x.toNatClampNeg = N) (h0 : ¬ x < 0 ∧ N ≤ 60000000) : AW d E K k pc L (.int x :: st) G I J ↔ (G.1 + 1 ≤ E.1 ∧ G.2.1 + N ≤ E.2) ∧ AW d E K k pc2 L (.ref G.1 :: st) (newA G 2 N) I (up1 J G.1 (fun _ => 0)) := by
  subst hp; subst hN
  refine (aw_gt ((stp_eq D rfl).trans rfl)).trans ?_
  exact ⟨fun q => ⟨⟨q.1.2.2.1, q.1.2.2.2⟩, q.2⟩, fun q => ⟨⟨h0.1, h0.2, q.1.1, q.1.2⟩, q.2⟩⟩
theorem aw_newq {y : Nat} {x : Int32} {N : Nat} (D : decode (byt k) pc = .ok (.anewarray y, 3)) (hp : pc + 3 = pc2) (hf : newT (ocl k) y = some 2) (hN : x.toNatClampNeg = N) (h0 : ¬ x < 0 ∧ N ≤ 60000000) : AW d E K k pc L (.int x :: st) G I J ↔ (G.1 + 1 ≤ E.1 ∧ G.2.1 + N ≤ E.2) ∧ AW d E K k pc2 L (.ref G.1 :: st) (newA G 4 N) I J := by
  subst hp; subst hN
  refine (aw_gt ((stp_eq D rfl).trans (show doNewQ pc (newT (ocl k) y) L _ G I J E = gteP _ (rN (pc + 3) L (.ref G.1 :: st) (newA G 4 x.toNatClampNeg) I J) by rw [hf]; exact rfl))).trans ?_
  exact ⟨fun q => ⟨⟨q.1.2.2.1, q.1.2.2.2⟩, q.2⟩, fun q => ⟨⟨h0.1, h0.2, q.1.1, q.1.2⟩, q.2⟩⟩
theorem inv_of {sort x pc0 : Nat} {kd y : Nat} (hc : calT (ocl k) x = some (kd, y)) : doInv sort pc0 (calT (ocl k) x) L st G I J = doInv sort pc0 (some (kd, y)) L st G I J := by rw [hc]
theorem doV_of {y n o : Nat} {as : List Value} {c : Nat} (hn : npr y = n) (ho : ocl y = o) (h1 : as.length = n) : doV y pc L (as ++ .ref c :: st) G = gteP (shp G c = (0, o) ∧ catS st ≤ 8) (rC y (.ref c :: as.reverse) (pc + 3) L st) := by
  unfold doV
  rw [hn, ho, ← h1, List.drop_left, List.take_left]
theorem doI_of {y n : Nat} {as : List Value} {c : Nat} (hn : npr y = n) (h1 : as.length = n) : doI y pc L (as ++ .ref c :: st) = gteP (catS st ≤ 8) (rC y (.ref c :: as.reverse) (pc + 3) L st) := by
  unfold doI
  rw [hn, ← h1, List.drop_left, List.take_left]
theorem doS_of {y n : Nat} {as : List Value} (hn : npr y = n) (h1 : as.length = n) : doS y pc L (as ++ st) = gteP (n ≤ (as ++ st).length ∧ catS st ≤ 8) (rC y as.reverse (pc + 3) L st) := by
  unfold doS
  rw [hn, ← h1, List.drop_left, List.take_left]
theorem aw_iv0_0 {x y o c : Nat} (D : decode (byt k) pc = .ok (.invokevirtual x, 3)) (hp : pc + 3 = pc2) (hc : calT (ocl k) x = some (0, y)) (hn : npr y = 0) (ho : ocl y = o) : AW d E K k pc L (.ref c :: st) G I J ↔ (shp G c = (0, o) ∧ catS st ≤ 8) ∧ ACall d y [.ref c] G I J (fun v G I J => AW d E K k pc2 L (psh v st) G I J) := by
  subst hp
  exact aw_gc ((stp_eq D rfl).trans ((inv_of (sort := 0) (pc0 := pc) hc).trans (doV_of (as := []) hn ho rfl)))
theorem aw_iv0_1 {x y o c : Nat} (D : decode (byt k) pc = .ok (.invokevirtual x, 3)) (hp : pc + 3 = pc2) (hc : calT (ocl k) x = some (1, y)) (hn : npr y = 0) (ho : ocl y = o) : AW d E K k pc L (.ref c :: st) G I J ↔ (shp G c = (0, o) ∧ catS st ≤ 8) ∧ ACall d y [.ref c] G I J (fun v G I J => AW d E K k pc2 L (psh v st) G I J) := by
  subst hp
  exact aw_gc ((stp_eq D rfl).trans ((inv_of (sort := 0) (pc0 := pc) hc).trans (doV_of (as := []) hn ho rfl)))
theorem aw_is0_2 {x y : Nat} (D : decode (byt k) pc = .ok (.invokestatic x, 3)) (hp : pc + 3 = pc2) (hc : calT (ocl k) x = some (2, y)) (hn : npr y = 0) : AW d E K k pc L (st) G I J ↔ catS st ≤ 8 ∧ ACall d y [] G I J (fun v G I J => AW d E K k pc2 L (psh v st) G I J) := by
  subst hp
  refine (aw_gc ((stp_eq D rfl).trans ((inv_of (sort := 1) (pc0 := pc) hc).trans (doS_of (as := []) hn rfl)))).trans ?_
  exact ⟨fun q => ⟨q.1.2, q.2⟩, fun q => ⟨⟨by simp, q.1⟩, q.2⟩⟩
theorem aw_is0_3 {x y : Nat} (D : decode (byt k) pc = .ok (.invokestatic x, 3)) (hp : pc + 3 = pc2) (hc : calT (ocl k) x = some (3, y)) (hn : npr y = 0) : AW d E K k pc L (st) G I J ↔ catS st ≤ 8 ∧ ACall d y [] G I J (fun v G I J => AW d E K k pc2 L (psh v st) G I J) := by
  subst hp
  refine (aw_gc ((stp_eq D rfl).trans ((inv_of (sort := 1) (pc0 := pc) hc).trans (doS_of (as := []) hn rfl)))).trans ?_
  exact ⟨fun q => ⟨q.1.2, q.2⟩, fun q => ⟨⟨by simp, q.1⟩, q.2⟩⟩
theorem aw_ii0_4 {x y c : Nat} (D : decode (byt k) pc = .ok (.invokespecial x, 3)) (hp : pc + 3 = pc2) (hc : calT (ocl k) x = some (4, y)) (hn : npr y = 0) : AW d E K k pc L (.ref c :: st) G I J ↔ catS st ≤ 8 ∧ ACall d y [.ref c] G I J (fun v G I J => AW d E K k pc2 L (psh v st) G I J) := by
  subst hp
  exact aw_gc ((stp_eq D rfl).trans ((inv_of (sort := 2) (pc0 := pc) hc).trans (doI_of (as := []) hn rfl)))
theorem aw_ii0_5 {x y c : Nat} (D : decode (byt k) pc = .ok (.invokespecial x, 3)) (hp : pc + 3 = pc2) (hc : calT (ocl k) x = some (5, y)) (hn : npr y = 0) : AW d E K k pc L (.ref c :: st) G I J ↔ catS st ≤ 8 ∧ ACall d y [.ref c] G I J (fun v G I J => AW d E K k pc2 L (psh v st) G I J) := by
  subst hp
  exact aw_gc ((stp_eq D rfl).trans ((inv_of (sort := 2) (pc0 := pc) hc).trans (doI_of (as := []) hn rfl)))
theorem aw_iv1_0 {a1 : Value} {x y o c : Nat} (D : decode (byt k) pc = .ok (.invokevirtual x, 3)) (hp : pc + 3 = pc2) (hc : calT (ocl k) x = some (0, y)) (hn : npr y = 1) (ho : ocl y = o) : AW d E K k pc L (a1 :: .ref c :: st) G I J ↔ (shp G c = (0, o) ∧ catS st ≤ 8) ∧ ACall d y [.ref c, a1] G I J (fun v G I J => AW d E K k pc2 L (psh v st) G I J) := by
  subst hp
  exact aw_gc ((stp_eq D rfl).trans ((inv_of (sort := 0) (pc0 := pc) hc).trans (doV_of (as := [a1]) hn ho rfl)))
theorem aw_iv1_1 {a1 : Value} {x y o c : Nat} (D : decode (byt k) pc = .ok (.invokevirtual x, 3)) (hp : pc + 3 = pc2) (hc : calT (ocl k) x = some (1, y)) (hn : npr y = 1) (ho : ocl y = o) : AW d E K k pc L (a1 :: .ref c :: st) G I J ↔ (shp G c = (0, o) ∧ catS st ≤ 8) ∧ ACall d y [.ref c, a1] G I J (fun v G I J => AW d E K k pc2 L (psh v st) G I J) := by
  subst hp
  exact aw_gc ((stp_eq D rfl).trans ((inv_of (sort := 0) (pc0 := pc) hc).trans (doV_of (as := [a1]) hn ho rfl)))
theorem aw_is1_2 {a1 : Value} {x y : Nat} (D : decode (byt k) pc = .ok (.invokestatic x, 3)) (hp : pc + 3 = pc2) (hc : calT (ocl k) x = some (2, y)) (hn : npr y = 1) : AW d E K k pc L (a1 :: st) G I J ↔ catS st ≤ 8 ∧ ACall d y [a1] G I J (fun v G I J => AW d E K k pc2 L (psh v st) G I J) := by
  subst hp
  refine (aw_gc ((stp_eq D rfl).trans ((inv_of (sort := 1) (pc0 := pc) hc).trans (doS_of (as := [a1]) hn rfl)))).trans ?_
  exact ⟨fun q => ⟨q.1.2, q.2⟩, fun q => ⟨⟨by simp, q.1⟩, q.2⟩⟩
theorem aw_is1_3 {a1 : Value} {x y : Nat} (D : decode (byt k) pc = .ok (.invokestatic x, 3)) (hp : pc + 3 = pc2) (hc : calT (ocl k) x = some (3, y)) (hn : npr y = 1) : AW d E K k pc L (a1 :: st) G I J ↔ catS st ≤ 8 ∧ ACall d y [a1] G I J (fun v G I J => AW d E K k pc2 L (psh v st) G I J) := by
  subst hp
  refine (aw_gc ((stp_eq D rfl).trans ((inv_of (sort := 1) (pc0 := pc) hc).trans (doS_of (as := [a1]) hn rfl)))).trans ?_
  exact ⟨fun q => ⟨q.1.2, q.2⟩, fun q => ⟨⟨by simp, q.1⟩, q.2⟩⟩
theorem aw_iv2_0 {a1 a2 : Value} {x y o c : Nat} (D : decode (byt k) pc = .ok (.invokevirtual x, 3)) (hp : pc + 3 = pc2) (hc : calT (ocl k) x = some (0, y)) (hn : npr y = 2) (ho : ocl y = o) : AW d E K k pc L (a2 :: a1 :: .ref c :: st) G I J ↔ (shp G c = (0, o) ∧ catS st ≤ 8) ∧ ACall d y [.ref c, a1, a2] G I J (fun v G I J => AW d E K k pc2 L (psh v st) G I J) := by
  subst hp
  exact aw_gc ((stp_eq D rfl).trans ((inv_of (sort := 0) (pc0 := pc) hc).trans (doV_of (as := [a2, a1]) hn ho rfl)))
theorem aw_iv2_1 {a1 a2 : Value} {x y o c : Nat} (D : decode (byt k) pc = .ok (.invokevirtual x, 3)) (hp : pc + 3 = pc2) (hc : calT (ocl k) x = some (1, y)) (hn : npr y = 2) (ho : ocl y = o) : AW d E K k pc L (a2 :: a1 :: .ref c :: st) G I J ↔ (shp G c = (0, o) ∧ catS st ≤ 8) ∧ ACall d y [.ref c, a1, a2] G I J (fun v G I J => AW d E K k pc2 L (psh v st) G I J) := by
  subst hp
  exact aw_gc ((stp_eq D rfl).trans ((inv_of (sort := 0) (pc0 := pc) hc).trans (doV_of (as := [a2, a1]) hn ho rfl)))
theorem aw_is2_2 {a1 a2 : Value} {x y : Nat} (D : decode (byt k) pc = .ok (.invokestatic x, 3)) (hp : pc + 3 = pc2) (hc : calT (ocl k) x = some (2, y)) (hn : npr y = 2) : AW d E K k pc L (a2 :: a1 :: st) G I J ↔ catS st ≤ 8 ∧ ACall d y [a1, a2] G I J (fun v G I J => AW d E K k pc2 L (psh v st) G I J) := by
  subst hp
  refine (aw_gc ((stp_eq D rfl).trans ((inv_of (sort := 1) (pc0 := pc) hc).trans (doS_of (as := [a2, a1]) hn rfl)))).trans ?_
  exact ⟨fun q => ⟨q.1.2, q.2⟩, fun q => ⟨⟨by simp, q.1⟩, q.2⟩⟩
theorem aw_is2_3 {a1 a2 : Value} {x y : Nat} (D : decode (byt k) pc = .ok (.invokestatic x, 3)) (hp : pc + 3 = pc2) (hc : calT (ocl k) x = some (3, y)) (hn : npr y = 2) : AW d E K k pc L (a2 :: a1 :: st) G I J ↔ catS st ≤ 8 ∧ ACall d y [a1, a2] G I J (fun v G I J => AW d E K k pc2 L (psh v st) G I J) := by
  subst hp
  refine (aw_gc ((stp_eq D rfl).trans ((inv_of (sort := 1) (pc0 := pc) hc).trans (doS_of (as := [a2, a1]) hn rfl)))).trans ?_
  exact ⟨fun q => ⟨q.1.2, q.2⟩, fun q => ⟨⟨by simp, q.1⟩, q.2⟩⟩
theorem aw_iv3_0 {a1 a2 a3 : Value} {x y o c : Nat} (D : decode (byt k) pc = .ok (.invokevirtual x, 3)) (hp : pc + 3 = pc2) (hc : calT (ocl k) x = some (0, y)) (hn : npr y = 3) (ho : ocl y = o) : AW d E K k pc L (a3 :: a2 :: a1 :: .ref c :: st) G I J ↔ (shp G c = (0, o) ∧ catS st ≤ 8) ∧ ACall d y [.ref c, a1, a2, a3] G I J (fun v G I J => AW d E K k pc2 L (psh v st) G I J) := by
  subst hp
  exact aw_gc ((stp_eq D rfl).trans ((inv_of (sort := 0) (pc0 := pc) hc).trans (doV_of (as := [a3, a2, a1]) hn ho rfl)))
theorem aw_iv3_1 {a1 a2 a3 : Value} {x y o c : Nat} (D : decode (byt k) pc = .ok (.invokevirtual x, 3)) (hp : pc + 3 = pc2) (hc : calT (ocl k) x = some (1, y)) (hn : npr y = 3) (ho : ocl y = o) : AW d E K k pc L (a3 :: a2 :: a1 :: .ref c :: st) G I J ↔ (shp G c = (0, o) ∧ catS st ≤ 8) ∧ ACall d y [.ref c, a1, a2, a3] G I J (fun v G I J => AW d E K k pc2 L (psh v st) G I J) := by
  subst hp
  exact aw_gc ((stp_eq D rfl).trans ((inv_of (sort := 0) (pc0 := pc) hc).trans (doV_of (as := [a3, a2, a1]) hn ho rfl)))
theorem aw_is3_2 {a1 a2 a3 : Value} {x y : Nat} (D : decode (byt k) pc = .ok (.invokestatic x, 3)) (hp : pc + 3 = pc2) (hc : calT (ocl k) x = some (2, y)) (hn : npr y = 3) : AW d E K k pc L (a3 :: a2 :: a1 :: st) G I J ↔ catS st ≤ 8 ∧ ACall d y [a1, a2, a3] G I J (fun v G I J => AW d E K k pc2 L (psh v st) G I J) := by
  subst hp
  refine (aw_gc ((stp_eq D rfl).trans ((inv_of (sort := 1) (pc0 := pc) hc).trans (doS_of (as := [a3, a2, a1]) hn rfl)))).trans ?_
  exact ⟨fun q => ⟨q.1.2, q.2⟩, fun q => ⟨⟨by simp, q.1⟩, q.2⟩⟩
theorem aw_is3_3 {a1 a2 a3 : Value} {x y : Nat} (D : decode (byt k) pc = .ok (.invokestatic x, 3)) (hp : pc + 3 = pc2) (hc : calT (ocl k) x = some (3, y)) (hn : npr y = 3) : AW d E K k pc L (a3 :: a2 :: a1 :: st) G I J ↔ catS st ≤ 8 ∧ ACall d y [a1, a2, a3] G I J (fun v G I J => AW d E K k pc2 L (psh v st) G I J) := by
  subst hp
  refine (aw_gc ((stp_eq D rfl).trans ((inv_of (sort := 1) (pc0 := pc) hc).trans (doS_of (as := [a3, a2, a1]) hn rfl)))).trans ?_
  exact ⟨fun q => ⟨q.1.2, q.2⟩, fun q => ⟨⟨by simp, q.1⟩, q.2⟩⟩
theorem aw_iv4_0 {a1 a2 a3 a4 : Value} {x y o c : Nat} (D : decode (byt k) pc = .ok (.invokevirtual x, 3)) (hp : pc + 3 = pc2) (hc : calT (ocl k) x = some (0, y)) (hn : npr y = 4) (ho : ocl y = o) : AW d E K k pc L (a4 :: a3 :: a2 :: a1 :: .ref c :: st) G I J ↔ (shp G c = (0, o) ∧ catS st ≤ 8) ∧ ACall d y [.ref c, a1, a2, a3, a4] G I J (fun v G I J => AW d E K k pc2 L (psh v st) G I J) := by
  subst hp
  exact aw_gc ((stp_eq D rfl).trans ((inv_of (sort := 0) (pc0 := pc) hc).trans (doV_of (as := [a4, a3, a2, a1]) hn ho rfl)))
theorem aw_iv4_1 {a1 a2 a3 a4 : Value} {x y o c : Nat} (D : decode (byt k) pc = .ok (.invokevirtual x, 3)) (hp : pc + 3 = pc2) (hc : calT (ocl k) x = some (1, y)) (hn : npr y = 4) (ho : ocl y = o) : AW d E K k pc L (a4 :: a3 :: a2 :: a1 :: .ref c :: st) G I J ↔ (shp G c = (0, o) ∧ catS st ≤ 8) ∧ ACall d y [.ref c, a1, a2, a3, a4] G I J (fun v G I J => AW d E K k pc2 L (psh v st) G I J) := by
  subst hp
  exact aw_gc ((stp_eq D rfl).trans ((inv_of (sort := 0) (pc0 := pc) hc).trans (doV_of (as := [a4, a3, a2, a1]) hn ho rfl)))
theorem aw_is4_2 {a1 a2 a3 a4 : Value} {x y : Nat} (D : decode (byt k) pc = .ok (.invokestatic x, 3)) (hp : pc + 3 = pc2) (hc : calT (ocl k) x = some (2, y)) (hn : npr y = 4) : AW d E K k pc L (a4 :: a3 :: a2 :: a1 :: st) G I J ↔ catS st ≤ 8 ∧ ACall d y [a1, a2, a3, a4] G I J (fun v G I J => AW d E K k pc2 L (psh v st) G I J) := by
  subst hp
  refine (aw_gc ((stp_eq D rfl).trans ((inv_of (sort := 1) (pc0 := pc) hc).trans (doS_of (as := [a4, a3, a2, a1]) hn rfl)))).trans ?_
  exact ⟨fun q => ⟨q.1.2, q.2⟩, fun q => ⟨⟨by simp, q.1⟩, q.2⟩⟩
theorem aw_is4_3 {a1 a2 a3 a4 : Value} {x y : Nat} (D : decode (byt k) pc = .ok (.invokestatic x, 3)) (hp : pc + 3 = pc2) (hc : calT (ocl k) x = some (3, y)) (hn : npr y = 4) : AW d E K k pc L (a4 :: a3 :: a2 :: a1 :: st) G I J ↔ catS st ≤ 8 ∧ ACall d y [a1, a2, a3, a4] G I J (fun v G I J => AW d E K k pc2 L (psh v st) G I J) := by
  subst hp
  refine (aw_gc ((stp_eq D rfl).trans ((inv_of (sort := 1) (pc0 := pc) hc).trans (doS_of (as := [a4, a3, a2, a1]) hn rfl)))).trans ?_
  exact ⟨fun q => ⟨q.1.2, q.2⟩, fun q => ⟨⟨by simp, q.1⟩, q.2⟩⟩
theorem aw_iv5_0 {a1 a2 a3 a4 a5 : Value} {x y o c : Nat} (D : decode (byt k) pc = .ok (.invokevirtual x, 3)) (hp : pc + 3 = pc2) (hc : calT (ocl k) x = some (0, y)) (hn : npr y = 5) (ho : ocl y = o) : AW d E K k pc L (a5 :: a4 :: a3 :: a2 :: a1 :: .ref c :: st) G I J ↔ (shp G c = (0, o) ∧ catS st ≤ 8) ∧ ACall d y [.ref c, a1, a2, a3, a4, a5] G I J (fun v G I J => AW d E K k pc2 L (psh v st) G I J) := by
  subst hp
  exact aw_gc ((stp_eq D rfl).trans ((inv_of (sort := 0) (pc0 := pc) hc).trans (doV_of (as := [a5, a4, a3, a2, a1]) hn ho rfl)))
theorem aw_iv5_1 {a1 a2 a3 a4 a5 : Value} {x y o c : Nat} (D : decode (byt k) pc = .ok (.invokevirtual x, 3)) (hp : pc + 3 = pc2) (hc : calT (ocl k) x = some (1, y)) (hn : npr y = 5) (ho : ocl y = o) : AW d E K k pc L (a5 :: a4 :: a3 :: a2 :: a1 :: .ref c :: st) G I J ↔ (shp G c = (0, o) ∧ catS st ≤ 8) ∧ ACall d y [.ref c, a1, a2, a3, a4, a5] G I J (fun v G I J => AW d E K k pc2 L (psh v st) G I J) := by
  subst hp
  exact aw_gc ((stp_eq D rfl).trans ((inv_of (sort := 0) (pc0 := pc) hc).trans (doV_of (as := [a5, a4, a3, a2, a1]) hn ho rfl)))
theorem aw_is5_2 {a1 a2 a3 a4 a5 : Value} {x y : Nat} (D : decode (byt k) pc = .ok (.invokestatic x, 3)) (hp : pc + 3 = pc2) (hc : calT (ocl k) x = some (2, y)) (hn : npr y = 5) : AW d E K k pc L (a5 :: a4 :: a3 :: a2 :: a1 :: st) G I J ↔ catS st ≤ 8 ∧ ACall d y [a1, a2, a3, a4, a5] G I J (fun v G I J => AW d E K k pc2 L (psh v st) G I J) := by
  subst hp
  refine (aw_gc ((stp_eq D rfl).trans ((inv_of (sort := 1) (pc0 := pc) hc).trans (doS_of (as := [a5, a4, a3, a2, a1]) hn rfl)))).trans ?_
  exact ⟨fun q => ⟨q.1.2, q.2⟩, fun q => ⟨⟨by simp, q.1⟩, q.2⟩⟩
theorem aw_is5_3 {a1 a2 a3 a4 a5 : Value} {x y : Nat} (D : decode (byt k) pc = .ok (.invokestatic x, 3)) (hp : pc + 3 = pc2) (hc : calT (ocl k) x = some (3, y)) (hn : npr y = 5) : AW d E K k pc L (a5 :: a4 :: a3 :: a2 :: a1 :: st) G I J ↔ catS st ≤ 8 ∧ ACall d y [a1, a2, a3, a4, a5] G I J (fun v G I J => AW d E K k pc2 L (psh v st) G I J) := by
  subst hp
  refine (aw_gc ((stp_eq D rfl).trans ((inv_of (sort := 1) (pc0 := pc) hc).trans (doS_of (as := [a5, a4, a3, a2, a1]) hn rfl)))).trans ?_
  exact ⟨fun q => ⟨q.1.2, q.2⟩, fun q => ⟨⟨by simp, q.1⟩, q.2⟩⟩
theorem aw_obj {x y c : Nat} (D : decode (byt k) pc = .ok (.invokespecial x, 3)) (hp : pc + 3 = pc2) (hc : calT (ocl k) x = some (6, y)) : AW d E K k pc L (.ref c :: st) G I J ↔ catS st ≤ 8 ∧ AW d E K k pc2 L st G I J := by
  subst hp
  exact aw_gt ((stp_eq D rfl).trans ((inv_of (sort := 2) (pc0 := pc) hc).trans rfl))
theorem aw_cpy {x y a b : Nat} {n dp sp : Int32} (D : decode (byt k) pc = .ok (.invokestatic x, 3)) (hp : pc + 3 = pc2) (hc : calT (ocl k) x = some (7, y)) : AW d E K k pc L (.int n :: .int dp :: .ref b :: .int sp :: .ref a :: st) G I J ↔ ((shp G a).1 = 1 ∧ (shp G b).1 = 1 ∧ ¬ sp < 0 ∧ ¬ dp < 0 ∧ ¬ n < 0 ∧ sp.toNatClampNeg + n.toNatClampNeg ≤ (shp G a).2 ∧ dp.toNatClampNeg + n.toNatClampNeg ≤ (shp G b).2 ∧ catS st ≤ 8) ∧ AW d E K k pc2 L st G (up1 I b (va_cpy (I a) (I b) sp.toNatClampNeg dp.toNatClampNeg n.toNatClampNeg)) J := by
  subst hp
  exact aw_gt ((stp_eq D rfl).trans ((inv_of (sort := 1) (pc0 := pc) hc).trans rfl))
theorem aw_iret {v : Int32} (D : decode (byt k) pc = .ok (.ireturn, 1)) (hr : rtc k = 1) : AW d E K k pc L [.int v] G I J ↔ (G.1 = E.1 ∧ G.2.1 = E.2) ∧ K (some (.int v)) G I J := by
  refine (aw_gr ((stp_eq D rfl).trans rfl)).trans ?_
  exact ⟨fun q => ⟨⟨q.1.1, q.1.2.1⟩, q.2⟩, fun q => ⟨⟨q.1.1, q.1.2, Or.inl hr⟩, q.2⟩⟩
theorem aw_zret {v : Int32} (D : decode (byt k) pc = .ok (.ireturn, 1)) (hr : rtc k = 2) : AW d E K k pc L [.int v] G I J ↔ (G.1 = E.1 ∧ G.2.1 = E.2 ∧ (v = 0 ∨ v = 1)) ∧ K (some (.int v)) G I J := by
  refine (aw_gr ((stp_eq D rfl).trans rfl)).trans ?_
  exact ⟨fun q => ⟨⟨q.1.1, q.1.2.1, by rcases q.1.2.2 with z | z; exact absurd (hr.symm.trans z) (by decide); exact z.2⟩, q.2⟩, fun q => ⟨⟨q.1.1, q.1.2.1, Or.inr ⟨hr, q.1.2.2⟩⟩, q.2⟩⟩
theorem aw_lret {v : Int64} (D : decode (byt k) pc = .ok (.lreturn, 1)) (hr : rtc k = 3) : AW d E K k pc L [.long v] G I J ↔ (G.1 = E.1 ∧ G.2.1 = E.2) ∧ K (some (.long v)) G I J := by
  refine (aw_gr ((stp_eq D rfl).trans rfl)).trans ?_
  exact ⟨fun q => ⟨⟨q.1.1, q.1.2.1⟩, q.2⟩, fun q => ⟨⟨q.1.1, q.1.2, hr⟩, q.2⟩⟩
theorem aw_aret {v : Nat} (D : decode (byt k) pc = .ok (.areturn, 1)) (hr : rtc k = 4) : AW d E K k pc L [.ref v] G I J ↔ (G.1 = E.1 ∧ G.2.1 = E.2) ∧ K (some (.ref v)) G I J := by
  refine (aw_gr ((stp_eq D rfl).trans rfl)).trans ?_
  exact ⟨fun q => ⟨⟨q.1.1, q.1.2.1⟩, q.2⟩, fun q => ⟨⟨q.1.1, q.1.2, hr⟩, q.2⟩⟩
theorem aw_aretN (D : decode (byt k) pc = .ok (.areturn, 1)) (hr : rtc k = 4) : AW d E K k pc L [.null] G I J ↔ (G.1 = E.1 ∧ G.2.1 = E.2) ∧ K (some .null) G I J := by
  refine (aw_gr ((stp_eq D rfl).trans rfl)).trans ?_
  exact ⟨fun q => ⟨⟨q.1.1, q.1.2.1⟩, q.2⟩, fun q => ⟨⟨q.1.1, q.1.2, hr⟩, q.2⟩⟩
theorem aw_vret (D : decode (byt k) pc = .ok (.return_, 1)) (hr : rtc k = 0) : AW d E K k pc L [] G I J ↔ (G.1 = E.1 ∧ G.2.1 = E.2) ∧ K none G I J := by
  refine (aw_gr ((stp_eq D rfl).trans rfl)).trans ?_
  exact ⟨fun q => ⟨⟨q.1.1, q.1.2.1⟩, q.2⟩, fun q => ⟨⟨q.1.1, q.1.2, hr⟩, q.2⟩⟩
theorem ACall_0 {y : Nat} {as L0 : List Value} (h : mcs y = (0, 0)) (hL : entL y as = L0) : ACall (d + 1) y as G I J K ↔ AW d (G.1, G.2.1) K y 0 L0 [] G I J := by
  rw [ACall_entry, h, hL]
  exact Iff.rfl
end AwRows
end
