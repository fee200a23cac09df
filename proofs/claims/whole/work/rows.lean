section
/-- a private method of a class that the tables say can be made, by its rows of tables_1 -/
def lw_okq (q : MethodName × Nat) : Prop := (q.1.cls ≠ "java/lang/invoke/MethodHandle" ∧ q.1.cls ≠ "java/lang/invoke/VarHandle") ∧ Cond.instantiable q.1.cls q.2 ∈ tables_1 ∧ Cond.privateMethod q.1 ∈ tables_1 ∧ Cond.instanceMethod q.1 ∈ tables_1
theorem lw_p0 : lw_okq (⟨"TruthWalk", "bookAt", "(I)LTruthWalk$Book;"⟩, 10) := ⟨⟨by decide +kernel, by decide +kernel⟩, List.mem_of_getElem? (i := 14) (by decide +kernel), List.mem_of_getElem? (i := 279) (by decide +kernel), List.mem_of_getElem? (i := 280) (by decide +kernel)⟩
theorem lw_p1 : lw_okq (⟨"TruthWalk", "refuse", "(I)I"⟩, 10) := ⟨⟨by decide +kernel, by decide +kernel⟩, List.mem_of_getElem? (i := 14) (by decide +kernel), List.mem_of_getElem? (i := 283) (by decide +kernel), List.mem_of_getElem? (i := 284) (by decide +kernel)⟩
theorem lw_p2 : lw_okq (⟨"TruthWalk", "putClause", "(LTruthWalk$Book;I)I"⟩, 10) := ⟨⟨by decide +kernel, by decide +kernel⟩, List.mem_of_getElem? (i := 14) (by decide +kernel), List.mem_of_getElem? (i := 302) (by decide +kernel), List.mem_of_getElem? (i := 303) (by decide +kernel)⟩
theorem lw_p3 : lw_okq (⟨"TruthWalk$Level", "take", "([III)V"⟩, 9) := ⟨⟨by decide +kernel, by decide +kernel⟩, List.mem_of_getElem? (i := 189) (by decide +kernel), List.mem_of_getElem? (i := 399) (by decide +kernel), List.mem_of_getElem? (i := 400) (by decide +kernel)⟩
theorem lw_p4 : lw_okq (⟨"TruthWalk$Level", "addUnlike", "(I)V"⟩, 9) := ⟨⟨by decide +kernel, by decide +kernel⟩, List.mem_of_getElem? (i := 189) (by decide +kernel), List.mem_of_getElem? (i := 406) (by decide +kernel), List.mem_of_getElem? (i := 407) (by decide +kernel)⟩
theorem lw_p5 : lw_okq (⟨"TruthWalk$Maker", "makeList", "(LTruthWalk$Graph;I)I"⟩, 4) := ⟨⟨by decide +kernel, by decide +kernel⟩, List.mem_of_getElem? (i := 150) (by decide +kernel), List.mem_of_getElem? (i := 410) (by decide +kernel), List.mem_of_getElem? (i := 411) (by decide +kernel)⟩
theorem lw_p6 : lw_okq (⟨"TruthWalk$Level", "hasClauseWithoutSign", "()Z"⟩, 9) := ⟨⟨by decide +kernel, by decide +kernel⟩, List.mem_of_getElem? (i := 189) (by decide +kernel), List.mem_of_getElem? (i := 418) (by decide +kernel), List.mem_of_getElem? (i := 419) (by decide +kernel)⟩
theorem lw_p7 : lw_okq (⟨"TruthWalk$Level", "firstLoneSign", "()I"⟩, 9) := ⟨⟨by decide +kernel, by decide +kernel⟩, List.mem_of_getElem? (i := 189) (by decide +kernel), List.mem_of_getElem? (i := 422) (by decide +kernel), List.mem_of_getElem? (i := 423) (by decide +kernel)⟩
theorem lw_p8 : lw_okq (⟨"TruthWalk$Level", "spreadPiece", "(II)V"⟩, 9) := ⟨⟨by decide +kernel, by decide +kernel⟩, List.mem_of_getElem? (i := 189) (by decide +kernel), List.mem_of_getElem? (i := 431) (by decide +kernel), List.mem_of_getElem? (i := 432) (by decide +kernel)⟩
theorem lw_p9 : lw_okq (⟨"TruthWalk$Maker", "makePiece", "(LTruthWalk$Graph;I)I"⟩, 4) := ⟨⟨by decide +kernel, by decide +kernel⟩, List.mem_of_getElem? (i := 150) (by decide +kernel), List.mem_of_getElem? (i := 442) (by decide +kernel), List.mem_of_getElem? (i := 443) (by decide +kernel)⟩
theorem lw_p10 : lw_okq (⟨"TruthWalk$Met", "isSame", "(I[II)Z"⟩, 8) := ⟨⟨by decide +kernel, by decide +kernel⟩, List.mem_of_getElem? (i := 158) (by decide +kernel), List.mem_of_getElem? (i := 453) (by decide +kernel), List.mem_of_getElem? (i := 454) (by decide +kernel)⟩
theorem lw_p11 : lw_okq (⟨"TruthWalk$Level", "clausesWith", "(I)I"⟩, 9) := ⟨⟨by decide +kernel, by decide +kernel⟩, List.mem_of_getElem? (i := 189) (by decide +kernel), List.mem_of_getElem? (i := 462) (by decide +kernel), List.mem_of_getElem? (i := 463) (by decide +kernel)⟩
theorem lw_p12 : lw_okq (⟨"TruthWalk$Maker", "makeSide", "(LTruthWalk$Graph;II)I"⟩, 4) := ⟨⟨by decide +kernel, by decide +kernel⟩, List.mem_of_getElem? (i := 150) (by decide +kernel), List.mem_of_getElem? (i := 467) (by decide +kernel), List.mem_of_getElem? (i := 468) (by decide +kernel)⟩
theorem lw_p13 : lw_okq (⟨"TruthWalk$Maker", "nodeOfList", "(LTruthWalk$Graph;LTruthWalk$Level;)I"⟩, 4) := ⟨⟨by decide +kernel, by decide +kernel⟩, List.mem_of_getElem? (i := 150) (by decide +kernel), List.mem_of_getElem? (i := 488) (by decide +kernel), List.mem_of_getElem? (i := 489) (by decide +kernel)⟩
theorem lw_p14 : lw_okq (⟨"TruthWalk$Maker", "litOf", "(LTruthWalk$Graph;I)I"⟩, 4) := ⟨⟨by decide +kernel, by decide +kernel⟩, List.mem_of_getElem? (i := 150) (by decide +kernel), List.mem_of_getElem? (i := 492) (by decide +kernel), List.mem_of_getElem? (i := 493) (by decide +kernel)⟩
theorem lw_p15 : lw_okq (⟨"TruthWalk$Graph", "gatherLetters", "(I)V"⟩, 12) := ⟨⟨by decide +kernel, by decide +kernel⟩, List.mem_of_getElem? (i := 28) (by decide +kernel), List.mem_of_getElem? (i := 522) (by decide +kernel), List.mem_of_getElem? (i := 523) (by decide +kernel)⟩
def lw_privs_1 : List (MethodName × Nat) := [(⟨"TruthWalk", "bookAt", "(I)LTruthWalk$Book;"⟩, 10), (⟨"TruthWalk", "refuse", "(I)I"⟩, 10), (⟨"TruthWalk", "putClause", "(LTruthWalk$Book;I)I"⟩, 10), (⟨"TruthWalk$Level", "take", "([III)V"⟩, 9), (⟨"TruthWalk$Level", "addUnlike", "(I)V"⟩, 9), (⟨"TruthWalk$Maker", "makeList", "(LTruthWalk$Graph;I)I"⟩, 4), (⟨"TruthWalk$Level", "hasClauseWithoutSign", "()Z"⟩, 9), (⟨"TruthWalk$Level", "firstLoneSign", "()I"⟩, 9), (⟨"TruthWalk$Level", "spreadPiece", "(II)V"⟩, 9), (⟨"TruthWalk$Maker", "makePiece", "(LTruthWalk$Graph;I)I"⟩, 4), (⟨"TruthWalk$Met", "isSame", "(I[II)Z"⟩, 8), (⟨"TruthWalk$Level", "clausesWith", "(I)I"⟩, 9), (⟨"TruthWalk$Maker", "makeSide", "(LTruthWalk$Graph;II)I"⟩, 4), (⟨"TruthWalk$Maker", "nodeOfList", "(LTruthWalk$Graph;LTruthWalk$Level;)I"⟩, 4), (⟨"TruthWalk$Maker", "litOf", "(LTruthWalk$Graph;I)I"⟩, 4), (⟨"TruthWalk$Graph", "gatherLetters", "(I)V"⟩, 12)]
theorem lw_r1 : ∀ q ∈ lw_privs_1, lw_okq q := List.forall_mem_cons.mpr ⟨lw_p0, List.forall_mem_cons.mpr ⟨lw_p1, List.forall_mem_cons.mpr ⟨lw_p2, List.forall_mem_cons.mpr ⟨lw_p3, List.forall_mem_cons.mpr ⟨lw_p4, List.forall_mem_cons.mpr ⟨lw_p5, List.forall_mem_cons.mpr ⟨lw_p6, List.forall_mem_cons.mpr ⟨lw_p7, List.forall_mem_cons.mpr ⟨lw_p8, List.forall_mem_cons.mpr ⟨lw_p9, List.forall_mem_cons.mpr ⟨lw_p10, List.forall_mem_cons.mpr ⟨lw_p11, List.forall_mem_cons.mpr ⟨lw_p12, List.forall_mem_cons.mpr ⟨lw_p13, List.forall_mem_cons.mpr ⟨lw_p14, List.forall_mem_cons.mpr ⟨lw_p15, fun _ h => absurd h List.not_mem_nil⟩⟩⟩⟩⟩⟩⟩⟩⟩⟩⟩⟩⟩⟩⟩⟩
theorem lw_p16 : lw_okq (⟨"TruthWalk$Graph", "partsShare", "(I)Z"⟩, 12) := ⟨⟨by decide +kernel, by decide +kernel⟩, List.mem_of_getElem? (i := 28) (by decide +kernel), List.mem_of_getElem? (i := 537) (by decide +kernel), List.mem_of_getElem? (i := 538) (by decide +kernel)⟩
theorem lw_p17 : lw_okq (⟨"TruthWalk$Graph", "wordOfRoot", "(II)J"⟩, 12) := ⟨⟨by decide +kernel, by decide +kernel⟩, List.mem_of_getElem? (i := 28) (by decide +kernel), List.mem_of_getElem? (i := 563) (by decide +kernel), List.mem_of_getElem? (i := 564) (by decide +kernel)⟩
theorem lw_p18 : lw_okq (⟨"TruthWalk$Graph", "wordOfNode", "(III)J"⟩, 12) := ⟨⟨by decide +kernel, by decide +kernel⟩, List.mem_of_getElem? (i := 28) (by decide +kernel), List.mem_of_getElem? (i := 567) (by decide +kernel), List.mem_of_getElem? (i := 568) (by decide +kernel)⟩
theorem lw_p19 : lw_okq (⟨"TruthWalk$Graph", "wordOfBoth", "(I)J"⟩, 12) := ⟨⟨by decide +kernel, by decide +kernel⟩, List.mem_of_getElem? (i := 28) (by decide +kernel), List.mem_of_getElem? (i := 581) (by decide +kernel), List.mem_of_getElem? (i := 582) (by decide +kernel)⟩
theorem lw_p20 : lw_okq (⟨"TruthWalk$Graph", "wordOfChoice", "(IJ)J"⟩, 12) := ⟨⟨by decide +kernel, by decide +kernel⟩, List.mem_of_getElem? (i := 28) (by decide +kernel), List.mem_of_getElem? (i := 585) (by decide +kernel), List.mem_of_getElem? (i := 586) (by decide +kernel)⟩
theorem lw_p21 : lw_okq (⟨"TruthWalk$Book", "wholeRows", "(I)J"⟩, 9) := ⟨⟨by decide +kernel, by decide +kernel⟩, List.mem_of_getElem? (i := 22) (by decide +kernel), List.mem_of_getElem? (i := 594) (by decide +kernel), List.mem_of_getElem? (i := 595) (by decide +kernel)⟩
theorem lw_p22 : lw_okq (⟨"TruthWalk$Book", "rowsOfClause", "(II)J"⟩, 9) := ⟨⟨by decide +kernel, by decide +kernel⟩, List.mem_of_getElem? (i := 22) (by decide +kernel), List.mem_of_getElem? (i := 600) (by decide +kernel), List.mem_of_getElem? (i := 601) (by decide +kernel)⟩
theorem lw_p23 : lw_okq (⟨"TruthWalk", "refuseWithZero", "(I)J"⟩, 10) := ⟨⟨by decide +kernel, by decide +kernel⟩, List.mem_of_getElem? (i := 14) (by decide +kernel), List.mem_of_getElem? (i := 665) (by decide +kernel), List.mem_of_getElem? (i := 666) (by decide +kernel)⟩
theorem lw_p24 : lw_okq (⟨"TruthWalk", "weightOfAll", "(LTruthWalk$RowSet;)J"⟩, 10) := ⟨⟨by decide +kernel, by decide +kernel⟩, List.mem_of_getElem? (i := 14) (by decide +kernel), List.mem_of_getElem? (i := 675) (by decide +kernel), List.mem_of_getElem? (i := 676) (by decide +kernel)⟩
theorem lw_p25 : lw_okq (⟨"TruthWalk$RowSet", "rowOfRankFrom", "(II)I"⟩, 4) := ⟨⟨by decide +kernel, by decide +kernel⟩, List.mem_of_getElem? (i := 34) (by decide +kernel), List.mem_of_getElem? (i := 699) (by decide +kernel), List.mem_of_getElem? (i := 700) (by decide +kernel)⟩
theorem lw_p26 : lw_okq (⟨"TruthWalk", "heaviest", "(LTruthWalk$RowSet;Z)I"⟩, 10) := ⟨⟨by decide +kernel, by decide +kernel⟩, List.mem_of_getElem? (i := 14) (by decide +kernel), List.mem_of_getElem? (i := 717) (by decide +kernel), List.mem_of_getElem? (i := 718) (by decide +kernel)⟩
theorem lw_p27 : lw_okq (⟨"TruthWalk", "putInRow", "(I)V"⟩, 10) := ⟨⟨by decide +kernel, by decide +kernel⟩, List.mem_of_getElem? (i := 14) (by decide +kernel), List.mem_of_getElem? (i := 759) (by decide +kernel), List.mem_of_getElem? (i := 760) (by decide +kernel)⟩
theorem lw_p28 : lw_okq (⟨"TruthWalkModel", "no", "(I)I"⟩, 49) := ⟨⟨by decide +kernel, by decide +kernel⟩, List.mem_of_getElem? (i := 786) (by decide +kernel), List.mem_of_getElem? (i := 950) (by decide +kernel), List.mem_of_getElem? (i := 951) (by decide +kernel)⟩
theorem lw_p29 : lw_okq (⟨"TruthWalkModel", "mayBe", "(II)Z"⟩, 49) := ⟨⟨by decide +kernel, by decide +kernel⟩, List.mem_of_getElem? (i := 786) (by decide +kernel), List.mem_of_getElem? (i := 962) (by decide +kernel), List.mem_of_getElem? (i := 963) (by decide +kernel)⟩
theorem lw_p30 : lw_okq (⟨"TruthWalkModel", "isSign", "(II)Z"⟩, 49) := ⟨⟨by decide +kernel, by decide +kernel⟩, List.mem_of_getElem? (i := 786) (by decide +kernel), List.mem_of_getElem? (i := 966) (by decide +kernel), List.mem_of_getElem? (i := 967) (by decide +kernel)⟩
theorem lw_p31 : lw_okq (⟨"TruthWalkModel", "adds", "(II)I"⟩, 49) := ⟨⟨by decide +kernel, by decide +kernel⟩, List.mem_of_getElem? (i := 786) (by decide +kernel), List.mem_of_getElem? (i := 973) (by decide +kernel), List.mem_of_getElem? (i := 974) (by decide +kernel)⟩
def lw_privs_2 : List (MethodName × Nat) := [(⟨"TruthWalk$Graph", "partsShare", "(I)Z"⟩, 12), (⟨"TruthWalk$Graph", "wordOfRoot", "(II)J"⟩, 12), (⟨"TruthWalk$Graph", "wordOfNode", "(III)J"⟩, 12), (⟨"TruthWalk$Graph", "wordOfBoth", "(I)J"⟩, 12), (⟨"TruthWalk$Graph", "wordOfChoice", "(IJ)J"⟩, 12), (⟨"TruthWalk$Book", "wholeRows", "(I)J"⟩, 9), (⟨"TruthWalk$Book", "rowsOfClause", "(II)J"⟩, 9), (⟨"TruthWalk", "refuseWithZero", "(I)J"⟩, 10), (⟨"TruthWalk", "weightOfAll", "(LTruthWalk$RowSet;)J"⟩, 10), (⟨"TruthWalk$RowSet", "rowOfRankFrom", "(II)I"⟩, 4), (⟨"TruthWalk", "heaviest", "(LTruthWalk$RowSet;Z)I"⟩, 10), (⟨"TruthWalk", "putInRow", "(I)V"⟩, 10), (⟨"TruthWalkModel", "no", "(I)I"⟩, 49), (⟨"TruthWalkModel", "mayBe", "(II)Z"⟩, 49), (⟨"TruthWalkModel", "isSign", "(II)Z"⟩, 49), (⟨"TruthWalkModel", "adds", "(II)I"⟩, 49)]
theorem lw_r2 : ∀ q ∈ lw_privs_2, lw_okq q := List.forall_mem_cons.mpr ⟨lw_p16, List.forall_mem_cons.mpr ⟨lw_p17, List.forall_mem_cons.mpr ⟨lw_p18, List.forall_mem_cons.mpr ⟨lw_p19, List.forall_mem_cons.mpr ⟨lw_p20, List.forall_mem_cons.mpr ⟨lw_p21, List.forall_mem_cons.mpr ⟨lw_p22, List.forall_mem_cons.mpr ⟨lw_p23, List.forall_mem_cons.mpr ⟨lw_p24, List.forall_mem_cons.mpr ⟨lw_p25, List.forall_mem_cons.mpr ⟨lw_p26, List.forall_mem_cons.mpr ⟨lw_p27, List.forall_mem_cons.mpr ⟨lw_p28, List.forall_mem_cons.mpr ⟨lw_p29, List.forall_mem_cons.mpr ⟨lw_p30, List.forall_mem_cons.mpr ⟨lw_p31, fun _ h => absurd h List.not_mem_nil⟩⟩⟩⟩⟩⟩⟩⟩⟩⟩⟩⟩⟩⟩⟩⟩
theorem lw_p32 : lw_okq (⟨"TruthWalkModel", "isLetter", "(II)Z"⟩, 49) := ⟨⟨by decide +kernel, by decide +kernel⟩, List.mem_of_getElem? (i := 786) (by decide +kernel), List.mem_of_getElem? (i := 995) (by decide +kernel), List.mem_of_getElem? (i := 996) (by decide +kernel)⟩
theorem lw_p33 : lw_okq (⟨"TruthWalkModel", "comes", "(III)I"⟩, 49) := ⟨⟨by decide +kernel, by decide +kernel⟩, List.mem_of_getElem? (i := 786) (by decide +kernel), List.mem_of_getElem? (i := 1026) (by decide +kernel), List.mem_of_getElem? (i := 1027) (by decide +kernel)⟩
theorem lw_p34 : lw_okq (⟨"TruthWalkModel", "addsTo", "(II)V"⟩, 49) := ⟨⟨by decide +kernel, by decide +kernel⟩, List.mem_of_getElem? (i := 786) (by decide +kernel), List.mem_of_getElem? (i := 1031) (by decide +kernel), List.mem_of_getElem? (i := 1032) (by decide +kernel)⟩
theorem lw_p35 : lw_okq (⟨"TruthWalkModel", "opens", "()V"⟩, 49) := ⟨⟨by decide +kernel, by decide +kernel⟩, List.mem_of_getElem? (i := 786) (by decide +kernel), List.mem_of_getElem? (i := 1035) (by decide +kernel), List.mem_of_getElem? (i := 1036) (by decide +kernel)⟩
theorem lw_p36 : lw_okq (⟨"TruthWalkModel", "simplifies", "(I)Z"⟩, 49) := ⟨⟨by decide +kernel, by decide +kernel⟩, List.mem_of_getElem? (i := 786) (by decide +kernel), List.mem_of_getElem? (i := 1039) (by decide +kernel), List.mem_of_getElem? (i := 1040) (by decide +kernel)⟩
theorem lw_p37 : lw_okq (⟨"TruthWalkModel", "withSigns", "(II)I"⟩, 49) := ⟨⟨by decide +kernel, by decide +kernel⟩, List.mem_of_getElem? (i := 786) (by decide +kernel), List.mem_of_getElem? (i := 1043) (by decide +kernel), List.mem_of_getElem? (i := 1044) (by decide +kernel)⟩
theorem lw_p38 : lw_okq (⟨"TruthWalkModel", "takes", "(II)V"⟩, 49) := ⟨⟨by decide +kernel, by decide +kernel⟩, List.mem_of_getElem? (i := 786) (by decide +kernel), List.mem_of_getElem? (i := 1047) (by decide +kernel), List.mem_of_getElem? (i := 1048) (by decide +kernel)⟩
theorem lw_p39 : lw_okq (⟨"TruthWalkModel", "findPieces", "(I)V"⟩, 49) := ⟨⟨by decide +kernel, by decide +kernel⟩, List.mem_of_getElem? (i := 786) (by decide +kernel), List.mem_of_getElem? (i := 1051) (by decide +kernel), List.mem_of_getElem? (i := 1052) (by decide +kernel)⟩
theorem lw_p40 : lw_okq (⟨"TruthWalkModel", "goesOn", "(I)V"⟩, 49) := ⟨⟨by decide +kernel, by decide +kernel⟩, List.mem_of_getElem? (i := 786) (by decide +kernel), List.mem_of_getElem? (i := 1055) (by decide +kernel), List.mem_of_getElem? (i := 1056) (by decide +kernel)⟩
theorem lw_p41 : lw_okq (⟨"TruthWalkModel", "closes", "(II)V"⟩, 49) := ⟨⟨by decide +kernel, by decide +kernel⟩, List.mem_of_getElem? (i := 786) (by decide +kernel), List.mem_of_getElem? (i := 1059) (by decide +kernel), List.mem_of_getElem? (i := 1060) (by decide +kernel)⟩
theorem lw_p42 : lw_okq (⟨"TruthWalkModel", "litOf", "(II)I"⟩, 49) := ⟨⟨by decide +kernel, by decide +kernel⟩, List.mem_of_getElem? (i := 786) (by decide +kernel), List.mem_of_getElem? (i := 1063) (by decide +kernel), List.mem_of_getElem? (i := 1064) (by decide +kernel)⟩
theorem lw_p43 : lw_okq (⟨"TruthWalkModel", "addPart", "(III)V"⟩, 49) := ⟨⟨by decide +kernel, by decide +kernel⟩, List.mem_of_getElem? (i := 786) (by decide +kernel), List.mem_of_getElem? (i := 1067) (by decide +kernel), List.mem_of_getElem? (i := 1068) (by decide +kernel)⟩
theorem lw_p44 : lw_okq (⟨"TruthWalkModel", "begins", "(II)V"⟩, 49) := ⟨⟨by decide +kernel, by decide +kernel⟩, List.mem_of_getElem? (i := 786) (by decide +kernel), List.mem_of_getElem? (i := 1071) (by decide +kernel), List.mem_of_getElem? (i := 1072) (by decide +kernel)⟩
theorem lw_p45 : lw_okq (⟨"TruthWalkModel", "metPiece", "(I)I"⟩, 49) := ⟨⟨by decide +kernel, by decide +kernel⟩, List.mem_of_getElem? (i := 786) (by decide +kernel), List.mem_of_getElem? (i := 1075) (by decide +kernel), List.mem_of_getElem? (i := 1076) (by decide +kernel)⟩
theorem lw_p46 : lw_okq (⟨"TruthWalkModel", "tells", "(II)V"⟩, 49) := ⟨⟨by decide +kernel, by decide +kernel⟩, List.mem_of_getElem? (i := 786) (by decide +kernel), List.mem_of_getElem? (i := 1079) (by decide +kernel), List.mem_of_getElem? (i := 1080) (by decide +kernel)⟩
theorem lw_p47 : lw_okq (⟨"TruthWalkModel", "letterOf", "(II)I"⟩, 49) := ⟨⟨by decide +kernel, by decide +kernel⟩, List.mem_of_getElem? (i := 786) (by decide +kernel), List.mem_of_getElem? (i := 1083) (by decide +kernel), List.mem_of_getElem? (i := 1084) (by decide +kernel)⟩
def lw_privs_3 : List (MethodName × Nat) := [(⟨"TruthWalkModel", "isLetter", "(II)Z"⟩, 49), (⟨"TruthWalkModel", "comes", "(III)I"⟩, 49), (⟨"TruthWalkModel", "addsTo", "(II)V"⟩, 49), (⟨"TruthWalkModel", "opens", "()V"⟩, 49), (⟨"TruthWalkModel", "simplifies", "(I)Z"⟩, 49), (⟨"TruthWalkModel", "withSigns", "(II)I"⟩, 49), (⟨"TruthWalkModel", "takes", "(II)V"⟩, 49), (⟨"TruthWalkModel", "findPieces", "(I)V"⟩, 49), (⟨"TruthWalkModel", "goesOn", "(I)V"⟩, 49), (⟨"TruthWalkModel", "closes", "(II)V"⟩, 49), (⟨"TruthWalkModel", "litOf", "(II)I"⟩, 49), (⟨"TruthWalkModel", "addPart", "(III)V"⟩, 49), (⟨"TruthWalkModel", "begins", "(II)V"⟩, 49), (⟨"TruthWalkModel", "metPiece", "(I)I"⟩, 49), (⟨"TruthWalkModel", "tells", "(II)V"⟩, 49), (⟨"TruthWalkModel", "letterOf", "(II)I"⟩, 49)]
theorem lw_r3 : ∀ q ∈ lw_privs_3, lw_okq q := List.forall_mem_cons.mpr ⟨lw_p32, List.forall_mem_cons.mpr ⟨lw_p33, List.forall_mem_cons.mpr ⟨lw_p34, List.forall_mem_cons.mpr ⟨lw_p35, List.forall_mem_cons.mpr ⟨lw_p36, List.forall_mem_cons.mpr ⟨lw_p37, List.forall_mem_cons.mpr ⟨lw_p38, List.forall_mem_cons.mpr ⟨lw_p39, List.forall_mem_cons.mpr ⟨lw_p40, List.forall_mem_cons.mpr ⟨lw_p41, List.forall_mem_cons.mpr ⟨lw_p42, List.forall_mem_cons.mpr ⟨lw_p43, List.forall_mem_cons.mpr ⟨lw_p44, List.forall_mem_cons.mpr ⟨lw_p45, List.forall_mem_cons.mpr ⟨lw_p46, List.forall_mem_cons.mpr ⟨lw_p47, fun _ h => absurd h List.not_mem_nil⟩⟩⟩⟩⟩⟩⟩⟩⟩⟩⟩⟩⟩⟩⟩⟩
theorem lw_p48 : lw_okq (⟨"TruthWalkModel", "goesInto", "(II)V"⟩, 49) := ⟨⟨by decide +kernel, by decide +kernel⟩, List.mem_of_getElem? (i := 786) (by decide +kernel), List.mem_of_getElem? (i := 1087) (by decide +kernel), List.mem_of_getElem? (i := 1088) (by decide +kernel)⟩
theorem lw_p49 : lw_okq (⟨"TruthWalkModel", "chooses", "(III)V"⟩, 49) := ⟨⟨by decide +kernel, by decide +kernel⟩, List.mem_of_getElem? (i := 786) (by decide +kernel), List.mem_of_getElem? (i := 1091) (by decide +kernel), List.mem_of_getElem? (i := 1092) (by decide +kernel)⟩
theorem lw_p50 : lw_okq (⟨"TruthWalkModel", "meets", "(II)V"⟩, 49) := ⟨⟨by decide +kernel, by decide +kernel⟩, List.mem_of_getElem? (i := 786) (by decide +kernel), List.mem_of_getElem? (i := 1095) (by decide +kernel), List.mem_of_getElem? (i := 1096) (by decide +kernel)⟩
theorem lw_p51 : lw_okq (⟨"TruthWalkModel", "whyNode", "(II)I"⟩, 49) := ⟨⟨by decide +kernel, by decide +kernel⟩, List.mem_of_getElem? (i := 786) (by decide +kernel), List.mem_of_getElem? (i := 1107) (by decide +kernel), List.mem_of_getElem? (i := 1108) (by decide +kernel)⟩
theorem lw_p52 : lw_okq (⟨"TruthWalkModel", "findLetters", "(I)V"⟩, 49) := ⟨⟨by decide +kernel, by decide +kernel⟩, List.mem_of_getElem? (i := 786) (by decide +kernel), List.mem_of_getElem? (i := 1111) (by decide +kernel), List.mem_of_getElem? (i := 1112) (by decide +kernel)⟩
theorem lw_p53 : lw_okq (⟨"TruthWalkModel", "whyPart", "(III)I"⟩, 49) := ⟨⟨by decide +kernel, by decide +kernel⟩, List.mem_of_getElem? (i := 786) (by decide +kernel), List.mem_of_getElem? (i := 1119) (by decide +kernel), List.mem_of_getElem? (i := 1120) (by decide +kernel)⟩
theorem lw_p54 : lw_okq (⟨"TruthWalkModel", "lays", "(I)V"⟩, 49) := ⟨⟨by decide +kernel, by decide +kernel⟩, List.mem_of_getElem? (i := 786) (by decide +kernel), List.mem_of_getElem? (i := 1131) (by decide +kernel), List.mem_of_getElem? (i := 1132) (by decide +kernel)⟩
theorem lw_p55 : lw_okq (⟨"TruthWalkModel", "sayOf", "(III)Z"⟩, 49) := ⟨⟨by decide +kernel, by decide +kernel⟩, List.mem_of_getElem? (i := 786) (by decide +kernel), List.mem_of_getElem? (i := 1135) (by decide +kernel), List.mem_of_getElem? (i := 1136) (by decide +kernel)⟩
theorem lw_p56 : lw_okq (⟨"TruthWalkModel", "holds", "(III)Z"⟩, 49) := ⟨⟨by decide +kernel, by decide +kernel⟩, List.mem_of_getElem? (i := 786) (by decide +kernel), List.mem_of_getElem? (i := 1139) (by decide +kernel), List.mem_of_getElem? (i := 1140) (by decide +kernel)⟩
theorem lw_p57 : lw_okq (⟨"TruthWalkModel", "sharesLetters", "(II)Z"⟩, 49) := ⟨⟨by decide +kernel, by decide +kernel⟩, List.mem_of_getElem? (i := 786) (by decide +kernel), List.mem_of_getElem? (i := 1143) (by decide +kernel), List.mem_of_getElem? (i := 1144) (by decide +kernel)⟩
theorem lw_p58 : lw_okq (⟨"TruthWalkModel", "hasOwnLetter", "(II)Z"⟩, 49) := ⟨⟨by decide +kernel, by decide +kernel⟩, List.mem_of_getElem? (i := 786) (by decide +kernel), List.mem_of_getElem? (i := 1147) (by decide +kernel), List.mem_of_getElem? (i := 1148) (by decide +kernel)⟩
theorem lw_p59 : lw_okq (⟨"TruthWalkModel", "isWhole", "(II)Z"⟩, 49) := ⟨⟨by decide +kernel, by decide +kernel⟩, List.mem_of_getElem? (i := 786) (by decide +kernel), List.mem_of_getElem? (i := 1151) (by decide +kernel), List.mem_of_getElem? (i := 1152) (by decide +kernel)⟩
theorem lw_p60 : lw_okq (⟨"TruthWalkModel", "whyGraph", "(I)I"⟩, 49) := ⟨⟨by decide +kernel, by decide +kernel⟩, List.mem_of_getElem? (i := 786) (by decide +kernel), List.mem_of_getElem? (i := 1163) (by decide +kernel), List.mem_of_getElem? (i := 1164) (by decide +kernel)⟩
theorem lw_p61 : lw_okq (⟨"TruthWalkModel", "rowsBefore", "(II)I"⟩, 49) := ⟨⟨by decide +kernel, by decide +kernel⟩, List.mem_of_getElem? (i := 786) (by decide +kernel), List.mem_of_getElem? (i := 1167) (by decide +kernel), List.mem_of_getElem? (i := 1168) (by decide +kernel)⟩
theorem lw_p62 : lw_okq (⟨"TruthWalkModel", "isRow", "(II)Z"⟩, 49) := ⟨⟨by decide +kernel, by decide +kernel⟩, List.mem_of_getElem? (i := 786) (by decide +kernel), List.mem_of_getElem? (i := 1171) (by decide +kernel), List.mem_of_getElem? (i := 1172) (by decide +kernel)⟩
theorem lw_p63 : lw_okq (⟨"TruthWalkModel", "sums", "(II)J"⟩, 49) := ⟨⟨by decide +kernel, by decide +kernel⟩, List.mem_of_getElem? (i := 786) (by decide +kernel), List.mem_of_getElem? (i := 1183) (by decide +kernel), List.mem_of_getElem? (i := 1184) (by decide +kernel)⟩
def lw_privs_4 : List (MethodName × Nat) := [(⟨"TruthWalkModel", "goesInto", "(II)V"⟩, 49), (⟨"TruthWalkModel", "chooses", "(III)V"⟩, 49), (⟨"TruthWalkModel", "meets", "(II)V"⟩, 49), (⟨"TruthWalkModel", "whyNode", "(II)I"⟩, 49), (⟨"TruthWalkModel", "findLetters", "(I)V"⟩, 49), (⟨"TruthWalkModel", "whyPart", "(III)I"⟩, 49), (⟨"TruthWalkModel", "lays", "(I)V"⟩, 49), (⟨"TruthWalkModel", "sayOf", "(III)Z"⟩, 49), (⟨"TruthWalkModel", "holds", "(III)Z"⟩, 49), (⟨"TruthWalkModel", "sharesLetters", "(II)Z"⟩, 49), (⟨"TruthWalkModel", "hasOwnLetter", "(II)Z"⟩, 49), (⟨"TruthWalkModel", "isWhole", "(II)Z"⟩, 49), (⟨"TruthWalkModel", "whyGraph", "(I)I"⟩, 49), (⟨"TruthWalkModel", "rowsBefore", "(II)I"⟩, 49), (⟨"TruthWalkModel", "isRow", "(II)Z"⟩, 49), (⟨"TruthWalkModel", "sums", "(II)J"⟩, 49)]
theorem lw_r4 : ∀ q ∈ lw_privs_4, lw_okq q := List.forall_mem_cons.mpr ⟨lw_p48, List.forall_mem_cons.mpr ⟨lw_p49, List.forall_mem_cons.mpr ⟨lw_p50, List.forall_mem_cons.mpr ⟨lw_p51, List.forall_mem_cons.mpr ⟨lw_p52, List.forall_mem_cons.mpr ⟨lw_p53, List.forall_mem_cons.mpr ⟨lw_p54, List.forall_mem_cons.mpr ⟨lw_p55, List.forall_mem_cons.mpr ⟨lw_p56, List.forall_mem_cons.mpr ⟨lw_p57, List.forall_mem_cons.mpr ⟨lw_p58, List.forall_mem_cons.mpr ⟨lw_p59, List.forall_mem_cons.mpr ⟨lw_p60, List.forall_mem_cons.mpr ⟨lw_p61, List.forall_mem_cons.mpr ⟨lw_p62, List.forall_mem_cons.mpr ⟨lw_p63, fun _ h => absurd h List.not_mem_nil⟩⟩⟩⟩⟩⟩⟩⟩⟩⟩⟩⟩⟩⟩⟩⟩
theorem lw_p64 : lw_okq (⟨"TruthWalkModel", "weightOf", "(II)J"⟩, 49) := ⟨⟨by decide +kernel, by decide +kernel⟩, List.mem_of_getElem? (i := 786) (by decide +kernel), List.mem_of_getElem? (i := 1187) (by decide +kernel), List.mem_of_getElem? (i := 1188) (by decide +kernel)⟩
def lw_privs_5 : List (MethodName × Nat) := [(⟨"TruthWalkModel", "weightOf", "(II)J"⟩, 49)]
theorem lw_r5 : ∀ q ∈ lw_privs_5, lw_okq q := List.forall_mem_cons.mpr ⟨lw_p64, fun _ h => absurd h List.not_mem_nil⟩
def lw_privs : List (MethodName × Nat) := lw_privs_1 ++ (lw_privs_2 ++ (lw_privs_3 ++ (lw_privs_4 ++ (lw_privs_5))))
def lw_tbl : List Cond := k2_sels lw_privs ++ tables_1
theorem lw_privs_ok : ∀ q ∈ lw_privs, lw_okq q := by
  show ∀ q ∈ lw_privs_1 ++ (lw_privs_2 ++ (lw_privs_3 ++ (lw_privs_4 ++ (lw_privs_5)))), lw_okq q
  exact List.forall_mem_append.mpr ⟨lw_r1, List.forall_mem_append.mpr ⟨lw_r2, List.forall_mem_append.mpr ⟨lw_r3, List.forall_mem_append.mpr ⟨lw_r4, lw_r5⟩⟩⟩⟩
end
section
/-! tables: names, fields, methods, links (printed by wip/whole/gen_tables.py) -/
def cnm : Nat → String
  | 0 => "TruthWalk$Book"
  | 1 => "TruthWalk$Graph"
  | 2 => "TruthWalk$Level"
  | 3 => "TruthWalk$Maker"
  | 4 => "TruthWalk$Met"
  | 5 => "TruthWalk$RowSet"
  | 6 => "TruthWalk"
  | 7 => "TruthWalkModel"
  | 8 => "TruthWalkLaw"
  | 9 => "java/lang/Integer"
  | 10 => "java/lang/Long"
  | 11 => "java/lang/Math"
  | _ => ""
def FF0 : u_T := fun k => match k with
  | 0 => ("TruthWalk$Book", "clauses", "[I", true)
  | 1 => ("TruthWalk$Book", "weights", "[I", true)
  | 2 => ("TruthWalk$Book", "graph", "LTruthWalk$Graph;", true)
  | 3 => ("TruthWalk$Book", "told", "LTruthWalk$RowSet;", true)
  | 4 => ("TruthWalk$Book", "letterCount", "I", false)
  | 5 => ("TruthWalk$Book", "clauseCount", "I", false)
  | 6 => ("TruthWalk$Book", "askedLetters", "I", false)
  | 7 => ("TruthWalk$Book", "fixedSigns", "I", false)
  | _ => ("TruthWalk$Book", "compiled", "Z", false)
def FT0 : Nat → FieldType := fun k => match k with
  | 0 => .array .int
  | 1 => .array .int
  | 2 => .object "TruthWalk$Graph"
  | 3 => .object "TruthWalk$RowSet"
  | 4 => .int
  | 5 => .int
  | 6 => .int
  | 7 => .int
  | _ => .boolean
def FF1 : u_T := fun k => match k with
  | 0 => ("TruthWalk$Graph", "kinds", "[I", true)
  | 1 => ("TruthWalk$Graph", "names", "[I", true)
  | 2 => ("TruthWalk$Graph", "partCounts", "[I", true)
  | 3 => ("TruthWalk$Graph", "letterSets", "[I", true)
  | 4 => ("TruthWalk$Graph", "parts", "[I", true)
  | 5 => ("TruthWalk$Graph", "saidByNode", "[J", true)
  | 6 => ("TruthWalk$Graph", "said", "LTruthWalk$RowSet;", true)
  | 7 => ("TruthWalk$Graph", "saidIsOld", "Z", false)
  | 8 => ("TruthWalk$Graph", "nodeCount", "I", false)
  | 9 => ("TruthWalk$Graph", "rootNode", "I", false)
  | 10 => ("TruthWalk$Graph", "metAgain", "I", false)
  | _ => ("TruthWalk$Graph", "spent", "Z", false)
def FT1 : Nat → FieldType := fun k => match k with
  | 0 => .array .int
  | 1 => .array .int
  | 2 => .array .int
  | 3 => .array .int
  | 4 => .array .int
  | 5 => .array .long
  | 6 => .object "TruthWalk$RowSet"
  | 7 => .boolean
  | 8 => .int
  | 9 => .int
  | 10 => .int
  | _ => .boolean
def FF2 : u_T := fun k => match k with
  | 0 => ("TruthWalk$Level", "list", "[I", true)
  | 1 => ("TruthWalk$Level", "pieceOf", "[I", true)
  | 2 => ("TruthWalk$Level", "piece", "[I", true)
  | 3 => ("TruthWalk$Level", "taken", "[I", true)
  | 4 => ("TruthWalk$Level", "pieceNodes", "[I", true)
  | 5 => ("TruthWalk$Level", "size", "I", false)
  | 6 => ("TruthWalk$Level", "pieceSize", "I", false)
  | 7 => ("TruthWalk$Level", "takenCount", "I", false)
  | _ => ("TruthWalk$Level", "nodeCount", "I", false)
def FT2 : Nat → FieldType := fun k => match k with
  | 0 => .array .int
  | 1 => .array .int
  | 2 => .array .int
  | 3 => .array .int
  | 4 => .array .int
  | 5 => .int
  | 6 => .int
  | 7 => .int
  | _ => .int
def FF3 : u_T := fun k => match k with
  | 0 => ("TruthWalk$Maker", "levels", "[LTruthWalk$Level;", true)
  | 1 => ("TruthWalk$Maker", "met", "LTruthWalk$Met;", true)
  | 2 => ("TruthWalk$Maker", "lits", "[I", true)
  | _ => ("TruthWalk$Maker", "askedLetters", "I", false)
def FT3 : Nat → FieldType := fun k => match k with
  | 0 => .array (.object "TruthWalk$Level")
  | 1 => .object "TruthWalk$Met"
  | 2 => .array .int
  | _ => .int
def FF4 : u_T := fun k => match k with
  | 0 => ("TruthWalk$Met", "clauses", "[I", true)
  | 1 => ("TruthWalk$Met", "starts", "[I", true)
  | 2 => ("TruthWalk$Met", "sizes", "[I", true)
  | 3 => ("TruthWalk$Met", "nodes", "[I", true)
  | 4 => ("TruthWalk$Met", "earlier", "[I", true)
  | 5 => ("TruthWalk$Met", "latest", "[I", true)
  | 6 => ("TruthWalk$Met", "metCount", "I", false)
  | _ => ("TruthWalk$Met", "clausesUsed", "I", false)
def FT4 : Nat → FieldType := fun k => match k with
  | 0 => .array .int
  | 1 => .array .int
  | 2 => .array .int
  | 3 => .array .int
  | 4 => .array .int
  | 5 => .array .int
  | 6 => .int
  | _ => .int
def FF5 : u_T := fun k => match k with
  | 0 => ("TruthWalk$RowSet", "words", "[J", true)
  | 1 => ("TruthWalk$RowSet", "letterCount", "I", false)
  | 2 => ("TruthWalk$RowSet", "rowLimit", "I", false)
  | _ => ("TruthWalk$RowSet", "wordCount", "I", false)
def FT5 : Nat → FieldType := fun k => match k with
  | 0 => .array .long
  | 1 => .int
  | 2 => .int
  | _ => .int
def FF6 : u_T := fun k => match k with
  | 0 => ("TruthWalk", "bookZero", "LTruthWalk$Book;", true)
  | 1 => ("TruthWalk", "bookOne", "LTruthWalk$Book;", true)
  | 2 => ("TruthWalk", "maker", "LTruthWalk$Maker;", true)
  | 3 => ("TruthWalk", "rowWeights", "[J", true)
  | 4 => ("TruthWalk", "ways", "LTruthWalk$RowSet;", true)
  | 5 => ("TruthWalk", "theRow", "[I", true)
  | 6 => ("TruthWalk", "refusals", "[I", true)
  | 7 => ("TruthWalk", "rowSize", "I", false)
  | 8 => ("TruthWalk", "rowThere", "Z", false)
  | _ => ("TruthWalk", "culprit", "I", false)
def FT6 : Nat → FieldType := fun k => match k with
  | 0 => .object "TruthWalk$Book"
  | 1 => .object "TruthWalk$Book"
  | 2 => .object "TruthWalk$Maker"
  | 3 => .array .long
  | 4 => .object "TruthWalk$RowSet"
  | 5 => .array .int
  | 6 => .array .int
  | 7 => .int
  | 8 => .boolean
  | _ => .int
def FF7 : u_T := fun k => match k with
  | 0 => ("TruthWalkModel", "n", "[I", true)
  | 1 => ("TruthWalkModel", "clauses", "[I", true)
  | 2 => ("TruthWalkModel", "clauseCount", "[I", true)
  | 3 => ("TruthWalkModel", "askedLetters", "[I", true)
  | 4 => ("TruthWalkModel", "fixedYes", "[I", true)
  | 5 => ("TruthWalkModel", "fixedNo", "[I", true)
  | 6 => ("TruthWalkModel", "weights", "[I", true)
  | 7 => ("TruthWalkModel", "refused", "[I", true)
  | 8 => ("TruthWalkModel", "nodes", "[I", true)
  | 9 => ("TruthWalkModel", "roots", "[I", true)
  | 10 => ("TruthWalkModel", "metAgain", "[I", true)
  | 11 => ("TruthWalkModel", "kind", "[I", true)
  | 12 => ("TruthWalkModel", "told", "[I", true)
  | 13 => ("TruthWalkModel", "partAt", "[I", true)
  | 14 => ("TruthWalkModel", "partCount", "[I", true)
  | 15 => ("TruthWalkModel", "parts", "[I", true)
  | 16 => ("TruthWalkModel", "partsUsed", "[I", true)
  | 17 => ("TruthWalkModel", "litNode", "[I", true)
  | 18 => ("TruthWalkModel", "isSpent", "Z", false)
  | 19 => ("TruthWalkModel", "list", "[I", true)
  | 20 => ("TruthWalkModel", "listSize", "[I", true)
  | 21 => ("TruthWalkModel", "taken", "[I", true)
  | 22 => ("TruthWalkModel", "takenCount", "[I", true)
  | 23 => ("TruthWalkModel", "pieceOf", "[I", true)
  | 24 => ("TruthWalkModel", "pieceCount", "[I", true)
  | 25 => ("TruthWalkModel", "pieceAt", "[I", true)
  | 26 => ("TruthWalkModel", "pieceNode", "[I", true)
  | 27 => ("TruthWalkModel", "piece", "[I", true)
  | 28 => ("TruthWalkModel", "pieceSize", "[I", true)
  | 29 => ("TruthWalkModel", "letterAt", "[I", true)
  | 30 => ("TruthWalkModel", "stage", "[I", true)
  | 31 => ("TruthWalkModel", "yesNode", "[I", true)
  | 32 => ("TruthWalkModel", "metAt", "[I", true)
  | 33 => ("TruthWalkModel", "metSize", "[I", true)
  | 34 => ("TruthWalkModel", "metNode", "[I", true)
  | 35 => ("TruthWalkModel", "pool", "[I", true)
  | 36 => ("TruthWalkModel", "mets", "I", false)
  | 37 => ("TruthWalkModel", "pooled", "I", false)
  | 38 => ("TruthWalkModel", "depth", "I", false)
  | 39 => ("TruthWalkModel", "result", "I", false)
  | 40 => ("TruthWalkModel", "lettersIn", "[I", true)
  | 41 => ("TruthWalkModel", "says", "[Z", true)
  | 42 => ("TruthWalkModel", "saysNode", "[Z", true)
  | 43 => ("TruthWalkModel", "isLaid", "[Z", true)
  | 44 => ("TruthWalkModel", "guilty", "I", false)
  | 45 => ("TruthWalkModel", "seen", "[Z", true)
  | 46 => ("TruthWalkModel", "row", "[I", true)
  | 47 => ("TruthWalkModel", "moved", "[I", true)
  | _ => ("TruthWalkModel", "rowSize", "I", false)
def FT7 : Nat → FieldType := fun k => match k with
  | 0 => .array .int
  | 1 => .array .int
  | 2 => .array .int
  | 3 => .array .int
  | 4 => .array .int
  | 5 => .array .int
  | 6 => .array .int
  | 7 => .array .int
  | 8 => .array .int
  | 9 => .array .int
  | 10 => .array .int
  | 11 => .array .int
  | 12 => .array .int
  | 13 => .array .int
  | 14 => .array .int
  | 15 => .array .int
  | 16 => .array .int
  | 17 => .array .int
  | 18 => .boolean
  | 19 => .array .int
  | 20 => .array .int
  | 21 => .array .int
  | 22 => .array .int
  | 23 => .array .int
  | 24 => .array .int
  | 25 => .array .int
  | 26 => .array .int
  | 27 => .array .int
  | 28 => .array .int
  | 29 => .array .int
  | 30 => .array .int
  | 31 => .array .int
  | 32 => .array .int
  | 33 => .array .int
  | 34 => .array .int
  | 35 => .array .int
  | 36 => .int
  | 37 => .int
  | 38 => .int
  | 39 => .int
  | 40 => .array .int
  | 41 => .array .boolean
  | 42 => .array .boolean
  | 43 => .array .boolean
  | 44 => .int
  | 45 => .array .boolean
  | 46 => .array .int
  | 47 => .array .int
  | _ => .int
def nfs : Nat → Nat
  | 0 => 9
  | 1 => 12
  | 2 => 9
  | 3 => 4
  | 4 => 8
  | 5 => 4
  | 6 => 10
  | 7 => 49
  | _ => 0
def FF : Nat → u_T
  | 0 => FF0
  | 1 => FF1
  | 2 => FF2
  | 3 => FF3
  | 4 => FF4
  | 5 => FF5
  | 6 => FF6
  | _ => FF7
def FT : Nat → Nat → FieldType
  | 0 => FT0
  | 1 => FT1
  | 2 => FT2
  | 3 => FT3
  | 4 => FT4
  | 5 => FT5
  | 6 => FT6
  | _ => FT7
abbrev clss : List vw_C := [("TruthWalk$Book", FF0, 9), ("TruthWalk$Graph", FF1, 12), ("TruthWalk$Level", FF2, 9), ("TruthWalk$Maker", FF3, 4), ("TruthWalk$Met", FF4, 8), ("TruthWalk$RowSet", FF5, 4), ("TruthWalk", FF6, 10), ("TruthWalkModel", FF7, 49)]
def fty (ci k : Nat) : Nat := match FT ci k with | .int => 0 | .boolean => 1 | _ => 2
def byt : Nat → ByteArray
  | 0 => prog_2_method_1_code
  | 1 => prog_2_method_2_code
  | 2 => prog_2_method_3_code
  | 3 => prog_2_method_4_code
  | 4 => prog_2_method_5_code
  | 5 => prog_2_method_6_code
  | 6 => prog_2_method_7_code
  | 7 => prog_2_method_8_code
  | 8 => prog_2_method_9_code
  | 9 => prog_2_method_10_code
  | 10 => prog_2_method_11_code
  | 11 => prog_2_method_12_code
  | 12 => prog_2_method_13_code
  | 13 => prog_2_method_14_code
  | 14 => prog_2_method_15_code
  | 15 => prog_2_method_16_code
  | 16 => prog_2_method_17_code
  | 17 => prog_2_method_18_code
  | 18 => prog_2_method_19_code
  | 19 => prog_3_method_1_code
  | 20 => prog_3_method_2_code
  | 21 => prog_3_method_3_code
  | 22 => prog_3_method_4_code
  | 23 => prog_3_method_5_code
  | 24 => prog_3_method_6_code
  | 25 => prog_3_method_7_code
  | 26 => prog_3_method_8_code
  | 27 => prog_3_method_9_code
  | 28 => prog_3_method_10_code
  | 29 => prog_3_method_11_code
  | 30 => prog_3_method_12_code
  | 31 => prog_3_method_13_code
  | 32 => prog_3_method_14_code
  | 33 => prog_3_method_15_code
  | 34 => prog_3_method_16_code
  | 35 => prog_4_method_1_code
  | 36 => prog_4_method_2_code
  | 37 => prog_4_method_3_code
  | 38 => prog_4_method_4_code
  | 39 => prog_4_method_5_code
  | 40 => prog_4_method_6_code
  | 41 => prog_4_method_7_code
  | 42 => prog_4_method_8_code
  | 43 => prog_4_method_9_code
  | 44 => prog_4_method_10_code
  | 45 => prog_4_method_11_code
  | 46 => prog_4_method_12_code
  | 47 => prog_4_method_13_code
  | 48 => prog_5_method_1_code
  | 49 => prog_5_method_2_code
  | 50 => prog_5_method_3_code
  | 51 => prog_5_method_4_code
  | 52 => prog_5_method_5_code
  | 53 => prog_5_method_6_code
  | 54 => prog_5_method_7_code
  | 55 => prog_6_method_1_code
  | 56 => prog_6_method_2_code
  | 57 => prog_6_method_3_code
  | 58 => prog_6_method_4_code
  | 59 => prog_6_method_5_code
  | 60 => prog_6_method_6_code
  | 61 => prog_7_method_1_code
  | 62 => prog_7_method_2_code
  | 63 => prog_7_method_3_code
  | 64 => prog_7_method_4_code
  | 65 => prog_7_method_5_code
  | 66 => prog_7_method_6_code
  | 67 => prog_7_method_7_code
  | 68 => prog_7_method_8_code
  | 69 => prog_7_method_9_code
  | 70 => prog_7_method_10_code
  | 71 => prog_7_method_11_code
  | 72 => prog_7_method_12_code
  | 73 => prog_7_method_13_code
  | 74 => prog_1_method_1_code
  | 75 => prog_1_method_2_code
  | 76 => prog_1_method_3_code
  | 77 => prog_1_method_4_code
  | 78 => prog_1_method_5_code
  | 79 => prog_1_method_6_code
  | 80 => prog_1_method_7_code
  | 81 => prog_1_method_8_code
  | 82 => prog_1_method_9_code
  | 83 => prog_1_method_10_code
  | 84 => prog_1_method_11_code
  | 85 => prog_1_method_12_code
  | 86 => prog_1_method_13_code
  | 87 => prog_1_method_14_code
  | 88 => prog_1_method_15_code
  | 89 => prog_1_method_16_code
  | 90 => prog_1_method_17_code
  | 91 => prog_1_method_18_code
  | 92 => prog_1_method_19_code
  | 93 => prog_1_method_20_code
  | 94 => prog_1_method_21_code
  | 95 => prog_1_method_22_code
  | 96 => prog_1_method_23_code
  | 97 => prog_1_method_24_code
  | 98 => prog_1_method_25_code
  | 99 => prog_1_method_26_code
  | 100 => prog_1_method_27_code
  | 101 => prog_1_method_28_code
  | 102 => prog_1_method_29_code
  | 103 => prog_1_method_30_code
  | 104 => prog_1_method_31_code
  | 105 => prog_1_method_32_code
  | 106 => prog_1_method_33_code
  | 107 => prog_1_method_34_code
  | 108 => prog_1_method_35_code
  | 109 => prog_1_method_36_code
  | 110 => prog_1_method_37_code
  | 111 => prog_1_method_38_code
  | 112 => prog_1_method_39_code
  | 113 => prog_1_method_40_code
  | 114 => prog_1_method_41_code
  | 115 => prog_1_method_42_code
  | 116 => prog_1_method_43_code
  | 117 => prog_1_method_44_code
  | 118 => prog_1_method_45_code
  | 119 => prog_1_method_46_code
  | 120 => prog_1_method_47_code
  | 121 => prog_1_method_48_code
  | 122 => prog_1_method_49_code
  | 123 => prog_9_method_1_code
  | 124 => prog_9_method_2_code
  | 125 => prog_9_method_3_code
  | 126 => prog_9_method_4_code
  | 127 => prog_9_method_5_code
  | 128 => prog_9_method_6_code
  | 129 => prog_9_method_7_code
  | 130 => prog_9_method_8_code
  | 131 => prog_9_method_9_code
  | 132 => prog_9_method_10_code
  | 133 => prog_9_method_11_code
  | 134 => prog_9_method_12_code
  | 135 => prog_9_method_13_code
  | 136 => prog_9_method_14_code
  | 137 => prog_9_method_15_code
  | 138 => prog_9_method_16_code
  | 139 => prog_9_method_17_code
  | 140 => prog_9_method_18_code
  | 141 => prog_9_method_19_code
  | 142 => prog_9_method_20_code
  | 143 => prog_9_method_21_code
  | 144 => prog_9_method_22_code
  | 145 => prog_9_method_23_code
  | 146 => prog_9_method_24_code
  | 147 => prog_9_method_25_code
  | 148 => prog_9_method_26_code
  | 149 => prog_9_method_27_code
  | 150 => prog_9_method_28_code
  | 151 => prog_9_method_29_code
  | 152 => prog_9_method_30_code
  | 153 => prog_9_method_31_code
  | 154 => prog_9_method_32_code
  | 155 => prog_9_method_33_code
  | 156 => prog_9_method_34_code
  | 157 => prog_9_method_35_code
  | 158 => prog_9_method_36_code
  | 159 => prog_9_method_37_code
  | 160 => prog_9_method_38_code
  | 161 => prog_9_method_39_code
  | 162 => prog_9_method_40_code
  | 163 => prog_9_method_41_code
  | 164 => prog_9_method_42_code
  | 165 => prog_9_method_43_code
  | 166 => prog_9_method_44_code
  | 167 => prog_9_method_45_code
  | 168 => prog_9_method_46_code
  | 169 => prog_9_method_47_code
  | 170 => prog_9_method_48_code
  | 171 => prog_9_method_49_code
  | 172 => prog_9_method_50_code
  | 173 => prog_9_method_51_code
  | 174 => prog_9_method_52_code
  | 175 => prog_9_method_53_code
  | 176 => prog_9_method_54_code
  | 177 => prog_9_method_55_code
  | 178 => prog_9_method_56_code
  | 179 => prog_9_method_57_code
  | 180 => prog_9_method_58_code
  | 181 => prog_9_method_59_code
  | 182 => prog_9_method_60_code
  | 183 => prog_9_method_61_code
  | 184 => prog_9_method_62_code
  | 185 => prog_9_method_63_code
  | 186 => prog_9_method_64_code
  | 187 => prog_9_method_65_code
  | 188 => prog_9_method_66_code
  | 189 => prog_9_method_67_code
  | 190 => prog_9_method_68_code
  | 191 => prog_9_method_69_code
  | 192 => prog_9_method_70_code
  | 193 => prog_9_method_71_code
  | 194 => prog_9_method_72_code
  | 195 => prog_9_method_73_code
  | 196 => prog_9_method_74_code
  | 197 => prog_9_method_75_code
  | 198 => prog_9_method_76_code
  | 199 => prog_9_method_77_code
  | 200 => prog_9_method_78_code
  | 201 => prog_9_method_79_code
  | 202 => prog_9_method_80_code
  | 203 => prog_10_method_49_code
  | 204 => prog_11_method_50_code
  | 205 => prog_12_method_59_code
  | 206 => prog_12_method_65_code
  | 207 => prog_12_method_69_code
  | _ => code
def mth : Nat → MethodName
  | 0 => ⟨"TruthWalk$Book", "<init>", "()V"⟩
  | 1 => ⟨"TruthWalk$Book", "startAnew", "(I)V"⟩
  | 2 => ⟨"TruthWalk$Book", "rowCount", "()I"⟩
  | 3 => ⟨"TruthWalk$Book", "hasLetter", "(I)Z"⟩
  | 4 => ⟨"TruthWalk$Book", "hasSign", "(I)Z"⟩
  | 5 => ⟨"TruthWalk$Book", "allows", "(I)Z"⟩
  | 6 => ⟨"TruthWalk$Book", "clauseAt", "(I)I"⟩
  | 7 => ⟨"TruthWalk$Book", "addClause", "(I)V"⟩
  | 8 => ⟨"TruthWalk$Book", "widenLast", "(I)V"⟩
  | 9 => ⟨"TruthWalk$Book", "dropLast", "()V"⟩
  | 10 => ⟨"TruthWalk$Book", "weightOf", "(I)I"⟩
  | 11 => ⟨"TruthWalk$Book", "setWeight", "(II)V"⟩
  | 12 => ⟨"TruthWalk$Book", "weightOfRow", "(I)J"⟩
  | 13 => ⟨"TruthWalk$Book", "weighAllRows", "([J)V"⟩
  | 14 => ⟨"TruthWalk$Book", "rowBitsOfAsked", "()I"⟩
  | 15 => ⟨"TruthWalk$Book", "toldRows", "()LTruthWalk$RowSet;"⟩
  | 16 => ⟨"TruthWalk$Book", "leastRowToldWrong", "()I"⟩
  | 17 => ⟨"TruthWalk$Book", "wholeRows", "(I)J"⟩
  | 18 => ⟨"TruthWalk$Book", "rowsOfClause", "(II)J"⟩
  | 19 => ⟨"TruthWalk$Graph", "<init>", "()V"⟩
  | 20 => ⟨"TruthWalk$Graph", "startAnew", "()V"⟩
  | 21 => ⟨"TruthWalk$Graph", "hasNode", "(I)Z"⟩
  | 22 => ⟨"TruthWalk$Graph", "addNode", "(III)I"⟩
  | 23 => ⟨"TruthWalk$Graph", "addPart", "(II)V"⟩
  | 24 => ⟨"TruthWalk$Graph", "partAt", "(II)I"⟩
  | 25 => ⟨"TruthWalk$Graph", "bendPart", "(III)V"⟩
  | 26 => ⟨"TruthWalk$Graph", "gatherLetters", "(I)V"⟩
  | 27 => ⟨"TruthWalk$Graph", "leastSharingBoth", "()I"⟩
  | 28 => ⟨"TruthWalk$Graph", "partsShare", "(I)Z"⟩
  | 29 => ⟨"TruthWalk$Graph", "leastRepeatingChoice", "()I"⟩
  | 30 => ⟨"TruthWalk$Graph", "saidByRoot", "(I)LTruthWalk$RowSet;"⟩
  | 31 => ⟨"TruthWalk$Graph", "wordOfRoot", "(II)J"⟩
  | 32 => ⟨"TruthWalk$Graph", "wordOfNode", "(III)J"⟩
  | 33 => ⟨"TruthWalk$Graph", "wordOfBoth", "(I)J"⟩
  | 34 => ⟨"TruthWalk$Graph", "wordOfChoice", "(IJ)J"⟩
  | 35 => ⟨"TruthWalk$Level", "<init>", "()V"⟩
  | 36 => ⟨"TruthWalk$Level", "load", "([III)V"⟩
  | 37 => ⟨"TruthWalk$Level", "take", "([III)V"⟩
  | 38 => ⟨"TruthWalk$Level", "addUnlike", "(I)V"⟩
  | 39 => ⟨"TruthWalk$Level", "takeLoneSigns", "()Z"⟩
  | 40 => ⟨"TruthWalk$Level", "hasClauseWithoutSign", "()Z"⟩
  | 41 => ⟨"TruthWalk$Level", "firstLoneSign", "()I"⟩
  | 42 => ⟨"TruthWalk$Level", "markPieces", "()I"⟩
  | 43 => ⟨"TruthWalk$Level", "spreadPiece", "(II)V"⟩
  | 44 => ⟨"TruthWalk$Level", "pickPiece", "(I)V"⟩
  | 45 => ⟨"TruthWalk$Level", "keepNode", "(I)V"⟩
  | 46 => ⟨"TruthWalk$Level", "letterToChoose", "(I)I"⟩
  | 47 => ⟨"TruthWalk$Level", "clausesWith", "(I)I"⟩
  | 48 => ⟨"TruthWalk$Maker", "<init>", "()V"⟩
  | 49 => ⟨"TruthWalk$Maker", "makeGraph", "(LTruthWalk$Book;)Z"⟩
  | 50 => ⟨"TruthWalk$Maker", "makeList", "(LTruthWalk$Graph;I)I"⟩
  | 51 => ⟨"TruthWalk$Maker", "makePiece", "(LTruthWalk$Graph;I)I"⟩
  | 52 => ⟨"TruthWalk$Maker", "makeSide", "(LTruthWalk$Graph;II)I"⟩
  | 53 => ⟨"TruthWalk$Maker", "nodeOfList", "(LTruthWalk$Graph;LTruthWalk$Level;)I"⟩
  | 54 => ⟨"TruthWalk$Maker", "litOf", "(LTruthWalk$Graph;I)I"⟩
  | 55 => ⟨"TruthWalk$Met", "<init>", "()V"⟩
  | 56 => ⟨"TruthWalk$Met", "forgetAll", "()V"⟩
  | 57 => ⟨"TruthWalk$Met", "nodeOf", "([II)I"⟩
  | 58 => ⟨"TruthWalk$Met", "remember", "([III)Z"⟩
  | 59 => ⟨"TruthWalk$Met", "isSame", "(I[II)Z"⟩
  | 60 => ⟨"TruthWalk$Met", "chainOf", "([II)I"⟩
  | 61 => ⟨"TruthWalk$RowSet", "<init>", "()V"⟩
  | 62 => ⟨"TruthWalk$RowSet", "empty", "(I)V"⟩
  | 63 => ⟨"TruthWalk$RowSet", "become", "(LTruthWalk$RowSet;)V"⟩
  | 64 => ⟨"TruthWalk$RowSet", "setWord", "(IJ)V"⟩
  | 65 => ⟨"TruthWalk$RowSet", "put", "(I)V"⟩
  | 66 => ⟨"TruthWalk$RowSet", "has", "(I)Z"⟩
  | 67 => ⟨"TruthWalk$RowSet", "keepWhere", "(I)V"⟩
  | 68 => ⟨"TruthWalk$RowSet", "size", "()I"⟩
  | 69 => ⟨"TruthWalk$RowSet", "sizeBelow", "(I)I"⟩
  | 70 => ⟨"TruthWalk$RowSet", "sizeWithout", "(LTruthWalk$RowSet;)I"⟩
  | 71 => ⟨"TruthWalk$RowSet", "leastFrom", "(I)I"⟩
  | 72 => ⟨"TruthWalk$RowSet", "rowOfRank", "(I)I"⟩
  | 73 => ⟨"TruthWalk$RowSet", "rowOfRankFrom", "(II)I"⟩
  | 74 => ⟨"TruthWalk", "<init>", "()V"⟩
  | 75 => ⟨"TruthWalk", "letters", "(II)I"⟩
  | 76 => ⟨"TruthWalk", "clause", "(IIIII)I"⟩
  | 77 => ⟨"TruthWalk", "more", "(II)I"⟩
  | 78 => ⟨"TruthWalk", "drop", "(I)I"⟩
  | 79 => ⟨"TruthWalk", "ask", "(IIZ)I"⟩
  | 80 => ⟨"TruthWalk", "fix", "(II)I"⟩
  | 81 => ⟨"TruthWalk", "loose", "(II)I"⟩
  | 82 => ⟨"TruthWalk", "weight", "(III)I"⟩
  | 83 => ⟨"TruthWalk", "count", "(II)I"⟩
  | 84 => ⟨"TruthWalk", "compile", "(I)I"⟩
  | 85 => ⟨"TruthWalk", "root", "(I)I"⟩
  | 86 => ⟨"TruthWalk", "node", "(III)I"⟩
  | 87 => ⟨"TruthWalk", "part", "(III)I"⟩
  | 88 => ⟨"TruthWalk", "bend", "(IIII)I"⟩
  | 89 => ⟨"TruthWalk", "judge", "(I)I"⟩
  | 90 => ⟨"TruthWalk", "guilty", "()I"⟩
  | 91 => ⟨"TruthWalk", "rows", "(I)I"⟩
  | 92 => ⟨"TruthWalk", "says", "(II)I"⟩
  | 93 => ⟨"TruthWalk", "sum", "(I)J"⟩
  | 94 => ⟨"TruthWalk", "chance", "(IIZ)J"⟩
  | 95 => ⟨"TruthWalk", "sure", "(II)I"⟩
  | 96 => ⟨"TruthWalk", "kth", "(II)I"⟩
  | 97 => ⟨"TruthWalk", "rank", "(II)I"⟩
  | 98 => ⟨"TruthWalk", "next", "(II)I"⟩
  | 99 => ⟨"TruthWalk", "most", "(IZ)I"⟩
  | 100 => ⟨"TruthWalk", "weigh", "(II)J"⟩
  | 101 => ⟨"TruthWalk", "asked", "(I)I"⟩
  | 102 => ⟨"TruthWalk", "less", "(Z)I"⟩
  | 103 => ⟨"TruthWalk", "join", "()I"⟩
  | 104 => ⟨"TruthWalk", "lay", "(II)I"⟩
  | 105 => ⟨"TruthWalk", "tear", "()I"⟩
  | 106 => ⟨"TruthWalk", "row", "(I)I"⟩
  | 107 => ⟨"TruthWalk", "copy", "(III)I"⟩
  | 108 => ⟨"TruthWalk", "give", "(I)I"⟩
  | 109 => ⟨"TruthWalk", "status", "(I)I"⟩
  | 110 => ⟨"TruthWalk", "bookAt", "(I)LTruthWalk$Book;"⟩
  | 111 => ⟨"TruthWalk", "refuse", "(I)I"⟩
  | 112 => ⟨"TruthWalk", "refuseWithZero", "(I)J"⟩
  | 113 => ⟨"TruthWalk", "putClause", "(LTruthWalk$Book;I)I"⟩
  | 114 => ⟨"TruthWalk", "putInRow", "(I)V"⟩
  | 115 => ⟨"TruthWalk", "weightOfAll", "(LTruthWalk$RowSet;)J"⟩
  | 116 => ⟨"TruthWalk", "heaviest", "(LTruthWalk$RowSet;Z)I"⟩
  | 117 => ⟨"TruthWalk", "greatestDivisor", "(JJ)J"⟩
  | 118 => ⟨"TruthWalk", "placeOf", "(I)I"⟩
  | 119 => ⟨"TruthWalk", "bitOf", "(I)I"⟩
  | 120 => ⟨"TruthWalk", "denialOf", "(I)I"⟩
  | 121 => ⟨"TruthWalk", "lettersOf", "(I)I"⟩
  | 122 => ⟨"TruthWalk", "rowsWhere", "(III)J"⟩
  | 123 => ⟨"TruthWalkModel", "<init>", "()V"⟩
  | 124 => ⟨"TruthWalkModel", "isIn", "(JJJ)Z"⟩
  | 125 => ⟨"TruthWalkModel", "no", "(I)I"⟩
  | 126 => ⟨"TruthWalkModel", "isBook", "(I)Z"⟩
  | 127 => ⟨"TruthWalkModel", "isSign", "(II)Z"⟩
  | 128 => ⟨"TruthWalkModel", "bitOf", "(I)I"⟩
  | 129 => ⟨"TruthWalkModel", "many", "(I)I"⟩
  | 130 => ⟨"TruthWalkModel", "denied", "(I)I"⟩
  | 131 => ⟨"TruthWalkModel", "lettersOf", "(I)I"⟩
  | 132 => ⟨"TruthWalkModel", "letters", "(II)I"⟩
  | 133 => ⟨"TruthWalkModel", "adds", "(II)I"⟩
  | 134 => ⟨"TruthWalkModel", "mayBe", "(II)Z"⟩
  | 135 => ⟨"TruthWalkModel", "clause", "(IIIII)I"⟩
  | 136 => ⟨"TruthWalkModel", "more", "(II)I"⟩
  | 137 => ⟨"TruthWalkModel", "drop", "(I)I"⟩
  | 138 => ⟨"TruthWalkModel", "isLetter", "(II)Z"⟩
  | 139 => ⟨"TruthWalkModel", "ask", "(IIZ)I"⟩
  | 140 => ⟨"TruthWalkModel", "fix", "(II)I"⟩
  | 141 => ⟨"TruthWalkModel", "loose", "(II)I"⟩
  | 142 => ⟨"TruthWalkModel", "weightAt", "(II)I"⟩
  | 143 => ⟨"TruthWalkModel", "weight", "(III)I"⟩
  | 144 => ⟨"TruthWalkModel", "count", "(II)I"⟩
  | 145 => ⟨"TruthWalkModel", "comes", "(III)I"⟩
  | 146 => ⟨"TruthWalkModel", "addPart", "(III)V"⟩
  | 147 => ⟨"TruthWalkModel", "addsTo", "(II)V"⟩
  | 148 => ⟨"TruthWalkModel", "takes", "(II)V"⟩
  | 149 => ⟨"TruthWalkModel", "withSigns", "(II)I"⟩
  | 150 => ⟨"TruthWalkModel", "simplifies", "(I)Z"⟩
  | 151 => ⟨"TruthWalkModel", "findPieces", "(I)V"⟩
  | 152 => ⟨"TruthWalkModel", "opens", "()V"⟩
  | 153 => ⟨"TruthWalkModel", "metPiece", "(I)I"⟩
  | 154 => ⟨"TruthWalkModel", "meets", "(II)V"⟩
  | 155 => ⟨"TruthWalkModel", "letterOf", "(II)I"⟩
  | 156 => ⟨"TruthWalkModel", "goesInto", "(II)V"⟩
  | 157 => ⟨"TruthWalkModel", "litOf", "(II)I"⟩
  | 158 => ⟨"TruthWalkModel", "closes", "(II)V"⟩
  | 159 => ⟨"TruthWalkModel", "tells", "(II)V"⟩
  | 160 => ⟨"TruthWalkModel", "begins", "(II)V"⟩
  | 161 => ⟨"TruthWalkModel", "chooses", "(III)V"⟩
  | 162 => ⟨"TruthWalkModel", "goesOn", "(I)V"⟩
  | 163 => ⟨"TruthWalkModel", "compile", "(I)I"⟩
  | 164 => ⟨"TruthWalkModel", "root", "(I)I"⟩
  | 165 => ⟨"TruthWalkModel", "whyNode", "(II)I"⟩
  | 166 => ⟨"TruthWalkModel", "findLetters", "(I)V"⟩
  | 167 => ⟨"TruthWalkModel", "node", "(III)I"⟩
  | 168 => ⟨"TruthWalkModel", "whyPart", "(III)I"⟩
  | 169 => ⟨"TruthWalkModel", "part", "(III)I"⟩
  | 170 => ⟨"TruthWalkModel", "bend", "(IIII)I"⟩
  | 171 => ⟨"TruthWalkModel", "holds", "(III)Z"⟩
  | 172 => ⟨"TruthWalkModel", "sayOf", "(III)Z"⟩
  | 173 => ⟨"TruthWalkModel", "lays", "(I)V"⟩
  | 174 => ⟨"TruthWalkModel", "isWhole", "(II)Z"⟩
  | 175 => ⟨"TruthWalkModel", "sharesLetters", "(II)Z"⟩
  | 176 => ⟨"TruthWalkModel", "hasOwnLetter", "(II)Z"⟩
  | 177 => ⟨"TruthWalkModel", "judge", "(I)I"⟩
  | 178 => ⟨"TruthWalkModel", "guilty", "()I"⟩
  | 179 => ⟨"TruthWalkModel", "isRow", "(II)Z"⟩
  | 180 => ⟨"TruthWalkModel", "whyGraph", "(I)I"⟩
  | 181 => ⟨"TruthWalkModel", "rowsBefore", "(II)I"⟩
  | 182 => ⟨"TruthWalkModel", "rows", "(I)I"⟩
  | 183 => ⟨"TruthWalkModel", "says", "(II)I"⟩
  | 184 => ⟨"TruthWalkModel", "weightOf", "(II)J"⟩
  | 185 => ⟨"TruthWalkModel", "sums", "(II)J"⟩
  | 186 => ⟨"TruthWalkModel", "sum", "(I)J"⟩
  | 187 => ⟨"TruthWalkModel", "chance", "(IIZ)J"⟩
  | 188 => ⟨"TruthWalkModel", "sure", "(II)I"⟩
  | 189 => ⟨"TruthWalkModel", "kth", "(II)I"⟩
  | 190 => ⟨"TruthWalkModel", "rank", "(II)I"⟩
  | 191 => ⟨"TruthWalkModel", "next", "(II)I"⟩
  | 192 => ⟨"TruthWalkModel", "most", "(IZ)I"⟩
  | 193 => ⟨"TruthWalkModel", "weigh", "(II)J"⟩
  | 194 => ⟨"TruthWalkModel", "asked", "(I)I"⟩
  | 195 => ⟨"TruthWalkModel", "less", "(Z)I"⟩
  | 196 => ⟨"TruthWalkModel", "join", "()I"⟩
  | 197 => ⟨"TruthWalkModel", "lay", "(II)I"⟩
  | 198 => ⟨"TruthWalkModel", "tear", "()I"⟩
  | 199 => ⟨"TruthWalkModel", "row", "(I)I"⟩
  | 200 => ⟨"TruthWalkModel", "copy", "(III)I"⟩
  | 201 => ⟨"TruthWalkModel", "give", "(I)I"⟩
  | 202 => ⟨"TruthWalkModel", "status", "(I)I"⟩
  | 203 => ⟨"java/lang/Integer", "bitCount", "(I)I"⟩
  | 204 => ⟨"java/lang/Long", "bitCount", "(J)I"⟩
  | 205 => ⟨"java/lang/Math", "abs", "(I)I"⟩
  | 206 => ⟨"java/lang/Math", "max", "(II)I"⟩
  | 207 => ⟨"java/lang/Math", "min", "(II)I"⟩
  | _ => ⟨"TruthWalkLaw", "law", "([I)Z"⟩
def mxl : Nat → Nat
  | 0 => 1
  | 1 => 3
  | 2 => 1
  | 3 => 2
  | 4 => 2
  | 5 => 2
  | 6 => 2
  | 7 => 2
  | 8 => 2
  | 9 => 1
  | 10 => 2
  | 11 => 3
  | 12 => 6
  | 13 => 7
  | 14 => 3
  | 15 => 2
  | 16 => 3
  | 17 => 5
  | 18 => 8
  | 19 => 1
  | 20 => 1
  | 21 => 2
  | 22 => 5
  | 23 => 3
  | 24 => 3
  | 25 => 5
  | 26 => 4
  | 27 => 2
  | 28 => 5
  | 29 => 3
  | 30 => 3
  | 31 => 4
  | 32 => 4
  | 33 => 6
  | 34 => 5
  | 35 => 1
  | 36 => 4
  | 37 => 6
  | 38 => 3
  | 39 => 3
  | 40 => 2
  | 41 => 2
  | 42 => 3
  | 43 => 7
  | 44 => 3
  | 45 => 2
  | 46 => 7
  | 47 => 4
  | 48 => 2
  | 49 => 3
  | 50 => 7
  | 51 => 9
  | 52 => 4
  | 53 => 5
  | 54 => 6
  | 55 => 1
  | 56 => 2
  | 57 => 5
  | 58 => 6
  | 59 => 5
  | 60 => 4
  | 61 => 1
  | 62 => 3
  | 63 => 3
  | 64 => 4
  | 65 => 2
  | 66 => 2
  | 67 => 3
  | 68 => 1
  | 69 => 5
  | 70 => 4
  | 71 => 3
  | 72 => 5
  | 73 => 5
  | 74 => 1
  | 75 => 5
  | 76 => 7
  | 77 => 5
  | 78 => 3
  | 79 => 7
  | 80 => 7
  | 81 => 6
  | 82 => 6
  | 83 => 4
  | 84 => 3
  | 85 => 3
  | 86 => 5
  | 87 => 5
  | 88 => 7
  | 89 => 3
  | 90 => 1
  | 91 => 3
  | 92 => 4
  | 93 => 3
  | 94 => 12
  | 95 => 7
  | 96 => 5
  | 97 => 4
  | 98 => 4
  | 99 => 5
  | 100 => 4
  | 101 => 6
  | 102 => 4
  | 103 => 2
  | 104 => 6
  | 105 => 2
  | 106 => 2
  | 107 => 4
  | 108 => 5
  | 109 => 2
  | 110 => 2
  | 111 => 2
  | 112 => 2
  | 113 => 3
  | 114 => 2
  | 115 => 5
  | 116 => 10
  | 117 => 11
  | 118 => 1
  | 119 => 1
  | 120 => 1
  | 121 => 1
  | 122 => 6
  | 123 => 2
  | 124 => 6
  | 125 => 2
  | 126 => 1
  | 127 => 3
  | 128 => 1
  | 129 => 3
  | 130 => 1
  | 131 => 1
  | 132 => 5
  | 133 => 3
  | 134 => 3
  | 135 => 7
  | 136 => 4
  | 137 => 2
  | 138 => 3
  | 139 => 6
  | 140 => 6
  | 141 => 5
  | 142 => 2
  | 143 => 5
  | 144 => 3
  | 145 => 5
  | 146 => 5
  | 147 => 4
  | 148 => 6
  | 149 => 4
  | 150 => 3
  | 151 => 7
  | 152 => 2
  | 153 => 5
  | 154 => 4
  | 155 => 9
  | 156 => 5
  | 157 => 4
  | 158 => 5
  | 159 => 3
  | 160 => 4
  | 161 => 5
  | 162 => 3
  | 163 => 4
  | 164 => 2
  | 165 => 3
  | 166 => 6
  | 167 => 6
  | 168 => 6
  | 169 => 5
  | 170 => 8
  | 171 => 4
  | 172 => 7
  | 173 => 4
  | 174 => 7
  | 175 => 7
  | 176 => 6
  | 177 => 3
  | 178 => 1
  | 179 => 5
  | 180 => 2
  | 181 => 5
  | 182 => 3
  | 183 => 4
  | 184 => 6
  | 185 => 6
  | 186 => 4
  | 187 => 15
  | 188 => 7
  | 189 => 6
  | 190 => 4
  | 191 => 5
  | 192 => 6
  | 193 => 4
  | 194 => 6
  | 195 => 4
  | 196 => 2
  | 197 => 5
  | 198 => 2
  | 199 => 3
  | 200 => 5
  | 201 => 4
  | 202 => 2
  | 203 => 1
  | 204 => 2
  | 205 => 1
  | 206 => 2
  | 207 => 2
  | _ => 4
def rty : Nat → Option FieldType
  | 0 => none
  | 1 => none
  | 2 => (some (.int))
  | 3 => (some (.boolean))
  | 4 => (some (.boolean))
  | 5 => (some (.boolean))
  | 6 => (some (.int))
  | 7 => none
  | 8 => none
  | 9 => none
  | 10 => (some (.int))
  | 11 => none
  | 12 => (some (.long))
  | 13 => none
  | 14 => (some (.int))
  | 15 => (some (.object "TruthWalk$RowSet"))
  | 16 => (some (.int))
  | 17 => (some (.long))
  | 18 => (some (.long))
  | 19 => none
  | 20 => none
  | 21 => (some (.boolean))
  | 22 => (some (.int))
  | 23 => none
  | 24 => (some (.int))
  | 25 => none
  | 26 => none
  | 27 => (some (.int))
  | 28 => (some (.boolean))
  | 29 => (some (.int))
  | 30 => (some (.object "TruthWalk$RowSet"))
  | 31 => (some (.long))
  | 32 => (some (.long))
  | 33 => (some (.long))
  | 34 => (some (.long))
  | 35 => none
  | 36 => none
  | 37 => none
  | 38 => none
  | 39 => (some (.boolean))
  | 40 => (some (.boolean))
  | 41 => (some (.int))
  | 42 => (some (.int))
  | 43 => none
  | 44 => none
  | 45 => none
  | 46 => (some (.int))
  | 47 => (some (.int))
  | 48 => none
  | 49 => (some (.boolean))
  | 50 => (some (.int))
  | 51 => (some (.int))
  | 52 => (some (.int))
  | 53 => (some (.int))
  | 54 => (some (.int))
  | 55 => none
  | 56 => none
  | 57 => (some (.int))
  | 58 => (some (.boolean))
  | 59 => (some (.boolean))
  | 60 => (some (.int))
  | 61 => none
  | 62 => none
  | 63 => none
  | 64 => none
  | 65 => none
  | 66 => (some (.boolean))
  | 67 => none
  | 68 => (some (.int))
  | 69 => (some (.int))
  | 70 => (some (.int))
  | 71 => (some (.int))
  | 72 => (some (.int))
  | 73 => (some (.int))
  | 74 => none
  | 75 => (some (.int))
  | 76 => (some (.int))
  | 77 => (some (.int))
  | 78 => (some (.int))
  | 79 => (some (.int))
  | 80 => (some (.int))
  | 81 => (some (.int))
  | 82 => (some (.int))
  | 83 => (some (.int))
  | 84 => (some (.int))
  | 85 => (some (.int))
  | 86 => (some (.int))
  | 87 => (some (.int))
  | 88 => (some (.int))
  | 89 => (some (.int))
  | 90 => (some (.int))
  | 91 => (some (.int))
  | 92 => (some (.int))
  | 93 => (some (.long))
  | 94 => (some (.long))
  | 95 => (some (.int))
  | 96 => (some (.int))
  | 97 => (some (.int))
  | 98 => (some (.int))
  | 99 => (some (.int))
  | 100 => (some (.long))
  | 101 => (some (.int))
  | 102 => (some (.int))
  | 103 => (some (.int))
  | 104 => (some (.int))
  | 105 => (some (.int))
  | 106 => (some (.int))
  | 107 => (some (.int))
  | 108 => (some (.int))
  | 109 => (some (.int))
  | 110 => (some (.object "TruthWalk$Book"))
  | 111 => (some (.int))
  | 112 => (some (.long))
  | 113 => (some (.int))
  | 114 => none
  | 115 => (some (.long))
  | 116 => (some (.int))
  | 117 => (some (.long))
  | 118 => (some (.int))
  | 119 => (some (.int))
  | 120 => (some (.int))
  | 121 => (some (.int))
  | 122 => (some (.long))
  | 123 => none
  | 124 => (some (.boolean))
  | 125 => (some (.int))
  | 126 => (some (.boolean))
  | 127 => (some (.boolean))
  | 128 => (some (.int))
  | 129 => (some (.int))
  | 130 => (some (.int))
  | 131 => (some (.int))
  | 132 => (some (.int))
  | 133 => (some (.int))
  | 134 => (some (.boolean))
  | 135 => (some (.int))
  | 136 => (some (.int))
  | 137 => (some (.int))
  | 138 => (some (.boolean))
  | 139 => (some (.int))
  | 140 => (some (.int))
  | 141 => (some (.int))
  | 142 => (some (.int))
  | 143 => (some (.int))
  | 144 => (some (.int))
  | 145 => (some (.int))
  | 146 => none
  | 147 => none
  | 148 => none
  | 149 => (some (.int))
  | 150 => (some (.boolean))
  | 151 => none
  | 152 => none
  | 153 => (some (.int))
  | 154 => none
  | 155 => (some (.int))
  | 156 => none
  | 157 => (some (.int))
  | 158 => none
  | 159 => none
  | 160 => none
  | 161 => none
  | 162 => none
  | 163 => (some (.int))
  | 164 => (some (.int))
  | 165 => (some (.int))
  | 166 => none
  | 167 => (some (.int))
  | 168 => (some (.int))
  | 169 => (some (.int))
  | 170 => (some (.int))
  | 171 => (some (.boolean))
  | 172 => (some (.boolean))
  | 173 => none
  | 174 => (some (.boolean))
  | 175 => (some (.boolean))
  | 176 => (some (.boolean))
  | 177 => (some (.int))
  | 178 => (some (.int))
  | 179 => (some (.boolean))
  | 180 => (some (.int))
  | 181 => (some (.int))
  | 182 => (some (.int))
  | 183 => (some (.int))
  | 184 => (some (.long))
  | 185 => (some (.long))
  | 186 => (some (.long))
  | 187 => (some (.long))
  | 188 => (some (.int))
  | 189 => (some (.int))
  | 190 => (some (.int))
  | 191 => (some (.int))
  | 192 => (some (.int))
  | 193 => (some (.long))
  | 194 => (some (.int))
  | 195 => (some (.int))
  | 196 => (some (.int))
  | 197 => (some (.int))
  | 198 => (some (.int))
  | 199 => (some (.int))
  | 200 => (some (.int))
  | 201 => (some (.int))
  | 202 => (some (.int))
  | 203 => (some (.int))
  | 204 => (some (.int))
  | 205 => (some (.int))
  | 206 => (some (.int))
  | 207 => (some (.int))
  | _ => some .boolean
def ocl : Nat → Nat
  | 0 => 0
  | 1 => 0
  | 2 => 0
  | 3 => 0
  | 4 => 0
  | 5 => 0
  | 6 => 0
  | 7 => 0
  | 8 => 0
  | 9 => 0
  | 10 => 0
  | 11 => 0
  | 12 => 0
  | 13 => 0
  | 14 => 0
  | 15 => 0
  | 16 => 0
  | 17 => 0
  | 18 => 0
  | 19 => 1
  | 20 => 1
  | 21 => 1
  | 22 => 1
  | 23 => 1
  | 24 => 1
  | 25 => 1
  | 26 => 1
  | 27 => 1
  | 28 => 1
  | 29 => 1
  | 30 => 1
  | 31 => 1
  | 32 => 1
  | 33 => 1
  | 34 => 1
  | 35 => 2
  | 36 => 2
  | 37 => 2
  | 38 => 2
  | 39 => 2
  | 40 => 2
  | 41 => 2
  | 42 => 2
  | 43 => 2
  | 44 => 2
  | 45 => 2
  | 46 => 2
  | 47 => 2
  | 48 => 3
  | 49 => 3
  | 50 => 3
  | 51 => 3
  | 52 => 3
  | 53 => 3
  | 54 => 3
  | 55 => 4
  | 56 => 4
  | 57 => 4
  | 58 => 4
  | 59 => 4
  | 60 => 4
  | 61 => 5
  | 62 => 5
  | 63 => 5
  | 64 => 5
  | 65 => 5
  | 66 => 5
  | 67 => 5
  | 68 => 5
  | 69 => 5
  | 70 => 5
  | 71 => 5
  | 72 => 5
  | 73 => 5
  | 74 => 6
  | 75 => 6
  | 76 => 6
  | 77 => 6
  | 78 => 6
  | 79 => 6
  | 80 => 6
  | 81 => 6
  | 82 => 6
  | 83 => 6
  | 84 => 6
  | 85 => 6
  | 86 => 6
  | 87 => 6
  | 88 => 6
  | 89 => 6
  | 90 => 6
  | 91 => 6
  | 92 => 6
  | 93 => 6
  | 94 => 6
  | 95 => 6
  | 96 => 6
  | 97 => 6
  | 98 => 6
  | 99 => 6
  | 100 => 6
  | 101 => 6
  | 102 => 6
  | 103 => 6
  | 104 => 6
  | 105 => 6
  | 106 => 6
  | 107 => 6
  | 108 => 6
  | 109 => 6
  | 110 => 6
  | 111 => 6
  | 112 => 6
  | 113 => 6
  | 114 => 6
  | 115 => 6
  | 116 => 6
  | 117 => 6
  | 118 => 6
  | 119 => 6
  | 120 => 6
  | 121 => 6
  | 122 => 6
  | 123 => 7
  | 124 => 7
  | 125 => 7
  | 126 => 7
  | 127 => 7
  | 128 => 7
  | 129 => 7
  | 130 => 7
  | 131 => 7
  | 132 => 7
  | 133 => 7
  | 134 => 7
  | 135 => 7
  | 136 => 7
  | 137 => 7
  | 138 => 7
  | 139 => 7
  | 140 => 7
  | 141 => 7
  | 142 => 7
  | 143 => 7
  | 144 => 7
  | 145 => 7
  | 146 => 7
  | 147 => 7
  | 148 => 7
  | 149 => 7
  | 150 => 7
  | 151 => 7
  | 152 => 7
  | 153 => 7
  | 154 => 7
  | 155 => 7
  | 156 => 7
  | 157 => 7
  | 158 => 7
  | 159 => 7
  | 160 => 7
  | 161 => 7
  | 162 => 7
  | 163 => 7
  | 164 => 7
  | 165 => 7
  | 166 => 7
  | 167 => 7
  | 168 => 7
  | 169 => 7
  | 170 => 7
  | 171 => 7
  | 172 => 7
  | 173 => 7
  | 174 => 7
  | 175 => 7
  | 176 => 7
  | 177 => 7
  | 178 => 7
  | 179 => 7
  | 180 => 7
  | 181 => 7
  | 182 => 7
  | 183 => 7
  | 184 => 7
  | 185 => 7
  | 186 => 7
  | 187 => 7
  | 188 => 7
  | 189 => 7
  | 190 => 7
  | 191 => 7
  | 192 => 7
  | 193 => 7
  | 194 => 7
  | 195 => 7
  | 196 => 7
  | 197 => 7
  | 198 => 7
  | 199 => 7
  | 200 => 7
  | 201 => 7
  | 202 => 7
  | 203 => 9
  | 204 => 10
  | 205 => 11
  | 206 => 11
  | 207 => 11
  | _ => 8
def npr : Nat → Nat
  | 0 => 0
  | 1 => 1
  | 2 => 0
  | 3 => 1
  | 4 => 1
  | 5 => 1
  | 6 => 1
  | 7 => 1
  | 8 => 1
  | 9 => 0
  | 10 => 1
  | 11 => 2
  | 12 => 1
  | 13 => 1
  | 14 => 0
  | 15 => 0
  | 16 => 0
  | 17 => 1
  | 18 => 2
  | 19 => 0
  | 20 => 0
  | 21 => 1
  | 22 => 3
  | 23 => 2
  | 24 => 2
  | 25 => 3
  | 26 => 1
  | 27 => 0
  | 28 => 1
  | 29 => 0
  | 30 => 1
  | 31 => 2
  | 32 => 3
  | 33 => 1
  | 34 => 2
  | 35 => 0
  | 36 => 3
  | 37 => 3
  | 38 => 1
  | 39 => 0
  | 40 => 0
  | 41 => 0
  | 42 => 0
  | 43 => 2
  | 44 => 1
  | 45 => 1
  | 46 => 1
  | 47 => 1
  | 48 => 0
  | 49 => 1
  | 50 => 2
  | 51 => 2
  | 52 => 3
  | 53 => 2
  | 54 => 2
  | 55 => 0
  | 56 => 0
  | 57 => 2
  | 58 => 3
  | 59 => 3
  | 60 => 2
  | 61 => 0
  | 62 => 1
  | 63 => 1
  | 64 => 2
  | 65 => 1
  | 66 => 1
  | 67 => 1
  | 68 => 0
  | 69 => 1
  | 70 => 1
  | 71 => 1
  | 72 => 1
  | 73 => 2
  | 74 => 0
  | 75 => 2
  | 76 => 5
  | 77 => 2
  | 78 => 1
  | 79 => 3
  | 80 => 2
  | 81 => 2
  | 82 => 3
  | 83 => 2
  | 84 => 1
  | 85 => 1
  | 86 => 3
  | 87 => 3
  | 88 => 4
  | 89 => 1
  | 90 => 0
  | 91 => 1
  | 92 => 2
  | 93 => 1
  | 94 => 3
  | 95 => 2
  | 96 => 2
  | 97 => 2
  | 98 => 2
  | 99 => 2
  | 100 => 2
  | 101 => 1
  | 102 => 1
  | 103 => 0
  | 104 => 2
  | 105 => 0
  | 106 => 1
  | 107 => 3
  | 108 => 1
  | 109 => 1
  | 110 => 1
  | 111 => 1
  | 112 => 1
  | 113 => 2
  | 114 => 1
  | 115 => 1
  | 116 => 2
  | 117 => 2
  | 118 => 1
  | 119 => 1
  | 120 => 1
  | 121 => 1
  | 122 => 3
  | 123 => 0
  | 124 => 3
  | 125 => 1
  | 126 => 1
  | 127 => 2
  | 128 => 1
  | 129 => 1
  | 130 => 1
  | 131 => 1
  | 132 => 2
  | 133 => 2
  | 134 => 2
  | 135 => 5
  | 136 => 2
  | 137 => 1
  | 138 => 2
  | 139 => 3
  | 140 => 2
  | 141 => 2
  | 142 => 2
  | 143 => 3
  | 144 => 2
  | 145 => 3
  | 146 => 3
  | 147 => 2
  | 148 => 2
  | 149 => 2
  | 150 => 1
  | 151 => 1
  | 152 => 0
  | 153 => 1
  | 154 => 2
  | 155 => 2
  | 156 => 2
  | 157 => 2
  | 158 => 2
  | 159 => 2
  | 160 => 2
  | 161 => 3
  | 162 => 1
  | 163 => 1
  | 164 => 1
  | 165 => 2
  | 166 => 1
  | 167 => 3
  | 168 => 3
  | 169 => 3
  | 170 => 4
  | 171 => 3
  | 172 => 3
  | 173 => 1
  | 174 => 2
  | 175 => 2
  | 176 => 2
  | 177 => 1
  | 178 => 0
  | 179 => 2
  | 180 => 1
  | 181 => 2
  | 182 => 1
  | 183 => 2
  | 184 => 2
  | 185 => 2
  | 186 => 1
  | 187 => 3
  | 188 => 2
  | 189 => 2
  | 190 => 2
  | 191 => 2
  | 192 => 2
  | 193 => 2
  | 194 => 1
  | 195 => 1
  | 196 => 0
  | 197 => 2
  | 198 => 0
  | 199 => 1
  | 200 => 3
  | 201 => 1
  | 202 => 1
  | 203 => 1
  | 204 => 1
  | 205 => 1
  | 206 => 2
  | 207 => 2
  | _ => 1
def mcs : Nat → Nat × Nat
  | 0 => (13, 25712)
  | 19 => (8, 25568)
  | 35 => (5, 144)
  | 48 => (87, 45254)
  | 55 => (6, 43220)
  | 61 => (1, 64)
  | 74 => (121, 100879)
  | 123 => (42, 290208)
  | 208 => (600000, 7302250)
  | _ => (0, 0)
def isCt (k : Nat) : Bool := match k with
  | 0 => true
  | 19 => true
  | 35 => true
  | 48 => true
  | 55 => true
  | 61 => true
  | 74 => true
  | 123 => true
  | _ => false
def fldL : List (Nat × Nat × Nat × Nat × Nat) := [(5, 9, 5, 0, 104), (0, 91, 5, 0, 105), (5, 15, 5, 1, 106), (5, 19, 5, 2, 107), (6, 245, 5, 2, 108), (5, 22, 5, 3, 109), (1, 84, 5, 3, 110), (0, 88, 5, 3, 111), (1, 9, 1, 0, 123), (6, 142, 1, 0, 124), (1, 15, 1, 1, 125), (6, 145, 1, 1, 126), (1, 18, 1, 2, 127), (6, 148, 1, 2, 128), (1, 21, 1, 3, 129), (6, 151, 1, 3, 130), (1, 24, 1, 4, 131), (1, 27, 1, 5, 132), (1, 34, 1, 6, 133), (1, 38, 1, 7, 134), (1, 42, 1, 8, 135), (6, 124, 1, 8, 136), (1, 46, 1, 9, 137), (3, 62, 1, 9, 138), (6, 136, 1, 9, 139), (1, 49, 1, 10, 140), (3, 101, 1, 10, 141), (6, 129, 1, 10, 142), (1, 52, 1, 11, 143), (3, 65, 1, 11, 144), (0, 9, 0, 0, 176), (3, 48, 0, 0, 177), (0, 15, 0, 1, 178), (0, 21, 0, 2, 179), (3, 39, 0, 2, 180), (6, 120, 0, 2, 181), (0, 28, 0, 3, 182), (0, 32, 0, 4, 183), (6, 63, 0, 4, 184), (0, 36, 0, 5, 185), (3, 51, 0, 5, 186), (6, 84, 0, 5, 187), (0, 39, 0, 6, 188), (3, 33, 0, 6, 189), (6, 104, 0, 6, 190), (0, 42, 0, 7, 191), (6, 110, 0, 7, 192), (0, 45, 0, 8, 193), (6, 107, 0, 8, 194), (4, 10, 4, 0, 229), (4, 16, 4, 1, 230), (4, 19, 4, 2, 231), (4, 22, 4, 3, 232), (4, 25, 4, 4, 233), (4, 28, 4, 5, 234), (4, 31, 4, 6, 235), (4, 35, 4, 7, 236), (2, 9, 2, 0, 259), (2, 15, 2, 1, 260), (2, 18, 2, 2, 261), (3, 91, 2, 2, 262), (2, 21, 2, 3, 263), (3, 130, 2, 3, 264), (2, 24, 2, 4, 265), (3, 139, 2, 4, 266), (2, 27, 2, 5, 267), (2, 31, 2, 6, 268), (3, 94, 2, 6, 269), (2, 34, 2, 7, 270), (3, 127, 2, 7, 271), (2, 37, 2, 8, 272), (3, 136, 2, 8, 273), (3, 11, 3, 0, 293), (3, 20, 3, 1, 294), (3, 24, 3, 2, 295), (3, 28, 3, 3, 296), (6, 12, 6, 0, 308), (6, 16, 6, 1, 309), (6, 22, 6, 2, 310), (6, 26, 6, 3, 311), (6, 33, 6, 4, 312), (6, 37, 6, 5, 313), (6, 41, 6, 6, 314), (6, 44, 6, 7, 315), (6, 48, 6, 8, 316), (6, 52, 6, 9, 317), (7, 7, 7, 0, 858), (7, 13, 7, 1, 859), (7, 16, 7, 2, 860), (7, 19, 7, 3, 861), (7, 22, 7, 4, 862), (7, 25, 7, 5, 863), (7, 28, 7, 6, 864), (7, 31, 7, 7, 865), (7, 34, 7, 8, 866), (7, 37, 7, 9, 867), (7, 40, 7, 10, 868), (7, 43, 7, 11, 869), (7, 46, 7, 12, 870), (7, 49, 7, 13, 871), (7, 52, 7, 14, 872), (7, 56, 7, 15, 873), (7, 59, 7, 16, 874), (7, 62, 7, 17, 875), (7, 191, 7, 18, 876), (7, 65, 7, 19, 877), (7, 68, 7, 20, 878), (7, 71, 7, 21, 879), (7, 74, 7, 22, 880), (7, 77, 7, 23, 881), (7, 80, 7, 24, 882), (7, 83, 7, 25, 883), (7, 86, 7, 26, 884), (7, 89, 7, 27, 885), (7, 92, 7, 28, 886), (7, 95, 7, 29, 887), (7, 98, 7, 30, 888), (7, 101, 7, 31, 889), (7, 104, 7, 32, 890), (7, 107, 7, 33, 891), (7, 110, 7, 34, 892), (7, 114, 7, 35, 893), (7, 219, 7, 36, 894), (7, 222, 7, 37, 895), (7, 206, 7, 38, 896), (7, 212, 7, 39, 897), (7, 117, 7, 40, 898), (7, 120, 7, 41, 899), (7, 124, 7, 42, 900), (7, 127, 7, 43, 901), (7, 130, 7, 44, 902), (7, 134, 7, 45, 903), (7, 137, 7, 46, 904), (7, 140, 7, 47, 905), (7, 143, 7, 48, 906)]
def calL : List (Nat × Nat × Nat × Nat × Nat × Nat × Nat × Nat × Nat) := [(8, 9, 4, 74, 80, 81, 0, 82, 66),
  (6, 3, 6, 0, 83, 0, 0, 0, 0),
  (6, 11, 4, 0, 88, 89, 0, 90, 67),
  (0, 3, 6, 0, 91, 0, 0, 0, 0),
  (0, 20, 5, 19, 94, 95, 0, 96, 68),
  (1, 3, 6, 0, 97, 0, 0, 0, 0),
  (1, 33, 5, 61, 100, 101, 0, 102, 69),
  (5, 3, 6, 0, 103, 0, 0, 0, 0),
  (0, 27, 5, 61, 171, 101, 0, 102, 69),
  (0, 49, 0, 1, 172, 173, 174, 175, 67),
  (6, 21, 4, 48, 216, 217, 0, 218, 70),
  (3, 3, 6, 0, 219, 0, 0, 0, 0),
  (3, 19, 5, 55, 224, 225, 0, 226, 71),
  (4, 3, 6, 0, 227, 0, 0, 0, 0),
  (3, 32, 5, 35, 255, 256, 0, 257, 72),
  (2, 3, 6, 0, 258, 0, 0, 0, 0),
  (6, 32, 5, 61, 307, 101, 0, 102, 69),
  (8, 13, 0, 75, 339, 340, 341, 342, 66),
  (6, 55, 0, 110, 343, 345, 0, 346, 66),
  (6, 59, 0, 111, 347, 349, 1, 350, 66),
  (6, 66, 0, 1, 351, 173, 174, 175, 67),
  (8, 18, 0, 76, 352, 353, 354, 355, 66),
  (6, 70, 0, 5, 356, 357, 358, 359, 67),
  (6, 74, 2, 119, 360, 361, 0, 362, 66),
  (6, 248, 2, 118, 363, 364, 0, 365, 66),
  (6, 77, 0, 113, 366, 368, 2, 369, 66),
  (6, 233, 0, 7, 370, 371, 372, 373, 67),
  (8, 23, 0, 77, 374, 375, 376, 377, 66),
  (6, 81, 0, 4, 378, 379, 380, 381, 67),
  (0, 53, 0, 5, 382, 357, 358, 359, 67),
  (6, 87, 0, 6, 383, 384, 385, 386, 67),
  (6, 90, 2, 203, 387, 388, 0, 389, 74),
  (6, 95, 0, 8, 393, 394, 395, 396, 67),
  (8, 27, 0, 78, 397, 398, 399, 400, 66),
  (6, 98, 0, 9, 401, 402, 403, 404, 67),
  (8, 32, 0, 79, 405, 406, 407, 408, 66),
  (6, 101, 0, 3, 409, 410, 411, 412, 67),
  (8, 37, 0, 80, 413, 414, 415, 416, 66),
  (8, 41, 0, 81, 417, 418, 419, 420, 66),
  (8, 45, 0, 82, 421, 422, 423, 424, 66),
  (6, 113, 0, 10, 425, 426, 427, 428, 67),
  (0, 57, 0, 4, 429, 379, 380, 381, 67),
  (0, 60, 3, 118, 430, 364, 0, 365, 66),
  (6, 116, 0, 11, 431, 432, 433, 434, 67),
  (8, 50, 0, 83, 435, 436, 437, 438, 66),
  (8, 54, 0, 84, 439, 440, 441, 442, 66),
  (6, 132, 0, 49, 443, 444, 445, 446, 70),
  (3, 36, 0, 56, 447, 448, 449, 450, 71),
  (3, 43, 0, 20, 451, 452, 453, 454, 68),
  (1, 55, 0, 22, 455, 456, 457, 458, 68),
  (3, 54, 0, 36, 459, 460, 461, 462, 72),
  (2, 40, 0, 37, 463, 465, 3, 466, 72),
  (2, 44, 3, 120, 467, 468, 0, 469, 66),
  (2, 48, 0, 38, 470, 472, 4, 473, 72),
  (3, 58, 0, 50, 474, 476, 5, 477, 70),
  (3, 69, 0, 39, 478, 479, 480, 481, 72),
  (2, 52, 0, 40, 482, 484, 6, 485, 72),
  (2, 56, 0, 41, 486, 488, 7, 489, 72),
  (2, 60, 2, 203, 490, 388, 0, 389, 74),
  (3, 73, 0, 42, 491, 492, 493, 494, 72),
  (2, 65, 0, 43, 495, 497, 8, 498, 72),
  (2, 69, 3, 121, 499, 500, 0, 501, 66),
  (3, 77, 0, 44, 502, 503, 504, 505, 72),
  (3, 81, 0, 51, 506, 508, 9, 509, 70),
  (3, 97, 0, 57, 510, 511, 512, 513, 71),
  (4, 38, 2, 60, 514, 515, 0, 516, 71),
  (4, 42, 0, 59, 517, 519, 10, 520, 71),
  (3, 104, 0, 46, 521, 522, 523, 524, 72),
  (2, 72, 3, 119, 525, 361, 0, 362, 66),
  (2, 75, 0, 47, 526, 528, 11, 529, 72),
  (3, 108, 3, 119, 530, 361, 0, 362, 66),
  (3, 111, 0, 52, 531, 533, 12, 534, 70),
  (3, 115, 0, 22, 535, 456, 457, 458, 68),
  (3, 119, 0, 23, 536, 537, 538, 539, 68),
  (1, 59, 0, 21, 540, 541, 542, 543, 68),
  (3, 123, 0, 58, 544, 545, 546, 547, 71),
  (3, 84, 0, 45, 548, 549, 550, 551, 72),
  (3, 87, 0, 53, 552, 554, 13, 555, 70),
  (3, 133, 0, 54, 556, 558, 14, 559, 70),
  (3, 142, 2, 203, 560, 388, 0, 389, 74),
  (8, 58, 0, 85, 561, 562, 563, 564, 66),
  (8, 62, 0, 86, 565, 566, 567, 568, 66),
  (6, 139, 0, 21, 569, 541, 542, 543, 68),
  (8, 66, 0, 87, 570, 571, 572, 573, 66),
  (6, 154, 0, 24, 574, 575, 576, 577, 68),
  (8, 70, 0, 88, 578, 579, 580, 581, 66),
  (6, 158, 0, 25, 582, 583, 584, 585, 68),
  (1, 63, 0, 26, 586, 588, 15, 589, 68),
  (1, 67, 3, 119, 590, 361, 0, 362, 66),
  (1, 71, 3, 121, 591, 500, 0, 501, 66),
  (1, 74, 0, 24, 592, 575, 576, 577, 68),
  (8, 75, 0, 89, 593, 594, 595, 596, 66),
  (6, 162, 0, 27, 597, 598, 599, 600, 68),
  (1, 78, 0, 28, 601, 603, 16, 604, 68),
  (6, 166, 0, 29, 605, 606, 607, 608, 68),
  (6, 169, 0, 16, 609, 610, 611, 612, 67),
  (0, 74, 0, 30, 613, 614, 615, 616, 68),
  (1, 81, 0, 62, 617, 618, 619, 620, 69),
  (5, 25, 2, 206, 621, 622, 0, 623, 75),
  (5, 31, 2, 207, 624, 625, 0, 626, 75),
  (1, 87, 0, 31, 627, 629, 17, 630, 68),
  (1, 95, 0, 32, 631, 633, 18, 634, 68),
  (1, 101, 3, 122, 636, 637, 0, 638, 66),
  (6, 251, 2, 205, 639, 640, 0, 641, 75),
  (1, 104, 0, 33, 645, 647, 19, 648, 68),
  (1, 108, 0, 34, 649, 651, 20, 652, 68),
  (1, 91, 0, 64, 653, 654, 655, 656, 69),
  (0, 85, 0, 62, 657, 618, 619, 620, 69),
  (0, 95, 0, 17, 658, 660, 21, 661, 67),
  (0, 108, 0, 6, 663, 384, 385, 386, 67),
  (0, 111, 0, 18, 664, 666, 22, 667, 67),
  (0, 115, 3, 121, 668, 500, 0, 501, 66),
  (0, 71, 3, 119, 669, 361, 0, 362, 66),
  (0, 118, 3, 122, 670, 637, 0, 638, 66),
  (0, 99, 0, 64, 671, 654, 655, 656, 69),
  (0, 103, 0, 71, 672, 673, 674, 675, 69),
  (5, 54, 0, 66, 676, 677, 678, 679, 69),
  (8, 79, 0, 90, 680, 681, 682, 683, 66),
  (8, 84, 0, 91, 684, 685, 686, 687, 66),
  (6, 172, 0, 15, 688, 689, 690, 691, 67),
  (0, 78, 0, 63, 692, 693, 694, 695, 69),
  (5, 34, 0, 62, 696, 618, 619, 620, 69),
  (0, 82, 0, 67, 697, 698, 699, 700, 69),
  (5, 38, 3, 122, 701, 637, 0, 638, 66),
  (6, 176, 0, 68, 702, 703, 704, 705, 69),
  (5, 42, 0, 69, 706, 707, 708, 709, 69),
  (5, 46, 2, 204, 710, 711, 0, 712, 76),
  (8, 88, 0, 92, 716, 717, 718, 719, 66),
  (6, 179, 0, 2, 720, 721, 722, 723, 67),
  (6, 182, 0, 66, 724, 677, 678, 679, 69),
  (8, 92, 0, 93, 725, 726, 727, 728, 66),
  (6, 185, 0, 112, 729, 731, 23, 732, 66),
  (6, 189, 0, 13, 733, 734, 735, 736, 67),
  (0, 67, 0, 2, 737, 721, 722, 723, 67),
  (0, 64, 0, 10, 738, 426, 427, 428, 67),
  (6, 193, 0, 115, 739, 741, 24, 742, 66),
  (8, 97, 0, 94, 743, 744, 745, 746, 66),
  (6, 197, 0, 67, 747, 698, 699, 700, 69),
  (6, 200, 2, 117, 748, 749, 0, 750, 66),
  (8, 102, 0, 95, 751, 752, 753, 754, 66),
  (8, 106, 0, 96, 755, 756, 757, 758, 66),
  (6, 204, 0, 72, 759, 760, 761, 762, 69),
  (5, 58, 0, 73, 763, 765, 25, 766, 69),
  (8, 110, 0, 97, 767, 768, 769, 770, 66),
  (6, 207, 0, 69, 771, 707, 708, 709, 69),
  (8, 114, 0, 98, 772, 773, 774, 775, 66),
  (6, 210, 0, 71, 776, 673, 674, 675, 69),
  (8, 118, 0, 99, 777, 778, 779, 780, 66),
  (6, 213, 0, 116, 781, 783, 26, 784, 66),
  (8, 123, 0, 100, 785, 786, 787, 788, 66),
  (6, 217, 0, 12, 789, 790, 791, 792, 67),
  (8, 128, 0, 101, 793, 794, 795, 796, 66),
  (6, 220, 0, 14, 797, 798, 799, 800, 67),
  (6, 223, 0, 62, 801, 618, 619, 620, 69),
  (6, 226, 0, 65, 802, 803, 804, 805, 69),
  (8, 132, 0, 102, 806, 807, 808, 809, 66),
  (6, 229, 0, 70, 810, 811, 812, 813, 69),
  (8, 137, 0, 103, 815, 816, 817, 818, 66),
  (8, 141, 0, 104, 819, 820, 821, 822, 66),
  (6, 236, 0, 114, 823, 825, 27, 826, 66),
  (8, 145, 0, 105, 827, 828, 829, 830, 66),
  (8, 149, 0, 106, 831, 832, 833, 834, 66),
  (8, 153, 0, 107, 835, 836, 837, 838, 66),
  (6, 239, 7, 0, 839, 0, 0, 0, 0),
  (8, 157, 0, 108, 842, 843, 844, 845, 66),
  (8, 161, 0, 109, 846, 847, 848, 849, 66),
  (8, 12, 4, 123, 852, 853, 0, 854, 73),
  (7, 1, 6, 0, 855, 0, 0, 0, 0),
  (8, 17, 0, 132, 1007, 1008, 1009, 1010, 73),
  (7, 150, 2, 126, 1011, 1012, 0, 1013, 73),
  (7, 154, 0, 125, 1014, 1016, 28, 1017, 73),
  (7, 146, 2, 124, 1019, 1020, 0, 1021, 73),
  (8, 22, 0, 135, 1022, 1023, 1024, 1025, 73),
  (7, 167, 0, 134, 1026, 1028, 29, 1029, 73),
  (7, 163, 0, 127, 1030, 1032, 30, 1033, 73),
  (7, 170, 2, 128, 1034, 1035, 0, 1036, 73),
  (7, 173, 0, 133, 1037, 1039, 31, 1040, 73),
  (7, 160, 2, 130, 1041, 1042, 0, 1043, 73),
  (8, 26, 0, 136, 1044, 1045, 1046, 1047, 73),
  (7, 177, 2, 129, 1048, 1049, 0, 1050, 73),
  (8, 31, 0, 137, 1051, 1052, 1053, 1054, 73),
  (8, 36, 0, 139, 1055, 1056, 1057, 1058, 73),
  (7, 180, 0, 138, 1059, 1061, 32, 1062, 73),
  (8, 40, 0, 140, 1063, 1064, 1065, 1066, 73),
  (7, 183, 2, 131, 1067, 1068, 0, 1069, 73),
  (8, 44, 0, 141, 1070, 1071, 1072, 1073, 73),
  (8, 49, 0, 143, 1074, 1075, 1076, 1077, 73),
  (7, 188, 2, 142, 1079, 1080, 0, 1081, 73),
  (8, 53, 0, 144, 1082, 1083, 1084, 1085, 73),
  (8, 57, 0, 163, 1086, 1087, 1088, 1089, 73),
  (7, 228, 0, 145, 1090, 1092, 33, 1093, 73),
  (7, 196, 0, 147, 1095, 1097, 34, 1098, 73),
  (7, 225, 0, 152, 1099, 1101, 35, 1102, 73),
  (7, 209, 0, 150, 1103, 1105, 36, 1106, 73),
  (7, 200, 0, 149, 1107, 1109, 37, 1110, 73),
  (7, 203, 0, 148, 1111, 1113, 38, 1114, 73),
  (7, 215, 0, 151, 1115, 1117, 39, 1118, 73),
  (7, 263, 0, 162, 1119, 1121, 40, 1122, 73),
  (7, 254, 0, 158, 1123, 1125, 41, 1126, 73),
  (7, 232, 0, 157, 1127, 1129, 42, 1130, 73),
  (7, 235, 0, 146, 1131, 1133, 43, 1134, 73),
  (7, 257, 0, 160, 1135, 1137, 44, 1138, 73),
  (7, 239, 0, 153, 1139, 1141, 45, 1142, 73),
  (7, 242, 0, 159, 1143, 1145, 46, 1146, 73),
  (7, 245, 0, 155, 1147, 1149, 47, 1150, 73),
  (7, 248, 0, 156, 1151, 1153, 48, 1154, 73),
  (7, 260, 0, 161, 1155, 1157, 49, 1158, 73),
  (7, 251, 0, 154, 1159, 1161, 50, 1162, 73),
  (8, 61, 0, 164, 1163, 1164, 1165, 1166, 73),
  (8, 65, 0, 167, 1167, 1168, 1169, 1170, 73),
  (7, 266, 0, 165, 1171, 1173, 51, 1174, 73),
  (7, 269, 0, 166, 1175, 1177, 52, 1178, 73),
  (8, 69, 0, 169, 1179, 1180, 1181, 1182, 73),
  (7, 272, 0, 168, 1183, 1185, 53, 1186, 73),
  (8, 74, 0, 170, 1187, 1188, 1189, 1190, 73),
  (8, 78, 0, 177, 1191, 1192, 1193, 1194, 73),
  (7, 282, 0, 173, 1195, 1197, 54, 1198, 73),
  (7, 279, 0, 172, 1199, 1201, 55, 1202, 73),
  (7, 275, 0, 171, 1203, 1205, 56, 1206, 73),
  (7, 285, 0, 175, 1207, 1209, 57, 1210, 73),
  (7, 288, 0, 176, 1211, 1213, 58, 1214, 73),
  (7, 291, 0, 174, 1215, 1217, 59, 1218, 73),
  (8, 83, 0, 178, 1219, 1220, 1221, 1222, 73),
  (8, 87, 0, 182, 1223, 1224, 1225, 1226, 73),
  (7, 297, 0, 180, 1227, 1229, 60, 1230, 73),
  (7, 300, 0, 181, 1231, 1233, 61, 1234, 73),
  (7, 294, 0, 179, 1235, 1237, 62, 1238, 73),
  (8, 91, 0, 183, 1239, 1240, 1241, 1242, 73),
  (8, 96, 0, 186, 1243, 1244, 1245, 1246, 73),
  (7, 307, 0, 185, 1247, 1249, 63, 1250, 73),
  (7, 303, 0, 184, 1251, 1253, 64, 1254, 73),
  (8, 101, 0, 187, 1255, 1256, 1257, 1258, 73),
  (8, 105, 0, 188, 1259, 1260, 1261, 1262, 73),
  (8, 109, 0, 189, 1263, 1264, 1265, 1266, 73),
  (8, 113, 0, 190, 1267, 1268, 1269, 1270, 73),
  (8, 117, 0, 191, 1271, 1272, 1273, 1274, 73),
  (8, 122, 0, 192, 1276, 1277, 1278, 1279, 73),
  (8, 127, 0, 193, 1280, 1281, 1282, 1283, 73),
  (8, 131, 0, 194, 1284, 1285, 1286, 1287, 73),
  (8, 136, 0, 195, 1288, 1289, 1290, 1291, 73),
  (8, 140, 0, 196, 1292, 1293, 1294, 1295, 73),
  (8, 144, 0, 197, 1296, 1297, 1298, 1299, 73),
  (8, 148, 0, 198, 1300, 1301, 1302, 1303, 73),
  (8, 152, 0, 199, 1304, 1305, 1306, 1307, 73),
  (8, 156, 0, 200, 1308, 1309, 1310, 1311, 73),
  (8, 160, 0, 201, 1312, 1313, 1314, 1315, 73),
  (8, 164, 0, 202, 1316, 1317, 1318, 1319, 73)]
def newL : List (Nat × Nat × Nat × Nat × Nat × Nat) := [(8, 7, 6, 78, 79, 66), (6, 9, 0, 86, 87, 67), (0, 18, 1, 92, 93, 68), (1, 31, 5, 98, 99, 69), (0, 25, 5, 170, 99, 69), (6, 19, 3, 214, 215, 70), (3, 9, 2, 220, 254, 72), (3, 17, 4, 222, 223, 71), (6, 30, 5, 306, 99, 69), (8, 10, 7, 850, 851, 73)]
def ldcL : List (Nat × Nat × Int32 × Nat) := [(4, 9, 34776, 228), (9, 265, 1431655765, 390), (9, 266, 858993459, 391), (9, 267, 252645135, 392), (7, 55, 80000, 856), (7, 113, 168000, 857), (7, 195, 40000, 1094)]
def ldlL : List (Nat × Nat × Int64 × Nat) := [(1, 99, -1, 635), (6, 259, -1, 644), (0, 106, -1, 662), (10, 314, 6148914691236517205, 713), (10, 316, 3689348814741910323, 714), (10, 318, 1085102592571150095, 715), (5, 52, -1, 814), (7, 158, 12, 1018), (7, 186, 7, 1078), (7, 310, -1, 1275), (7, 312, -9, 1320), (7, 314, -2, 1321)]
def layP0 : List Nat := [195, 197, 199, 201, 203, 205, 207, 209, 211]
def layP1 : List Nat := [145, 147, 149, 151, 153, 155, 157, 159, 161, 163, 165, 167]
def layP2 : List Nat := [274, 276, 278, 280, 282, 284, 286, 288, 290]
def layP3 : List Nat := [297, 299, 301, 303]
def layP4 : List Nat := [237, 239, 241, 243, 245, 247, 249, 251]
def layP5 : List Nat := [112, 114, 116, 118]
def layP6 : List Nat := [318, 320, 322, 324, 326, 328, 330, 332, 334, 336]
def layP7 : List Nat := [907, 909, 911, 913, 915, 917, 919, 921, 923, 925, 927, 929, 931, 933, 935, 937, 939, 941, 943, 945, 947, 949, 951, 953, 955, 957, 959, 961, 963, 965, 967, 969, 971, 973, 975, 977, 979, 981, 983, 985, 987, 989, 991, 993, 995, 997, 999, 1001, 1003]
def fldT (o i : Nat) : Option (Nat × Nat) := (fldL.find? (fun x => x.1 == o && x.2.1 == i)).map (fun x => (x.2.2.1, x.2.2.2.1))
def calT (o i : Nat) : Option (Nat × Nat) := (calL.find? (fun x => x.1 == o && x.2.1 == i)).map (fun x => (x.2.2.1, x.2.2.2.1))
def newT (o i : Nat) : Option Nat := (newL.find? (fun x => x.1 == o && x.2.1 == i)).map (fun x => x.2.2.1)
def ldcT (o i : Nat) : Option Int32 := (ldcL.find? (fun x => x.1 == o && x.2.1 == i)).map (fun x => x.2.2.1)
def ldlT (o i : Nat) : Option Int64 := (ldlL.find? (fun x => x.1 == o && x.2.1 == i)).map (fun x => x.2.2.1)
end
section
/-! the small machine: cells have numbers; G = (cells made, slots made, shapes, references), I = ints, J = longs -/
abbrev GT : Type := Nat × Nat × (Nat → Nat × Nat) × (Nat → Nat → Option Nat)
abbrev IT : Type := Nat → Nat → Int32
abbrev JT : Type := Nat → Nat → Int64
abbrev KT : Type := Option Value → GT → IT → JT → Prop
abbrev RES : Type := Option ((Nat × List Value × List Value × GT × IT × JT) ⊕ ((Option Value × GT × IT × JT) ⊕ (Nat × List Value × Nat × List Value × List Value)))
def rN (pc : Nat) (L st : List Value) (G : GT) (I : IT) (J : JT) : RES := some (.inl (pc, L, st, G, I, J))
def rR (r : Option Value) (G : GT) (I : IT) (J : JT) : RES := some (.inr (.inl (r, G, I, J)))
def rC (y : Nat) (as : List Value) (pc : Nat) (L st : List Value) : RES := some (.inr (.inr (y, as, pc, L, st)))
abbrev scrC : Nat := 1000000
abbrev patC : Nat := 1000001
abbrev nv : Value := .retAddr 0
def nth : List Value → Nat → Value
  | [], _ => nv
  | a :: _, 0 => a
  | _ :: l, k + 1 => nth l k
def kil (v : Value) : Value := match v with
  | .long _ => nv
  | .double _ => nv
  | w => w
/-- a place of one word is set; a long that reaches into it goes -/
def setL : List Value → Nat → Value → List Value
  | [], _, _ => []
  | _ :: l, 0, v => v :: l
  | a :: l, 1, v => kil a :: setL l 0 v
  | a :: l, k + 2, v => a :: setL l (k + 1) v
/-- a long is set, its second word goes -/
def setJ : List Value → Nat → Value → List Value
  | [], _, _ => []
  | [_], _, _ => []
  | _ :: _ :: l, 0, v => v :: nv :: l
  | a :: b :: l, 1, v => kil a :: setJ (b :: l) 0 v
  | a :: b :: l, k + 2, v => a :: setJ (b :: l) (k + 1) v
def up2 {α : Type} (f : Nat → Nat → α) (c k : Nat) (v : α) : Nat → Nat → α := fun a b => if a = c then (if b = k then v else f a b) else f a b
def up1 {α : Type} (f : Nat → α) (c : Nat) (v : α) : Nat → α := fun a => if a = c then v else f a
def refV (r : Option Nat) : Value := match r with
  | none => .null
  | some c => .ref c
def gate (p : Prop) [Decidable p] (r : RES) : RES := if p then r else none
def tgtOf (pc : Nat) (off : Int) : Option Nat := if 0 ≤ (pc : Int) + off then some ((pc : Int) + off).toNat else none
def goTo (t : Option Nat) (L st : List Value) (G : GT) (I : IT) (J : JT) : RES := match t with
  | some pc => rN pc L st G I J
  | none => none
def pop1 (st : List Value) (f : Int32 → List Value → RES) : RES := match st with
  | .int x :: r => f x r
  | _ => none
def pop2 (st : List Value) (f : Int32 → Int32 → List Value → RES) : RES := match st with
  | .int y :: .int x :: r => f x y r
  | _ => none
def popJ (st : List Value) (f : Int64 → List Value → RES) : RES := match st with
  | .long x :: r => f x r
  | _ => none
def popJJ (st : List Value) (f : Int64 → Int64 → List Value → RES) : RES := match st with
  | .long y :: .long x :: r => f x y r
  | _ => none
def popJI (st : List Value) (f : Int64 → Int32 → List Value → RES) : RES := match st with
  | .int y :: .long x :: r => f x y r
  | _ => none
def ldI (v : Value) (f : Int32 → RES) : RES := match v with
  | .int x => f x
  | _ => none
def ldJ (v : Value) (f : Int64 → RES) : RES := match v with
  | .long x => f x
  | _ => none
def ldA (v : Value) (f : Value → RES) : RES := match v with
  | .ref x => f (.ref x)
  | .null => f .null
  | _ => none
def cmpC (c : Jvm.ClassFile.Cond) (x y : Int32) : Bool := match c with
  | .eq => decide (x = y)
  | .ne => decide (¬ x = y)
  | .lt => decide (x < y)
  | .ge => decide (y ≤ x)
  | .gt => decide (y < x)
  | .le => decide (x ≤ y)
def catS (st : List Value) : Nat := (st.map fun v => v.category).sum
def lcm (x y : Int64) : Int32 := lg_cmp x y
end
section
def shp (G : GT) (c : Nat) : Nat × Nat := if c < G.1 ∨ c = scrC ∨ c = patC then G.2.2.1 c else (9, 0)
def iOK (s : Nat × Nat) (j : Int32) : Prop := (s.1 = 1 ∨ s.1 = 5) ∧ vp_in j s.2
def jOK (s : Nat × Nat) (j : Int32) : Prop := (s.1 = 2 ∨ s.1 = 6) ∧ vp_in j s.2
def wOK (s : Nat × Nat) (t : Nat) (j : Int32) : Prop := s.1 = t ∧ vp_in j s.2
def lOK (s : Nat × Nat) : Prop := 1 ≤ s.1 ∧ s.1 ≤ 6
noncomputable def gteP (p : Prop) (r : RES) : RES := @ite RES p (Classical.propDecidable p) r none
def rtc (k : Nat) : Nat := match rty k with
  | none => 0
  | some .int => 1
  | some .boolean => 2
  | some .long => 3
  | some (.object _) => 4
  | some (.array _) => 4
  | _ => 9
def psh (v : Option Value) (st : List Value) : List Value := match v with
  | none => st
  | some x => x :: st
def entA : List Value → List Value
  | [] => []
  | .long x :: r => .long x :: nv :: entA r
  | v :: r => v :: entA r
def entL (y : Nat) (as : List Value) : List Value := entA as ++ List.replicate (mxl y - (entA as).length) nv
def fvl (G : GT) (I : IT) (c ci fk : Nat) : Value := match fty ci fk with
  | 2 => refV (G.2.2.2 c fk)
  | _ => .int (I c fk)
def newO (G : GT) (ci : Nat) : GT := (G.1 + 1, G.2.1 + nfs ci, up1 G.2.2.1 G.1 (0, ci), up1 G.2.2.2 G.1 (fun _ => none))
def newA (G : GT) (t N : Nat) : GT := (G.1 + 1, G.2.1 + N, up1 G.2.2.1 G.1 (t, N), up1 G.2.2.2 G.1 (fun _ => none))
def putR (G : GT) (c k v : Nat) : GT := (G.1, G.2.1, G.2.2.1, up2 G.2.2.2 c k (some v))
noncomputable def doGet (k pc : Nat) (e : Option (Nat × Nat)) (L st : List Value) (G : GT) (I : IT) (J : JT) : RES := match e, st with
  | some (ci, fk), .ref c :: r => gteP (shp G c = (0, ci)) (rN (pc + 3) L (fvl G I c ci fk :: r) G I J)
  | _, _ => none
noncomputable def doPut (k pc : Nat) (e : Option (Nat × Nat)) (L st : List Value) (G : GT) (I : IT) (J : JT) : RES := match e, st with
  | some (ci, fk), .int x :: .ref c :: r => gteP (shp G c = (0, ci) ∧ (fty ci fk = 0 ∨ (fty ci fk = 1 ∧ (x = 0 ∨ x = 1)))) (rN (pc + 3) L r G (up2 I c fk x) J)
  | some (ci, fk), .ref a :: .ref c :: r => gteP (shp G c = (0, ci) ∧ fty ci fk = 2 ∧ isCt k = true ∧ ocl k = ci) (rN (pc + 3) L r (putR G c fk a) I J)
  | _, _ => none
noncomputable def doNew (pc : Nat) (e : Option Nat) (L st : List Value) (G : GT) (I : IT) (J : JT) (E : Nat × Nat) : RES := match e with
  | some ci => gteP (G.1 + 1 ≤ E.1 ∧ G.2.1 + nfs ci ≤ E.2) (rN (pc + 3) L (.ref G.1 :: st) (newO G ci) (up1 I G.1 (fun _ => 0)) J)
  | none => none
noncomputable def doNewA (pc : Nat) (ty : ArrayType) (L st : List Value) (G : GT) (I : IT) (J : JT) (E : Nat × Nat) : RES := match ty, st with
  | .int, .int x :: r => gteP (¬ x < 0 ∧ x.toNatClampNeg ≤ 60000000 ∧ G.1 + 1 ≤ E.1 ∧ G.2.1 + x.toNatClampNeg ≤ E.2) (rN (pc + 2) L (.ref G.1 :: r) (newA G 1 x.toNatClampNeg) (up1 I G.1 (fun _ => 0)) J)
  | .boolean, .int x :: r => gteP (¬ x < 0 ∧ x.toNatClampNeg ≤ 60000000 ∧ G.1 + 1 ≤ E.1 ∧ G.2.1 + x.toNatClampNeg ≤ E.2) (rN (pc + 2) L (.ref G.1 :: r) (newA G 3 x.toNatClampNeg) (up1 I G.1 (fun _ => 0)) J)
  | .long, .int x :: r => gteP (¬ x < 0 ∧ x.toNatClampNeg ≤ 60000000 ∧ G.1 + 1 ≤ E.1 ∧ G.2.1 + x.toNatClampNeg ≤ E.2) (rN (pc + 2) L (.ref G.1 :: r) (newA G 2 x.toNatClampNeg) I (up1 J G.1 (fun _ => 0)))
  | _, _ => none
noncomputable def doNewQ (pc : Nat) (e : Option Nat) (L st : List Value) (G : GT) (I : IT) (J : JT) (E : Nat × Nat) : RES := match e, st with
  | some 2, .int x :: r => gteP (¬ x < 0 ∧ x.toNatClampNeg ≤ 60000000 ∧ G.1 + 1 ≤ E.1 ∧ G.2.1 + x.toNatClampNeg ≤ E.2) (rN (pc + 3) L (.ref G.1 :: r) (newA G 4 x.toNatClampNeg) I J)
  | _, _ => none
noncomputable def doV (y pc : Nat) (L st : List Value) (G : GT) : RES := match st.drop (npr y) with
  | .ref c :: r => gteP (shp G c = (0, ocl y) ∧ catS r ≤ 8) (rC y (.ref c :: (st.take (npr y)).reverse) (pc + 3) L r)
  | _ => none
noncomputable def doI (y pc : Nat) (L st : List Value) : RES := match st.drop (npr y) with
  | .ref c :: r => gteP (catS r ≤ 8) (rC y (.ref c :: (st.take (npr y)).reverse) (pc + 3) L r)
  | _ => none
noncomputable def doS (y pc : Nat) (L st : List Value) : RES := gteP (npr y ≤ st.length ∧ catS (st.drop (npr y)) ≤ 8) (rC y (st.take (npr y)).reverse (pc + 3) L (st.drop (npr y)))
noncomputable def doCp (pc : Nat) (L st : List Value) (G : GT) (I : IT) (J : JT) : RES := match st with
  | .int n :: .int dp :: .ref b :: .int sp :: .ref a :: r => gteP ((shp G a).1 = 1 ∧ (shp G b).1 = 1 ∧ ¬ sp < 0 ∧ ¬ dp < 0 ∧ ¬ n < 0 ∧ sp.toNatClampNeg + n.toNatClampNeg ≤ (shp G a).2 ∧ dp.toNatClampNeg + n.toNatClampNeg ≤ (shp G b).2 ∧ catS r ≤ 8) (rN (pc + 3) L r G (up1 I b (va_cpy (I a) (I b) sp.toNatClampNeg dp.toNatClampNeg n.toNatClampNeg)) J)
  | _ => none
noncomputable def doInv (sort pc : Nat) (e : Option (Nat × Nat)) (L st : List Value) (G : GT) (I : IT) (J : JT) : RES := match e with
  | some (kd, y) => match sort, kd with
    | 0, 0 => doV y pc L st G
    | 0, 1 => doV y pc L st G
    | 1, 2 => doS y pc L st
    | 1, 3 => doS y pc L st
    | 1, 7 => doCp pc L st G I J
    | 2, 4 => doI y pc L st
    | 2, 5 => doI y pc L st
    | 2, 6 => (match st with
      | .ref _ :: r => gteP (catS r ≤ 8) (rN (pc + 3) L r G I J)
      | _ => none)
    | _, _ => none
  | none => none
noncomputable def doAr (i : Instr) (pc : Nat) (L st : List Value) (G : GT) (I : IT) (J : JT) : RES := match i, st with
  | .iaload, .int j :: .ref c :: r => gteP (iOK (shp G c) j) (rN (pc + 1) L (.int (I c j.toNatClampNeg) :: r) G I J)
  | .laload, .int j :: .ref c :: r => gteP (jOK (shp G c) j) (rN (pc + 1) L (.long (J c j.toNatClampNeg) :: r) G I J)
  | .baload, .int j :: .ref c :: r => gteP (wOK (shp G c) 3 j) (rN (pc + 1) L (.int (I c j.toNatClampNeg) :: r) G I J)
  | .aaload, .int j :: .ref c :: r => gteP (wOK (shp G c) 4 j) (rN (pc + 1) L (refV (G.2.2.2 c j.toNatClampNeg) :: r) G I J)
  | .iastore, .int x :: .int j :: .ref c :: r => gteP (wOK (shp G c) 1 j) (rN (pc + 1) L r G (up2 I c j.toNatClampNeg x) J)
  | .lastore, .long x :: .int j :: .ref c :: r => gteP (wOK (shp G c) 2 j) (rN (pc + 1) L r G I (up2 J c j.toNatClampNeg x))
  | .bastore, .int x :: .int j :: .ref c :: r => gteP (wOK (shp G c) 3 j ∧ (x = 0 ∨ x = 1)) (rN (pc + 1) L r G (up2 I c j.toNatClampNeg x) J)
  | .aastore, .ref v :: .int j :: .ref c :: r => gteP (wOK (shp G c) 4 j ∧ shp G v = (0, 2)) (rN (pc + 1) L r (putR G c j.toNatClampNeg v) I J)
  | .arraylength, .ref c :: r => gteP (lOK (shp G c)) (rN (pc + 1) L (.int (Int32.ofNat (shp G c).2) :: r) G I J)
  | _, _ => none
noncomputable def doRet (i : Instr) (k : Nat) (st : List Value) (G : GT) (I : IT) (J : JT) (E : Nat × Nat) : RES := match i, st with
  | .ireturn, [.int v] => gteP (G.1 = E.1 ∧ G.2.1 = E.2 ∧ (rtc k = 1 ∨ (rtc k = 2 ∧ (v = 0 ∨ v = 1)))) (rR (some (.int v)) G I J)
  | .lreturn, [.long v] => gteP (G.1 = E.1 ∧ G.2.1 = E.2 ∧ rtc k = 3) (rR (some (.long v)) G I J)
  | .areturn, [.ref v] => gteP (G.1 = E.1 ∧ G.2.1 = E.2 ∧ rtc k = 4) (rR (some (.ref v)) G I J)
  | .areturn, [.null] => gteP (G.1 = E.1 ∧ G.2.1 = E.2 ∧ rtc k = 4) (rR (some .null) G I J)
  | .return_, [] => gteP (G.1 = E.1 ∧ G.2.1 = E.2 ∧ rtc k = 0) (rR none G I J)
  | _, _ => none
noncomputable def doLd (i : Instr) (pc : Nat) (L st : List Value) (G : GT) (I : IT) (J : JT) : RES := match i with
  | .iload_n n => ldI (nth L n) (fun x => rN (pc + 1) L (.int x :: st) G I J)
  | .iload n => ldI (nth L n) (fun x => rN (pc + 2) L (.int x :: st) G I J)
  | .lload_n n => ldJ (nth L n) (fun x => rN (pc + 1) L (.long x :: st) G I J)
  | .lload n => ldJ (nth L n) (fun x => rN (pc + 2) L (.long x :: st) G I J)
  | .aload_n n => ldA (nth L n) (fun x => rN (pc + 1) L (x :: st) G I J)
  | .aload n => ldA (nth L n) (fun x => rN (pc + 2) L (x :: st) G I J)
  | .istore_n n => pop1 st (fun x r => gteP (n < L.length) (rN (pc + 1) (setL L n (.int x)) r G I J))
  | .istore n => pop1 st (fun x r => gteP (n < L.length) (rN (pc + 2) (setL L n (.int x)) r G I J))
  | .lstore_n n => popJ st (fun x r => gteP (n + 1 < L.length) (rN (pc + 1) (setJ L n (.long x)) r G I J))
  | .lstore n => popJ st (fun x r => gteP (n + 1 < L.length) (rN (pc + 2) (setJ L n (.long x)) r G I J))
  | .astore_n n => (match st with
    | .ref x :: r => gteP (n < L.length) (rN (pc + 1) (setL L n (.ref x)) r G I J)
    | .null :: r => gteP (n < L.length) (rN (pc + 1) (setL L n .null) r G I J)
    | _ => none)
  | .astore n => (match st with
    | .ref x :: r => gteP (n < L.length) (rN (pc + 2) (setL L n (.ref x)) r G I J)
    | .null :: r => gteP (n < L.length) (rN (pc + 2) (setL L n .null) r G I J)
    | _ => none)
  | .iinc n c => ldI (nth L n) (fun x => gteP (n < L.length) (rN (pc + 3) (setL L n (.int (x + Int32.ofInt c))) st G I J))
  | _ => none
noncomputable def doOp (i : Instr) (k pc : Nat) (L st : List Value) (G : GT) (I : IT) (J : JT) : RES := match i with
  | .aconst_null => rN (pc + 1) L (.null :: st) G I J
  | .iconst n => rN (pc + 1) L (.int (Int32.ofInt n) :: st) G I J
  | .bipush n => rN (pc + 2) L (.int (Int8.ofInt n).toInt32 :: st) G I J
  | .sipush n => rN (pc + 3) L (.int (Int16.ofInt n).toInt32 :: st) G I J
  | .lconst n => rN (pc + 1) L (.long (Int64.ofNat n) :: st) G I J
  | .ldc x => (match ldcT (ocl k) x with
    | some v => rN (pc + 2) L (.int v :: st) G I J
    | none => none)
  | .ldc_w x => (match ldcT (ocl k) x with
    | some v => rN (pc + 3) L (.int v :: st) G I J
    | none => none)
  | .ldc2_w x => (match ldlT (ocl k) x with
    | some v => rN (pc + 3) L (.long v :: st) G I J
    | none => none)
  | .iadd => pop2 st (fun x y r => rN (pc + 1) L (.int (x + y) :: r) G I J)
  | .isub => pop2 st (fun x y r => rN (pc + 1) L (.int (x - y) :: r) G I J)
  | .imul => pop2 st (fun x y r => rN (pc + 1) L (.int (x * y) :: r) G I J)
  | .iand => pop2 st (fun x y r => rN (pc + 1) L (.int (x &&& y) :: r) G I J)
  | .ior => pop2 st (fun x y r => rN (pc + 1) L (.int (x ||| y) :: r) G I J)
  | .ixor => pop2 st (fun x y r => rN (pc + 1) L (.int (x ^^^ y) :: r) G I J)
  | .idiv => pop2 st (fun x y r => gteP (¬ y = 0) (rN (pc + 1) L (.int (x / y) :: r) G I J))
  | .irem => pop2 st (fun x y r => gteP (¬ y = 0) (rN (pc + 1) L (.int (x - x / y * y) :: r) G I J))
  | .ishl => pop2 st (fun x y r => rN (pc + 1) L (.int (x <<< (y &&& 31)) :: r) G I J)
  | .ishr => pop2 st (fun x y r => rN (pc + 1) L (.int (x >>> (y &&& 31)) :: r) G I J)
  | .iushr => pop2 st (fun x y r => rN (pc + 1) L (.int (x.toUInt32 >>> (y.toUInt32 &&& Int32.toUInt32 31)).toInt32 :: r) G I J)
  | .ineg => pop1 st (fun x r => rN (pc + 1) L (.int (-x) :: r) G I J)
  | .i2l => pop1 st (fun x r => rN (pc + 1) L (.long x.toInt64 :: r) G I J)
  | .l2i => popJ st (fun x r => rN (pc + 1) L (.int x.toInt32 :: r) G I J)
  | .ladd => popJJ st (fun x y r => rN (pc + 1) L (.long (x + y) :: r) G I J)
  | .lsub => popJJ st (fun x y r => rN (pc + 1) L (.long (x - y) :: r) G I J)
  | .lmul => popJJ st (fun x y r => rN (pc + 1) L (.long (x * y) :: r) G I J)
  | .land => popJJ st (fun x y r => rN (pc + 1) L (.long (x &&& y) :: r) G I J)
  | .lor => popJJ st (fun x y r => rN (pc + 1) L (.long (x ||| y) :: r) G I J)
  | .lxor => popJJ st (fun x y r => rN (pc + 1) L (.long (x ^^^ y) :: r) G I J)
  | .ldiv => popJJ st (fun x y r => gteP (¬ y = 0) (rN (pc + 1) L (.long (x / y) :: r) G I J))
  | .lrem => popJJ st (fun x y r => gteP (¬ y = 0) (rN (pc + 1) L (.long (x - x / y * y) :: r) G I J))
  | .lshl => popJI st (fun x y r => rN (pc + 1) L (.long (x <<< (y.toInt64 &&& 63)) :: r) G I J)
  | .lshr => popJI st (fun x y r => rN (pc + 1) L (.long (x >>> (y.toInt64 &&& 63)) :: r) G I J)
  | .lushr => popJI st (fun x y r => rN (pc + 1) L (.long (x.toUInt64 >>> (y.toInt64.toUInt64 &&& Int64.toUInt64 63)).toInt64 :: r) G I J)
  | .lcmp => popJJ st (fun x y r => rN (pc + 1) L (.int (lg_cmp x y) :: r) G I J)
  | _ => none
noncomputable def doBr (i : Instr) (pc : Nat) (L st : List Value) (G : GT) (I : IT) (J : JT) : RES := match i with
  | .ifCond c off => pop1 st (fun x r => goTo (if cmpC c x 0 then tgtOf pc off else some (pc + 3)) L r G I J)
  | .if_icmp c off => pop2 st (fun x y r => goTo (if cmpC c x y then tgtOf pc off else some (pc + 3)) L r G I J)
  | .ifnull off => (match st with
    | .null :: r => goTo (tgtOf pc off) L r G I J
    | .ref _ :: r => rN (pc + 3) L r G I J
    | _ => none)
  | .ifnonnull off => (match st with
    | .ref _ :: r => goTo (tgtOf pc off) L r G I J
    | .null :: r => rN (pc + 3) L r G I J
    | _ => none)
  | .goto off => goTo (tgtOf pc off) L st G I J
  | .tableswitch dd lo hi offs => pop1 st (fun x r => if x.toInt < lo ∨ hi < x.toInt then goTo (tgtOf pc dd) L r G I J else goTo (match offs[(x.toInt - lo).toNat]? with
    | some off => tgtOf pc off
    | none => none) L r G I J)
  | .dup => (match st with
    | v :: r => gteP (v.category = 1) (rN (pc + 1) L (v :: v :: r) G I J)
    | _ => none)
  | .dup2 => (match st with
    | a :: b :: r => gteP (a.category = 1 ∧ b.category = 1) (rN (pc + 1) L (a :: b :: a :: b :: r) G I J)
    | _ => none)
  | .pop => (match st with
    | v :: r => gteP (v.category = 1) (rN (pc + 1) L r G I J)
    | _ => none)
  | _ => none
/-- which family an instruction is of, and its length (0: any) -/
def fam (i : Instr) : Nat × Nat := match i with
  | .iload_n _ | .lload_n _ | .aload_n _ | .istore_n _ | .lstore_n _ | .astore_n _ => (0, 1)
  | .iload _ | .lload _ | .aload _ | .istore _ | .lstore _ | .astore _ => (0, 2)
  | .iinc _ _ => (0, 3)
  | .aconst_null | .iconst _ | .lconst _ | .iadd | .isub | .imul | .iand | .ior | .ixor | .idiv | .irem | .ishl | .ishr | .iushr | .ineg | .i2l | .l2i | .ladd | .lsub | .lmul | .land | .lor | .lxor | .ldiv | .lrem | .lshl | .lshr | .lushr | .lcmp => (1, 1)
  | .bipush _ | .ldc _ => (1, 2)
  | .sipush _ | .ldc_w _ | .ldc2_w _ => (1, 3)
  | .ifCond _ _ | .if_icmp _ _ | .ifnull _ | .ifnonnull _ | .goto _ => (2, 3)
  | .tableswitch _ _ _ _ => (2, 0)
  | .dup | .dup2 | .pop => (2, 1)
  | .iaload | .laload | .baload | .aaload | .iastore | .lastore | .bastore | .aastore | .arraylength => (3, 1)
  | .ireturn | .lreturn | .areturn | .return_ => (4, 1)
  | .getfield _ => (5, 3)
  | .putfield _ => (6, 3)
  | .getstatic _ => (7, 3)
  | .new _ => (8, 3)
  | .newarray _ => (9, 2)
  | .anewarray _ => (10, 3)
  | .invokevirtual _ | .invokestatic _ | .invokespecial _ => (11, 3)
  | _ => (99, 99)
noncomputable def ins1 (k pc : Nat) (i : Instr) (L st : List Value) (G : GT) (I : IT) (J : JT) (E : Nat × Nat) : RES := match (fam i).1 with
  | 0 => doLd i pc L st G I J
  | 1 => doOp i k pc L st G I J
  | 2 => doBr i pc L st G I J
  | 3 => doAr i pc L st G I J
  | 4 => doRet i k st G I J E
  | _ => match i with
    | .getfield x => doGet k pc (fldT (ocl k) x) L st G I J
    | .putfield x => doPut k pc (fldT (ocl k) x) L st G I J
    | .getstatic x => if ocl k = 6 ∧ x = 256 then rN (pc + 3) L (.ref patC :: st) G I J else none
    | .new x => doNew pc (newT (ocl k) x) L st G I J E
    | .newarray ty => doNewA pc ty L st G I J E
    | .anewarray x => doNewQ pc (newT (ocl k) x) L st G I J E
    | .invokevirtual x => doInv 0 pc (calT (ocl k) x) L st G I J
    | .invokestatic x => doInv 1 pc (calT (ocl k) x) L st G I J
    | .invokespecial x => doInv 2 pc (calT (ocl k) x) L st G I J
    | _ => none
def lenOK (i : Instr) (len : Nat) : Bool := (fam i).2 == 0 || (fam i).2 == len
noncomputable def stp (k pc : Nat) (L st : List Value) (G : GT) (I : IT) (J : JT) (E : Nat × Nat) : RES := match decode (byt k) pc with
  | .ok (i, len) => if lenOK i len then ins1 k pc i L st G I J E else none
  | .error _ => none
/-- what a step's outcome says, with P for the frame that goes on, C for calls, K for the end -/
def sP (C : Nat → List Value → GT → IT → JT → KT → Prop) (K : KT) (P : Nat → List Value → List Value → GT → IT → JT → Prop) (G : GT) (I : IT) (J : JT) (r : RES) : Prop := match r with
  | none => False
  | some (.inl (pc, L, st, G', I', J')) => P pc L st G' I' J'
  | some (.inr (.inl (v, G', I', J'))) => K v G' I' J'
  | some (.inr (.inr (y, as, pc, L, st))) => C y as G I J (fun v G' I' J' => P pc L (psh v st) G' I' J')
def AWF (C : Nat → List Value → GT → IT → JT → KT → Prop) (E : Nat × Nat) (K : KT) (k pc : Nat) (L st : List Value) (G : GT) (I : IT) (J : JT) : Prop :=
  ∀ P : Nat → List Value → List Value → GT → IT → JT → Prop, (∀ pc L st G I J, sP C K P G I J (stp k pc L st G I J E) → P pc L st G I J) → P pc L st G I J
def ACall : Nat → Nat → List Value → GT → IT → JT → KT → Prop
  | 0 => fun _ _ _ _ _ _ => False
  | d + 1 => fun y as G I J K => AWF (ACall d) (G.1 + (mcs y).1, G.2.1 + (mcs y).2) K y 0 (entL y as) [] G I J
def AW (d : Nat) (E : Nat × Nat) (K : KT) (k pc : Nat) (L st : List Value) (G : GT) (I : IT) (J : JT) : Prop := AWF (ACall d) E K k pc L st G I J
theorem sP_mono {C : Nat → List Value → GT → IT → JT → KT → Prop} (hC : ∀ y as G I J (K K' : KT), (∀ v G I J, K v G I J → K' v G I J) → C y as G I J K → C y as G I J K') {K K' : KT} (hK : ∀ v G I J, K v G I J → K' v G I J) {P P' : Nat → List Value → List Value → GT → IT → JT → Prop} (hP : ∀ pc L st G I J, P pc L st G I J → P' pc L st G I J) {G : GT} {I : IT} {J : JT} {r : RES} (h : sP C K P G I J r) : sP C K' P' G I J r := by
  unfold sP at h ⊢
  match r, h with
  | some (.inl (pc, L, st, G', I', J')), h => exact hP _ _ _ _ _ _ h
  | some (.inr (.inl (v, G', I', J'))), h => exact hK _ _ _ _ h
  | some (.inr (.inr (y, as, pc, L, st))), h => exact hC _ _ _ _ _ _ _ (fun v G I J q => hP _ _ _ _ _ _ q) h
theorem AWF_mono {C : Nat → List Value → GT → IT → JT → KT → Prop} (hC : ∀ y as G I J (K K' : KT), (∀ v G I J, K v G I J → K' v G I J) → C y as G I J K → C y as G I J K') {E : Nat × Nat} {K K' : KT} (hK : ∀ v G I J, K v G I J → K' v G I J) {k pc : Nat} {L st : List Value} {G : GT} {I : IT} {J : JT} (h : AWF C E K k pc L st G I J) : AWF C E K' k pc L st G I J := by
  intro P hP
  exact h P (fun pc L st G I J q => hP _ _ _ _ _ _ (sP_mono hC hK (fun _ _ _ _ _ _ z => z) q))
theorem ACall_mono : ∀ (d y : Nat) (as : List Value) (G : GT) (I : IT) (J : JT) (K K' : KT), (∀ v G I J, K v G I J → K' v G I J) → ACall d y as G I J K → ACall d y as G I J K' := by
  intro d
  induction d with
  | zero => intro y as G I J K K' _ h; exact h
  | succ d ih => intro y as G I J K K' hK h; exact AWF_mono ih hK h
theorem AWF_unfold {C : Nat → List Value → GT → IT → JT → KT → Prop} (hC : ∀ y as G I J (K K' : KT), (∀ v G I J, K v G I J → K' v G I J) → C y as G I J K → C y as G I J K') {E : Nat × Nat} {K : KT} {k pc : Nat} {L st : List Value} {G : GT} {I : IT} {J : JT} : AWF C E K k pc L st G I J ↔ sP C K (AWF C E K k) G I J (stp k pc L st G I J E) := by
  constructor
  · intro h
    refine h (fun pc L st G I J => sP C K (AWF C E K k) G I J (stp k pc L st G I J E)) ?_
    intro pc L st G I J q
    refine sP_mono hC (fun _ _ _ _ z => z) ?_ q
    intro pc L st G I J z P hP
    exact hP _ _ _ _ _ _ (sP_mono hC (fun _ _ _ _ z => z) (fun pc L st G I J w => w P hP) z)
  · intro h P hP
    exact hP _ _ _ _ _ _ (sP_mono hC (fun _ _ _ _ z => z) (fun pc L st G I J w => w P hP) h)
theorem AW_unfold {d : Nat} {E : Nat × Nat} {K : KT} {k pc : Nat} {L st : List Value} {G : GT} {I : IT} {J : JT} : AW d E K k pc L st G I J ↔ sP (ACall d) K (AW d E K k) G I J (stp k pc L st G I J E) := AWF_unfold (ACall_mono d)
theorem AW_mono {d : Nat} {E : Nat × Nat} {K K' : KT} (hK : ∀ v G I J, K v G I J → K' v G I J) {k pc : Nat} {L st : List Value} {G : GT} {I : IT} {J : JT} (h : AW d E K k pc L st G I J) : AW d E K' k pc L st G I J := AWF_mono (ACall_mono d) hK h
theorem ACall_entry {d y : Nat} {as : List Value} {G : GT} {I : IT} {J : JT} {K : KT} : ACall (d + 1) y as G I J K ↔ AW d (G.1 + (mcs y).1, G.2.1 + (mcs y).2) K y 0 (entL y as) [] G I J := Iff.rfl
/-- more depth does no harm -/
theorem sP_deep {C C' : Nat → List Value → GT → IT → JT → KT → Prop} (hC : ∀ y as G I J K, C y as G I J K → C' y as G I J K) {K : KT} {P : Nat → List Value → List Value → GT → IT → JT → Prop} {G : GT} {I : IT} {J : JT} {r : RES} (q : sP C K P G I J r) : sP C' K P G I J r := by
  unfold sP at q ⊢
  match r, q with
  | some (.inl (pc, L, st, G', I', J')), q => exact q
  | some (.inr (.inl (v, G', I', J'))), q => exact q
  | some (.inr (.inr (y, as, pc, L, st))), q => exact hC _ _ _ _ _ _ q
theorem AWF_deep {C C' : Nat → List Value → GT → IT → JT → KT → Prop} (hC : ∀ y as G I J K, C y as G I J K → C' y as G I J K) {E : Nat × Nat} {K : KT} {k pc : Nat} {L st : List Value} {G : GT} {I : IT} {J : JT} (h : AWF C E K k pc L st G I J) : AWF C' E K k pc L st G I J := by
  intro P hP
  exact h P (fun pc L st G I J q => hP _ _ _ _ _ _ (sP_deep hC q))
theorem ACall_deep {d y : Nat} {as : List Value} {G : GT} {I : IT} {J : JT} {K : KT} (h : ACall d y as G I J K) : ACall (d + 1) y as G I J K := by
  induction d generalizing y as G I J K with
  | zero => exact absurd h (by simp [ACall])
  | succ d ih => exact AWF_deep (C := ACall d) (fun y as G I J K q => ih q) h
theorem gteP_pos {p : Prop} {r : RES} (h : p) : gteP p r = r := by unfold gteP; exact if_pos h
theorem sP_gte {C : Nat → List Value → GT → IT → JT → KT → Prop} {K : KT} {P : Nat → List Value → List Value → GT → IT → JT → Prop} {G : GT} {I : IT} {J : JT} {p : Prop} {r : RES} : sP C K P G I J (gteP p r) ↔ p ∧ sP C K P G I J r := by
  unfold gteP
  by_cases h : p
  · rw [if_pos h]; exact ⟨fun q => ⟨h, q⟩, fun q => q.2⟩
  · rw [if_neg h]; exact ⟨fun q => absurd q (by simp [sP]), fun q => absurd q.1 h⟩
end
section
section AwRows
variable {d : Nat} {E : Nat × Nat} {K : KT} {k pc pc2 : Nat} {L st : List Value} {G : GT} {I : IT} {J : JT}
theorem stp_eq {i : Instr} {len : Nat} (D : decode (byt k) pc = .ok (i, len)) (hl : lenOK i len = true) : stp k pc L st G I J E = ins1 k pc i L st G I J E := by
  unfold stp
  rw [D]
  show (if lenOK i len = true then _ else _) = _
  rw [if_pos hl]
theorem aw_go {L' st' : List Value} {G' : GT} {I' : IT} {J' : JT} (h : stp k pc L st G I J E = rN pc2 L' st' G' I' J') : AW d E K k pc L st G I J ↔ AW d E K k pc2 L' st' G' I' J' := by
  rw [AW_unfold, h]
  exact Iff.rfl
theorem aw_gt {p : Prop} {L' st' : List Value} {G' : GT} {I' : IT} {J' : JT} (h : stp k pc L st G I J E = gteP p (rN pc2 L' st' G' I' J')) : AW d E K k pc L st G I J ↔ p ∧ AW d E K k pc2 L' st' G' I' J' := by
  rw [AW_unfold, h, sP_gte]
  exact Iff.rfl
theorem aw_gs {p : Prop} {L' st' : List Value} {G' : GT} {I' : IT} {J' : JT} (h : stp k pc L st G I J E = gteP p (rN pc2 L' st' G' I' J')) (hp : p) : AW d E K k pc L st G I J ↔ AW d E K k pc2 L' st' G' I' J' := (aw_gt h).trans ⟨fun q => q.2, fun q => ⟨hp, q⟩⟩
theorem aw_gc {p : Prop} {y : Nat} {as L' st' : List Value} (h : stp k pc L st G I J E = gteP p (rC y as pc2 L' st')) : AW d E K k pc L st G I J ↔ p ∧ ACall d y as G I J (fun v G I J => AW d E K k pc2 L' (psh v st') G I J) := by
  rw [AW_unfold, h, sP_gte]
  exact Iff.rfl
theorem aw_gr {p : Prop} {v : Option Value} (h : stp k pc L st G I J E = gteP p (rR v G I J)) : AW d E K k pc L st G I J ↔ p ∧ K v G I J := by
  rw [AW_unfold, h, sP_gte]
  exact Iff.rfl
theorem aw_br {p : Prop} (i : Decidable p) {b : Bool} {t t2 : Option Nat} {u u2 : Nat} {L' st' : List Value} (h : stp k pc L st G I J E = goTo (if b = true then t else t2) L' st' G I J) (hb : b = decide p) (ht : t = some u) (ht2 : t2 = some u2) : AW d E K k pc L st G I J ↔ if p then AW d E K k u L' st' G I J else AW d E K k u2 L' st' G I J := by
  subst hb; subst ht; subst ht2
  by_cases hp : p
  · rw [if_pos hp]
    rw [decide_eq_true hp, if_pos rfl] at h
    exact aw_go h
  · rw [if_neg hp]
    rw [decide_eq_false hp, if_neg (by decide)] at h
    exact aw_go h
theorem tgt_of {t : Nat} {off : Int} (h : (pc : Int) + off = (t : Int)) : tgtOf pc off = some t := by
  unfold tgtOf
  rw [if_pos (by omega), h]
  rfl
theorem aw_iload_0 {x : Int32} (D : decode (byt k) pc = .ok (.iload_n 0, 1)) (hp : pc + 1 = pc2) : AW d E K k pc (.int x :: L) st G I J ↔ AW d E K k pc2 (.int x :: L) (.int x :: st) G I J := by
  subst hp; exact aw_go ((stp_eq D rfl).trans rfl)
theorem aw_iload_1 {a0 : Value} {x : Int32} (D : decode (byt k) pc = .ok (.iload_n 1, 1)) (hp : pc + 1 = pc2) : AW d E K k pc (a0 :: .int x :: L) st G I J ↔ AW d E K k pc2 (a0 :: .int x :: L) (.int x :: st) G I J := by
  subst hp; exact aw_go ((stp_eq D rfl).trans rfl)
theorem aw_iload_2 {a0 a1 : Value} {x : Int32} (D : decode (byt k) pc = .ok (.iload_n 2, 1)) (hp : pc + 1 = pc2) : AW d E K k pc (a0 :: a1 :: .int x :: L) st G I J ↔ AW d E K k pc2 (a0 :: a1 :: .int x :: L) (.int x :: st) G I J := by
  subst hp; exact aw_go ((stp_eq D rfl).trans rfl)
theorem aw_iload_3 {a0 a1 a2 : Value} {x : Int32} (D : decode (byt k) pc = .ok (.iload_n 3, 1)) (hp : pc + 1 = pc2) : AW d E K k pc (a0 :: a1 :: a2 :: .int x :: L) st G I J ↔ AW d E K k pc2 (a0 :: a1 :: a2 :: .int x :: L) (.int x :: st) G I J := by
  subst hp; exact aw_go ((stp_eq D rfl).trans rfl)
theorem aw_iload_4 {a0 a1 a2 a3 : Value} {x : Int32} (D : decode (byt k) pc = .ok (.iload 4, 2)) (hp : pc + 2 = pc2) : AW d E K k pc (a0 :: a1 :: a2 :: a3 :: .int x :: L) st G I J ↔ AW d E K k pc2 (a0 :: a1 :: a2 :: a3 :: .int x :: L) (.int x :: st) G I J := by
  subst hp; exact aw_go ((stp_eq D rfl).trans rfl)
theorem aw_iload_5 {a0 a1 a2 a3 a4 : Value} {x : Int32} (D : decode (byt k) pc = .ok (.iload 5, 2)) (hp : pc + 2 = pc2) : AW d E K k pc (a0 :: a1 :: a2 :: a3 :: a4 :: .int x :: L) st G I J ↔ AW d E K k pc2 (a0 :: a1 :: a2 :: a3 :: a4 :: .int x :: L) (.int x :: st) G I J := by
  subst hp; exact aw_go ((stp_eq D rfl).trans rfl)
theorem aw_iload_6 {a0 a1 a2 a3 a4 a5 : Value} {x : Int32} (D : decode (byt k) pc = .ok (.iload 6, 2)) (hp : pc + 2 = pc2) : AW d E K k pc (a0 :: a1 :: a2 :: a3 :: a4 :: a5 :: .int x :: L) st G I J ↔ AW d E K k pc2 (a0 :: a1 :: a2 :: a3 :: a4 :: a5 :: .int x :: L) (.int x :: st) G I J := by
  subst hp; exact aw_go ((stp_eq D rfl).trans rfl)
theorem aw_iload_7 {a0 a1 a2 a3 a4 a5 a6 : Value} {x : Int32} (D : decode (byt k) pc = .ok (.iload 7, 2)) (hp : pc + 2 = pc2) : AW d E K k pc (a0 :: a1 :: a2 :: a3 :: a4 :: a5 :: a6 :: .int x :: L) st G I J ↔ AW d E K k pc2 (a0 :: a1 :: a2 :: a3 :: a4 :: a5 :: a6 :: .int x :: L) (.int x :: st) G I J := by
  subst hp; exact aw_go ((stp_eq D rfl).trans rfl)
theorem aw_iload_8 {a0 a1 a2 a3 a4 a5 a6 a7 : Value} {x : Int32} (D : decode (byt k) pc = .ok (.iload 8, 2)) (hp : pc + 2 = pc2) : AW d E K k pc (a0 :: a1 :: a2 :: a3 :: a4 :: a5 :: a6 :: a7 :: .int x :: L) st G I J ↔ AW d E K k pc2 (a0 :: a1 :: a2 :: a3 :: a4 :: a5 :: a6 :: a7 :: .int x :: L) (.int x :: st) G I J := by
  subst hp; exact aw_go ((stp_eq D rfl).trans rfl)
theorem aw_iload_9 {a0 a1 a2 a3 a4 a5 a6 a7 a8 : Value} {x : Int32} (D : decode (byt k) pc = .ok (.iload 9, 2)) (hp : pc + 2 = pc2) : AW d E K k pc (a0 :: a1 :: a2 :: a3 :: a4 :: a5 :: a6 :: a7 :: a8 :: .int x :: L) st G I J ↔ AW d E K k pc2 (a0 :: a1 :: a2 :: a3 :: a4 :: a5 :: a6 :: a7 :: a8 :: .int x :: L) (.int x :: st) G I J := by
  subst hp; exact aw_go ((stp_eq D rfl).trans rfl)
theorem aw_iload_10 {a0 a1 a2 a3 a4 a5 a6 a7 a8 a9 : Value} {x : Int32} (D : decode (byt k) pc = .ok (.iload 10, 2)) (hp : pc + 2 = pc2) : AW d E K k pc (a0 :: a1 :: a2 :: a3 :: a4 :: a5 :: a6 :: a7 :: a8 :: a9 :: .int x :: L) st G I J ↔ AW d E K k pc2 (a0 :: a1 :: a2 :: a3 :: a4 :: a5 :: a6 :: a7 :: a8 :: a9 :: .int x :: L) (.int x :: st) G I J := by
  subst hp; exact aw_go ((stp_eq D rfl).trans rfl)
theorem aw_iload_11 {a0 a1 a2 a3 a4 a5 a6 a7 a8 a9 a10 : Value} {x : Int32} (D : decode (byt k) pc = .ok (.iload 11, 2)) (hp : pc + 2 = pc2) : AW d E K k pc (a0 :: a1 :: a2 :: a3 :: a4 :: a5 :: a6 :: a7 :: a8 :: a9 :: a10 :: .int x :: L) st G I J ↔ AW d E K k pc2 (a0 :: a1 :: a2 :: a3 :: a4 :: a5 :: a6 :: a7 :: a8 :: a9 :: a10 :: .int x :: L) (.int x :: st) G I J := by
  subst hp; exact aw_go ((stp_eq D rfl).trans rfl)
theorem aw_iload_12 {a0 a1 a2 a3 a4 a5 a6 a7 a8 a9 a10 a11 : Value} {x : Int32} (D : decode (byt k) pc = .ok (.iload 12, 2)) (hp : pc + 2 = pc2) : AW d E K k pc (a0 :: a1 :: a2 :: a3 :: a4 :: a5 :: a6 :: a7 :: a8 :: a9 :: a10 :: a11 :: .int x :: L) st G I J ↔ AW d E K k pc2 (a0 :: a1 :: a2 :: a3 :: a4 :: a5 :: a6 :: a7 :: a8 :: a9 :: a10 :: a11 :: .int x :: L) (.int x :: st) G I J := by
  subst hp; exact aw_go ((stp_eq D rfl).trans rfl)
theorem aw_iload_13 {a0 a1 a2 a3 a4 a5 a6 a7 a8 a9 a10 a11 a12 : Value} {x : Int32} (D : decode (byt k) pc = .ok (.iload 13, 2)) (hp : pc + 2 = pc2) : AW d E K k pc (a0 :: a1 :: a2 :: a3 :: a4 :: a5 :: a6 :: a7 :: a8 :: a9 :: a10 :: a11 :: a12 :: .int x :: L) st G I J ↔ AW d E K k pc2 (a0 :: a1 :: a2 :: a3 :: a4 :: a5 :: a6 :: a7 :: a8 :: a9 :: a10 :: a11 :: a12 :: .int x :: L) (.int x :: st) G I J := by
  subst hp; exact aw_go ((stp_eq D rfl).trans rfl)
theorem aw_iload_14 {a0 a1 a2 a3 a4 a5 a6 a7 a8 a9 a10 a11 a12 a13 : Value} {x : Int32} (D : decode (byt k) pc = .ok (.iload 14, 2)) (hp : pc + 2 = pc2) : AW d E K k pc (a0 :: a1 :: a2 :: a3 :: a4 :: a5 :: a6 :: a7 :: a8 :: a9 :: a10 :: a11 :: a12 :: a13 :: .int x :: L) st G I J ↔ AW d E K k pc2 (a0 :: a1 :: a2 :: a3 :: a4 :: a5 :: a6 :: a7 :: a8 :: a9 :: a10 :: a11 :: a12 :: a13 :: .int x :: L) (.int x :: st) G I J := by
  subst hp; exact aw_go ((stp_eq D rfl).trans rfl)
theorem aw_iload_15 {a0 a1 a2 a3 a4 a5 a6 a7 a8 a9 a10 a11 a12 a13 a14 : Value} {x : Int32} (D : decode (byt k) pc = .ok (.iload 15, 2)) (hp : pc + 2 = pc2) : AW d E K k pc (a0 :: a1 :: a2 :: a3 :: a4 :: a5 :: a6 :: a7 :: a8 :: a9 :: a10 :: a11 :: a12 :: a13 :: a14 :: .int x :: L) st G I J ↔ AW d E K k pc2 (a0 :: a1 :: a2 :: a3 :: a4 :: a5 :: a6 :: a7 :: a8 :: a9 :: a10 :: a11 :: a12 :: a13 :: a14 :: .int x :: L) (.int x :: st) G I J := by
  subst hp; exact aw_go ((stp_eq D rfl).trans rfl)
theorem aw_lload_0 {x : Int64} (D : decode (byt k) pc = .ok (.lload_n 0, 1)) (hp : pc + 1 = pc2) : AW d E K k pc (.long x :: L) st G I J ↔ AW d E K k pc2 (.long x :: L) (.long x :: st) G I J := by
  subst hp; exact aw_go ((stp_eq D rfl).trans rfl)
theorem aw_lload_1 {a0 : Value} {x : Int64} (D : decode (byt k) pc = .ok (.lload_n 1, 1)) (hp : pc + 1 = pc2) : AW d E K k pc (a0 :: .long x :: L) st G I J ↔ AW d E K k pc2 (a0 :: .long x :: L) (.long x :: st) G I J := by
  subst hp; exact aw_go ((stp_eq D rfl).trans rfl)
theorem aw_lload_2 {a0 a1 : Value} {x : Int64} (D : decode (byt k) pc = .ok (.lload_n 2, 1)) (hp : pc + 1 = pc2) : AW d E K k pc (a0 :: a1 :: .long x :: L) st G I J ↔ AW d E K k pc2 (a0 :: a1 :: .long x :: L) (.long x :: st) G I J := by
  subst hp; exact aw_go ((stp_eq D rfl).trans rfl)
theorem aw_lload_3 {a0 a1 a2 : Value} {x : Int64} (D : decode (byt k) pc = .ok (.lload_n 3, 1)) (hp : pc + 1 = pc2) : AW d E K k pc (a0 :: a1 :: a2 :: .long x :: L) st G I J ↔ AW d E K k pc2 (a0 :: a1 :: a2 :: .long x :: L) (.long x :: st) G I J := by
  subst hp; exact aw_go ((stp_eq D rfl).trans rfl)
theorem aw_lload_4 {a0 a1 a2 a3 : Value} {x : Int64} (D : decode (byt k) pc = .ok (.lload 4, 2)) (hp : pc + 2 = pc2) : AW d E K k pc (a0 :: a1 :: a2 :: a3 :: .long x :: L) st G I J ↔ AW d E K k pc2 (a0 :: a1 :: a2 :: a3 :: .long x :: L) (.long x :: st) G I J := by
  subst hp; exact aw_go ((stp_eq D rfl).trans rfl)
theorem aw_lload_5 {a0 a1 a2 a3 a4 : Value} {x : Int64} (D : decode (byt k) pc = .ok (.lload 5, 2)) (hp : pc + 2 = pc2) : AW d E K k pc (a0 :: a1 :: a2 :: a3 :: a4 :: .long x :: L) st G I J ↔ AW d E K k pc2 (a0 :: a1 :: a2 :: a3 :: a4 :: .long x :: L) (.long x :: st) G I J := by
  subst hp; exact aw_go ((stp_eq D rfl).trans rfl)
theorem aw_lload_6 {a0 a1 a2 a3 a4 a5 : Value} {x : Int64} (D : decode (byt k) pc = .ok (.lload 6, 2)) (hp : pc + 2 = pc2) : AW d E K k pc (a0 :: a1 :: a2 :: a3 :: a4 :: a5 :: .long x :: L) st G I J ↔ AW d E K k pc2 (a0 :: a1 :: a2 :: a3 :: a4 :: a5 :: .long x :: L) (.long x :: st) G I J := by
  subst hp; exact aw_go ((stp_eq D rfl).trans rfl)
theorem aw_lload_7 {a0 a1 a2 a3 a4 a5 a6 : Value} {x : Int64} (D : decode (byt k) pc = .ok (.lload 7, 2)) (hp : pc + 2 = pc2) : AW d E K k pc (a0 :: a1 :: a2 :: a3 :: a4 :: a5 :: a6 :: .long x :: L) st G I J ↔ AW d E K k pc2 (a0 :: a1 :: a2 :: a3 :: a4 :: a5 :: a6 :: .long x :: L) (.long x :: st) G I J := by
  subst hp; exact aw_go ((stp_eq D rfl).trans rfl)
theorem aw_lload_8 {a0 a1 a2 a3 a4 a5 a6 a7 : Value} {x : Int64} (D : decode (byt k) pc = .ok (.lload 8, 2)) (hp : pc + 2 = pc2) : AW d E K k pc (a0 :: a1 :: a2 :: a3 :: a4 :: a5 :: a6 :: a7 :: .long x :: L) st G I J ↔ AW d E K k pc2 (a0 :: a1 :: a2 :: a3 :: a4 :: a5 :: a6 :: a7 :: .long x :: L) (.long x :: st) G I J := by
  subst hp; exact aw_go ((stp_eq D rfl).trans rfl)
theorem aw_lload_9 {a0 a1 a2 a3 a4 a5 a6 a7 a8 : Value} {x : Int64} (D : decode (byt k) pc = .ok (.lload 9, 2)) (hp : pc + 2 = pc2) : AW d E K k pc (a0 :: a1 :: a2 :: a3 :: a4 :: a5 :: a6 :: a7 :: a8 :: .long x :: L) st G I J ↔ AW d E K k pc2 (a0 :: a1 :: a2 :: a3 :: a4 :: a5 :: a6 :: a7 :: a8 :: .long x :: L) (.long x :: st) G I J := by
  subst hp; exact aw_go ((stp_eq D rfl).trans rfl)
theorem aw_lload_10 {a0 a1 a2 a3 a4 a5 a6 a7 a8 a9 : Value} {x : Int64} (D : decode (byt k) pc = .ok (.lload 10, 2)) (hp : pc + 2 = pc2) : AW d E K k pc (a0 :: a1 :: a2 :: a3 :: a4 :: a5 :: a6 :: a7 :: a8 :: a9 :: .long x :: L) st G I J ↔ AW d E K k pc2 (a0 :: a1 :: a2 :: a3 :: a4 :: a5 :: a6 :: a7 :: a8 :: a9 :: .long x :: L) (.long x :: st) G I J := by
  subst hp; exact aw_go ((stp_eq D rfl).trans rfl)
theorem aw_lload_11 {a0 a1 a2 a3 a4 a5 a6 a7 a8 a9 a10 : Value} {x : Int64} (D : decode (byt k) pc = .ok (.lload 11, 2)) (hp : pc + 2 = pc2) : AW d E K k pc (a0 :: a1 :: a2 :: a3 :: a4 :: a5 :: a6 :: a7 :: a8 :: a9 :: a10 :: .long x :: L) st G I J ↔ AW d E K k pc2 (a0 :: a1 :: a2 :: a3 :: a4 :: a5 :: a6 :: a7 :: a8 :: a9 :: a10 :: .long x :: L) (.long x :: st) G I J := by
  subst hp; exact aw_go ((stp_eq D rfl).trans rfl)
theorem aw_lload_12 {a0 a1 a2 a3 a4 a5 a6 a7 a8 a9 a10 a11 : Value} {x : Int64} (D : decode (byt k) pc = .ok (.lload 12, 2)) (hp : pc + 2 = pc2) : AW d E K k pc (a0 :: a1 :: a2 :: a3 :: a4 :: a5 :: a6 :: a7 :: a8 :: a9 :: a10 :: a11 :: .long x :: L) st G I J ↔ AW d E K k pc2 (a0 :: a1 :: a2 :: a3 :: a4 :: a5 :: a6 :: a7 :: a8 :: a9 :: a10 :: a11 :: .long x :: L) (.long x :: st) G I J := by
  subst hp; exact aw_go ((stp_eq D rfl).trans rfl)
theorem aw_lload_13 {a0 a1 a2 a3 a4 a5 a6 a7 a8 a9 a10 a11 a12 : Value} {x : Int64} (D : decode (byt k) pc = .ok (.lload 13, 2)) (hp : pc + 2 = pc2) : AW d E K k pc (a0 :: a1 :: a2 :: a3 :: a4 :: a5 :: a6 :: a7 :: a8 :: a9 :: a10 :: a11 :: a12 :: .long x :: L) st G I J ↔ AW d E K k pc2 (a0 :: a1 :: a2 :: a3 :: a4 :: a5 :: a6 :: a7 :: a8 :: a9 :: a10 :: a11 :: a12 :: .long x :: L) (.long x :: st) G I J := by
  subst hp; exact aw_go ((stp_eq D rfl).trans rfl)
theorem aw_lload_14 {a0 a1 a2 a3 a4 a5 a6 a7 a8 a9 a10 a11 a12 a13 : Value} {x : Int64} (D : decode (byt k) pc = .ok (.lload 14, 2)) (hp : pc + 2 = pc2) : AW d E K k pc (a0 :: a1 :: a2 :: a3 :: a4 :: a5 :: a6 :: a7 :: a8 :: a9 :: a10 :: a11 :: a12 :: a13 :: .long x :: L) st G I J ↔ AW d E K k pc2 (a0 :: a1 :: a2 :: a3 :: a4 :: a5 :: a6 :: a7 :: a8 :: a9 :: a10 :: a11 :: a12 :: a13 :: .long x :: L) (.long x :: st) G I J := by
  subst hp; exact aw_go ((stp_eq D rfl).trans rfl)
theorem aw_lload_15 {a0 a1 a2 a3 a4 a5 a6 a7 a8 a9 a10 a11 a12 a13 a14 : Value} {x : Int64} (D : decode (byt k) pc = .ok (.lload 15, 2)) (hp : pc + 2 = pc2) : AW d E K k pc (a0 :: a1 :: a2 :: a3 :: a4 :: a5 :: a6 :: a7 :: a8 :: a9 :: a10 :: a11 :: a12 :: a13 :: a14 :: .long x :: L) st G I J ↔ AW d E K k pc2 (a0 :: a1 :: a2 :: a3 :: a4 :: a5 :: a6 :: a7 :: a8 :: a9 :: a10 :: a11 :: a12 :: a13 :: a14 :: .long x :: L) (.long x :: st) G I J := by
  subst hp; exact aw_go ((stp_eq D rfl).trans rfl)
theorem aw_aload_0 {x : Nat} (D : decode (byt k) pc = .ok (.aload_n 0, 1)) (hp : pc + 1 = pc2) : AW d E K k pc (.ref x :: L) st G I J ↔ AW d E K k pc2 (.ref x :: L) (.ref x :: st) G I J := by
  subst hp; exact aw_go ((stp_eq D rfl).trans rfl)
theorem aw_aload_1 {a0 : Value} {x : Nat} (D : decode (byt k) pc = .ok (.aload_n 1, 1)) (hp : pc + 1 = pc2) : AW d E K k pc (a0 :: .ref x :: L) st G I J ↔ AW d E K k pc2 (a0 :: .ref x :: L) (.ref x :: st) G I J := by
  subst hp; exact aw_go ((stp_eq D rfl).trans rfl)
theorem aw_aload_2 {a0 a1 : Value} {x : Nat} (D : decode (byt k) pc = .ok (.aload_n 2, 1)) (hp : pc + 1 = pc2) : AW d E K k pc (a0 :: a1 :: .ref x :: L) st G I J ↔ AW d E K k pc2 (a0 :: a1 :: .ref x :: L) (.ref x :: st) G I J := by
  subst hp; exact aw_go ((stp_eq D rfl).trans rfl)
theorem aw_aload_3 {a0 a1 a2 : Value} {x : Nat} (D : decode (byt k) pc = .ok (.aload_n 3, 1)) (hp : pc + 1 = pc2) : AW d E K k pc (a0 :: a1 :: a2 :: .ref x :: L) st G I J ↔ AW d E K k pc2 (a0 :: a1 :: a2 :: .ref x :: L) (.ref x :: st) G I J := by
  subst hp; exact aw_go ((stp_eq D rfl).trans rfl)
theorem aw_aload_4 {a0 a1 a2 a3 : Value} {x : Nat} (D : decode (byt k) pc = .ok (.aload 4, 2)) (hp : pc + 2 = pc2) : AW d E K k pc (a0 :: a1 :: a2 :: a3 :: .ref x :: L) st G I J ↔ AW d E K k pc2 (a0 :: a1 :: a2 :: a3 :: .ref x :: L) (.ref x :: st) G I J := by
  subst hp; exact aw_go ((stp_eq D rfl).trans rfl)
theorem aw_aload_5 {a0 a1 a2 a3 a4 : Value} {x : Nat} (D : decode (byt k) pc = .ok (.aload 5, 2)) (hp : pc + 2 = pc2) : AW d E K k pc (a0 :: a1 :: a2 :: a3 :: a4 :: .ref x :: L) st G I J ↔ AW d E K k pc2 (a0 :: a1 :: a2 :: a3 :: a4 :: .ref x :: L) (.ref x :: st) G I J := by
  subst hp; exact aw_go ((stp_eq D rfl).trans rfl)
theorem aw_aload_6 {a0 a1 a2 a3 a4 a5 : Value} {x : Nat} (D : decode (byt k) pc = .ok (.aload 6, 2)) (hp : pc + 2 = pc2) : AW d E K k pc (a0 :: a1 :: a2 :: a3 :: a4 :: a5 :: .ref x :: L) st G I J ↔ AW d E K k pc2 (a0 :: a1 :: a2 :: a3 :: a4 :: a5 :: .ref x :: L) (.ref x :: st) G I J := by
  subst hp; exact aw_go ((stp_eq D rfl).trans rfl)
theorem aw_aload_7 {a0 a1 a2 a3 a4 a5 a6 : Value} {x : Nat} (D : decode (byt k) pc = .ok (.aload 7, 2)) (hp : pc + 2 = pc2) : AW d E K k pc (a0 :: a1 :: a2 :: a3 :: a4 :: a5 :: a6 :: .ref x :: L) st G I J ↔ AW d E K k pc2 (a0 :: a1 :: a2 :: a3 :: a4 :: a5 :: a6 :: .ref x :: L) (.ref x :: st) G I J := by
  subst hp; exact aw_go ((stp_eq D rfl).trans rfl)
theorem aw_aload_8 {a0 a1 a2 a3 a4 a5 a6 a7 : Value} {x : Nat} (D : decode (byt k) pc = .ok (.aload 8, 2)) (hp : pc + 2 = pc2) : AW d E K k pc (a0 :: a1 :: a2 :: a3 :: a4 :: a5 :: a6 :: a7 :: .ref x :: L) st G I J ↔ AW d E K k pc2 (a0 :: a1 :: a2 :: a3 :: a4 :: a5 :: a6 :: a7 :: .ref x :: L) (.ref x :: st) G I J := by
  subst hp; exact aw_go ((stp_eq D rfl).trans rfl)
theorem aw_aload_9 {a0 a1 a2 a3 a4 a5 a6 a7 a8 : Value} {x : Nat} (D : decode (byt k) pc = .ok (.aload 9, 2)) (hp : pc + 2 = pc2) : AW d E K k pc (a0 :: a1 :: a2 :: a3 :: a4 :: a5 :: a6 :: a7 :: a8 :: .ref x :: L) st G I J ↔ AW d E K k pc2 (a0 :: a1 :: a2 :: a3 :: a4 :: a5 :: a6 :: a7 :: a8 :: .ref x :: L) (.ref x :: st) G I J := by
  subst hp; exact aw_go ((stp_eq D rfl).trans rfl)
theorem aw_aload_10 {a0 a1 a2 a3 a4 a5 a6 a7 a8 a9 : Value} {x : Nat} (D : decode (byt k) pc = .ok (.aload 10, 2)) (hp : pc + 2 = pc2) : AW d E K k pc (a0 :: a1 :: a2 :: a3 :: a4 :: a5 :: a6 :: a7 :: a8 :: a9 :: .ref x :: L) st G I J ↔ AW d E K k pc2 (a0 :: a1 :: a2 :: a3 :: a4 :: a5 :: a6 :: a7 :: a8 :: a9 :: .ref x :: L) (.ref x :: st) G I J := by
  subst hp; exact aw_go ((stp_eq D rfl).trans rfl)
theorem aw_aload_11 {a0 a1 a2 a3 a4 a5 a6 a7 a8 a9 a10 : Value} {x : Nat} (D : decode (byt k) pc = .ok (.aload 11, 2)) (hp : pc + 2 = pc2) : AW d E K k pc (a0 :: a1 :: a2 :: a3 :: a4 :: a5 :: a6 :: a7 :: a8 :: a9 :: a10 :: .ref x :: L) st G I J ↔ AW d E K k pc2 (a0 :: a1 :: a2 :: a3 :: a4 :: a5 :: a6 :: a7 :: a8 :: a9 :: a10 :: .ref x :: L) (.ref x :: st) G I J := by
  subst hp; exact aw_go ((stp_eq D rfl).trans rfl)
theorem aw_aload_12 {a0 a1 a2 a3 a4 a5 a6 a7 a8 a9 a10 a11 : Value} {x : Nat} (D : decode (byt k) pc = .ok (.aload 12, 2)) (hp : pc + 2 = pc2) : AW d E K k pc (a0 :: a1 :: a2 :: a3 :: a4 :: a5 :: a6 :: a7 :: a8 :: a9 :: a10 :: a11 :: .ref x :: L) st G I J ↔ AW d E K k pc2 (a0 :: a1 :: a2 :: a3 :: a4 :: a5 :: a6 :: a7 :: a8 :: a9 :: a10 :: a11 :: .ref x :: L) (.ref x :: st) G I J := by
  subst hp; exact aw_go ((stp_eq D rfl).trans rfl)
theorem aw_aload_13 {a0 a1 a2 a3 a4 a5 a6 a7 a8 a9 a10 a11 a12 : Value} {x : Nat} (D : decode (byt k) pc = .ok (.aload 13, 2)) (hp : pc + 2 = pc2) : AW d E K k pc (a0 :: a1 :: a2 :: a3 :: a4 :: a5 :: a6 :: a7 :: a8 :: a9 :: a10 :: a11 :: a12 :: .ref x :: L) st G I J ↔ AW d E K k pc2 (a0 :: a1 :: a2 :: a3 :: a4 :: a5 :: a6 :: a7 :: a8 :: a9 :: a10 :: a11 :: a12 :: .ref x :: L) (.ref x :: st) G I J := by
  subst hp; exact aw_go ((stp_eq D rfl).trans rfl)
theorem aw_aload_14 {a0 a1 a2 a3 a4 a5 a6 a7 a8 a9 a10 a11 a12 a13 : Value} {x : Nat} (D : decode (byt k) pc = .ok (.aload 14, 2)) (hp : pc + 2 = pc2) : AW d E K k pc (a0 :: a1 :: a2 :: a3 :: a4 :: a5 :: a6 :: a7 :: a8 :: a9 :: a10 :: a11 :: a12 :: a13 :: .ref x :: L) st G I J ↔ AW d E K k pc2 (a0 :: a1 :: a2 :: a3 :: a4 :: a5 :: a6 :: a7 :: a8 :: a9 :: a10 :: a11 :: a12 :: a13 :: .ref x :: L) (.ref x :: st) G I J := by
  subst hp; exact aw_go ((stp_eq D rfl).trans rfl)
theorem aw_aload_15 {a0 a1 a2 a3 a4 a5 a6 a7 a8 a9 a10 a11 a12 a13 a14 : Value} {x : Nat} (D : decode (byt k) pc = .ok (.aload 15, 2)) (hp : pc + 2 = pc2) : AW d E K k pc (a0 :: a1 :: a2 :: a3 :: a4 :: a5 :: a6 :: a7 :: a8 :: a9 :: a10 :: a11 :: a12 :: a13 :: a14 :: .ref x :: L) st G I J ↔ AW d E K k pc2 (a0 :: a1 :: a2 :: a3 :: a4 :: a5 :: a6 :: a7 :: a8 :: a9 :: a10 :: a11 :: a12 :: a13 :: a14 :: .ref x :: L) (.ref x :: st) G I J := by
  subst hp; exact aw_go ((stp_eq D rfl).trans rfl)
theorem aw_aloadN_0 (D : decode (byt k) pc = .ok (.aload_n 0, 1)) (hp : pc + 1 = pc2) : AW d E K k pc (.null :: L) st G I J ↔ AW d E K k pc2 (.null :: L) (.null :: st) G I J := by
  subst hp; exact aw_go ((stp_eq D rfl).trans rfl)
theorem aw_aloadN_1 {a0 : Value} (D : decode (byt k) pc = .ok (.aload_n 1, 1)) (hp : pc + 1 = pc2) : AW d E K k pc (a0 :: .null :: L) st G I J ↔ AW d E K k pc2 (a0 :: .null :: L) (.null :: st) G I J := by
  subst hp; exact aw_go ((stp_eq D rfl).trans rfl)
theorem aw_aloadN_2 {a0 a1 : Value} (D : decode (byt k) pc = .ok (.aload_n 2, 1)) (hp : pc + 1 = pc2) : AW d E K k pc (a0 :: a1 :: .null :: L) st G I J ↔ AW d E K k pc2 (a0 :: a1 :: .null :: L) (.null :: st) G I J := by
  subst hp; exact aw_go ((stp_eq D rfl).trans rfl)
theorem aw_aloadN_3 {a0 a1 a2 : Value} (D : decode (byt k) pc = .ok (.aload_n 3, 1)) (hp : pc + 1 = pc2) : AW d E K k pc (a0 :: a1 :: a2 :: .null :: L) st G I J ↔ AW d E K k pc2 (a0 :: a1 :: a2 :: .null :: L) (.null :: st) G I J := by
  subst hp; exact aw_go ((stp_eq D rfl).trans rfl)
theorem aw_aloadN_4 {a0 a1 a2 a3 : Value} (D : decode (byt k) pc = .ok (.aload 4, 2)) (hp : pc + 2 = pc2) : AW d E K k pc (a0 :: a1 :: a2 :: a3 :: .null :: L) st G I J ↔ AW d E K k pc2 (a0 :: a1 :: a2 :: a3 :: .null :: L) (.null :: st) G I J := by
  subst hp; exact aw_go ((stp_eq D rfl).trans rfl)
theorem aw_aloadN_5 {a0 a1 a2 a3 a4 : Value} (D : decode (byt k) pc = .ok (.aload 5, 2)) (hp : pc + 2 = pc2) : AW d E K k pc (a0 :: a1 :: a2 :: a3 :: a4 :: .null :: L) st G I J ↔ AW d E K k pc2 (a0 :: a1 :: a2 :: a3 :: a4 :: .null :: L) (.null :: st) G I J := by
  subst hp; exact aw_go ((stp_eq D rfl).trans rfl)
theorem aw_aloadN_6 {a0 a1 a2 a3 a4 a5 : Value} (D : decode (byt k) pc = .ok (.aload 6, 2)) (hp : pc + 2 = pc2) : AW d E K k pc (a0 :: a1 :: a2 :: a3 :: a4 :: a5 :: .null :: L) st G I J ↔ AW d E K k pc2 (a0 :: a1 :: a2 :: a3 :: a4 :: a5 :: .null :: L) (.null :: st) G I J := by
  subst hp; exact aw_go ((stp_eq D rfl).trans rfl)
theorem aw_aloadN_7 {a0 a1 a2 a3 a4 a5 a6 : Value} (D : decode (byt k) pc = .ok (.aload 7, 2)) (hp : pc + 2 = pc2) : AW d E K k pc (a0 :: a1 :: a2 :: a3 :: a4 :: a5 :: a6 :: .null :: L) st G I J ↔ AW d E K k pc2 (a0 :: a1 :: a2 :: a3 :: a4 :: a5 :: a6 :: .null :: L) (.null :: st) G I J := by
  subst hp; exact aw_go ((stp_eq D rfl).trans rfl)
theorem aw_aloadN_8 {a0 a1 a2 a3 a4 a5 a6 a7 : Value} (D : decode (byt k) pc = .ok (.aload 8, 2)) (hp : pc + 2 = pc2) : AW d E K k pc (a0 :: a1 :: a2 :: a3 :: a4 :: a5 :: a6 :: a7 :: .null :: L) st G I J ↔ AW d E K k pc2 (a0 :: a1 :: a2 :: a3 :: a4 :: a5 :: a6 :: a7 :: .null :: L) (.null :: st) G I J := by
  subst hp; exact aw_go ((stp_eq D rfl).trans rfl)
theorem aw_aloadN_9 {a0 a1 a2 a3 a4 a5 a6 a7 a8 : Value} (D : decode (byt k) pc = .ok (.aload 9, 2)) (hp : pc + 2 = pc2) : AW d E K k pc (a0 :: a1 :: a2 :: a3 :: a4 :: a5 :: a6 :: a7 :: a8 :: .null :: L) st G I J ↔ AW d E K k pc2 (a0 :: a1 :: a2 :: a3 :: a4 :: a5 :: a6 :: a7 :: a8 :: .null :: L) (.null :: st) G I J := by
  subst hp; exact aw_go ((stp_eq D rfl).trans rfl)
theorem aw_aloadN_10 {a0 a1 a2 a3 a4 a5 a6 a7 a8 a9 : Value} (D : decode (byt k) pc = .ok (.aload 10, 2)) (hp : pc + 2 = pc2) : AW d E K k pc (a0 :: a1 :: a2 :: a3 :: a4 :: a5 :: a6 :: a7 :: a8 :: a9 :: .null :: L) st G I J ↔ AW d E K k pc2 (a0 :: a1 :: a2 :: a3 :: a4 :: a5 :: a6 :: a7 :: a8 :: a9 :: .null :: L) (.null :: st) G I J := by
  subst hp; exact aw_go ((stp_eq D rfl).trans rfl)
theorem aw_aloadN_11 {a0 a1 a2 a3 a4 a5 a6 a7 a8 a9 a10 : Value} (D : decode (byt k) pc = .ok (.aload 11, 2)) (hp : pc + 2 = pc2) : AW d E K k pc (a0 :: a1 :: a2 :: a3 :: a4 :: a5 :: a6 :: a7 :: a8 :: a9 :: a10 :: .null :: L) st G I J ↔ AW d E K k pc2 (a0 :: a1 :: a2 :: a3 :: a4 :: a5 :: a6 :: a7 :: a8 :: a9 :: a10 :: .null :: L) (.null :: st) G I J := by
  subst hp; exact aw_go ((stp_eq D rfl).trans rfl)
theorem aw_aloadN_12 {a0 a1 a2 a3 a4 a5 a6 a7 a8 a9 a10 a11 : Value} (D : decode (byt k) pc = .ok (.aload 12, 2)) (hp : pc + 2 = pc2) : AW d E K k pc (a0 :: a1 :: a2 :: a3 :: a4 :: a5 :: a6 :: a7 :: a8 :: a9 :: a10 :: a11 :: .null :: L) st G I J ↔ AW d E K k pc2 (a0 :: a1 :: a2 :: a3 :: a4 :: a5 :: a6 :: a7 :: a8 :: a9 :: a10 :: a11 :: .null :: L) (.null :: st) G I J := by
  subst hp; exact aw_go ((stp_eq D rfl).trans rfl)
theorem aw_aloadN_13 {a0 a1 a2 a3 a4 a5 a6 a7 a8 a9 a10 a11 a12 : Value} (D : decode (byt k) pc = .ok (.aload 13, 2)) (hp : pc + 2 = pc2) : AW d E K k pc (a0 :: a1 :: a2 :: a3 :: a4 :: a5 :: a6 :: a7 :: a8 :: a9 :: a10 :: a11 :: a12 :: .null :: L) st G I J ↔ AW d E K k pc2 (a0 :: a1 :: a2 :: a3 :: a4 :: a5 :: a6 :: a7 :: a8 :: a9 :: a10 :: a11 :: a12 :: .null :: L) (.null :: st) G I J := by
  subst hp; exact aw_go ((stp_eq D rfl).trans rfl)
theorem aw_aloadN_14 {a0 a1 a2 a3 a4 a5 a6 a7 a8 a9 a10 a11 a12 a13 : Value} (D : decode (byt k) pc = .ok (.aload 14, 2)) (hp : pc + 2 = pc2) : AW d E K k pc (a0 :: a1 :: a2 :: a3 :: a4 :: a5 :: a6 :: a7 :: a8 :: a9 :: a10 :: a11 :: a12 :: a13 :: .null :: L) st G I J ↔ AW d E K k pc2 (a0 :: a1 :: a2 :: a3 :: a4 :: a5 :: a6 :: a7 :: a8 :: a9 :: a10 :: a11 :: a12 :: a13 :: .null :: L) (.null :: st) G I J := by
  subst hp; exact aw_go ((stp_eq D rfl).trans rfl)
theorem aw_aloadN_15 {a0 a1 a2 a3 a4 a5 a6 a7 a8 a9 a10 a11 a12 a13 a14 : Value} (D : decode (byt k) pc = .ok (.aload 15, 2)) (hp : pc + 2 = pc2) : AW d E K k pc (a0 :: a1 :: a2 :: a3 :: a4 :: a5 :: a6 :: a7 :: a8 :: a9 :: a10 :: a11 :: a12 :: a13 :: a14 :: .null :: L) st G I J ↔ AW d E K k pc2 (a0 :: a1 :: a2 :: a3 :: a4 :: a5 :: a6 :: a7 :: a8 :: a9 :: a10 :: a11 :: a12 :: a13 :: a14 :: .null :: L) (.null :: st) G I J := by
  subst hp; exact aw_go ((stp_eq D rfl).trans rfl)
theorem aw_istore_0 {a0 : Value} {x : Int32} (D : decode (byt k) pc = .ok (.istore_n 0, 1)) (hp : pc + 1 = pc2) : AW d E K k pc (a0 :: L) (.int x :: st) G I J ↔ AW d E K k pc2 (.int x :: L) st G I J := by
  subst hp; exact aw_gs ((stp_eq D rfl).trans rfl) (by simp only [List.length_cons]; omega)
theorem aw_istore_1 {a0 a1 : Value} {x : Int32} (D : decode (byt k) pc = .ok (.istore_n 1, 1)) (hp : pc + 1 = pc2) : AW d E K k pc (a0 :: a1 :: L) (.int x :: st) G I J ↔ AW d E K k pc2 (kil a0 :: .int x :: L) st G I J := by
  subst hp; exact aw_gs ((stp_eq D rfl).trans rfl) (by simp only [List.length_cons]; omega)
theorem aw_istore_2 {a0 a1 a2 : Value} {x : Int32} (D : decode (byt k) pc = .ok (.istore_n 2, 1)) (hp : pc + 1 = pc2) : AW d E K k pc (a0 :: a1 :: a2 :: L) (.int x :: st) G I J ↔ AW d E K k pc2 (a0 :: kil a1 :: .int x :: L) st G I J := by
  subst hp; exact aw_gs ((stp_eq D rfl).trans rfl) (by simp only [List.length_cons]; omega)
theorem aw_istore_3 {a0 a1 a2 a3 : Value} {x : Int32} (D : decode (byt k) pc = .ok (.istore_n 3, 1)) (hp : pc + 1 = pc2) : AW d E K k pc (a0 :: a1 :: a2 :: a3 :: L) (.int x :: st) G I J ↔ AW d E K k pc2 (a0 :: a1 :: kil a2 :: .int x :: L) st G I J := by
  subst hp; exact aw_gs ((stp_eq D rfl).trans rfl) (by simp only [List.length_cons]; omega)
theorem aw_istore_4 {a0 a1 a2 a3 a4 : Value} {x : Int32} (D : decode (byt k) pc = .ok (.istore 4, 2)) (hp : pc + 2 = pc2) : AW d E K k pc (a0 :: a1 :: a2 :: a3 :: a4 :: L) (.int x :: st) G I J ↔ AW d E K k pc2 (a0 :: a1 :: a2 :: kil a3 :: .int x :: L) st G I J := by
  subst hp; exact aw_gs ((stp_eq D rfl).trans rfl) (by simp only [List.length_cons]; omega)
theorem aw_istore_5 {a0 a1 a2 a3 a4 a5 : Value} {x : Int32} (D : decode (byt k) pc = .ok (.istore 5, 2)) (hp : pc + 2 = pc2) : AW d E K k pc (a0 :: a1 :: a2 :: a3 :: a4 :: a5 :: L) (.int x :: st) G I J ↔ AW d E K k pc2 (a0 :: a1 :: a2 :: a3 :: kil a4 :: .int x :: L) st G I J := by
  subst hp; exact aw_gs ((stp_eq D rfl).trans rfl) (by simp only [List.length_cons]; omega)
theorem aw_istore_6 {a0 a1 a2 a3 a4 a5 a6 : Value} {x : Int32} (D : decode (byt k) pc = .ok (.istore 6, 2)) (hp : pc + 2 = pc2) : AW d E K k pc (a0 :: a1 :: a2 :: a3 :: a4 :: a5 :: a6 :: L) (.int x :: st) G I J ↔ AW d E K k pc2 (a0 :: a1 :: a2 :: a3 :: a4 :: kil a5 :: .int x :: L) st G I J := by
  subst hp; exact aw_gs ((stp_eq D rfl).trans rfl) (by simp only [List.length_cons]; omega)
theorem aw_istore_7 {a0 a1 a2 a3 a4 a5 a6 a7 : Value} {x : Int32} (D : decode (byt k) pc = .ok (.istore 7, 2)) (hp : pc + 2 = pc2) : AW d E K k pc (a0 :: a1 :: a2 :: a3 :: a4 :: a5 :: a6 :: a7 :: L) (.int x :: st) G I J ↔ AW d E K k pc2 (a0 :: a1 :: a2 :: a3 :: a4 :: a5 :: kil a6 :: .int x :: L) st G I J := by
  subst hp; exact aw_gs ((stp_eq D rfl).trans rfl) (by simp only [List.length_cons]; omega)
theorem aw_istore_8 {a0 a1 a2 a3 a4 a5 a6 a7 a8 : Value} {x : Int32} (D : decode (byt k) pc = .ok (.istore 8, 2)) (hp : pc + 2 = pc2) : AW d E K k pc (a0 :: a1 :: a2 :: a3 :: a4 :: a5 :: a6 :: a7 :: a8 :: L) (.int x :: st) G I J ↔ AW d E K k pc2 (a0 :: a1 :: a2 :: a3 :: a4 :: a5 :: a6 :: kil a7 :: .int x :: L) st G I J := by
  subst hp; exact aw_gs ((stp_eq D rfl).trans rfl) (by simp only [List.length_cons]; omega)
theorem aw_istore_9 {a0 a1 a2 a3 a4 a5 a6 a7 a8 a9 : Value} {x : Int32} (D : decode (byt k) pc = .ok (.istore 9, 2)) (hp : pc + 2 = pc2) : AW d E K k pc (a0 :: a1 :: a2 :: a3 :: a4 :: a5 :: a6 :: a7 :: a8 :: a9 :: L) (.int x :: st) G I J ↔ AW d E K k pc2 (a0 :: a1 :: a2 :: a3 :: a4 :: a5 :: a6 :: a7 :: kil a8 :: .int x :: L) st G I J := by
  subst hp; exact aw_gs ((stp_eq D rfl).trans rfl) (by simp only [List.length_cons]; omega)
theorem aw_istore_10 {a0 a1 a2 a3 a4 a5 a6 a7 a8 a9 a10 : Value} {x : Int32} (D : decode (byt k) pc = .ok (.istore 10, 2)) (hp : pc + 2 = pc2) : AW d E K k pc (a0 :: a1 :: a2 :: a3 :: a4 :: a5 :: a6 :: a7 :: a8 :: a9 :: a10 :: L) (.int x :: st) G I J ↔ AW d E K k pc2 (a0 :: a1 :: a2 :: a3 :: a4 :: a5 :: a6 :: a7 :: a8 :: kil a9 :: .int x :: L) st G I J := by
  subst hp; exact aw_gs ((stp_eq D rfl).trans rfl) (by simp only [List.length_cons]; omega)
theorem aw_istore_11 {a0 a1 a2 a3 a4 a5 a6 a7 a8 a9 a10 a11 : Value} {x : Int32} (D : decode (byt k) pc = .ok (.istore 11, 2)) (hp : pc + 2 = pc2) : AW d E K k pc (a0 :: a1 :: a2 :: a3 :: a4 :: a5 :: a6 :: a7 :: a8 :: a9 :: a10 :: a11 :: L) (.int x :: st) G I J ↔ AW d E K k pc2 (a0 :: a1 :: a2 :: a3 :: a4 :: a5 :: a6 :: a7 :: a8 :: a9 :: kil a10 :: .int x :: L) st G I J := by
  subst hp; exact aw_gs ((stp_eq D rfl).trans rfl) (by simp only [List.length_cons]; omega)
theorem aw_istore_12 {a0 a1 a2 a3 a4 a5 a6 a7 a8 a9 a10 a11 a12 : Value} {x : Int32} (D : decode (byt k) pc = .ok (.istore 12, 2)) (hp : pc + 2 = pc2) : AW d E K k pc (a0 :: a1 :: a2 :: a3 :: a4 :: a5 :: a6 :: a7 :: a8 :: a9 :: a10 :: a11 :: a12 :: L) (.int x :: st) G I J ↔ AW d E K k pc2 (a0 :: a1 :: a2 :: a3 :: a4 :: a5 :: a6 :: a7 :: a8 :: a9 :: a10 :: kil a11 :: .int x :: L) st G I J := by
  subst hp; exact aw_gs ((stp_eq D rfl).trans rfl) (by simp only [List.length_cons]; omega)
theorem aw_istore_13 {a0 a1 a2 a3 a4 a5 a6 a7 a8 a9 a10 a11 a12 a13 : Value} {x : Int32} (D : decode (byt k) pc = .ok (.istore 13, 2)) (hp : pc + 2 = pc2) : AW d E K k pc (a0 :: a1 :: a2 :: a3 :: a4 :: a5 :: a6 :: a7 :: a8 :: a9 :: a10 :: a11 :: a12 :: a13 :: L) (.int x :: st) G I J ↔ AW d E K k pc2 (a0 :: a1 :: a2 :: a3 :: a4 :: a5 :: a6 :: a7 :: a8 :: a9 :: a10 :: a11 :: kil a12 :: .int x :: L) st G I J := by
  subst hp; exact aw_gs ((stp_eq D rfl).trans rfl) (by simp only [List.length_cons]; omega)
theorem aw_istore_14 {a0 a1 a2 a3 a4 a5 a6 a7 a8 a9 a10 a11 a12 a13 a14 : Value} {x : Int32} (D : decode (byt k) pc = .ok (.istore 14, 2)) (hp : pc + 2 = pc2) : AW d E K k pc (a0 :: a1 :: a2 :: a3 :: a4 :: a5 :: a6 :: a7 :: a8 :: a9 :: a10 :: a11 :: a12 :: a13 :: a14 :: L) (.int x :: st) G I J ↔ AW d E K k pc2 (a0 :: a1 :: a2 :: a3 :: a4 :: a5 :: a6 :: a7 :: a8 :: a9 :: a10 :: a11 :: a12 :: kil a13 :: .int x :: L) st G I J := by
  subst hp; exact aw_gs ((stp_eq D rfl).trans rfl) (by simp only [List.length_cons]; omega)
theorem aw_istore_15 {a0 a1 a2 a3 a4 a5 a6 a7 a8 a9 a10 a11 a12 a13 a14 a15 : Value} {x : Int32} (D : decode (byt k) pc = .ok (.istore 15, 2)) (hp : pc + 2 = pc2) : AW d E K k pc (a0 :: a1 :: a2 :: a3 :: a4 :: a5 :: a6 :: a7 :: a8 :: a9 :: a10 :: a11 :: a12 :: a13 :: a14 :: a15 :: L) (.int x :: st) G I J ↔ AW d E K k pc2 (a0 :: a1 :: a2 :: a3 :: a4 :: a5 :: a6 :: a7 :: a8 :: a9 :: a10 :: a11 :: a12 :: a13 :: kil a14 :: .int x :: L) st G I J := by
  subst hp; exact aw_gs ((stp_eq D rfl).trans rfl) (by simp only [List.length_cons]; omega)
theorem aw_astore_0 {a0 : Value} {x : Nat} (D : decode (byt k) pc = .ok (.astore_n 0, 1)) (hp : pc + 1 = pc2) : AW d E K k pc (a0 :: L) (.ref x :: st) G I J ↔ AW d E K k pc2 (.ref x :: L) st G I J := by
  subst hp; exact aw_gs ((stp_eq D rfl).trans rfl) (by simp only [List.length_cons]; omega)
theorem aw_astore_1 {a0 a1 : Value} {x : Nat} (D : decode (byt k) pc = .ok (.astore_n 1, 1)) (hp : pc + 1 = pc2) : AW d E K k pc (a0 :: a1 :: L) (.ref x :: st) G I J ↔ AW d E K k pc2 (kil a0 :: .ref x :: L) st G I J := by
  subst hp; exact aw_gs ((stp_eq D rfl).trans rfl) (by simp only [List.length_cons]; omega)
theorem aw_astore_2 {a0 a1 a2 : Value} {x : Nat} (D : decode (byt k) pc = .ok (.astore_n 2, 1)) (hp : pc + 1 = pc2) : AW d E K k pc (a0 :: a1 :: a2 :: L) (.ref x :: st) G I J ↔ AW d E K k pc2 (a0 :: kil a1 :: .ref x :: L) st G I J := by
  subst hp; exact aw_gs ((stp_eq D rfl).trans rfl) (by simp only [List.length_cons]; omega)
theorem aw_astore_3 {a0 a1 a2 a3 : Value} {x : Nat} (D : decode (byt k) pc = .ok (.astore_n 3, 1)) (hp : pc + 1 = pc2) : AW d E K k pc (a0 :: a1 :: a2 :: a3 :: L) (.ref x :: st) G I J ↔ AW d E K k pc2 (a0 :: a1 :: kil a2 :: .ref x :: L) st G I J := by
  subst hp; exact aw_gs ((stp_eq D rfl).trans rfl) (by simp only [List.length_cons]; omega)
theorem aw_astore_4 {a0 a1 a2 a3 a4 : Value} {x : Nat} (D : decode (byt k) pc = .ok (.astore 4, 2)) (hp : pc + 2 = pc2) : AW d E K k pc (a0 :: a1 :: a2 :: a3 :: a4 :: L) (.ref x :: st) G I J ↔ AW d E K k pc2 (a0 :: a1 :: a2 :: kil a3 :: .ref x :: L) st G I J := by
  subst hp; exact aw_gs ((stp_eq D rfl).trans rfl) (by simp only [List.length_cons]; omega)
theorem aw_astore_5 {a0 a1 a2 a3 a4 a5 : Value} {x : Nat} (D : decode (byt k) pc = .ok (.astore 5, 2)) (hp : pc + 2 = pc2) : AW d E K k pc (a0 :: a1 :: a2 :: a3 :: a4 :: a5 :: L) (.ref x :: st) G I J ↔ AW d E K k pc2 (a0 :: a1 :: a2 :: a3 :: kil a4 :: .ref x :: L) st G I J := by
  subst hp; exact aw_gs ((stp_eq D rfl).trans rfl) (by simp only [List.length_cons]; omega)
theorem aw_astore_6 {a0 a1 a2 a3 a4 a5 a6 : Value} {x : Nat} (D : decode (byt k) pc = .ok (.astore 6, 2)) (hp : pc + 2 = pc2) : AW d E K k pc (a0 :: a1 :: a2 :: a3 :: a4 :: a5 :: a6 :: L) (.ref x :: st) G I J ↔ AW d E K k pc2 (a0 :: a1 :: a2 :: a3 :: a4 :: kil a5 :: .ref x :: L) st G I J := by
  subst hp; exact aw_gs ((stp_eq D rfl).trans rfl) (by simp only [List.length_cons]; omega)
theorem aw_astore_7 {a0 a1 a2 a3 a4 a5 a6 a7 : Value} {x : Nat} (D : decode (byt k) pc = .ok (.astore 7, 2)) (hp : pc + 2 = pc2) : AW d E K k pc (a0 :: a1 :: a2 :: a3 :: a4 :: a5 :: a6 :: a7 :: L) (.ref x :: st) G I J ↔ AW d E K k pc2 (a0 :: a1 :: a2 :: a3 :: a4 :: a5 :: kil a6 :: .ref x :: L) st G I J := by
  subst hp; exact aw_gs ((stp_eq D rfl).trans rfl) (by simp only [List.length_cons]; omega)
theorem aw_astore_8 {a0 a1 a2 a3 a4 a5 a6 a7 a8 : Value} {x : Nat} (D : decode (byt k) pc = .ok (.astore 8, 2)) (hp : pc + 2 = pc2) : AW d E K k pc (a0 :: a1 :: a2 :: a3 :: a4 :: a5 :: a6 :: a7 :: a8 :: L) (.ref x :: st) G I J ↔ AW d E K k pc2 (a0 :: a1 :: a2 :: a3 :: a4 :: a5 :: a6 :: kil a7 :: .ref x :: L) st G I J := by
  subst hp; exact aw_gs ((stp_eq D rfl).trans rfl) (by simp only [List.length_cons]; omega)
theorem aw_astore_9 {a0 a1 a2 a3 a4 a5 a6 a7 a8 a9 : Value} {x : Nat} (D : decode (byt k) pc = .ok (.astore 9, 2)) (hp : pc + 2 = pc2) : AW d E K k pc (a0 :: a1 :: a2 :: a3 :: a4 :: a5 :: a6 :: a7 :: a8 :: a9 :: L) (.ref x :: st) G I J ↔ AW d E K k pc2 (a0 :: a1 :: a2 :: a3 :: a4 :: a5 :: a6 :: a7 :: kil a8 :: .ref x :: L) st G I J := by
  subst hp; exact aw_gs ((stp_eq D rfl).trans rfl) (by simp only [List.length_cons]; omega)
theorem aw_astore_10 {a0 a1 a2 a3 a4 a5 a6 a7 a8 a9 a10 : Value} {x : Nat} (D : decode (byt k) pc = .ok (.astore 10, 2)) (hp : pc + 2 = pc2) : AW d E K k pc (a0 :: a1 :: a2 :: a3 :: a4 :: a5 :: a6 :: a7 :: a8 :: a9 :: a10 :: L) (.ref x :: st) G I J ↔ AW d E K k pc2 (a0 :: a1 :: a2 :: a3 :: a4 :: a5 :: a6 :: a7 :: a8 :: kil a9 :: .ref x :: L) st G I J := by
  subst hp; exact aw_gs ((stp_eq D rfl).trans rfl) (by simp only [List.length_cons]; omega)
theorem aw_astore_11 {a0 a1 a2 a3 a4 a5 a6 a7 a8 a9 a10 a11 : Value} {x : Nat} (D : decode (byt k) pc = .ok (.astore 11, 2)) (hp : pc + 2 = pc2) : AW d E K k pc (a0 :: a1 :: a2 :: a3 :: a4 :: a5 :: a6 :: a7 :: a8 :: a9 :: a10 :: a11 :: L) (.ref x :: st) G I J ↔ AW d E K k pc2 (a0 :: a1 :: a2 :: a3 :: a4 :: a5 :: a6 :: a7 :: a8 :: a9 :: kil a10 :: .ref x :: L) st G I J := by
  subst hp; exact aw_gs ((stp_eq D rfl).trans rfl) (by simp only [List.length_cons]; omega)
theorem aw_astore_12 {a0 a1 a2 a3 a4 a5 a6 a7 a8 a9 a10 a11 a12 : Value} {x : Nat} (D : decode (byt k) pc = .ok (.astore 12, 2)) (hp : pc + 2 = pc2) : AW d E K k pc (a0 :: a1 :: a2 :: a3 :: a4 :: a5 :: a6 :: a7 :: a8 :: a9 :: a10 :: a11 :: a12 :: L) (.ref x :: st) G I J ↔ AW d E K k pc2 (a0 :: a1 :: a2 :: a3 :: a4 :: a5 :: a6 :: a7 :: a8 :: a9 :: a10 :: kil a11 :: .ref x :: L) st G I J := by
  subst hp; exact aw_gs ((stp_eq D rfl).trans rfl) (by simp only [List.length_cons]; omega)
theorem aw_astore_13 {a0 a1 a2 a3 a4 a5 a6 a7 a8 a9 a10 a11 a12 a13 : Value} {x : Nat} (D : decode (byt k) pc = .ok (.astore 13, 2)) (hp : pc + 2 = pc2) : AW d E K k pc (a0 :: a1 :: a2 :: a3 :: a4 :: a5 :: a6 :: a7 :: a8 :: a9 :: a10 :: a11 :: a12 :: a13 :: L) (.ref x :: st) G I J ↔ AW d E K k pc2 (a0 :: a1 :: a2 :: a3 :: a4 :: a5 :: a6 :: a7 :: a8 :: a9 :: a10 :: a11 :: kil a12 :: .ref x :: L) st G I J := by
  subst hp; exact aw_gs ((stp_eq D rfl).trans rfl) (by simp only [List.length_cons]; omega)
theorem aw_astore_14 {a0 a1 a2 a3 a4 a5 a6 a7 a8 a9 a10 a11 a12 a13 a14 : Value} {x : Nat} (D : decode (byt k) pc = .ok (.astore 14, 2)) (hp : pc + 2 = pc2) : AW d E K k pc (a0 :: a1 :: a2 :: a3 :: a4 :: a5 :: a6 :: a7 :: a8 :: a9 :: a10 :: a11 :: a12 :: a13 :: a14 :: L) (.ref x :: st) G I J ↔ AW d E K k pc2 (a0 :: a1 :: a2 :: a3 :: a4 :: a5 :: a6 :: a7 :: a8 :: a9 :: a10 :: a11 :: a12 :: kil a13 :: .ref x :: L) st G I J := by
  subst hp; exact aw_gs ((stp_eq D rfl).trans rfl) (by simp only [List.length_cons]; omega)
theorem aw_astore_15 {a0 a1 a2 a3 a4 a5 a6 a7 a8 a9 a10 a11 a12 a13 a14 a15 : Value} {x : Nat} (D : decode (byt k) pc = .ok (.astore 15, 2)) (hp : pc + 2 = pc2) : AW d E K k pc (a0 :: a1 :: a2 :: a3 :: a4 :: a5 :: a6 :: a7 :: a8 :: a9 :: a10 :: a11 :: a12 :: a13 :: a14 :: a15 :: L) (.ref x :: st) G I J ↔ AW d E K k pc2 (a0 :: a1 :: a2 :: a3 :: a4 :: a5 :: a6 :: a7 :: a8 :: a9 :: a10 :: a11 :: a12 :: a13 :: kil a14 :: .ref x :: L) st G I J := by
  subst hp; exact aw_gs ((stp_eq D rfl).trans rfl) (by simp only [List.length_cons]; omega)
theorem aw_astoreN_0 {a0 : Value} (D : decode (byt k) pc = .ok (.astore_n 0, 1)) (hp : pc + 1 = pc2) : AW d E K k pc (a0 :: L) (.null :: st) G I J ↔ AW d E K k pc2 (.null :: L) st G I J := by
  subst hp; exact aw_gs ((stp_eq D rfl).trans rfl) (by simp only [List.length_cons]; omega)
theorem aw_astoreN_1 {a0 a1 : Value} (D : decode (byt k) pc = .ok (.astore_n 1, 1)) (hp : pc + 1 = pc2) : AW d E K k pc (a0 :: a1 :: L) (.null :: st) G I J ↔ AW d E K k pc2 (kil a0 :: .null :: L) st G I J := by
  subst hp; exact aw_gs ((stp_eq D rfl).trans rfl) (by simp only [List.length_cons]; omega)
theorem aw_astoreN_2 {a0 a1 a2 : Value} (D : decode (byt k) pc = .ok (.astore_n 2, 1)) (hp : pc + 1 = pc2) : AW d E K k pc (a0 :: a1 :: a2 :: L) (.null :: st) G I J ↔ AW d E K k pc2 (a0 :: kil a1 :: .null :: L) st G I J := by
  subst hp; exact aw_gs ((stp_eq D rfl).trans rfl) (by simp only [List.length_cons]; omega)
theorem aw_astoreN_3 {a0 a1 a2 a3 : Value} (D : decode (byt k) pc = .ok (.astore_n 3, 1)) (hp : pc + 1 = pc2) : AW d E K k pc (a0 :: a1 :: a2 :: a3 :: L) (.null :: st) G I J ↔ AW d E K k pc2 (a0 :: a1 :: kil a2 :: .null :: L) st G I J := by
  subst hp; exact aw_gs ((stp_eq D rfl).trans rfl) (by simp only [List.length_cons]; omega)
theorem aw_astoreN_4 {a0 a1 a2 a3 a4 : Value} (D : decode (byt k) pc = .ok (.astore 4, 2)) (hp : pc + 2 = pc2) : AW d E K k pc (a0 :: a1 :: a2 :: a3 :: a4 :: L) (.null :: st) G I J ↔ AW d E K k pc2 (a0 :: a1 :: a2 :: kil a3 :: .null :: L) st G I J := by
  subst hp; exact aw_gs ((stp_eq D rfl).trans rfl) (by simp only [List.length_cons]; omega)
theorem aw_astoreN_5 {a0 a1 a2 a3 a4 a5 : Value} (D : decode (byt k) pc = .ok (.astore 5, 2)) (hp : pc + 2 = pc2) : AW d E K k pc (a0 :: a1 :: a2 :: a3 :: a4 :: a5 :: L) (.null :: st) G I J ↔ AW d E K k pc2 (a0 :: a1 :: a2 :: a3 :: kil a4 :: .null :: L) st G I J := by
  subst hp; exact aw_gs ((stp_eq D rfl).trans rfl) (by simp only [List.length_cons]; omega)
theorem aw_astoreN_6 {a0 a1 a2 a3 a4 a5 a6 : Value} (D : decode (byt k) pc = .ok (.astore 6, 2)) (hp : pc + 2 = pc2) : AW d E K k pc (a0 :: a1 :: a2 :: a3 :: a4 :: a5 :: a6 :: L) (.null :: st) G I J ↔ AW d E K k pc2 (a0 :: a1 :: a2 :: a3 :: a4 :: kil a5 :: .null :: L) st G I J := by
  subst hp; exact aw_gs ((stp_eq D rfl).trans rfl) (by simp only [List.length_cons]; omega)
theorem aw_astoreN_7 {a0 a1 a2 a3 a4 a5 a6 a7 : Value} (D : decode (byt k) pc = .ok (.astore 7, 2)) (hp : pc + 2 = pc2) : AW d E K k pc (a0 :: a1 :: a2 :: a3 :: a4 :: a5 :: a6 :: a7 :: L) (.null :: st) G I J ↔ AW d E K k pc2 (a0 :: a1 :: a2 :: a3 :: a4 :: a5 :: kil a6 :: .null :: L) st G I J := by
  subst hp; exact aw_gs ((stp_eq D rfl).trans rfl) (by simp only [List.length_cons]; omega)
theorem aw_astoreN_8 {a0 a1 a2 a3 a4 a5 a6 a7 a8 : Value} (D : decode (byt k) pc = .ok (.astore 8, 2)) (hp : pc + 2 = pc2) : AW d E K k pc (a0 :: a1 :: a2 :: a3 :: a4 :: a5 :: a6 :: a7 :: a8 :: L) (.null :: st) G I J ↔ AW d E K k pc2 (a0 :: a1 :: a2 :: a3 :: a4 :: a5 :: a6 :: kil a7 :: .null :: L) st G I J := by
  subst hp; exact aw_gs ((stp_eq D rfl).trans rfl) (by simp only [List.length_cons]; omega)
theorem aw_astoreN_9 {a0 a1 a2 a3 a4 a5 a6 a7 a8 a9 : Value} (D : decode (byt k) pc = .ok (.astore 9, 2)) (hp : pc + 2 = pc2) : AW d E K k pc (a0 :: a1 :: a2 :: a3 :: a4 :: a5 :: a6 :: a7 :: a8 :: a9 :: L) (.null :: st) G I J ↔ AW d E K k pc2 (a0 :: a1 :: a2 :: a3 :: a4 :: a5 :: a6 :: a7 :: kil a8 :: .null :: L) st G I J := by
  subst hp; exact aw_gs ((stp_eq D rfl).trans rfl) (by simp only [List.length_cons]; omega)
theorem aw_astoreN_10 {a0 a1 a2 a3 a4 a5 a6 a7 a8 a9 a10 : Value} (D : decode (byt k) pc = .ok (.astore 10, 2)) (hp : pc + 2 = pc2) : AW d E K k pc (a0 :: a1 :: a2 :: a3 :: a4 :: a5 :: a6 :: a7 :: a8 :: a9 :: a10 :: L) (.null :: st) G I J ↔ AW d E K k pc2 (a0 :: a1 :: a2 :: a3 :: a4 :: a5 :: a6 :: a7 :: a8 :: kil a9 :: .null :: L) st G I J := by
  subst hp; exact aw_gs ((stp_eq D rfl).trans rfl) (by simp only [List.length_cons]; omega)
theorem aw_astoreN_11 {a0 a1 a2 a3 a4 a5 a6 a7 a8 a9 a10 a11 : Value} (D : decode (byt k) pc = .ok (.astore 11, 2)) (hp : pc + 2 = pc2) : AW d E K k pc (a0 :: a1 :: a2 :: a3 :: a4 :: a5 :: a6 :: a7 :: a8 :: a9 :: a10 :: a11 :: L) (.null :: st) G I J ↔ AW d E K k pc2 (a0 :: a1 :: a2 :: a3 :: a4 :: a5 :: a6 :: a7 :: a8 :: a9 :: kil a10 :: .null :: L) st G I J := by
  subst hp; exact aw_gs ((stp_eq D rfl).trans rfl) (by simp only [List.length_cons]; omega)
theorem aw_astoreN_12 {a0 a1 a2 a3 a4 a5 a6 a7 a8 a9 a10 a11 a12 : Value} (D : decode (byt k) pc = .ok (.astore 12, 2)) (hp : pc + 2 = pc2) : AW d E K k pc (a0 :: a1 :: a2 :: a3 :: a4 :: a5 :: a6 :: a7 :: a8 :: a9 :: a10 :: a11 :: a12 :: L) (.null :: st) G I J ↔ AW d E K k pc2 (a0 :: a1 :: a2 :: a3 :: a4 :: a5 :: a6 :: a7 :: a8 :: a9 :: a10 :: kil a11 :: .null :: L) st G I J := by
  subst hp; exact aw_gs ((stp_eq D rfl).trans rfl) (by simp only [List.length_cons]; omega)
theorem aw_astoreN_13 {a0 a1 a2 a3 a4 a5 a6 a7 a8 a9 a10 a11 a12 a13 : Value} (D : decode (byt k) pc = .ok (.astore 13, 2)) (hp : pc + 2 = pc2) : AW d E K k pc (a0 :: a1 :: a2 :: a3 :: a4 :: a5 :: a6 :: a7 :: a8 :: a9 :: a10 :: a11 :: a12 :: a13 :: L) (.null :: st) G I J ↔ AW d E K k pc2 (a0 :: a1 :: a2 :: a3 :: a4 :: a5 :: a6 :: a7 :: a8 :: a9 :: a10 :: a11 :: kil a12 :: .null :: L) st G I J := by
  subst hp; exact aw_gs ((stp_eq D rfl).trans rfl) (by simp only [List.length_cons]; omega)
theorem aw_astoreN_14 {a0 a1 a2 a3 a4 a5 a6 a7 a8 a9 a10 a11 a12 a13 a14 : Value} (D : decode (byt k) pc = .ok (.astore 14, 2)) (hp : pc + 2 = pc2) : AW d E K k pc (a0 :: a1 :: a2 :: a3 :: a4 :: a5 :: a6 :: a7 :: a8 :: a9 :: a10 :: a11 :: a12 :: a13 :: a14 :: L) (.null :: st) G I J ↔ AW d E K k pc2 (a0 :: a1 :: a2 :: a3 :: a4 :: a5 :: a6 :: a7 :: a8 :: a9 :: a10 :: a11 :: a12 :: kil a13 :: .null :: L) st G I J := by
  subst hp; exact aw_gs ((stp_eq D rfl).trans rfl) (by simp only [List.length_cons]; omega)
theorem aw_astoreN_15 {a0 a1 a2 a3 a4 a5 a6 a7 a8 a9 a10 a11 a12 a13 a14 a15 : Value} (D : decode (byt k) pc = .ok (.astore 15, 2)) (hp : pc + 2 = pc2) : AW d E K k pc (a0 :: a1 :: a2 :: a3 :: a4 :: a5 :: a6 :: a7 :: a8 :: a9 :: a10 :: a11 :: a12 :: a13 :: a14 :: a15 :: L) (.null :: st) G I J ↔ AW d E K k pc2 (a0 :: a1 :: a2 :: a3 :: a4 :: a5 :: a6 :: a7 :: a8 :: a9 :: a10 :: a11 :: a12 :: a13 :: kil a14 :: .null :: L) st G I J := by
  subst hp; exact aw_gs ((stp_eq D rfl).trans rfl) (by simp only [List.length_cons]; omega)
theorem aw_lstore_0 {a0 a1 : Value} {x : Int64} (D : decode (byt k) pc = .ok (.lstore_n 0, 1)) (hp : pc + 1 = pc2) : AW d E K k pc (a0 :: a1 :: L) (.long x :: st) G I J ↔ AW d E K k pc2 (.long x :: nv :: L) st G I J := by
  subst hp; exact aw_gs ((stp_eq D rfl).trans rfl) (by simp only [List.length_cons]; omega)
theorem aw_lstore_1 {a0 a1 a2 : Value} {x : Int64} (D : decode (byt k) pc = .ok (.lstore_n 1, 1)) (hp : pc + 1 = pc2) : AW d E K k pc (a0 :: a1 :: a2 :: L) (.long x :: st) G I J ↔ AW d E K k pc2 (kil a0 :: .long x :: nv :: L) st G I J := by
  subst hp; exact aw_gs ((stp_eq D rfl).trans rfl) (by simp only [List.length_cons]; omega)
theorem aw_lstore_2 {a0 a1 a2 a3 : Value} {x : Int64} (D : decode (byt k) pc = .ok (.lstore_n 2, 1)) (hp : pc + 1 = pc2) : AW d E K k pc (a0 :: a1 :: a2 :: a3 :: L) (.long x :: st) G I J ↔ AW d E K k pc2 (a0 :: kil a1 :: .long x :: nv :: L) st G I J := by
  subst hp; exact aw_gs ((stp_eq D rfl).trans rfl) (by simp only [List.length_cons]; omega)
theorem aw_lstore_3 {a0 a1 a2 a3 a4 : Value} {x : Int64} (D : decode (byt k) pc = .ok (.lstore_n 3, 1)) (hp : pc + 1 = pc2) : AW d E K k pc (a0 :: a1 :: a2 :: a3 :: a4 :: L) (.long x :: st) G I J ↔ AW d E K k pc2 (a0 :: a1 :: kil a2 :: .long x :: nv :: L) st G I J := by
  subst hp; exact aw_gs ((stp_eq D rfl).trans rfl) (by simp only [List.length_cons]; omega)
theorem aw_lstore_4 {a0 a1 a2 a3 a4 a5 : Value} {x : Int64} (D : decode (byt k) pc = .ok (.lstore 4, 2)) (hp : pc + 2 = pc2) : AW d E K k pc (a0 :: a1 :: a2 :: a3 :: a4 :: a5 :: L) (.long x :: st) G I J ↔ AW d E K k pc2 (a0 :: a1 :: a2 :: kil a3 :: .long x :: nv :: L) st G I J := by
  subst hp; exact aw_gs ((stp_eq D rfl).trans rfl) (by simp only [List.length_cons]; omega)
theorem aw_lstore_5 {a0 a1 a2 a3 a4 a5 a6 : Value} {x : Int64} (D : decode (byt k) pc = .ok (.lstore 5, 2)) (hp : pc + 2 = pc2) : AW d E K k pc (a0 :: a1 :: a2 :: a3 :: a4 :: a5 :: a6 :: L) (.long x :: st) G I J ↔ AW d E K k pc2 (a0 :: a1 :: a2 :: a3 :: kil a4 :: .long x :: nv :: L) st G I J := by
  subst hp; exact aw_gs ((stp_eq D rfl).trans rfl) (by simp only [List.length_cons]; omega)
theorem aw_lstore_6 {a0 a1 a2 a3 a4 a5 a6 a7 : Value} {x : Int64} (D : decode (byt k) pc = .ok (.lstore 6, 2)) (hp : pc + 2 = pc2) : AW d E K k pc (a0 :: a1 :: a2 :: a3 :: a4 :: a5 :: a6 :: a7 :: L) (.long x :: st) G I J ↔ AW d E K k pc2 (a0 :: a1 :: a2 :: a3 :: a4 :: kil a5 :: .long x :: nv :: L) st G I J := by
  subst hp; exact aw_gs ((stp_eq D rfl).trans rfl) (by simp only [List.length_cons]; omega)
theorem aw_lstore_7 {a0 a1 a2 a3 a4 a5 a6 a7 a8 : Value} {x : Int64} (D : decode (byt k) pc = .ok (.lstore 7, 2)) (hp : pc + 2 = pc2) : AW d E K k pc (a0 :: a1 :: a2 :: a3 :: a4 :: a5 :: a6 :: a7 :: a8 :: L) (.long x :: st) G I J ↔ AW d E K k pc2 (a0 :: a1 :: a2 :: a3 :: a4 :: a5 :: kil a6 :: .long x :: nv :: L) st G I J := by
  subst hp; exact aw_gs ((stp_eq D rfl).trans rfl) (by simp only [List.length_cons]; omega)
theorem aw_lstore_8 {a0 a1 a2 a3 a4 a5 a6 a7 a8 a9 : Value} {x : Int64} (D : decode (byt k) pc = .ok (.lstore 8, 2)) (hp : pc + 2 = pc2) : AW d E K k pc (a0 :: a1 :: a2 :: a3 :: a4 :: a5 :: a6 :: a7 :: a8 :: a9 :: L) (.long x :: st) G I J ↔ AW d E K k pc2 (a0 :: a1 :: a2 :: a3 :: a4 :: a5 :: a6 :: kil a7 :: .long x :: nv :: L) st G I J := by
  subst hp; exact aw_gs ((stp_eq D rfl).trans rfl) (by simp only [List.length_cons]; omega)
theorem aw_lstore_9 {a0 a1 a2 a3 a4 a5 a6 a7 a8 a9 a10 : Value} {x : Int64} (D : decode (byt k) pc = .ok (.lstore 9, 2)) (hp : pc + 2 = pc2) : AW d E K k pc (a0 :: a1 :: a2 :: a3 :: a4 :: a5 :: a6 :: a7 :: a8 :: a9 :: a10 :: L) (.long x :: st) G I J ↔ AW d E K k pc2 (a0 :: a1 :: a2 :: a3 :: a4 :: a5 :: a6 :: a7 :: kil a8 :: .long x :: nv :: L) st G I J := by
  subst hp; exact aw_gs ((stp_eq D rfl).trans rfl) (by simp only [List.length_cons]; omega)
theorem aw_lstore_10 {a0 a1 a2 a3 a4 a5 a6 a7 a8 a9 a10 a11 : Value} {x : Int64} (D : decode (byt k) pc = .ok (.lstore 10, 2)) (hp : pc + 2 = pc2) : AW d E K k pc (a0 :: a1 :: a2 :: a3 :: a4 :: a5 :: a6 :: a7 :: a8 :: a9 :: a10 :: a11 :: L) (.long x :: st) G I J ↔ AW d E K k pc2 (a0 :: a1 :: a2 :: a3 :: a4 :: a5 :: a6 :: a7 :: a8 :: kil a9 :: .long x :: nv :: L) st G I J := by
  subst hp; exact aw_gs ((stp_eq D rfl).trans rfl) (by simp only [List.length_cons]; omega)
theorem aw_lstore_11 {a0 a1 a2 a3 a4 a5 a6 a7 a8 a9 a10 a11 a12 : Value} {x : Int64} (D : decode (byt k) pc = .ok (.lstore 11, 2)) (hp : pc + 2 = pc2) : AW d E K k pc (a0 :: a1 :: a2 :: a3 :: a4 :: a5 :: a6 :: a7 :: a8 :: a9 :: a10 :: a11 :: a12 :: L) (.long x :: st) G I J ↔ AW d E K k pc2 (a0 :: a1 :: a2 :: a3 :: a4 :: a5 :: a6 :: a7 :: a8 :: a9 :: kil a10 :: .long x :: nv :: L) st G I J := by
  subst hp; exact aw_gs ((stp_eq D rfl).trans rfl) (by simp only [List.length_cons]; omega)
theorem aw_lstore_12 {a0 a1 a2 a3 a4 a5 a6 a7 a8 a9 a10 a11 a12 a13 : Value} {x : Int64} (D : decode (byt k) pc = .ok (.lstore 12, 2)) (hp : pc + 2 = pc2) : AW d E K k pc (a0 :: a1 :: a2 :: a3 :: a4 :: a5 :: a6 :: a7 :: a8 :: a9 :: a10 :: a11 :: a12 :: a13 :: L) (.long x :: st) G I J ↔ AW d E K k pc2 (a0 :: a1 :: a2 :: a3 :: a4 :: a5 :: a6 :: a7 :: a8 :: a9 :: a10 :: kil a11 :: .long x :: nv :: L) st G I J := by
  subst hp; exact aw_gs ((stp_eq D rfl).trans rfl) (by simp only [List.length_cons]; omega)
theorem aw_lstore_13 {a0 a1 a2 a3 a4 a5 a6 a7 a8 a9 a10 a11 a12 a13 a14 : Value} {x : Int64} (D : decode (byt k) pc = .ok (.lstore 13, 2)) (hp : pc + 2 = pc2) : AW d E K k pc (a0 :: a1 :: a2 :: a3 :: a4 :: a5 :: a6 :: a7 :: a8 :: a9 :: a10 :: a11 :: a12 :: a13 :: a14 :: L) (.long x :: st) G I J ↔ AW d E K k pc2 (a0 :: a1 :: a2 :: a3 :: a4 :: a5 :: a6 :: a7 :: a8 :: a9 :: a10 :: a11 :: kil a12 :: .long x :: nv :: L) st G I J := by
  subst hp; exact aw_gs ((stp_eq D rfl).trans rfl) (by simp only [List.length_cons]; omega)
theorem aw_lstore_14 {a0 a1 a2 a3 a4 a5 a6 a7 a8 a9 a10 a11 a12 a13 a14 a15 : Value} {x : Int64} (D : decode (byt k) pc = .ok (.lstore 14, 2)) (hp : pc + 2 = pc2) : AW d E K k pc (a0 :: a1 :: a2 :: a3 :: a4 :: a5 :: a6 :: a7 :: a8 :: a9 :: a10 :: a11 :: a12 :: a13 :: a14 :: a15 :: L) (.long x :: st) G I J ↔ AW d E K k pc2 (a0 :: a1 :: a2 :: a3 :: a4 :: a5 :: a6 :: a7 :: a8 :: a9 :: a10 :: a11 :: a12 :: kil a13 :: .long x :: nv :: L) st G I J := by
  subst hp; exact aw_gs ((stp_eq D rfl).trans rfl) (by simp only [List.length_cons]; omega)
theorem aw_iinc_0 {x y : Int32} {n : Int} (D : decode (byt k) pc = .ok (.iinc 0 n, 3)) (hp : pc + 3 = pc2) (hy : Int32.ofInt n = y) : AW d E K k pc (.int x :: L) st G I J ↔ AW d E K k pc2 (.int (x + y) :: L) st G I J := by
  subst hp; subst hy; exact aw_gs ((stp_eq D rfl).trans rfl) (by simp only [List.length_cons]; omega)
theorem aw_iinc_1 {a0 : Value} {x y : Int32} {n : Int} (D : decode (byt k) pc = .ok (.iinc 1 n, 3)) (hp : pc + 3 = pc2) (hy : Int32.ofInt n = y) : AW d E K k pc (a0 :: .int x :: L) st G I J ↔ AW d E K k pc2 (kil a0 :: .int (x + y) :: L) st G I J := by
  subst hp; subst hy; exact aw_gs ((stp_eq D rfl).trans rfl) (by simp only [List.length_cons]; omega)
theorem aw_iinc_2 {a0 a1 : Value} {x y : Int32} {n : Int} (D : decode (byt k) pc = .ok (.iinc 2 n, 3)) (hp : pc + 3 = pc2) (hy : Int32.ofInt n = y) : AW d E K k pc (a0 :: a1 :: .int x :: L) st G I J ↔ AW d E K k pc2 (a0 :: kil a1 :: .int (x + y) :: L) st G I J := by
  subst hp; subst hy; exact aw_gs ((stp_eq D rfl).trans rfl) (by simp only [List.length_cons]; omega)
theorem aw_iinc_3 {a0 a1 a2 : Value} {x y : Int32} {n : Int} (D : decode (byt k) pc = .ok (.iinc 3 n, 3)) (hp : pc + 3 = pc2) (hy : Int32.ofInt n = y) : AW d E K k pc (a0 :: a1 :: a2 :: .int x :: L) st G I J ↔ AW d E K k pc2 (a0 :: a1 :: kil a2 :: .int (x + y) :: L) st G I J := by
  subst hp; subst hy; exact aw_gs ((stp_eq D rfl).trans rfl) (by simp only [List.length_cons]; omega)
theorem aw_iinc_4 {a0 a1 a2 a3 : Value} {x y : Int32} {n : Int} (D : decode (byt k) pc = .ok (.iinc 4 n, 3)) (hp : pc + 3 = pc2) (hy : Int32.ofInt n = y) : AW d E K k pc (a0 :: a1 :: a2 :: a3 :: .int x :: L) st G I J ↔ AW d E K k pc2 (a0 :: a1 :: a2 :: kil a3 :: .int (x + y) :: L) st G I J := by
  subst hp; subst hy; exact aw_gs ((stp_eq D rfl).trans rfl) (by simp only [List.length_cons]; omega)
theorem aw_iinc_5 {a0 a1 a2 a3 a4 : Value} {x y : Int32} {n : Int} (D : decode (byt k) pc = .ok (.iinc 5 n, 3)) (hp : pc + 3 = pc2) (hy : Int32.ofInt n = y) : AW d E K k pc (a0 :: a1 :: a2 :: a3 :: a4 :: .int x :: L) st G I J ↔ AW d E K k pc2 (a0 :: a1 :: a2 :: a3 :: kil a4 :: .int (x + y) :: L) st G I J := by
  subst hp; subst hy; exact aw_gs ((stp_eq D rfl).trans rfl) (by simp only [List.length_cons]; omega)
theorem aw_iinc_6 {a0 a1 a2 a3 a4 a5 : Value} {x y : Int32} {n : Int} (D : decode (byt k) pc = .ok (.iinc 6 n, 3)) (hp : pc + 3 = pc2) (hy : Int32.ofInt n = y) : AW d E K k pc (a0 :: a1 :: a2 :: a3 :: a4 :: a5 :: .int x :: L) st G I J ↔ AW d E K k pc2 (a0 :: a1 :: a2 :: a3 :: a4 :: kil a5 :: .int (x + y) :: L) st G I J := by
  subst hp; subst hy; exact aw_gs ((stp_eq D rfl).trans rfl) (by simp only [List.length_cons]; omega)
theorem aw_iinc_7 {a0 a1 a2 a3 a4 a5 a6 : Value} {x y : Int32} {n : Int} (D : decode (byt k) pc = .ok (.iinc 7 n, 3)) (hp : pc + 3 = pc2) (hy : Int32.ofInt n = y) : AW d E K k pc (a0 :: a1 :: a2 :: a3 :: a4 :: a5 :: a6 :: .int x :: L) st G I J ↔ AW d E K k pc2 (a0 :: a1 :: a2 :: a3 :: a4 :: a5 :: kil a6 :: .int (x + y) :: L) st G I J := by
  subst hp; subst hy; exact aw_gs ((stp_eq D rfl).trans rfl) (by simp only [List.length_cons]; omega)
theorem aw_iinc_8 {a0 a1 a2 a3 a4 a5 a6 a7 : Value} {x y : Int32} {n : Int} (D : decode (byt k) pc = .ok (.iinc 8 n, 3)) (hp : pc + 3 = pc2) (hy : Int32.ofInt n = y) : AW d E K k pc (a0 :: a1 :: a2 :: a3 :: a4 :: a5 :: a6 :: a7 :: .int x :: L) st G I J ↔ AW d E K k pc2 (a0 :: a1 :: a2 :: a3 :: a4 :: a5 :: a6 :: kil a7 :: .int (x + y) :: L) st G I J := by
  subst hp; subst hy; exact aw_gs ((stp_eq D rfl).trans rfl) (by simp only [List.length_cons]; omega)
theorem aw_iinc_9 {a0 a1 a2 a3 a4 a5 a6 a7 a8 : Value} {x y : Int32} {n : Int} (D : decode (byt k) pc = .ok (.iinc 9 n, 3)) (hp : pc + 3 = pc2) (hy : Int32.ofInt n = y) : AW d E K k pc (a0 :: a1 :: a2 :: a3 :: a4 :: a5 :: a6 :: a7 :: a8 :: .int x :: L) st G I J ↔ AW d E K k pc2 (a0 :: a1 :: a2 :: a3 :: a4 :: a5 :: a6 :: a7 :: kil a8 :: .int (x + y) :: L) st G I J := by
  subst hp; subst hy; exact aw_gs ((stp_eq D rfl).trans rfl) (by simp only [List.length_cons]; omega)
theorem aw_iinc_10 {a0 a1 a2 a3 a4 a5 a6 a7 a8 a9 : Value} {x y : Int32} {n : Int} (D : decode (byt k) pc = .ok (.iinc 10 n, 3)) (hp : pc + 3 = pc2) (hy : Int32.ofInt n = y) : AW d E K k pc (a0 :: a1 :: a2 :: a3 :: a4 :: a5 :: a6 :: a7 :: a8 :: a9 :: .int x :: L) st G I J ↔ AW d E K k pc2 (a0 :: a1 :: a2 :: a3 :: a4 :: a5 :: a6 :: a7 :: a8 :: kil a9 :: .int (x + y) :: L) st G I J := by
  subst hp; subst hy; exact aw_gs ((stp_eq D rfl).trans rfl) (by simp only [List.length_cons]; omega)
theorem aw_iinc_11 {a0 a1 a2 a3 a4 a5 a6 a7 a8 a9 a10 : Value} {x y : Int32} {n : Int} (D : decode (byt k) pc = .ok (.iinc 11 n, 3)) (hp : pc + 3 = pc2) (hy : Int32.ofInt n = y) : AW d E K k pc (a0 :: a1 :: a2 :: a3 :: a4 :: a5 :: a6 :: a7 :: a8 :: a9 :: a10 :: .int x :: L) st G I J ↔ AW d E K k pc2 (a0 :: a1 :: a2 :: a3 :: a4 :: a5 :: a6 :: a7 :: a8 :: a9 :: kil a10 :: .int (x + y) :: L) st G I J := by
  subst hp; subst hy; exact aw_gs ((stp_eq D rfl).trans rfl) (by simp only [List.length_cons]; omega)
theorem aw_iinc_12 {a0 a1 a2 a3 a4 a5 a6 a7 a8 a9 a10 a11 : Value} {x y : Int32} {n : Int} (D : decode (byt k) pc = .ok (.iinc 12 n, 3)) (hp : pc + 3 = pc2) (hy : Int32.ofInt n = y) : AW d E K k pc (a0 :: a1 :: a2 :: a3 :: a4 :: a5 :: a6 :: a7 :: a8 :: a9 :: a10 :: a11 :: .int x :: L) st G I J ↔ AW d E K k pc2 (a0 :: a1 :: a2 :: a3 :: a4 :: a5 :: a6 :: a7 :: a8 :: a9 :: a10 :: kil a11 :: .int (x + y) :: L) st G I J := by
  subst hp; subst hy; exact aw_gs ((stp_eq D rfl).trans rfl) (by simp only [List.length_cons]; omega)
theorem aw_iinc_13 {a0 a1 a2 a3 a4 a5 a6 a7 a8 a9 a10 a11 a12 : Value} {x y : Int32} {n : Int} (D : decode (byt k) pc = .ok (.iinc 13 n, 3)) (hp : pc + 3 = pc2) (hy : Int32.ofInt n = y) : AW d E K k pc (a0 :: a1 :: a2 :: a3 :: a4 :: a5 :: a6 :: a7 :: a8 :: a9 :: a10 :: a11 :: a12 :: .int x :: L) st G I J ↔ AW d E K k pc2 (a0 :: a1 :: a2 :: a3 :: a4 :: a5 :: a6 :: a7 :: a8 :: a9 :: a10 :: a11 :: kil a12 :: .int (x + y) :: L) st G I J := by
  subst hp; subst hy; exact aw_gs ((stp_eq D rfl).trans rfl) (by simp only [List.length_cons]; omega)
theorem aw_iinc_14 {a0 a1 a2 a3 a4 a5 a6 a7 a8 a9 a10 a11 a12 a13 : Value} {x y : Int32} {n : Int} (D : decode (byt k) pc = .ok (.iinc 14 n, 3)) (hp : pc + 3 = pc2) (hy : Int32.ofInt n = y) : AW d E K k pc (a0 :: a1 :: a2 :: a3 :: a4 :: a5 :: a6 :: a7 :: a8 :: a9 :: a10 :: a11 :: a12 :: a13 :: .int x :: L) st G I J ↔ AW d E K k pc2 (a0 :: a1 :: a2 :: a3 :: a4 :: a5 :: a6 :: a7 :: a8 :: a9 :: a10 :: a11 :: a12 :: kil a13 :: .int (x + y) :: L) st G I J := by
  subst hp; subst hy; exact aw_gs ((stp_eq D rfl).trans rfl) (by simp only [List.length_cons]; omega)
theorem aw_iinc_15 {a0 a1 a2 a3 a4 a5 a6 a7 a8 a9 a10 a11 a12 a13 a14 : Value} {x y : Int32} {n : Int} (D : decode (byt k) pc = .ok (.iinc 15 n, 3)) (hp : pc + 3 = pc2) (hy : Int32.ofInt n = y) : AW d E K k pc (a0 :: a1 :: a2 :: a3 :: a4 :: a5 :: a6 :: a7 :: a8 :: a9 :: a10 :: a11 :: a12 :: a13 :: a14 :: .int x :: L) st G I J ↔ AW d E K k pc2 (a0 :: a1 :: a2 :: a3 :: a4 :: a5 :: a6 :: a7 :: a8 :: a9 :: a10 :: a11 :: a12 :: a13 :: kil a14 :: .int (x + y) :: L) st G I J := by
  subst hp; subst hy; exact aw_gs ((stp_eq D rfl).trans rfl) (by simp only [List.length_cons]; omega)
theorem aw_iconst {n : Int} {y : Int32} (D : decode (byt k) pc = .ok (.iconst n, 1)) (hp : pc + 1 = pc2) (hy : Int32.ofInt n = y) : AW d E K k pc L (st) G I J ↔ AW d E K k pc2 L (.int y :: st) G I J := by
  subst hp; subst hy; exact aw_go ((stp_eq D rfl).trans rfl)
theorem aw_bipush {n : Int} {y : Int32} (D : decode (byt k) pc = .ok (.bipush n, 2)) (hp : pc + 2 = pc2) (hy : (Int8.ofInt n).toInt32 = y) : AW d E K k pc L (st) G I J ↔ AW d E K k pc2 L (.int y :: st) G I J := by
  subst hp; subst hy; exact aw_go ((stp_eq D rfl).trans rfl)
theorem aw_sipush {n : Int} {y : Int32} (D : decode (byt k) pc = .ok (.sipush n, 3)) (hp : pc + 3 = pc2) (hy : (Int16.ofInt n).toInt32 = y) : AW d E K k pc L (st) G I J ↔ AW d E K k pc2 L (.int y :: st) G I J := by
  subst hp; subst hy; exact aw_go ((stp_eq D rfl).trans rfl)
theorem aw_lconst {n : Fin 2} {y : Int64} (D : decode (byt k) pc = .ok (.lconst n, 1)) (hp : pc + 1 = pc2) (hy : Int64.ofNat n = y) : AW d E K k pc L (st) G I J ↔ AW d E K k pc2 L (.long y :: st) G I J := by
  subst hp; subst hy; exact aw_go ((stp_eq D rfl).trans rfl)
theorem aw_null (D : decode (byt k) pc = .ok (.aconst_null, 1)) (hp : pc + 1 = pc2) : AW d E K k pc L (st) G I J ↔ AW d E K k pc2 L (.null :: st) G I J := by
  subst hp; exact aw_go ((stp_eq D rfl).trans rfl)
theorem aw_iadd {x y : Int32} (D : decode (byt k) pc = .ok (.iadd, 1)) (hp : pc + 1 = pc2) : AW d E K k pc L (.int y :: .int x :: st) G I J ↔ AW d E K k pc2 L (.int (x + y) :: st) G I J := by
  subst hp; exact aw_go ((stp_eq D rfl).trans rfl)
theorem aw_isub {x y : Int32} (D : decode (byt k) pc = .ok (.isub, 1)) (hp : pc + 1 = pc2) : AW d E K k pc L (.int y :: .int x :: st) G I J ↔ AW d E K k pc2 L (.int (x - y) :: st) G I J := by
  subst hp; exact aw_go ((stp_eq D rfl).trans rfl)
theorem aw_imul {x y : Int32} (D : decode (byt k) pc = .ok (.imul, 1)) (hp : pc + 1 = pc2) : AW d E K k pc L (.int y :: .int x :: st) G I J ↔ AW d E K k pc2 L (.int (x * y) :: st) G I J := by
  subst hp; exact aw_go ((stp_eq D rfl).trans rfl)
theorem aw_iand {x y : Int32} (D : decode (byt k) pc = .ok (.iand, 1)) (hp : pc + 1 = pc2) : AW d E K k pc L (.int y :: .int x :: st) G I J ↔ AW d E K k pc2 L (.int (x &&& y) :: st) G I J := by
  subst hp; exact aw_go ((stp_eq D rfl).trans rfl)
theorem aw_ior {x y : Int32} (D : decode (byt k) pc = .ok (.ior, 1)) (hp : pc + 1 = pc2) : AW d E K k pc L (.int y :: .int x :: st) G I J ↔ AW d E K k pc2 L (.int (x ||| y) :: st) G I J := by
  subst hp; exact aw_go ((stp_eq D rfl).trans rfl)
theorem aw_ixor {x y : Int32} (D : decode (byt k) pc = .ok (.ixor, 1)) (hp : pc + 1 = pc2) : AW d E K k pc L (.int y :: .int x :: st) G I J ↔ AW d E K k pc2 L (.int (x ^^^ y) :: st) G I J := by
  subst hp; exact aw_go ((stp_eq D rfl).trans rfl)
theorem aw_ishl {x y : Int32} (D : decode (byt k) pc = .ok (.ishl, 1)) (hp : pc + 1 = pc2) : AW d E K k pc L (.int y :: .int x :: st) G I J ↔ AW d E K k pc2 L (.int (x <<< (y &&& 31)) :: st) G I J := by
  subst hp; exact aw_go ((stp_eq D rfl).trans rfl)
theorem aw_ishr {x y : Int32} (D : decode (byt k) pc = .ok (.ishr, 1)) (hp : pc + 1 = pc2) : AW d E K k pc L (.int y :: .int x :: st) G I J ↔ AW d E K k pc2 L (.int (x >>> (y &&& 31)) :: st) G I J := by
  subst hp; exact aw_go ((stp_eq D rfl).trans rfl)
theorem aw_iushr {x y : Int32} (D : decode (byt k) pc = .ok (.iushr, 1)) (hp : pc + 1 = pc2) : AW d E K k pc L (.int y :: .int x :: st) G I J ↔ AW d E K k pc2 L (.int ((x.toUInt32 >>> (y.toUInt32 &&& Int32.toUInt32 31)).toInt32) :: st) G I J := by
  subst hp; exact aw_go ((stp_eq D rfl).trans rfl)
theorem aw_ladd {x y : Int64} (D : decode (byt k) pc = .ok (.ladd, 1)) (hp : pc + 1 = pc2) : AW d E K k pc L (.long y :: .long x :: st) G I J ↔ AW d E K k pc2 L (.long (x + y) :: st) G I J := by
  subst hp; exact aw_go ((stp_eq D rfl).trans rfl)
theorem aw_lsub {x y : Int64} (D : decode (byt k) pc = .ok (.lsub, 1)) (hp : pc + 1 = pc2) : AW d E K k pc L (.long y :: .long x :: st) G I J ↔ AW d E K k pc2 L (.long (x - y) :: st) G I J := by
  subst hp; exact aw_go ((stp_eq D rfl).trans rfl)
theorem aw_lmul {x y : Int64} (D : decode (byt k) pc = .ok (.lmul, 1)) (hp : pc + 1 = pc2) : AW d E K k pc L (.long y :: .long x :: st) G I J ↔ AW d E K k pc2 L (.long (x * y) :: st) G I J := by
  subst hp; exact aw_go ((stp_eq D rfl).trans rfl)
theorem aw_land {x y : Int64} (D : decode (byt k) pc = .ok (.land, 1)) (hp : pc + 1 = pc2) : AW d E K k pc L (.long y :: .long x :: st) G I J ↔ AW d E K k pc2 L (.long (x &&& y) :: st) G I J := by
  subst hp; exact aw_go ((stp_eq D rfl).trans rfl)
theorem aw_lor {x y : Int64} (D : decode (byt k) pc = .ok (.lor, 1)) (hp : pc + 1 = pc2) : AW d E K k pc L (.long y :: .long x :: st) G I J ↔ AW d E K k pc2 L (.long (x ||| y) :: st) G I J := by
  subst hp; exact aw_go ((stp_eq D rfl).trans rfl)
theorem aw_lxor {x y : Int64} (D : decode (byt k) pc = .ok (.lxor, 1)) (hp : pc + 1 = pc2) : AW d E K k pc L (.long y :: .long x :: st) G I J ↔ AW d E K k pc2 L (.long (x ^^^ y) :: st) G I J := by
  subst hp; exact aw_go ((stp_eq D rfl).trans rfl)
theorem aw_lshl {x : Int64} {y : Int32} (D : decode (byt k) pc = .ok (.lshl, 1)) (hp : pc + 1 = pc2) : AW d E K k pc L (.int y :: .long x :: st) G I J ↔ AW d E K k pc2 L (.long (x <<< (y.toInt64 &&& 63)) :: st) G I J := by
  subst hp; exact aw_go ((stp_eq D rfl).trans rfl)
theorem aw_lshr {x : Int64} {y : Int32} (D : decode (byt k) pc = .ok (.lshr, 1)) (hp : pc + 1 = pc2) : AW d E K k pc L (.int y :: .long x :: st) G I J ↔ AW d E K k pc2 L (.long (x >>> (y.toInt64 &&& 63)) :: st) G I J := by
  subst hp; exact aw_go ((stp_eq D rfl).trans rfl)
theorem aw_lushr {x : Int64} {y : Int32} (D : decode (byt k) pc = .ok (.lushr, 1)) (hp : pc + 1 = pc2) : AW d E K k pc L (.int y :: .long x :: st) G I J ↔ AW d E K k pc2 L (.long ((x.toUInt64 >>> (y.toInt64.toUInt64 &&& Int64.toUInt64 63)).toInt64) :: st) G I J := by
  subst hp; exact aw_go ((stp_eq D rfl).trans rfl)
theorem aw_lcmp {x y : Int64} (D : decode (byt k) pc = .ok (.lcmp, 1)) (hp : pc + 1 = pc2) : AW d E K k pc L (.long y :: .long x :: st) G I J ↔ AW d E K k pc2 L (.int (lg_cmp x y) :: st) G I J := by
  subst hp; exact aw_go ((stp_eq D rfl).trans rfl)
theorem aw_ineg {x : Int32} (D : decode (byt k) pc = .ok (.ineg, 1)) (hp : pc + 1 = pc2) : AW d E K k pc L (.int x :: st) G I J ↔ AW d E K k pc2 L (.int (-x) :: st) G I J := by
  subst hp; exact aw_go ((stp_eq D rfl).trans rfl)
theorem aw_i2l {x : Int32} (D : decode (byt k) pc = .ok (.i2l, 1)) (hp : pc + 1 = pc2) : AW d E K k pc L (.int x :: st) G I J ↔ AW d E K k pc2 L (.long x.toInt64 :: st) G I J := by
  subst hp; exact aw_go ((stp_eq D rfl).trans rfl)
theorem aw_l2i {x : Int64} (D : decode (byt k) pc = .ok (.l2i, 1)) (hp : pc + 1 = pc2) : AW d E K k pc L (.long x :: st) G I J ↔ AW d E K k pc2 L (.int x.toInt32 :: st) G I J := by
  subst hp; exact aw_go ((stp_eq D rfl).trans rfl)
theorem aw_idiv {x y : Int32} (D : decode (byt k) pc = .ok (.idiv, 1)) (hp : pc + 1 = pc2) : AW d E K k pc L (.int y :: .int x :: st) G I J ↔ (¬ y = 0) ∧ AW d E K k pc2 L (.int (x / y) :: st) G I J := by
  subst hp; exact aw_gt ((stp_eq D rfl).trans (rfl))
theorem aw_irem {x y : Int32} (D : decode (byt k) pc = .ok (.irem, 1)) (hp : pc + 1 = pc2) : AW d E K k pc L (.int y :: .int x :: st) G I J ↔ (¬ y = 0) ∧ AW d E K k pc2 L (.int (x - x / y * y) :: st) G I J := by
  subst hp; exact aw_gt ((stp_eq D rfl).trans (rfl))
theorem aw_ldiv {x y : Int64} (D : decode (byt k) pc = .ok (.ldiv, 1)) (hp : pc + 1 = pc2) : AW d E K k pc L (.long y :: .long x :: st) G I J ↔ (¬ y = 0) ∧ AW d E K k pc2 L (.long (x / y) :: st) G I J := by
  subst hp; exact aw_gt ((stp_eq D rfl).trans (rfl))
theorem aw_lrem {x y : Int64} (D : decode (byt k) pc = .ok (.lrem, 1)) (hp : pc + 1 = pc2) : AW d E K k pc L (.long y :: .long x :: st) G I J ↔ (¬ y = 0) ∧ AW d E K k pc2 L (.long (x - x / y * y) :: st) G I J := by
  subst hp; exact aw_gt ((stp_eq D rfl).trans (rfl))
theorem aw_iaload {j : Int32} {c : Nat} (D : decode (byt k) pc = .ok (.iaload, 1)) (hp : pc + 1 = pc2) : AW d E K k pc L (.int j :: .ref c :: st) G I J ↔ (iOK (shp G c) j) ∧ AW d E K k pc2 L (.int (I c j.toNatClampNeg) :: st) G I J := by
  subst hp; exact aw_gt ((stp_eq D rfl).trans (rfl))
theorem aw_laload {j : Int32} {c : Nat} (D : decode (byt k) pc = .ok (.laload, 1)) (hp : pc + 1 = pc2) : AW d E K k pc L (.int j :: .ref c :: st) G I J ↔ (jOK (shp G c) j) ∧ AW d E K k pc2 L (.long (J c j.toNatClampNeg) :: st) G I J := by
  subst hp; exact aw_gt ((stp_eq D rfl).trans (rfl))
theorem aw_baload {j : Int32} {c : Nat} (D : decode (byt k) pc = .ok (.baload, 1)) (hp : pc + 1 = pc2) : AW d E K k pc L (.int j :: .ref c :: st) G I J ↔ (wOK (shp G c) 3 j) ∧ AW d E K k pc2 L (.int (I c j.toNatClampNeg) :: st) G I J := by
  subst hp; exact aw_gt ((stp_eq D rfl).trans (rfl))
theorem aw_aaload {j : Int32} {c : Nat} (D : decode (byt k) pc = .ok (.aaload, 1)) (hp : pc + 1 = pc2) : AW d E K k pc L (.int j :: .ref c :: st) G I J ↔ (wOK (shp G c) 4 j) ∧ AW d E K k pc2 L (refV (G.2.2.2 c j.toNatClampNeg) :: st) G I J := by
  subst hp; exact aw_gt ((stp_eq D rfl).trans (rfl))
theorem aw_iastore {x j : Int32} {c : Nat} (D : decode (byt k) pc = .ok (.iastore, 1)) (hp : pc + 1 = pc2) : AW d E K k pc L (.int x :: .int j :: .ref c :: st) G I J ↔ (wOK (shp G c) 1 j) ∧ AW d E K k pc2 L (st) G (up2 I c j.toNatClampNeg x) J := by
  subst hp; exact aw_gt ((stp_eq D rfl).trans (rfl))
theorem aw_lastore {x : Int64} {j : Int32} {c : Nat} (D : decode (byt k) pc = .ok (.lastore, 1)) (hp : pc + 1 = pc2) : AW d E K k pc L (.long x :: .int j :: .ref c :: st) G I J ↔ (wOK (shp G c) 2 j) ∧ AW d E K k pc2 L (st) G I (up2 J c j.toNatClampNeg x) := by
  subst hp; exact aw_gt ((stp_eq D rfl).trans (rfl))
theorem aw_bastore {x j : Int32} {c : Nat} (D : decode (byt k) pc = .ok (.bastore, 1)) (hp : pc + 1 = pc2) : AW d E K k pc L (.int x :: .int j :: .ref c :: st) G I J ↔ (wOK (shp G c) 3 j ∧ (x = 0 ∨ x = 1)) ∧ AW d E K k pc2 L (st) G (up2 I c j.toNatClampNeg x) J := by
  subst hp; exact aw_gt ((stp_eq D rfl).trans (rfl))
theorem aw_aastore {j : Int32} {v c : Nat} (D : decode (byt k) pc = .ok (.aastore, 1)) (hp : pc + 1 = pc2) : AW d E K k pc L (.ref v :: .int j :: .ref c :: st) G I J ↔ (wOK (shp G c) 4 j ∧ shp G v = (0, 2)) ∧ AW d E K k pc2 L (st) (putR G c j.toNatClampNeg v) I J := by
  subst hp; exact aw_gt ((stp_eq D rfl).trans (rfl))
theorem aw_alen {c : Nat} (D : decode (byt k) pc = .ok (.arraylength, 1)) (hp : pc + 1 = pc2) : AW d E K k pc L (.ref c :: st) G I J ↔ (lOK (shp G c)) ∧ AW d E K k pc2 L (.int (Int32.ofNat (shp G c).2) :: st) G I J := by
  subst hp; exact aw_gt ((stp_eq D rfl).trans (rfl))
theorem aw_dup {v : Value} (D : decode (byt k) pc = .ok (.dup, 1)) (hp : pc + 1 = pc2) : AW d E K k pc L (v :: st) G I J ↔ (v.category = 1) ∧ AW d E K k pc2 L (v :: v :: st) G I J := by
  subst hp; exact aw_gt ((stp_eq D rfl).trans (rfl))
theorem aw_dup2 {a b : Value} (D : decode (byt k) pc = .ok (.dup2, 1)) (hp : pc + 1 = pc2) : AW d E K k pc L (a :: b :: st) G I J ↔ (a.category = 1 ∧ b.category = 1) ∧ AW d E K k pc2 L (a :: b :: a :: b :: st) G I J := by
  subst hp; exact aw_gt ((stp_eq D rfl).trans (rfl))
theorem aw_pop {v : Value} (D : decode (byt k) pc = .ok (.pop, 1)) (hp : pc + 1 = pc2) : AW d E K k pc L (v :: st) G I J ↔ (v.category = 1) ∧ AW d E K k pc2 L (st) G I J := by
  subst hp; exact aw_gt ((stp_eq D rfl).trans (rfl))
theorem aw_ldc {x : Nat} {v : Int32} (D : decode (byt k) pc = .ok (.ldc x, 2)) (hp : pc + 2 = pc2) (hv : ldcT (ocl k) x = some v) : AW d E K k pc L st G I J ↔ AW d E K k pc2 L (.int v :: st) G I J := by
  subst hp; refine aw_go ((stp_eq D rfl).trans ?_)
  show (match ldcT (ocl k) x with | some v => _ | none => none) = _
  rw [hv]
theorem aw_ldc_w {x : Nat} {v : Int32} (D : decode (byt k) pc = .ok (.ldc_w x, 3)) (hp : pc + 3 = pc2) (hv : ldcT (ocl k) x = some v) : AW d E K k pc L st G I J ↔ AW d E K k pc2 L (.int v :: st) G I J := by
  subst hp; refine aw_go ((stp_eq D rfl).trans ?_)
  show (match ldcT (ocl k) x with | some v => _ | none => none) = _
  rw [hv]
theorem aw_ldc2_w {x : Nat} {v : Int64} (D : decode (byt k) pc = .ok (.ldc2_w x, 3)) (hp : pc + 3 = pc2) (hv : ldlT (ocl k) x = some v) : AW d E K k pc L st G I J ↔ AW d E K k pc2 L (.long v :: st) G I J := by
  subst hp; refine aw_go ((stp_eq D rfl).trans ?_)
  show (match ldlT (ocl k) x with | some v => _ | none => none) = _
  rw [hv]
theorem aw_if_eq {x : Int32} {off : Int} {t : Nat} (D : decode (byt k) pc = .ok (.ifCond .eq off, 3)) (ht : (pc : Int) + off = (t : Int)) (hp : pc + 3 = pc2) : AW d E K k pc L (.int x :: st) G I J ↔ if x = 0 then AW d E K k t L st G I J else AW d E K k pc2 L st G I J := by
  subst hp; exact aw_br _ ((stp_eq D rfl).trans rfl) rfl (tgt_of ht) rfl
theorem aw_if_ne {x : Int32} {off : Int} {t : Nat} (D : decode (byt k) pc = .ok (.ifCond .ne off, 3)) (ht : (pc : Int) + off = (t : Int)) (hp : pc + 3 = pc2) : AW d E K k pc L (.int x :: st) G I J ↔ if ¬ x = 0 then AW d E K k t L st G I J else AW d E K k pc2 L st G I J := by
  subst hp; exact aw_br _ ((stp_eq D rfl).trans rfl) rfl (tgt_of ht) rfl
theorem aw_if_lt {x : Int32} {off : Int} {t : Nat} (D : decode (byt k) pc = .ok (.ifCond .lt off, 3)) (ht : (pc : Int) + off = (t : Int)) (hp : pc + 3 = pc2) : AW d E K k pc L (.int x :: st) G I J ↔ if x < 0 then AW d E K k t L st G I J else AW d E K k pc2 L st G I J := by
  subst hp; exact aw_br _ ((stp_eq D rfl).trans rfl) rfl (tgt_of ht) rfl
theorem aw_if_ge {x : Int32} {off : Int} {t : Nat} (D : decode (byt k) pc = .ok (.ifCond .ge off, 3)) (ht : (pc : Int) + off = (t : Int)) (hp : pc + 3 = pc2) : AW d E K k pc L (.int x :: st) G I J ↔ if 0 ≤ x then AW d E K k t L st G I J else AW d E K k pc2 L st G I J := by
  subst hp; exact aw_br _ ((stp_eq D rfl).trans rfl) rfl (tgt_of ht) rfl
theorem aw_if_gt {x : Int32} {off : Int} {t : Nat} (D : decode (byt k) pc = .ok (.ifCond .gt off, 3)) (ht : (pc : Int) + off = (t : Int)) (hp : pc + 3 = pc2) : AW d E K k pc L (.int x :: st) G I J ↔ if 0 < x then AW d E K k t L st G I J else AW d E K k pc2 L st G I J := by
  subst hp; exact aw_br _ ((stp_eq D rfl).trans rfl) rfl (tgt_of ht) rfl
theorem aw_if_le {x : Int32} {off : Int} {t : Nat} (D : decode (byt k) pc = .ok (.ifCond .le off, 3)) (ht : (pc : Int) + off = (t : Int)) (hp : pc + 3 = pc2) : AW d E K k pc L (.int x :: st) G I J ↔ if x ≤ 0 then AW d E K k t L st G I J else AW d E K k pc2 L st G I J := by
  subst hp; exact aw_br _ ((stp_eq D rfl).trans rfl) rfl (tgt_of ht) rfl
theorem aw_icmp_eq {x y : Int32} {off : Int} {t : Nat} (D : decode (byt k) pc = .ok (.if_icmp .eq off, 3)) (ht : (pc : Int) + off = (t : Int)) (hp : pc + 3 = pc2) : AW d E K k pc L (.int y :: .int x :: st) G I J ↔ if x = y then AW d E K k t L st G I J else AW d E K k pc2 L st G I J := by
  subst hp; exact aw_br _ ((stp_eq D rfl).trans rfl) rfl (tgt_of ht) rfl
theorem aw_icmp_ne {x y : Int32} {off : Int} {t : Nat} (D : decode (byt k) pc = .ok (.if_icmp .ne off, 3)) (ht : (pc : Int) + off = (t : Int)) (hp : pc + 3 = pc2) : AW d E K k pc L (.int y :: .int x :: st) G I J ↔ if ¬ x = y then AW d E K k t L st G I J else AW d E K k pc2 L st G I J := by
  subst hp; exact aw_br _ ((stp_eq D rfl).trans rfl) rfl (tgt_of ht) rfl
theorem aw_icmp_lt {x y : Int32} {off : Int} {t : Nat} (D : decode (byt k) pc = .ok (.if_icmp .lt off, 3)) (ht : (pc : Int) + off = (t : Int)) (hp : pc + 3 = pc2) : AW d E K k pc L (.int y :: .int x :: st) G I J ↔ if x < y then AW d E K k t L st G I J else AW d E K k pc2 L st G I J := by
  subst hp; exact aw_br _ ((stp_eq D rfl).trans rfl) rfl (tgt_of ht) rfl
theorem aw_icmp_ge {x y : Int32} {off : Int} {t : Nat} (D : decode (byt k) pc = .ok (.if_icmp .ge off, 3)) (ht : (pc : Int) + off = (t : Int)) (hp : pc + 3 = pc2) : AW d E K k pc L (.int y :: .int x :: st) G I J ↔ if y ≤ x then AW d E K k t L st G I J else AW d E K k pc2 L st G I J := by
  subst hp; exact aw_br _ ((stp_eq D rfl).trans rfl) rfl (tgt_of ht) rfl
theorem aw_icmp_gt {x y : Int32} {off : Int} {t : Nat} (D : decode (byt k) pc = .ok (.if_icmp .gt off, 3)) (ht : (pc : Int) + off = (t : Int)) (hp : pc + 3 = pc2) : AW d E K k pc L (.int y :: .int x :: st) G I J ↔ if y < x then AW d E K k t L st G I J else AW d E K k pc2 L st G I J := by
  subst hp; exact aw_br _ ((stp_eq D rfl).trans rfl) rfl (tgt_of ht) rfl
theorem aw_icmp_le {x y : Int32} {off : Int} {t : Nat} (D : decode (byt k) pc = .ok (.if_icmp .le off, 3)) (ht : (pc : Int) + off = (t : Int)) (hp : pc + 3 = pc2) : AW d E K k pc L (.int y :: .int x :: st) G I J ↔ if x ≤ y then AW d E K k t L st G I J else AW d E K k pc2 L st G I J := by
  subst hp; exact aw_br _ ((stp_eq D rfl).trans rfl) rfl (tgt_of ht) rfl
theorem goTo_of {t : Option Nat} {u : Nat} (h : t = some u) : goTo t L st G I J = rN u L st G I J := by rw [h]; rfl
theorem aw_goto {off : Int} {t : Nat} (D : decode (byt k) pc = .ok (.goto off, 3)) (ht : (pc : Int) + off = (t : Int)) : AW d E K k pc L st G I J ↔ AW d E K k t L st G I J := aw_go ((stp_eq D rfl).trans (goTo_of (tgt_of ht)))
theorem aw_ifnullN {off : Int} {t : Nat} (D : decode (byt k) pc = .ok (.ifnull off, 3)) (ht : (pc : Int) + off = (t : Int)) : AW d E K k pc L (.null :: st) G I J ↔ AW d E K k t L st G I J := aw_go ((stp_eq D rfl).trans (goTo_of (tgt_of ht)))
theorem aw_ifnull {off : Int} {c : Nat} (D : decode (byt k) pc = .ok (.ifnull off, 3)) (hp : pc + 3 = pc2) : AW d E K k pc L (.ref c :: st) G I J ↔ AW d E K k pc2 L st G I J := by
  subst hp; exact aw_go ((stp_eq D rfl).trans rfl)
theorem aw_ifnonnull {off : Int} {t c : Nat} (D : decode (byt k) pc = .ok (.ifnonnull off, 3)) (ht : (pc : Int) + off = (t : Int)) : AW d E K k pc L (.ref c :: st) G I J ↔ AW d E K k t L st G I J := aw_go ((stp_eq D rfl).trans (goTo_of (tgt_of ht)))
theorem aw_ifnonnullN {off : Int} (D : decode (byt k) pc = .ok (.ifnonnull off, 3)) (hp : pc + 3 = pc2) : AW d E K k pc L (.null :: st) G I J ↔ AW d E K k pc2 L st G I J := by
  subst hp; exact aw_go ((stp_eq D rfl).trans rfl)
theorem aw_tabOut {x : Int32} {dd lo hi : Int} {offs : Array Int} {len t : Nat} (D : decode (byt k) pc = .ok (.tableswitch dd lo hi offs, len)) (h : x.toInt < lo ∨ hi < x.toInt) (ht : (pc : Int) + dd = (t : Int)) : AW d E K k pc L (.int x :: st) G I J ↔ AW d E K k t L st G I J := by
  refine aw_go ((stp_eq D rfl).trans ?_)
  show (if x.toInt < lo ∨ hi < x.toInt then _ else _) = _
  rw [if_pos h]
  exact goTo_of (tgt_of ht)
theorem aw_tabIn {x : Int32} {dd lo hi off : Int} {offs : Array Int} {len t j : Nat} (D : decode (byt k) pc = .ok (.tableswitch dd lo hi offs, len)) (h : x.toInt = lo + (j : Int)) (hj : lo + (j : Int) ≤ hi) (ho : offs[j]? = some off) (ht : (pc : Int) + off = (t : Int)) : AW d E K k pc L (.int x :: st) G I J ↔ AW d E K k t L st G I J := by
  refine aw_go ((stp_eq D rfl).trans ?_)
  show (if x.toInt < lo ∨ hi < x.toInt then _ else _) = _
  rw [if_neg (by omega), h, show (lo + (j : Int) - lo).toNat = j by omega, ho]
  exact goTo_of (tgt_of ht)
theorem aw_getI {x ci fk c : Nat} (D : decode (byt k) pc = .ok (.getfield x, 3)) (hp : pc + 3 = pc2) (hf : fldT (ocl k) x = some (ci, fk)) (ht : (fty ci fk == 2) = false) : AW d E K k pc L (.ref c :: st) G I J ↔ shp G c = (0, ci) ∧ AW d E K k pc2 L (.int (I c fk) :: st) G I J := by
  subst hp
  refine aw_gt ((stp_eq D rfl).trans ?_)
  show doGet k pc (fldT (ocl k) x) L _ G I J = _
  rw [hf]
  show gteP _ (rN (pc + 3) L (fvl G I c ci fk :: st) G I J) = _
  rw [show fvl G I c ci fk = .int (I c fk) by unfold fvl; split <;> simp_all]
theorem aw_getR {x ci fk c : Nat} (D : decode (byt k) pc = .ok (.getfield x, 3)) (hp : pc + 3 = pc2) (hf : fldT (ocl k) x = some (ci, fk)) (ht : (fty ci fk == 2) = true) : AW d E K k pc L (.ref c :: st) G I J ↔ shp G c = (0, ci) ∧ AW d E K k pc2 L (refV (G.2.2.2 c fk) :: st) G I J := by
  subst hp
  refine aw_gt ((stp_eq D rfl).trans ?_)
  show doGet k pc (fldT (ocl k) x) L _ G I J = _
  rw [hf]
  show gteP _ (rN (pc + 3) L (fvl G I c ci fk :: st) G I J) = _
  rw [show fvl G I c ci fk = refV (G.2.2.2 c fk) by unfold fvl; split <;> simp_all]
theorem aw_putI {x ci fk c : Nat} {v : Int32} (D : decode (byt k) pc = .ok (.putfield x, 3)) (hp : pc + 3 = pc2) (hf : fldT (ocl k) x = some (ci, fk)) (ht : fty ci fk = 0) : AW d E K k pc L (.int v :: .ref c :: st) G I J ↔ shp G c = (0, ci) ∧ AW d E K k pc2 L st G (up2 I c fk v) J := by
  subst hp
  refine (aw_gt ((stp_eq D rfl).trans (show doPut k pc (fldT (ocl k) x) L _ G I J = gteP _ (rN (pc + 3) L st G (up2 I c fk v) J) by rw [hf]; exact rfl))).trans ?_
  constructor
  · intro q; exact ⟨q.1.1, q.2⟩
  · intro q; exact ⟨⟨q.1, Or.inl ht⟩, q.2⟩
theorem aw_putZ {x ci fk c : Nat} {v : Int32} (D : decode (byt k) pc = .ok (.putfield x, 3)) (hp : pc + 3 = pc2) (hf : fldT (ocl k) x = some (ci, fk)) (ht : fty ci fk = 1) : AW d E K k pc L (.int v :: .ref c :: st) G I J ↔ (shp G c = (0, ci) ∧ (v = 0 ∨ v = 1)) ∧ AW d E K k pc2 L st G (up2 I c fk v) J := by
  subst hp
  refine (aw_gt ((stp_eq D rfl).trans (show doPut k pc (fldT (ocl k) x) L _ G I J = gteP _ (rN (pc + 3) L st G (up2 I c fk v) J) by rw [hf]; exact rfl))).trans ?_
  constructor
  · intro q; exact ⟨⟨q.1.1, by rcases q.1.2 with z | z; exact absurd (ht.symm.trans z) (by decide); exact z.2⟩, q.2⟩
  · intro q; exact ⟨⟨q.1.1, Or.inr ⟨ht, q.1.2⟩⟩, q.2⟩
theorem aw_putR {x ci fk c v : Nat} (D : decode (byt k) pc = .ok (.putfield x, 3)) (hp : pc + 3 = pc2) (hf : fldT (ocl k) x = some (ci, fk)) (ht : fty ci fk = 2 ∧ isCt k = true ∧ ocl k = ci) : AW d E K k pc L (.ref v :: .ref c :: st) G I J ↔ shp G c = (0, ci) ∧ AW d E K k pc2 L st (putR G c fk v) I J := by
  subst hp
  refine (aw_gt ((stp_eq D rfl).trans (show doPut k pc (fldT (ocl k) x) L _ G I J = gteP _ (rN (pc + 3) L st (putR G c fk v) I J) by rw [hf]; exact rfl))).trans ?_
  constructor
  · intro q; exact ⟨q.1.1, q.2⟩
  · intro q; exact ⟨⟨q.1, ht⟩, q.2⟩
theorem aw_getS {x : Nat} (D : decode (byt k) pc = .ok (.getstatic x, 3)) (hp : pc + 3 = pc2) (hf : ocl k = 6 ∧ x = 256) : AW d E K k pc L st G I J ↔ AW d E K k pc2 L (.ref patC :: st) G I J := by
  subst hp
  refine aw_go ((stp_eq D rfl).trans ?_)
  show (if ocl k = 6 ∧ x = 256 then _ else _) = _
  rw [if_pos hf]
theorem aw_new {x ci : Nat} (D : decode (byt k) pc = .ok (.new x, 3)) (hp : pc + 3 = pc2) (hf : newT (ocl k) x = some ci) : AW d E K k pc L st G I J ↔ (G.1 + 1 ≤ E.1 ∧ G.2.1 + nfs ci ≤ E.2) ∧ AW d E K k pc2 L (.ref G.1 :: st) (newO G ci) (up1 I G.1 (fun _ => 0)) J := by
  subst hp
  refine aw_gt ((stp_eq D rfl).trans ?_)
  show doNew pc (newT (ocl k) x) L st G I J E = _
  rw [hf]
  rfl
theorem aw_newa_int {x : Int32} {N : Nat} (D : decode (byt k) pc = .ok (.newarray .int, 2)) (hp : pc + 2 = pc2) (hN : x.toNatClampNeg = N) (h0 : ¬ x < 0 ∧ N ≤ 60000000) : AW d E K k pc L (.int x :: st) G I J ↔ (G.1 + 1 ≤ E.1 ∧ G.2.1 + N ≤ E.2) ∧ AW d E K k pc2 L (.ref G.1 :: st) (newA G 1 N) (up1 I G.1 (fun _ => 0)) J := by
  subst hp; subst hN
  refine (aw_gt ((stp_eq D rfl).trans rfl)).trans ?_
  exact ⟨fun q => ⟨⟨q.1.2.2.1, q.1.2.2.2⟩, q.2⟩, fun q => ⟨⟨h0.1, h0.2, q.1.1, q.1.2⟩, q.2⟩⟩
theorem aw_newa_boolean {x : Int32} {N : Nat} (D : decode (byt k) pc = .ok (.newarray .boolean, 2)) (hp : pc + 2 = pc2) (hN : x.toNatClampNeg = N) (h0 : ¬ x < 0 ∧ N ≤ 60000000) : AW d E K k pc L (.int x :: st) G I J ↔ (G.1 + 1 ≤ E.1 ∧ G.2.1 + N ≤ E.2) ∧ AW d E K k pc2 L (.ref G.1 :: st) (newA G 3 N) (up1 I G.1 (fun _ => 0)) J := by
  subst hp; subst hN
  refine (aw_gt ((stp_eq D rfl).trans rfl)).trans ?_
  exact ⟨fun q => ⟨⟨q.1.2.2.1, q.1.2.2.2⟩, q.2⟩, fun q => ⟨⟨h0.1, h0.2, q.1.1, q.1.2⟩, q.2⟩⟩
theorem aw_newa_long {x : Int32} {N : Nat} (D : decode (byt k) pc = .ok (.newarray .long, 2)) (hp : pc + 2 = pc2) (hN : x.toNatClampNeg = N) (h0 : ¬ x < 0 ∧ N ≤ 60000000) : AW d E K k pc L (.int x :: st) G I J ↔ (G.1 + 1 ≤ E.1 ∧ G.2.1 + N ≤ E.2) ∧ AW d E K k pc2 L (.ref G.1 :: st) (newA G 2 N) I (up1 J G.1 (fun _ => 0)) := by
  subst hp; subst hN
  refine (aw_gt ((stp_eq D rfl).trans rfl)).trans ?_
  exact ⟨fun q => ⟨⟨q.1.2.2.1, q.1.2.2.2⟩, q.2⟩, fun q => ⟨⟨h0.1, h0.2, q.1.1, q.1.2⟩, q.2⟩⟩
theorem aw_newq {y : Nat} {x : Int32} {N : Nat} (D : decode (byt k) pc = .ok (.anewarray y, 3)) (hp : pc + 3 = pc2) (hf : newT (ocl k) y = some 2) (hN : x.toNatClampNeg = N) (h0 : ¬ x < 0 ∧ N ≤ 60000000) : AW d E K k pc L (.int x :: st) G I J ↔ (G.1 + 1 ≤ E.1 ∧ G.2.1 + N ≤ E.2) ∧ AW d E K k pc2 L (.ref G.1 :: st) (newA G 4 N) I J := by
  subst hp; subst hN
  refine (aw_gt ((stp_eq D rfl).trans (show doNewQ pc (newT (ocl k) y) L _ G I J E = gteP _ (rN (pc + 3) L (.ref G.1 :: st) (newA G 4 x.toNatClampNeg) I J) by rw [hf]; exact rfl))).trans ?_
  exact ⟨fun q => ⟨⟨q.1.2.2.1, q.1.2.2.2⟩, q.2⟩, fun q => ⟨⟨h0.1, h0.2, q.1.1, q.1.2⟩, q.2⟩⟩
theorem inv_of {sort x pc0 : Nat} {kd y : Nat} (hc : calT (ocl k) x = some (kd, y)) : doInv sort pc0 (calT (ocl k) x) L st G I J = doInv sort pc0 (some (kd, y)) L st G I J := by rw [hc]
theorem doV_of {y n o : Nat} {as : List Value} {c : Nat} (hn : npr y = n) (ho : ocl y = o) (h1 : as.length = n) : doV y pc L (as ++ .ref c :: st) G = gteP (shp G c = (0, o) ∧ catS st ≤ 8) (rC y (.ref c :: as.reverse) (pc + 3) L st) := by
  unfold doV
  rw [hn, ho, ← h1, List.drop_left, List.take_left]
theorem doI_of {y n : Nat} {as : List Value} {c : Nat} (hn : npr y = n) (h1 : as.length = n) : doI y pc L (as ++ .ref c :: st) = gteP (catS st ≤ 8) (rC y (.ref c :: as.reverse) (pc + 3) L st) := by
  unfold doI
  rw [hn, ← h1, List.drop_left, List.take_left]
theorem doS_of {y n : Nat} {as : List Value} (hn : npr y = n) (h1 : as.length = n) : doS y pc L (as ++ st) = gteP (n ≤ (as ++ st).length ∧ catS st ≤ 8) (rC y as.reverse (pc + 3) L st) := by
  unfold doS
  rw [hn, ← h1, List.drop_left, List.take_left]
theorem aw_iv0_0 {x y o c : Nat} (D : decode (byt k) pc = .ok (.invokevirtual x, 3)) (hp : pc + 3 = pc2) (hc : calT (ocl k) x = some (0, y)) (hn : npr y = 0) (ho : ocl y = o) : AW d E K k pc L (.ref c :: st) G I J ↔ (shp G c = (0, o) ∧ catS st ≤ 8) ∧ ACall d y [.ref c] G I J (fun v G I J => AW d E K k pc2 L (psh v st) G I J) := by
  subst hp
  exact aw_gc ((stp_eq D rfl).trans ((inv_of (sort := 0) (pc0 := pc) hc).trans (doV_of (as := []) hn ho rfl)))
theorem aw_iv0_1 {x y o c : Nat} (D : decode (byt k) pc = .ok (.invokevirtual x, 3)) (hp : pc + 3 = pc2) (hc : calT (ocl k) x = some (1, y)) (hn : npr y = 0) (ho : ocl y = o) : AW d E K k pc L (.ref c :: st) G I J ↔ (shp G c = (0, o) ∧ catS st ≤ 8) ∧ ACall d y [.ref c] G I J (fun v G I J => AW d E K k pc2 L (psh v st) G I J) := by
  subst hp
  exact aw_gc ((stp_eq D rfl).trans ((inv_of (sort := 0) (pc0 := pc) hc).trans (doV_of (as := []) hn ho rfl)))
theorem aw_is0_2 {x y : Nat} (D : decode (byt k) pc = .ok (.invokestatic x, 3)) (hp : pc + 3 = pc2) (hc : calT (ocl k) x = some (2, y)) (hn : npr y = 0) : AW d E K k pc L (st) G I J ↔ catS st ≤ 8 ∧ ACall d y [] G I J (fun v G I J => AW d E K k pc2 L (psh v st) G I J) := by
  subst hp
  refine (aw_gc ((stp_eq D rfl).trans ((inv_of (sort := 1) (pc0 := pc) hc).trans (doS_of (as := []) hn rfl)))).trans ?_
  exact ⟨fun q => ⟨q.1.2, q.2⟩, fun q => ⟨⟨by simp, q.1⟩, q.2⟩⟩
theorem aw_is0_3 {x y : Nat} (D : decode (byt k) pc = .ok (.invokestatic x, 3)) (hp : pc + 3 = pc2) (hc : calT (ocl k) x = some (3, y)) (hn : npr y = 0) : AW d E K k pc L (st) G I J ↔ catS st ≤ 8 ∧ ACall d y [] G I J (fun v G I J => AW d E K k pc2 L (psh v st) G I J) := by
  subst hp
  refine (aw_gc ((stp_eq D rfl).trans ((inv_of (sort := 1) (pc0 := pc) hc).trans (doS_of (as := []) hn rfl)))).trans ?_
  exact ⟨fun q => ⟨q.1.2, q.2⟩, fun q => ⟨⟨by simp, q.1⟩, q.2⟩⟩
theorem aw_ii0_4 {x y c : Nat} (D : decode (byt k) pc = .ok (.invokespecial x, 3)) (hp : pc + 3 = pc2) (hc : calT (ocl k) x = some (4, y)) (hn : npr y = 0) : AW d E K k pc L (.ref c :: st) G I J ↔ catS st ≤ 8 ∧ ACall d y [.ref c] G I J (fun v G I J => AW d E K k pc2 L (psh v st) G I J) := by
  subst hp
  exact aw_gc ((stp_eq D rfl).trans ((inv_of (sort := 2) (pc0 := pc) hc).trans (doI_of (as := []) hn rfl)))
theorem aw_ii0_5 {x y c : Nat} (D : decode (byt k) pc = .ok (.invokespecial x, 3)) (hp : pc + 3 = pc2) (hc : calT (ocl k) x = some (5, y)) (hn : npr y = 0) : AW d E K k pc L (.ref c :: st) G I J ↔ catS st ≤ 8 ∧ ACall d y [.ref c] G I J (fun v G I J => AW d E K k pc2 L (psh v st) G I J) := by
  subst hp
  exact aw_gc ((stp_eq D rfl).trans ((inv_of (sort := 2) (pc0 := pc) hc).trans (doI_of (as := []) hn rfl)))
theorem aw_iv1_0 {a1 : Value} {x y o c : Nat} (D : decode (byt k) pc = .ok (.invokevirtual x, 3)) (hp : pc + 3 = pc2) (hc : calT (ocl k) x = some (0, y)) (hn : npr y = 1) (ho : ocl y = o) : AW d E K k pc L (a1 :: .ref c :: st) G I J ↔ (shp G c = (0, o) ∧ catS st ≤ 8) ∧ ACall d y [.ref c, a1] G I J (fun v G I J => AW d E K k pc2 L (psh v st) G I J) := by
  subst hp
  exact aw_gc ((stp_eq D rfl).trans ((inv_of (sort := 0) (pc0 := pc) hc).trans (doV_of (as := [a1]) hn ho rfl)))
theorem aw_iv1_1 {a1 : Value} {x y o c : Nat} (D : decode (byt k) pc = .ok (.invokevirtual x, 3)) (hp : pc + 3 = pc2) (hc : calT (ocl k) x = some (1, y)) (hn : npr y = 1) (ho : ocl y = o) : AW d E K k pc L (a1 :: .ref c :: st) G I J ↔ (shp G c = (0, o) ∧ catS st ≤ 8) ∧ ACall d y [.ref c, a1] G I J (fun v G I J => AW d E K k pc2 L (psh v st) G I J) := by
  subst hp
  exact aw_gc ((stp_eq D rfl).trans ((inv_of (sort := 0) (pc0 := pc) hc).trans (doV_of (as := [a1]) hn ho rfl)))
theorem aw_is1_2 {a1 : Value} {x y : Nat} (D : decode (byt k) pc = .ok (.invokestatic x, 3)) (hp : pc + 3 = pc2) (hc : calT (ocl k) x = some (2, y)) (hn : npr y = 1) : AW d E K k pc L (a1 :: st) G I J ↔ catS st ≤ 8 ∧ ACall d y [a1] G I J (fun v G I J => AW d E K k pc2 L (psh v st) G I J) := by
  subst hp
  refine (aw_gc ((stp_eq D rfl).trans ((inv_of (sort := 1) (pc0 := pc) hc).trans (doS_of (as := [a1]) hn rfl)))).trans ?_
  exact ⟨fun q => ⟨q.1.2, q.2⟩, fun q => ⟨⟨by simp, q.1⟩, q.2⟩⟩
theorem aw_is1_3 {a1 : Value} {x y : Nat} (D : decode (byt k) pc = .ok (.invokestatic x, 3)) (hp : pc + 3 = pc2) (hc : calT (ocl k) x = some (3, y)) (hn : npr y = 1) : AW d E K k pc L (a1 :: st) G I J ↔ catS st ≤ 8 ∧ ACall d y [a1] G I J (fun v G I J => AW d E K k pc2 L (psh v st) G I J) := by
  subst hp
  refine (aw_gc ((stp_eq D rfl).trans ((inv_of (sort := 1) (pc0 := pc) hc).trans (doS_of (as := [a1]) hn rfl)))).trans ?_
  exact ⟨fun q => ⟨q.1.2, q.2⟩, fun q => ⟨⟨by simp, q.1⟩, q.2⟩⟩
theorem aw_iv2_0 {a1 a2 : Value} {x y o c : Nat} (D : decode (byt k) pc = .ok (.invokevirtual x, 3)) (hp : pc + 3 = pc2) (hc : calT (ocl k) x = some (0, y)) (hn : npr y = 2) (ho : ocl y = o) : AW d E K k pc L (a2 :: a1 :: .ref c :: st) G I J ↔ (shp G c = (0, o) ∧ catS st ≤ 8) ∧ ACall d y [.ref c, a1, a2] G I J (fun v G I J => AW d E K k pc2 L (psh v st) G I J) := by
  subst hp
  exact aw_gc ((stp_eq D rfl).trans ((inv_of (sort := 0) (pc0 := pc) hc).trans (doV_of (as := [a2, a1]) hn ho rfl)))
theorem aw_iv2_1 {a1 a2 : Value} {x y o c : Nat} (D : decode (byt k) pc = .ok (.invokevirtual x, 3)) (hp : pc + 3 = pc2) (hc : calT (ocl k) x = some (1, y)) (hn : npr y = 2) (ho : ocl y = o) : AW d E K k pc L (a2 :: a1 :: .ref c :: st) G I J ↔ (shp G c = (0, o) ∧ catS st ≤ 8) ∧ ACall d y [.ref c, a1, a2] G I J (fun v G I J => AW d E K k pc2 L (psh v st) G I J) := by
  subst hp
  exact aw_gc ((stp_eq D rfl).trans ((inv_of (sort := 0) (pc0 := pc) hc).trans (doV_of (as := [a2, a1]) hn ho rfl)))
theorem aw_is2_2 {a1 a2 : Value} {x y : Nat} (D : decode (byt k) pc = .ok (.invokestatic x, 3)) (hp : pc + 3 = pc2) (hc : calT (ocl k) x = some (2, y)) (hn : npr y = 2) : AW d E K k pc L (a2 :: a1 :: st) G I J ↔ catS st ≤ 8 ∧ ACall d y [a1, a2] G I J (fun v G I J => AW d E K k pc2 L (psh v st) G I J) := by
  subst hp
  refine (aw_gc ((stp_eq D rfl).trans ((inv_of (sort := 1) (pc0 := pc) hc).trans (doS_of (as := [a2, a1]) hn rfl)))).trans ?_
  exact ⟨fun q => ⟨q.1.2, q.2⟩, fun q => ⟨⟨by simp, q.1⟩, q.2⟩⟩
theorem aw_is2_3 {a1 a2 : Value} {x y : Nat} (D : decode (byt k) pc = .ok (.invokestatic x, 3)) (hp : pc + 3 = pc2) (hc : calT (ocl k) x = some (3, y)) (hn : npr y = 2) : AW d E K k pc L (a2 :: a1 :: st) G I J ↔ catS st ≤ 8 ∧ ACall d y [a1, a2] G I J (fun v G I J => AW d E K k pc2 L (psh v st) G I J) := by
  subst hp
  refine (aw_gc ((stp_eq D rfl).trans ((inv_of (sort := 1) (pc0 := pc) hc).trans (doS_of (as := [a2, a1]) hn rfl)))).trans ?_
  exact ⟨fun q => ⟨q.1.2, q.2⟩, fun q => ⟨⟨by simp, q.1⟩, q.2⟩⟩
theorem aw_iv3_0 {a1 a2 a3 : Value} {x y o c : Nat} (D : decode (byt k) pc = .ok (.invokevirtual x, 3)) (hp : pc + 3 = pc2) (hc : calT (ocl k) x = some (0, y)) (hn : npr y = 3) (ho : ocl y = o) : AW d E K k pc L (a3 :: a2 :: a1 :: .ref c :: st) G I J ↔ (shp G c = (0, o) ∧ catS st ≤ 8) ∧ ACall d y [.ref c, a1, a2, a3] G I J (fun v G I J => AW d E K k pc2 L (psh v st) G I J) := by
  subst hp
  exact aw_gc ((stp_eq D rfl).trans ((inv_of (sort := 0) (pc0 := pc) hc).trans (doV_of (as := [a3, a2, a1]) hn ho rfl)))
theorem aw_iv3_1 {a1 a2 a3 : Value} {x y o c : Nat} (D : decode (byt k) pc = .ok (.invokevirtual x, 3)) (hp : pc + 3 = pc2) (hc : calT (ocl k) x = some (1, y)) (hn : npr y = 3) (ho : ocl y = o) : AW d E K k pc L (a3 :: a2 :: a1 :: .ref c :: st) G I J ↔ (shp G c = (0, o) ∧ catS st ≤ 8) ∧ ACall d y [.ref c, a1, a2, a3] G I J (fun v G I J => AW d E K k pc2 L (psh v st) G I J) := by
  subst hp
  exact aw_gc ((stp_eq D rfl).trans ((inv_of (sort := 0) (pc0 := pc) hc).trans (doV_of (as := [a3, a2, a1]) hn ho rfl)))
theorem aw_is3_2 {a1 a2 a3 : Value} {x y : Nat} (D : decode (byt k) pc = .ok (.invokestatic x, 3)) (hp : pc + 3 = pc2) (hc : calT (ocl k) x = some (2, y)) (hn : npr y = 3) : AW d E K k pc L (a3 :: a2 :: a1 :: st) G I J ↔ catS st ≤ 8 ∧ ACall d y [a1, a2, a3] G I J (fun v G I J => AW d E K k pc2 L (psh v st) G I J) := by
  subst hp
  refine (aw_gc ((stp_eq D rfl).trans ((inv_of (sort := 1) (pc0 := pc) hc).trans (doS_of (as := [a3, a2, a1]) hn rfl)))).trans ?_
  exact ⟨fun q => ⟨q.1.2, q.2⟩, fun q => ⟨⟨by simp, q.1⟩, q.2⟩⟩
theorem aw_is3_3 {a1 a2 a3 : Value} {x y : Nat} (D : decode (byt k) pc = .ok (.invokestatic x, 3)) (hp : pc + 3 = pc2) (hc : calT (ocl k) x = some (3, y)) (hn : npr y = 3) : AW d E K k pc L (a3 :: a2 :: a1 :: st) G I J ↔ catS st ≤ 8 ∧ ACall d y [a1, a2, a3] G I J (fun v G I J => AW d E K k pc2 L (psh v st) G I J) := by
  subst hp
  refine (aw_gc ((stp_eq D rfl).trans ((inv_of (sort := 1) (pc0 := pc) hc).trans (doS_of (as := [a3, a2, a1]) hn rfl)))).trans ?_
  exact ⟨fun q => ⟨q.1.2, q.2⟩, fun q => ⟨⟨by simp, q.1⟩, q.2⟩⟩
theorem aw_iv4_0 {a1 a2 a3 a4 : Value} {x y o c : Nat} (D : decode (byt k) pc = .ok (.invokevirtual x, 3)) (hp : pc + 3 = pc2) (hc : calT (ocl k) x = some (0, y)) (hn : npr y = 4) (ho : ocl y = o) : AW d E K k pc L (a4 :: a3 :: a2 :: a1 :: .ref c :: st) G I J ↔ (shp G c = (0, o) ∧ catS st ≤ 8) ∧ ACall d y [.ref c, a1, a2, a3, a4] G I J (fun v G I J => AW d E K k pc2 L (psh v st) G I J) := by
  subst hp
  exact aw_gc ((stp_eq D rfl).trans ((inv_of (sort := 0) (pc0 := pc) hc).trans (doV_of (as := [a4, a3, a2, a1]) hn ho rfl)))
theorem aw_iv4_1 {a1 a2 a3 a4 : Value} {x y o c : Nat} (D : decode (byt k) pc = .ok (.invokevirtual x, 3)) (hp : pc + 3 = pc2) (hc : calT (ocl k) x = some (1, y)) (hn : npr y = 4) (ho : ocl y = o) : AW d E K k pc L (a4 :: a3 :: a2 :: a1 :: .ref c :: st) G I J ↔ (shp G c = (0, o) ∧ catS st ≤ 8) ∧ ACall d y [.ref c, a1, a2, a3, a4] G I J (fun v G I J => AW d E K k pc2 L (psh v st) G I J) := by
  subst hp
  exact aw_gc ((stp_eq D rfl).trans ((inv_of (sort := 0) (pc0 := pc) hc).trans (doV_of (as := [a4, a3, a2, a1]) hn ho rfl)))
theorem aw_is4_2 {a1 a2 a3 a4 : Value} {x y : Nat} (D : decode (byt k) pc = .ok (.invokestatic x, 3)) (hp : pc + 3 = pc2) (hc : calT (ocl k) x = some (2, y)) (hn : npr y = 4) : AW d E K k pc L (a4 :: a3 :: a2 :: a1 :: st) G I J ↔ catS st ≤ 8 ∧ ACall d y [a1, a2, a3, a4] G I J (fun v G I J => AW d E K k pc2 L (psh v st) G I J) := by
  subst hp
  refine (aw_gc ((stp_eq D rfl).trans ((inv_of (sort := 1) (pc0 := pc) hc).trans (doS_of (as := [a4, a3, a2, a1]) hn rfl)))).trans ?_
  exact ⟨fun q => ⟨q.1.2, q.2⟩, fun q => ⟨⟨by simp, q.1⟩, q.2⟩⟩
theorem aw_is4_3 {a1 a2 a3 a4 : Value} {x y : Nat} (D : decode (byt k) pc = .ok (.invokestatic x, 3)) (hp : pc + 3 = pc2) (hc : calT (ocl k) x = some (3, y)) (hn : npr y = 4) : AW d E K k pc L (a4 :: a3 :: a2 :: a1 :: st) G I J ↔ catS st ≤ 8 ∧ ACall d y [a1, a2, a3, a4] G I J (fun v G I J => AW d E K k pc2 L (psh v st) G I J) := by
  subst hp
  refine (aw_gc ((stp_eq D rfl).trans ((inv_of (sort := 1) (pc0 := pc) hc).trans (doS_of (as := [a4, a3, a2, a1]) hn rfl)))).trans ?_
  exact ⟨fun q => ⟨q.1.2, q.2⟩, fun q => ⟨⟨by simp, q.1⟩, q.2⟩⟩
theorem aw_iv5_0 {a1 a2 a3 a4 a5 : Value} {x y o c : Nat} (D : decode (byt k) pc = .ok (.invokevirtual x, 3)) (hp : pc + 3 = pc2) (hc : calT (ocl k) x = some (0, y)) (hn : npr y = 5) (ho : ocl y = o) : AW d E K k pc L (a5 :: a4 :: a3 :: a2 :: a1 :: .ref c :: st) G I J ↔ (shp G c = (0, o) ∧ catS st ≤ 8) ∧ ACall d y [.ref c, a1, a2, a3, a4, a5] G I J (fun v G I J => AW d E K k pc2 L (psh v st) G I J) := by
  subst hp
  exact aw_gc ((stp_eq D rfl).trans ((inv_of (sort := 0) (pc0 := pc) hc).trans (doV_of (as := [a5, a4, a3, a2, a1]) hn ho rfl)))
theorem aw_iv5_1 {a1 a2 a3 a4 a5 : Value} {x y o c : Nat} (D : decode (byt k) pc = .ok (.invokevirtual x, 3)) (hp : pc + 3 = pc2) (hc : calT (ocl k) x = some (1, y)) (hn : npr y = 5) (ho : ocl y = o) : AW d E K k pc L (a5 :: a4 :: a3 :: a2 :: a1 :: .ref c :: st) G I J ↔ (shp G c = (0, o) ∧ catS st ≤ 8) ∧ ACall d y [.ref c, a1, a2, a3, a4, a5] G I J (fun v G I J => AW d E K k pc2 L (psh v st) G I J) := by
  subst hp
  exact aw_gc ((stp_eq D rfl).trans ((inv_of (sort := 0) (pc0 := pc) hc).trans (doV_of (as := [a5, a4, a3, a2, a1]) hn ho rfl)))
theorem aw_is5_2 {a1 a2 a3 a4 a5 : Value} {x y : Nat} (D : decode (byt k) pc = .ok (.invokestatic x, 3)) (hp : pc + 3 = pc2) (hc : calT (ocl k) x = some (2, y)) (hn : npr y = 5) : AW d E K k pc L (a5 :: a4 :: a3 :: a2 :: a1 :: st) G I J ↔ catS st ≤ 8 ∧ ACall d y [a1, a2, a3, a4, a5] G I J (fun v G I J => AW d E K k pc2 L (psh v st) G I J) := by
  subst hp
  refine (aw_gc ((stp_eq D rfl).trans ((inv_of (sort := 1) (pc0 := pc) hc).trans (doS_of (as := [a5, a4, a3, a2, a1]) hn rfl)))).trans ?_
  exact ⟨fun q => ⟨q.1.2, q.2⟩, fun q => ⟨⟨by simp, q.1⟩, q.2⟩⟩
theorem aw_is5_3 {a1 a2 a3 a4 a5 : Value} {x y : Nat} (D : decode (byt k) pc = .ok (.invokestatic x, 3)) (hp : pc + 3 = pc2) (hc : calT (ocl k) x = some (3, y)) (hn : npr y = 5) : AW d E K k pc L (a5 :: a4 :: a3 :: a2 :: a1 :: st) G I J ↔ catS st ≤ 8 ∧ ACall d y [a1, a2, a3, a4, a5] G I J (fun v G I J => AW d E K k pc2 L (psh v st) G I J) := by
  subst hp
  refine (aw_gc ((stp_eq D rfl).trans ((inv_of (sort := 1) (pc0 := pc) hc).trans (doS_of (as := [a5, a4, a3, a2, a1]) hn rfl)))).trans ?_
  exact ⟨fun q => ⟨q.1.2, q.2⟩, fun q => ⟨⟨by simp, q.1⟩, q.2⟩⟩
theorem aw_obj {x y c : Nat} (D : decode (byt k) pc = .ok (.invokespecial x, 3)) (hp : pc + 3 = pc2) (hc : calT (ocl k) x = some (6, y)) : AW d E K k pc L (.ref c :: st) G I J ↔ catS st ≤ 8 ∧ AW d E K k pc2 L st G I J := by
  subst hp
  exact aw_gt ((stp_eq D rfl).trans ((inv_of (sort := 2) (pc0 := pc) hc).trans rfl))
theorem aw_cpy {x y a b : Nat} {n dp sp : Int32} (D : decode (byt k) pc = .ok (.invokestatic x, 3)) (hp : pc + 3 = pc2) (hc : calT (ocl k) x = some (7, y)) : AW d E K k pc L (.int n :: .int dp :: .ref b :: .int sp :: .ref a :: st) G I J ↔ ((shp G a).1 = 1 ∧ (shp G b).1 = 1 ∧ ¬ sp < 0 ∧ ¬ dp < 0 ∧ ¬ n < 0 ∧ sp.toNatClampNeg + n.toNatClampNeg ≤ (shp G a).2 ∧ dp.toNatClampNeg + n.toNatClampNeg ≤ (shp G b).2 ∧ catS st ≤ 8) ∧ AW d E K k pc2 L st G (up1 I b (va_cpy (I a) (I b) sp.toNatClampNeg dp.toNatClampNeg n.toNatClampNeg)) J := by
  subst hp
  exact aw_gt ((stp_eq D rfl).trans ((inv_of (sort := 1) (pc0 := pc) hc).trans rfl))
theorem aw_iret {v : Int32} (D : decode (byt k) pc = .ok (.ireturn, 1)) (hr : rtc k = 1) : AW d E K k pc L [.int v] G I J ↔ (G.1 = E.1 ∧ G.2.1 = E.2) ∧ K (some (.int v)) G I J := by
  refine (aw_gr ((stp_eq D rfl).trans rfl)).trans ?_
  exact ⟨fun q => ⟨⟨q.1.1, q.1.2.1⟩, q.2⟩, fun q => ⟨⟨q.1.1, q.1.2, Or.inl hr⟩, q.2⟩⟩
theorem aw_zret {v : Int32} (D : decode (byt k) pc = .ok (.ireturn, 1)) (hr : rtc k = 2) : AW d E K k pc L [.int v] G I J ↔ (G.1 = E.1 ∧ G.2.1 = E.2 ∧ (v = 0 ∨ v = 1)) ∧ K (some (.int v)) G I J := by
  refine (aw_gr ((stp_eq D rfl).trans rfl)).trans ?_
  exact ⟨fun q => ⟨⟨q.1.1, q.1.2.1, by rcases q.1.2.2 with z | z; exact absurd (hr.symm.trans z) (by decide); exact z.2⟩, q.2⟩, fun q => ⟨⟨q.1.1, q.1.2.1, Or.inr ⟨hr, q.1.2.2⟩⟩, q.2⟩⟩
theorem aw_lret {v : Int64} (D : decode (byt k) pc = .ok (.lreturn, 1)) (hr : rtc k = 3) : AW d E K k pc L [.long v] G I J ↔ (G.1 = E.1 ∧ G.2.1 = E.2) ∧ K (some (.long v)) G I J := by
  refine (aw_gr ((stp_eq D rfl).trans rfl)).trans ?_
  exact ⟨fun q => ⟨⟨q.1.1, q.1.2.1⟩, q.2⟩, fun q => ⟨⟨q.1.1, q.1.2, hr⟩, q.2⟩⟩
theorem aw_aret {v : Nat} (D : decode (byt k) pc = .ok (.areturn, 1)) (hr : rtc k = 4) : AW d E K k pc L [.ref v] G I J ↔ (G.1 = E.1 ∧ G.2.1 = E.2) ∧ K (some (.ref v)) G I J := by
  refine (aw_gr ((stp_eq D rfl).trans rfl)).trans ?_
  exact ⟨fun q => ⟨⟨q.1.1, q.1.2.1⟩, q.2⟩, fun q => ⟨⟨q.1.1, q.1.2, hr⟩, q.2⟩⟩
theorem aw_aretN (D : decode (byt k) pc = .ok (.areturn, 1)) (hr : rtc k = 4) : AW d E K k pc L [.null] G I J ↔ (G.1 = E.1 ∧ G.2.1 = E.2) ∧ K (some .null) G I J := by
  refine (aw_gr ((stp_eq D rfl).trans rfl)).trans ?_
  exact ⟨fun q => ⟨⟨q.1.1, q.1.2.1⟩, q.2⟩, fun q => ⟨⟨q.1.1, q.1.2, hr⟩, q.2⟩⟩
theorem aw_vret (D : decode (byt k) pc = .ok (.return_, 1)) (hr : rtc k = 0) : AW d E K k pc L [] G I J ↔ (G.1 = E.1 ∧ G.2.1 = E.2) ∧ K none G I J := by
  refine (aw_gr ((stp_eq D rfl).trans rfl)).trans ?_
  exact ⟨fun q => ⟨⟨q.1.1, q.1.2.1⟩, q.2⟩, fun q => ⟨⟨q.1.1, q.1.2, hr⟩, q.2⟩⟩
theorem ACall_0 {y : Nat} {as L0 : List Value} (h : mcs y = (0, 0)) (hL : entL y as = L0) : ACall (d + 1) y as G I J K ↔ AW d (G.1, G.2.1) K y 0 L0 [] G I J := by
  rw [ACall_entry, h, hL]
  exact Iff.rfl
end AwRows
end
section
theorem D0_0 : decode (byt 0) 0 = .ok (.aload_n 0, 1) := by decide +kernel
theorem D0_1 : decode (byt 0) 1 = .ok (.invokespecial 3, 3) := by decide +kernel
theorem D0_4 : decode (byt 0) 4 = .ok (.aload_n 0, 1) := by decide +kernel
theorem D0_5 : decode (byt 0) 5 = .ok (.bipush 40, 2) := by decide +kernel
theorem D0_7 : decode (byt 0) 7 = .ok (.newarray .int, 2) := by decide +kernel
theorem D0_9 : decode (byt 0) 9 = .ok (.putfield 9, 3) := by decide +kernel
theorem D0_12 : decode (byt 0) 12 = .ok (.aload_n 0, 1) := by decide +kernel
theorem D0_13 : decode (byt 0) 13 = .ok (.bipush 24, 2) := by decide +kernel
theorem D0_15 : decode (byt 0) 15 = .ok (.newarray .int, 2) := by decide +kernel
theorem D0_17 : decode (byt 0) 17 = .ok (.putfield 15, 3) := by decide +kernel
theorem D0_20 : decode (byt 0) 20 = .ok (.aload_n 0, 1) := by decide +kernel
theorem D0_21 : decode (byt 0) 21 = .ok (.new 18, 3) := by decide +kernel
theorem D0_24 : decode (byt 0) 24 = .ok (.dup, 1) := by decide +kernel
theorem D0_25 : decode (byt 0) 25 = .ok (.invokespecial 20, 3) := by decide +kernel
theorem D0_28 : decode (byt 0) 28 = .ok (.putfield 21, 3) := by decide +kernel
theorem D0_31 : decode (byt 0) 31 = .ok (.aload_n 0, 1) := by decide +kernel
theorem D0_32 : decode (byt 0) 32 = .ok (.new 25, 3) := by decide +kernel
theorem D0_35 : decode (byt 0) 35 = .ok (.dup, 1) := by decide +kernel
theorem D0_36 : decode (byt 0) 36 = .ok (.invokespecial 27, 3) := by decide +kernel
theorem D0_39 : decode (byt 0) 39 = .ok (.putfield 28, 3) := by decide +kernel
theorem D0_42 : decode (byt 0) 42 = .ok (.aload_n 0, 1) := by decide +kernel
theorem D0_43 : decode (byt 0) 43 = .ok (.iconst 0, 1) := by decide +kernel
theorem D0_44 : decode (byt 0) 44 = .ok (.putfield 32, 3) := by decide +kernel
theorem D0_47 : decode (byt 0) 47 = .ok (.aload_n 0, 1) := by decide +kernel
theorem D0_48 : decode (byt 0) 48 = .ok (.iconst 0, 1) := by decide +kernel
theorem D0_49 : decode (byt 0) 49 = .ok (.putfield 36, 3) := by decide +kernel
theorem D0_52 : decode (byt 0) 52 = .ok (.aload_n 0, 1) := by decide +kernel
theorem D0_53 : decode (byt 0) 53 = .ok (.iconst 0, 1) := by decide +kernel
theorem D0_54 : decode (byt 0) 54 = .ok (.putfield 39, 3) := by decide +kernel
theorem D0_57 : decode (byt 0) 57 = .ok (.aload_n 0, 1) := by decide +kernel
theorem D0_58 : decode (byt 0) 58 = .ok (.iconst 0, 1) := by decide +kernel
theorem D0_59 : decode (byt 0) 59 = .ok (.putfield 42, 3) := by decide +kernel
theorem D0_62 : decode (byt 0) 62 = .ok (.aload_n 0, 1) := by decide +kernel
theorem D0_63 : decode (byt 0) 63 = .ok (.iconst 0, 1) := by decide +kernel
theorem D0_64 : decode (byt 0) 64 = .ok (.putfield 45, 3) := by decide +kernel
theorem D0_67 : decode (byt 0) 67 = .ok (.aload_n 0, 1) := by decide +kernel
theorem D0_68 : decode (byt 0) 68 = .ok (.bipush 8, 2) := by decide +kernel
theorem D0_70 : decode (byt 0) 70 = .ok (.invokevirtual 49, 3) := by decide +kernel
theorem D0_73 : decode (byt 0) 73 = .ok (.return_, 1) := by decide +kernel
theorem D1_0 : decode (byt 1) 0 = .ok (.aload_n 0, 1) := by decide +kernel
theorem D1_1 : decode (byt 1) 1 = .ok (.iload_n 1, 1) := by decide +kernel
theorem D1_2 : decode (byt 1) 2 = .ok (.putfield 32, 3) := by decide +kernel
theorem D1_5 : decode (byt 1) 5 = .ok (.aload_n 0, 1) := by decide +kernel
theorem D1_6 : decode (byt 1) 6 = .ok (.iconst 0, 1) := by decide +kernel
theorem D1_7 : decode (byt 1) 7 = .ok (.putfield 36, 3) := by decide +kernel
theorem D1_10 : decode (byt 1) 10 = .ok (.aload_n 0, 1) := by decide +kernel
theorem D1_11 : decode (byt 1) 11 = .ok (.iconst 0, 1) := by decide +kernel
theorem D1_12 : decode (byt 1) 12 = .ok (.putfield 39, 3) := by decide +kernel
theorem D1_15 : decode (byt 1) 15 = .ok (.aload_n 0, 1) := by decide +kernel
theorem D1_16 : decode (byt 1) 16 = .ok (.iconst 0, 1) := by decide +kernel
theorem D1_17 : decode (byt 1) 17 = .ok (.putfield 42, 3) := by decide +kernel
theorem D1_20 : decode (byt 1) 20 = .ok (.aload_n 0, 1) := by decide +kernel
theorem D1_21 : decode (byt 1) 21 = .ok (.iconst 0, 1) := by decide +kernel
theorem D1_22 : decode (byt 1) 22 = .ok (.putfield 45, 3) := by decide +kernel
theorem D1_25 : decode (byt 1) 25 = .ok (.iconst 0, 1) := by decide +kernel
theorem D1_26 : decode (byt 1) 26 = .ok (.istore_n 2, 1) := by decide +kernel
theorem D1_27 : decode (byt 1) 27 = .ok (.iload_n 2, 1) := by decide +kernel
theorem D1_28 : decode (byt 1) 28 = .ok (.aload_n 0, 1) := by decide +kernel
theorem D1_29 : decode (byt 1) 29 = .ok (.getfield 15, 3) := by decide +kernel
theorem D1_32 : decode (byt 1) 32 = .ok (.arraylength, 1) := by decide +kernel
theorem D1_33 : decode (byt 1) 33 = .ok (.if_icmp .ge 16, 3) := by decide +kernel
theorem D1_36 : decode (byt 1) 36 = .ok (.aload_n 0, 1) := by decide +kernel
theorem D1_37 : decode (byt 1) 37 = .ok (.getfield 15, 3) := by decide +kernel
theorem D1_40 : decode (byt 1) 40 = .ok (.iload_n 2, 1) := by decide +kernel
theorem D1_41 : decode (byt 1) 41 = .ok (.iconst 1, 1) := by decide +kernel
theorem D1_42 : decode (byt 1) 42 = .ok (.iastore, 1) := by decide +kernel
theorem D1_43 : decode (byt 1) 43 = .ok (.iinc 2 1, 3) := by decide +kernel
theorem D1_46 : decode (byt 1) 46 = .ok (.goto (-19), 3) := by decide +kernel
theorem D1_49 : decode (byt 1) 49 = .ok (.return_, 1) := by decide +kernel
theorem D2_0 : decode (byt 2) 0 = .ok (.iconst 1, 1) := by decide +kernel
theorem D2_1 : decode (byt 2) 1 = .ok (.aload_n 0, 1) := by decide +kernel
theorem D2_2 : decode (byt 2) 2 = .ok (.getfield 32, 3) := by decide +kernel
theorem D2_5 : decode (byt 2) 5 = .ok (.ishl, 1) := by decide +kernel
theorem D2_6 : decode (byt 2) 6 = .ok (.ireturn, 1) := by decide +kernel
theorem D3_0 : decode (byt 3) 0 = .ok (.iload_n 1, 1) := by decide +kernel
theorem D3_1 : decode (byt 3) 1 = .ok (.iconst 1, 1) := by decide +kernel
theorem D3_2 : decode (byt 3) 2 = .ok (.if_icmp .lt 15, 3) := by decide +kernel
theorem D3_5 : decode (byt 3) 5 = .ok (.iload_n 1, 1) := by decide +kernel
theorem D3_6 : decode (byt 3) 6 = .ok (.aload_n 0, 1) := by decide +kernel
theorem D3_7 : decode (byt 3) 7 = .ok (.getfield 32, 3) := by decide +kernel
theorem D3_10 : decode (byt 3) 10 = .ok (.if_icmp .gt 7, 3) := by decide +kernel
theorem D3_13 : decode (byt 3) 13 = .ok (.iconst 1, 1) := by decide +kernel
theorem D3_14 : decode (byt 3) 14 = .ok (.goto 4, 3) := by decide +kernel
theorem D3_17 : decode (byt 3) 17 = .ok (.iconst 0, 1) := by decide +kernel
theorem D3_18 : decode (byt 3) 18 = .ok (.ireturn, 1) := by decide +kernel
theorem D4_0 : decode (byt 4) 0 = .ok (.iload_n 1, 1) := by decide +kernel
theorem D4_1 : decode (byt 4) 1 = .ok (.ifCond .eq 15, 3) := by decide +kernel
theorem D4_4 : decode (byt 4) 4 = .ok (.aload_n 0, 1) := by decide +kernel
theorem D4_5 : decode (byt 4) 5 = .ok (.iload_n 1, 1) := by decide +kernel
theorem D4_6 : decode (byt 4) 6 = .ok (.invokevirtual 53, 3) := by decide +kernel
theorem D4_9 : decode (byt 4) 9 = .ok (.ifCond .eq 7, 3) := by decide +kernel
theorem D4_12 : decode (byt 4) 12 = .ok (.iconst 1, 1) := by decide +kernel
theorem D4_13 : decode (byt 4) 13 = .ok (.goto 4, 3) := by decide +kernel
theorem D4_16 : decode (byt 4) 16 = .ok (.iconst 0, 1) := by decide +kernel
theorem D4_17 : decode (byt 4) 17 = .ok (.ireturn, 1) := by decide +kernel
theorem D5_0 : decode (byt 5) 0 = .ok (.iload_n 1, 1) := by decide +kernel
theorem D5_1 : decode (byt 5) 1 = .ok (.aload_n 0, 1) := by decide +kernel
theorem D5_2 : decode (byt 5) 2 = .ok (.getfield 32, 3) := by decide +kernel
theorem D5_5 : decode (byt 5) 5 = .ok (.ineg, 1) := by decide +kernel
theorem D5_6 : decode (byt 5) 6 = .ok (.if_icmp .lt 15, 3) := by decide +kernel
theorem D5_9 : decode (byt 5) 9 = .ok (.iload_n 1, 1) := by decide +kernel
theorem D5_10 : decode (byt 5) 10 = .ok (.aload_n 0, 1) := by decide +kernel
theorem D5_11 : decode (byt 5) 11 = .ok (.getfield 32, 3) := by decide +kernel
theorem D5_14 : decode (byt 5) 14 = .ok (.if_icmp .gt 7, 3) := by decide +kernel
theorem D5_17 : decode (byt 5) 17 = .ok (.iconst 1, 1) := by decide +kernel
theorem D5_18 : decode (byt 5) 18 = .ok (.goto 4, 3) := by decide +kernel
theorem D5_21 : decode (byt 5) 21 = .ok (.iconst 0, 1) := by decide +kernel
theorem D5_22 : decode (byt 5) 22 = .ok (.ireturn, 1) := by decide +kernel
theorem D6_0 : decode (byt 6) 0 = .ok (.iload_n 1, 1) := by decide +kernel
theorem D6_1 : decode (byt 6) 1 = .ok (.ifCond .lt 21, 3) := by decide +kernel
theorem D6_4 : decode (byt 6) 4 = .ok (.iload_n 1, 1) := by decide +kernel
theorem D6_5 : decode (byt 6) 5 = .ok (.aload_n 0, 1) := by decide +kernel
theorem D6_6 : decode (byt 6) 6 = .ok (.getfield 9, 3) := by decide +kernel
theorem D6_9 : decode (byt 6) 9 = .ok (.arraylength, 1) := by decide +kernel
theorem D6_10 : decode (byt 6) 10 = .ok (.if_icmp .ge 12, 3) := by decide +kernel
theorem D6_13 : decode (byt 6) 13 = .ok (.aload_n 0, 1) := by decide +kernel
theorem D6_14 : decode (byt 6) 14 = .ok (.getfield 9, 3) := by decide +kernel
theorem D6_17 : decode (byt 6) 17 = .ok (.iload_n 1, 1) := by decide +kernel
theorem D6_18 : decode (byt 6) 18 = .ok (.iaload, 1) := by decide +kernel
theorem D6_19 : decode (byt 6) 19 = .ok (.goto 4, 3) := by decide +kernel
theorem D6_22 : decode (byt 6) 22 = .ok (.iconst 0, 1) := by decide +kernel
theorem D6_23 : decode (byt 6) 23 = .ok (.ireturn, 1) := by decide +kernel
theorem D7_0 : decode (byt 7) 0 = .ok (.aload_n 0, 1) := by decide +kernel
theorem D7_1 : decode (byt 7) 1 = .ok (.getfield 36, 3) := by decide +kernel
theorem D7_4 : decode (byt 7) 4 = .ok (.aload_n 0, 1) := by decide +kernel
theorem D7_5 : decode (byt 7) 5 = .ok (.getfield 9, 3) := by decide +kernel
theorem D7_8 : decode (byt 7) 8 = .ok (.arraylength, 1) := by decide +kernel
theorem D7_9 : decode (byt 7) 9 = .ok (.if_icmp .ge 28, 3) := by decide +kernel
theorem D7_12 : decode (byt 7) 12 = .ok (.aload_n 0, 1) := by decide +kernel
theorem D7_13 : decode (byt 7) 13 = .ok (.getfield 9, 3) := by decide +kernel
theorem D7_16 : decode (byt 7) 16 = .ok (.aload_n 0, 1) := by decide +kernel
theorem D7_17 : decode (byt 7) 17 = .ok (.getfield 36, 3) := by decide +kernel
theorem D7_20 : decode (byt 7) 20 = .ok (.iload_n 1, 1) := by decide +kernel
theorem D7_21 : decode (byt 7) 21 = .ok (.iastore, 1) := by decide +kernel
theorem D7_22 : decode (byt 7) 22 = .ok (.aload_n 0, 1) := by decide +kernel
theorem D7_23 : decode (byt 7) 23 = .ok (.dup, 1) := by decide +kernel
theorem D7_24 : decode (byt 7) 24 = .ok (.getfield 36, 3) := by decide +kernel
theorem D7_27 : decode (byt 7) 27 = .ok (.iconst 1, 1) := by decide +kernel
theorem D7_28 : decode (byt 7) 28 = .ok (.iadd, 1) := by decide +kernel
theorem D7_29 : decode (byt 7) 29 = .ok (.putfield 36, 3) := by decide +kernel
theorem D7_32 : decode (byt 7) 32 = .ok (.aload_n 0, 1) := by decide +kernel
theorem D7_33 : decode (byt 7) 33 = .ok (.iconst 0, 1) := by decide +kernel
theorem D7_34 : decode (byt 7) 34 = .ok (.putfield 45, 3) := by decide +kernel
theorem D7_37 : decode (byt 7) 37 = .ok (.return_, 1) := by decide +kernel
theorem D8_0 : decode (byt 8) 0 = .ok (.aload_n 0, 1) := by decide +kernel
theorem D8_1 : decode (byt 8) 1 = .ok (.getfield 36, 3) := by decide +kernel
theorem D8_4 : decode (byt 8) 4 = .ok (.ifCond .le 35, 3) := by decide +kernel
theorem D8_7 : decode (byt 8) 7 = .ok (.aload_n 0, 1) := by decide +kernel
theorem D8_8 : decode (byt 8) 8 = .ok (.getfield 36, 3) := by decide +kernel
theorem D8_11 : decode (byt 8) 11 = .ok (.aload_n 0, 1) := by decide +kernel
theorem D8_12 : decode (byt 8) 12 = .ok (.getfield 9, 3) := by decide +kernel
theorem D8_15 : decode (byt 8) 15 = .ok (.arraylength, 1) := by decide +kernel
theorem D8_16 : decode (byt 8) 16 = .ok (.if_icmp .gt 23, 3) := by decide +kernel
theorem D8_19 : decode (byt 8) 19 = .ok (.aload_n 0, 1) := by decide +kernel
theorem D8_20 : decode (byt 8) 20 = .ok (.getfield 9, 3) := by decide +kernel
theorem D8_23 : decode (byt 8) 23 = .ok (.aload_n 0, 1) := by decide +kernel
theorem D8_24 : decode (byt 8) 24 = .ok (.getfield 36, 3) := by decide +kernel
theorem D8_27 : decode (byt 8) 27 = .ok (.iconst 1, 1) := by decide +kernel
theorem D8_28 : decode (byt 8) 28 = .ok (.isub, 1) := by decide +kernel
theorem D8_29 : decode (byt 8) 29 = .ok (.dup2, 1) := by decide +kernel
theorem D8_30 : decode (byt 8) 30 = .ok (.iaload, 1) := by decide +kernel
theorem D8_31 : decode (byt 8) 31 = .ok (.iload_n 1, 1) := by decide +kernel
theorem D8_32 : decode (byt 8) 32 = .ok (.ior, 1) := by decide +kernel
theorem D8_33 : decode (byt 8) 33 = .ok (.iastore, 1) := by decide +kernel
theorem D8_34 : decode (byt 8) 34 = .ok (.aload_n 0, 1) := by decide +kernel
theorem D8_35 : decode (byt 8) 35 = .ok (.iconst 0, 1) := by decide +kernel
theorem D8_36 : decode (byt 8) 36 = .ok (.putfield 45, 3) := by decide +kernel
theorem D8_39 : decode (byt 8) 39 = .ok (.return_, 1) := by decide +kernel
theorem D9_0 : decode (byt 9) 0 = .ok (.aload_n 0, 1) := by decide +kernel
theorem D9_1 : decode (byt 9) 1 = .ok (.getfield 36, 3) := by decide +kernel
theorem D9_4 : decode (byt 9) 4 = .ok (.ifCond .le 18, 3) := by decide +kernel
theorem D9_7 : decode (byt 9) 7 = .ok (.aload_n 0, 1) := by decide +kernel
theorem D9_8 : decode (byt 9) 8 = .ok (.dup, 1) := by decide +kernel
theorem D9_9 : decode (byt 9) 9 = .ok (.getfield 36, 3) := by decide +kernel
theorem D9_12 : decode (byt 9) 12 = .ok (.iconst 1, 1) := by decide +kernel
theorem D9_13 : decode (byt 9) 13 = .ok (.isub, 1) := by decide +kernel
theorem D9_14 : decode (byt 9) 14 = .ok (.putfield 36, 3) := by decide +kernel
theorem D9_17 : decode (byt 9) 17 = .ok (.aload_n 0, 1) := by decide +kernel
theorem D9_18 : decode (byt 9) 18 = .ok (.iconst 0, 1) := by decide +kernel
theorem D9_19 : decode (byt 9) 19 = .ok (.putfield 45, 3) := by decide +kernel
theorem D9_22 : decode (byt 9) 22 = .ok (.return_, 1) := by decide +kernel
theorem D10_0 : decode (byt 10) 0 = .ok (.aload_n 0, 1) := by decide +kernel
theorem D10_1 : decode (byt 10) 1 = .ok (.iload_n 1, 1) := by decide +kernel
theorem D10_2 : decode (byt 10) 2 = .ok (.invokevirtual 57, 3) := by decide +kernel
theorem D10_5 : decode (byt 10) 5 = .ok (.ifCond .eq 15, 3) := by decide +kernel
theorem D10_8 : decode (byt 10) 8 = .ok (.aload_n 0, 1) := by decide +kernel
theorem D10_9 : decode (byt 10) 9 = .ok (.getfield 15, 3) := by decide +kernel
theorem D10_12 : decode (byt 10) 12 = .ok (.iload_n 1, 1) := by decide +kernel
theorem D10_13 : decode (byt 10) 13 = .ok (.invokestatic 60, 3) := by decide +kernel
theorem D10_16 : decode (byt 10) 16 = .ok (.iaload, 1) := by decide +kernel
theorem D10_17 : decode (byt 10) 17 = .ok (.goto 4, 3) := by decide +kernel
theorem D10_20 : decode (byt 10) 20 = .ok (.iconst 1, 1) := by decide +kernel
theorem D10_21 : decode (byt 10) 21 = .ok (.ireturn, 1) := by decide +kernel
theorem D11_0 : decode (byt 11) 0 = .ok (.aload_n 0, 1) := by decide +kernel
theorem D11_1 : decode (byt 11) 1 = .ok (.iload_n 1, 1) := by decide +kernel
theorem D11_2 : decode (byt 11) 2 = .ok (.invokevirtual 57, 3) := by decide +kernel
theorem D11_5 : decode (byt 11) 5 = .ok (.ifCond .eq 13, 3) := by decide +kernel
theorem D11_8 : decode (byt 11) 8 = .ok (.aload_n 0, 1) := by decide +kernel
theorem D11_9 : decode (byt 11) 9 = .ok (.getfield 15, 3) := by decide +kernel
theorem D11_12 : decode (byt 11) 12 = .ok (.iload_n 1, 1) := by decide +kernel
theorem D11_13 : decode (byt 11) 13 = .ok (.invokestatic 60, 3) := by decide +kernel
theorem D11_16 : decode (byt 11) 16 = .ok (.iload_n 2, 1) := by decide +kernel
theorem D11_17 : decode (byt 11) 17 = .ok (.iastore, 1) := by decide +kernel
theorem D11_18 : decode (byt 11) 18 = .ok (.return_, 1) := by decide +kernel
theorem D12_0 : decode (byt 12) 0 = .ok (.lconst 1, 1) := by decide +kernel
theorem D12_1 : decode (byt 12) 1 = .ok (.lstore_n 2, 1) := by decide +kernel
theorem D12_2 : decode (byt 12) 2 = .ok (.iconst 1, 1) := by decide +kernel
theorem D12_3 : decode (byt 12) 3 = .ok (.istore 4, 2) := by decide +kernel
theorem D12_5 : decode (byt 12) 5 = .ok (.iload 4, 2) := by decide +kernel
theorem D12_7 : decode (byt 12) 7 = .ok (.aload_n 0, 1) := by decide +kernel
theorem D12_8 : decode (byt 12) 8 = .ok (.getfield 32, 3) := by decide +kernel
theorem D12_11 : decode (byt 12) 11 = .ok (.if_icmp .gt 51, 3) := by decide +kernel
theorem D12_14 : decode (byt 12) 14 = .ok (.iload_n 1, 1) := by decide +kernel
theorem D12_15 : decode (byt 12) 15 = .ok (.aload_n 0, 1) := by decide +kernel
theorem D12_16 : decode (byt 12) 16 = .ok (.getfield 32, 3) := by decide +kernel
theorem D12_19 : decode (byt 12) 19 = .ok (.iload 4, 2) := by decide +kernel
theorem D12_21 : decode (byt 12) 21 = .ok (.isub, 1) := by decide +kernel
theorem D12_22 : decode (byt 12) 22 = .ok (.ishr, 1) := by decide +kernel
theorem D12_23 : decode (byt 12) 23 = .ok (.iconst 1, 1) := by decide +kernel
theorem D12_24 : decode (byt 12) 24 = .ok (.iand, 1) := by decide +kernel
theorem D12_25 : decode (byt 12) 25 = .ok (.ifCond .eq 7, 3) := by decide +kernel
theorem D12_28 : decode (byt 12) 28 = .ok (.iconst 1, 1) := by decide +kernel
theorem D12_29 : decode (byt 12) 29 = .ok (.goto 4, 3) := by decide +kernel
theorem D12_32 : decode (byt 12) 32 = .ok (.iconst 0, 1) := by decide +kernel
theorem D12_33 : decode (byt 12) 33 = .ok (.istore 5, 2) := by decide +kernel
theorem D12_35 : decode (byt 12) 35 = .ok (.lload_n 2, 1) := by decide +kernel
theorem D12_36 : decode (byt 12) 36 = .ok (.aload_n 0, 1) := by decide +kernel
theorem D12_37 : decode (byt 12) 37 = .ok (.iload 5, 2) := by decide +kernel
theorem D12_39 : decode (byt 12) 39 = .ok (.ifCond .eq 8, 3) := by decide +kernel
theorem D12_42 : decode (byt 12) 42 = .ok (.iload 4, 2) := by decide +kernel
theorem D12_44 : decode (byt 12) 44 = .ok (.goto 6, 3) := by decide +kernel
theorem D12_47 : decode (byt 12) 47 = .ok (.iload 4, 2) := by decide +kernel
theorem D12_49 : decode (byt 12) 49 = .ok (.ineg, 1) := by decide +kernel
theorem D12_50 : decode (byt 12) 50 = .ok (.invokevirtual 64, 3) := by decide +kernel
theorem D12_53 : decode (byt 12) 53 = .ok (.i2l, 1) := by decide +kernel
theorem D12_54 : decode (byt 12) 54 = .ok (.lmul, 1) := by decide +kernel
theorem D12_55 : decode (byt 12) 55 = .ok (.lstore_n 2, 1) := by decide +kernel
theorem D12_56 : decode (byt 12) 56 = .ok (.iinc 4 1, 3) := by decide +kernel
theorem D12_59 : decode (byt 12) 59 = .ok (.goto (-54), 3) := by decide +kernel
theorem D12_62 : decode (byt 12) 62 = .ok (.lload_n 2, 1) := by decide +kernel
theorem D12_63 : decode (byt 12) 63 = .ok (.lreturn, 1) := by decide +kernel
theorem D13_0 : decode (byt 13) 0 = .ok (.aload_n 1, 1) := by decide +kernel
theorem D13_1 : decode (byt 13) 1 = .ok (.arraylength, 1) := by decide +kernel
theorem D13_2 : decode (byt 13) 2 = .ok (.aload_n 0, 1) := by decide +kernel
theorem D13_3 : decode (byt 13) 3 = .ok (.invokevirtual 67, 3) := by decide +kernel
theorem D13_6 : decode (byt 13) 6 = .ok (.if_icmp .ge 4, 3) := by decide +kernel
theorem D13_9 : decode (byt 13) 9 = .ok (.return_, 1) := by decide +kernel
theorem D13_10 : decode (byt 13) 10 = .ok (.aload_n 1, 1) := by decide +kernel
theorem D13_11 : decode (byt 13) 11 = .ok (.iconst 0, 1) := by decide +kernel
theorem D13_12 : decode (byt 13) 12 = .ok (.lconst 1, 1) := by decide +kernel
theorem D13_13 : decode (byt 13) 13 = .ok (.lastore, 1) := by decide +kernel
theorem D13_14 : decode (byt 13) 14 = .ok (.iconst 1, 1) := by decide +kernel
theorem D13_15 : decode (byt 13) 15 = .ok (.istore_n 2, 1) := by decide +kernel
theorem D13_16 : decode (byt 13) 16 = .ok (.aload_n 0, 1) := by decide +kernel
theorem D13_17 : decode (byt 13) 17 = .ok (.getfield 32, 3) := by decide +kernel
theorem D13_20 : decode (byt 13) 20 = .ok (.istore_n 3, 1) := by decide +kernel
theorem D13_21 : decode (byt 13) 21 = .ok (.iload_n 3, 1) := by decide +kernel
theorem D13_22 : decode (byt 13) 22 = .ok (.iconst 1, 1) := by decide +kernel
theorem D13_23 : decode (byt 13) 23 = .ok (.if_icmp .lt 67, 3) := by decide +kernel
theorem D13_26 : decode (byt 13) 26 = .ok (.aload_n 0, 1) := by decide +kernel
theorem D13_27 : decode (byt 13) 27 = .ok (.iload_n 3, 1) := by decide +kernel
theorem D13_28 : decode (byt 13) 28 = .ok (.invokevirtual 64, 3) := by decide +kernel
theorem D13_31 : decode (byt 13) 31 = .ok (.istore 4, 2) := by decide +kernel
theorem D13_33 : decode (byt 13) 33 = .ok (.aload_n 0, 1) := by decide +kernel
theorem D13_34 : decode (byt 13) 34 = .ok (.iload_n 3, 1) := by decide +kernel
theorem D13_35 : decode (byt 13) 35 = .ok (.ineg, 1) := by decide +kernel
theorem D13_36 : decode (byt 13) 36 = .ok (.invokevirtual 64, 3) := by decide +kernel
theorem D13_39 : decode (byt 13) 39 = .ok (.istore 5, 2) := by decide +kernel
theorem D13_41 : decode (byt 13) 41 = .ok (.iconst 0, 1) := by decide +kernel
theorem D13_42 : decode (byt 13) 42 = .ok (.istore 6, 2) := by decide +kernel
theorem D13_44 : decode (byt 13) 44 = .ok (.iload 6, 2) := by decide +kernel
theorem D13_46 : decode (byt 13) 46 = .ok (.iload_n 2, 1) := by decide +kernel
theorem D13_47 : decode (byt 13) 47 = .ok (.if_icmp .ge 33, 3) := by decide +kernel
theorem D13_50 : decode (byt 13) 50 = .ok (.aload_n 1, 1) := by decide +kernel
theorem D13_51 : decode (byt 13) 51 = .ok (.iload_n 2, 1) := by decide +kernel
theorem D13_52 : decode (byt 13) 52 = .ok (.iload 6, 2) := by decide +kernel
theorem D13_54 : decode (byt 13) 54 = .ok (.iadd, 1) := by decide +kernel
theorem D13_55 : decode (byt 13) 55 = .ok (.aload_n 1, 1) := by decide +kernel
theorem D13_56 : decode (byt 13) 56 = .ok (.iload 6, 2) := by decide +kernel
theorem D13_58 : decode (byt 13) 58 = .ok (.laload, 1) := by decide +kernel
theorem D13_59 : decode (byt 13) 59 = .ok (.iload 4, 2) := by decide +kernel
theorem D13_61 : decode (byt 13) 61 = .ok (.i2l, 1) := by decide +kernel
theorem D13_62 : decode (byt 13) 62 = .ok (.lmul, 1) := by decide +kernel
theorem D13_63 : decode (byt 13) 63 = .ok (.lastore, 1) := by decide +kernel
theorem D13_64 : decode (byt 13) 64 = .ok (.aload_n 1, 1) := by decide +kernel
theorem D13_65 : decode (byt 13) 65 = .ok (.iload 6, 2) := by decide +kernel
theorem D13_67 : decode (byt 13) 67 = .ok (.dup2, 1) := by decide +kernel
theorem D13_68 : decode (byt 13) 68 = .ok (.laload, 1) := by decide +kernel
theorem D13_69 : decode (byt 13) 69 = .ok (.iload 5, 2) := by decide +kernel
theorem D13_71 : decode (byt 13) 71 = .ok (.i2l, 1) := by decide +kernel
theorem D13_72 : decode (byt 13) 72 = .ok (.lmul, 1) := by decide +kernel
theorem D13_73 : decode (byt 13) 73 = .ok (.lastore, 1) := by decide +kernel
theorem D13_74 : decode (byt 13) 74 = .ok (.iinc 6 1, 3) := by decide +kernel
theorem D13_77 : decode (byt 13) 77 = .ok (.goto (-33), 3) := by decide +kernel
theorem D13_80 : decode (byt 13) 80 = .ok (.iload_n 2, 1) := by decide +kernel
theorem D13_81 : decode (byt 13) 81 = .ok (.iconst 2, 1) := by decide +kernel
theorem D13_82 : decode (byt 13) 82 = .ok (.imul, 1) := by decide +kernel
theorem D13_83 : decode (byt 13) 83 = .ok (.istore_n 2, 1) := by decide +kernel
theorem D13_84 : decode (byt 13) 84 = .ok (.iinc 3 (-1), 3) := by decide +kernel
theorem D13_87 : decode (byt 13) 87 = .ok (.goto (-66), 3) := by decide +kernel
theorem D13_90 : decode (byt 13) 90 = .ok (.return_, 1) := by decide +kernel
theorem D14_0 : decode (byt 14) 0 = .ok (.iconst 0, 1) := by decide +kernel
theorem D14_1 : decode (byt 14) 1 = .ok (.istore_n 1, 1) := by decide +kernel
theorem D14_2 : decode (byt 14) 2 = .ok (.iconst 1, 1) := by decide +kernel
theorem D14_3 : decode (byt 14) 3 = .ok (.istore_n 2, 1) := by decide +kernel
theorem D14_4 : decode (byt 14) 4 = .ok (.iload_n 2, 1) := by decide +kernel
theorem D14_5 : decode (byt 14) 5 = .ok (.aload_n 0, 1) := by decide +kernel
theorem D14_6 : decode (byt 14) 6 = .ok (.getfield 32, 3) := by decide +kernel
theorem D14_9 : decode (byt 14) 9 = .ok (.if_icmp .gt 32, 3) := by decide +kernel
theorem D14_12 : decode (byt 14) 12 = .ok (.aload_n 0, 1) := by decide +kernel
theorem D14_13 : decode (byt 14) 13 = .ok (.getfield 39, 3) := by decide +kernel
theorem D14_16 : decode (byt 14) 16 = .ok (.iload_n 2, 1) := by decide +kernel
theorem D14_17 : decode (byt 14) 17 = .ok (.invokestatic 71, 3) := by decide +kernel
theorem D14_20 : decode (byt 14) 20 = .ok (.iand, 1) := by decide +kernel
theorem D14_21 : decode (byt 14) 21 = .ok (.ifCond .eq 14, 3) := by decide +kernel
theorem D14_24 : decode (byt 14) 24 = .ok (.iload_n 1, 1) := by decide +kernel
theorem D14_25 : decode (byt 14) 25 = .ok (.iconst 1, 1) := by decide +kernel
theorem D14_26 : decode (byt 14) 26 = .ok (.aload_n 0, 1) := by decide +kernel
theorem D14_27 : decode (byt 14) 27 = .ok (.getfield 32, 3) := by decide +kernel
theorem D14_30 : decode (byt 14) 30 = .ok (.iload_n 2, 1) := by decide +kernel
theorem D14_31 : decode (byt 14) 31 = .ok (.isub, 1) := by decide +kernel
theorem D14_32 : decode (byt 14) 32 = .ok (.ishl, 1) := by decide +kernel
theorem D14_33 : decode (byt 14) 33 = .ok (.ior, 1) := by decide +kernel
theorem D14_34 : decode (byt 14) 34 = .ok (.istore_n 1, 1) := by decide +kernel
theorem D14_35 : decode (byt 14) 35 = .ok (.iinc 2 1, 3) := by decide +kernel
theorem D14_38 : decode (byt 14) 38 = .ok (.goto (-34), 3) := by decide +kernel
theorem D14_41 : decode (byt 14) 41 = .ok (.iload_n 1, 1) := by decide +kernel
theorem D14_42 : decode (byt 14) 42 = .ok (.ireturn, 1) := by decide +kernel
theorem D15_0 : decode (byt 15) 0 = .ok (.aload_n 0, 1) := by decide +kernel
theorem D15_1 : decode (byt 15) 1 = .ok (.getfield 28, 3) := by decide +kernel
theorem D15_4 : decode (byt 15) 4 = .ok (.aload_n 0, 1) := by decide +kernel
theorem D15_5 : decode (byt 15) 5 = .ok (.getfield 21, 3) := by decide +kernel
theorem D15_8 : decode (byt 15) 8 = .ok (.aload_n 0, 1) := by decide +kernel
theorem D15_9 : decode (byt 15) 9 = .ok (.getfield 32, 3) := by decide +kernel
theorem D15_12 : decode (byt 15) 12 = .ok (.invokevirtual 74, 3) := by decide +kernel
theorem D15_15 : decode (byt 15) 15 = .ok (.invokevirtual 78, 3) := by decide +kernel
theorem D15_18 : decode (byt 15) 18 = .ok (.iconst 1, 1) := by decide +kernel
theorem D15_19 : decode (byt 15) 19 = .ok (.istore_n 1, 1) := by decide +kernel
theorem D15_20 : decode (byt 15) 20 = .ok (.iload_n 1, 1) := by decide +kernel
theorem D15_21 : decode (byt 15) 21 = .ok (.aload_n 0, 1) := by decide +kernel
theorem D15_22 : decode (byt 15) 22 = .ok (.getfield 32, 3) := by decide +kernel
theorem D15_25 : decode (byt 15) 25 = .ok (.if_icmp .gt 54, 3) := by decide +kernel
theorem D15_28 : decode (byt 15) 28 = .ok (.aload_n 0, 1) := by decide +kernel
theorem D15_29 : decode (byt 15) 29 = .ok (.getfield 42, 3) := by decide +kernel
theorem D15_32 : decode (byt 15) 32 = .ok (.iload_n 1, 1) := by decide +kernel
theorem D15_33 : decode (byt 15) 33 = .ok (.invokestatic 71, 3) := by decide +kernel
theorem D15_36 : decode (byt 15) 36 = .ok (.iand, 1) := by decide +kernel
theorem D15_37 : decode (byt 15) 37 = .ok (.ifCond .eq 14, 3) := by decide +kernel
theorem D15_40 : decode (byt 15) 40 = .ok (.aload_n 0, 1) := by decide +kernel
theorem D15_41 : decode (byt 15) 41 = .ok (.getfield 28, 3) := by decide +kernel
theorem D15_44 : decode (byt 15) 44 = .ok (.iload_n 1, 1) := by decide +kernel
theorem D15_45 : decode (byt 15) 45 = .ok (.invokevirtual 82, 3) := by decide +kernel
theorem D15_48 : decode (byt 15) 48 = .ok (.goto 25, 3) := by decide +kernel
theorem D15_51 : decode (byt 15) 51 = .ok (.aload_n 0, 1) := by decide +kernel
theorem D15_52 : decode (byt 15) 52 = .ok (.getfield 42, 3) := by decide +kernel
theorem D15_55 : decode (byt 15) 55 = .ok (.iload_n 1, 1) := by decide +kernel
theorem D15_56 : decode (byt 15) 56 = .ok (.ineg, 1) := by decide +kernel
theorem D15_57 : decode (byt 15) 57 = .ok (.invokestatic 71, 3) := by decide +kernel
theorem D15_60 : decode (byt 15) 60 = .ok (.iand, 1) := by decide +kernel
theorem D15_61 : decode (byt 15) 61 = .ok (.ifCond .eq 12, 3) := by decide +kernel
theorem D15_64 : decode (byt 15) 64 = .ok (.aload_n 0, 1) := by decide +kernel
theorem D15_65 : decode (byt 15) 65 = .ok (.getfield 28, 3) := by decide +kernel
theorem D15_68 : decode (byt 15) 68 = .ok (.iload_n 1, 1) := by decide +kernel
theorem D15_69 : decode (byt 15) 69 = .ok (.ineg, 1) := by decide +kernel
theorem D15_70 : decode (byt 15) 70 = .ok (.invokevirtual 82, 3) := by decide +kernel
theorem D15_73 : decode (byt 15) 73 = .ok (.iinc 1 1, 3) := by decide +kernel
theorem D15_76 : decode (byt 15) 76 = .ok (.goto (-56), 3) := by decide +kernel
theorem D15_79 : decode (byt 15) 79 = .ok (.aload_n 0, 1) := by decide +kernel
theorem D15_80 : decode (byt 15) 80 = .ok (.getfield 28, 3) := by decide +kernel
theorem D15_83 : decode (byt 15) 83 = .ok (.areturn, 1) := by decide +kernel
theorem D16_0 : decode (byt 16) 0 = .ok (.aload_n 0, 1) := by decide +kernel
theorem D16_1 : decode (byt 16) 1 = .ok (.getfield 21, 3) := by decide +kernel
theorem D16_4 : decode (byt 16) 4 = .ok (.aload_n 0, 1) := by decide +kernel
theorem D16_5 : decode (byt 16) 5 = .ok (.getfield 32, 3) := by decide +kernel
theorem D16_8 : decode (byt 16) 8 = .ok (.invokevirtual 74, 3) := by decide +kernel
theorem D16_11 : decode (byt 16) 11 = .ok (.astore_n 1, 1) := by decide +kernel
theorem D16_12 : decode (byt 16) 12 = .ok (.aload_n 0, 1) := by decide +kernel
theorem D16_13 : decode (byt 16) 13 = .ok (.getfield 28, 3) := by decide +kernel
theorem D16_16 : decode (byt 16) 16 = .ok (.aload_n 0, 1) := by decide +kernel
theorem D16_17 : decode (byt 16) 17 = .ok (.getfield 32, 3) := by decide +kernel
theorem D16_20 : decode (byt 16) 20 = .ok (.invokevirtual 85, 3) := by decide +kernel
theorem D16_23 : decode (byt 16) 23 = .ok (.iconst 0, 1) := by decide +kernel
theorem D16_24 : decode (byt 16) 24 = .ok (.istore_n 2, 1) := by decide +kernel
theorem D16_25 : decode (byt 16) 25 = .ok (.iload_n 2, 1) := by decide +kernel
theorem D16_26 : decode (byt 16) 26 = .ok (.aload_n 1, 1) := by decide +kernel
theorem D16_27 : decode (byt 16) 27 = .ok (.getfield 88, 3) := by decide +kernel
theorem D16_30 : decode (byt 16) 30 = .ok (.if_icmp .ge 29, 3) := by decide +kernel
theorem D16_33 : decode (byt 16) 33 = .ok (.aload_n 0, 1) := by decide +kernel
theorem D16_34 : decode (byt 16) 34 = .ok (.getfield 28, 3) := by decide +kernel
theorem D16_37 : decode (byt 16) 37 = .ok (.iload_n 2, 1) := by decide +kernel
theorem D16_38 : decode (byt 16) 38 = .ok (.aload_n 1, 1) := by decide +kernel
theorem D16_39 : decode (byt 16) 39 = .ok (.getfield 91, 3) := by decide +kernel
theorem D16_42 : decode (byt 16) 42 = .ok (.iload_n 2, 1) := by decide +kernel
theorem D16_43 : decode (byt 16) 43 = .ok (.laload, 1) := by decide +kernel
theorem D16_44 : decode (byt 16) 44 = .ok (.aload_n 0, 1) := by decide +kernel
theorem D16_45 : decode (byt 16) 45 = .ok (.iload_n 2, 1) := by decide +kernel
theorem D16_46 : decode (byt 16) 46 = .ok (.invokevirtual 95, 3) := by decide +kernel
theorem D16_49 : decode (byt 16) 49 = .ok (.lxor, 1) := by decide +kernel
theorem D16_50 : decode (byt 16) 50 = .ok (.invokevirtual 99, 3) := by decide +kernel
theorem D16_53 : decode (byt 16) 53 = .ok (.iinc 2 1, 3) := by decide +kernel
theorem D16_56 : decode (byt 16) 56 = .ok (.goto (-31), 3) := by decide +kernel
theorem D16_59 : decode (byt 16) 59 = .ok (.aload_n 0, 1) := by decide +kernel
theorem D16_60 : decode (byt 16) 60 = .ok (.getfield 28, 3) := by decide +kernel
theorem D16_63 : decode (byt 16) 63 = .ok (.iconst 0, 1) := by decide +kernel
theorem D16_64 : decode (byt 16) 64 = .ok (.invokevirtual 103, 3) := by decide +kernel
theorem D16_67 : decode (byt 16) 67 = .ok (.ireturn, 1) := by decide +kernel
theorem D17_0 : decode (byt 17) 0 = .ok (.ldc2_w 106, 3) := by decide +kernel
theorem D17_3 : decode (byt 17) 3 = .ok (.lstore_n 2, 1) := by decide +kernel
theorem D17_4 : decode (byt 17) 4 = .ok (.iconst 0, 1) := by decide +kernel
theorem D17_5 : decode (byt 17) 5 = .ok (.istore 4, 2) := by decide +kernel
theorem D17_7 : decode (byt 17) 7 = .ok (.iload 4, 2) := by decide +kernel
theorem D17_9 : decode (byt 17) 9 = .ok (.aload_n 0, 1) := by decide +kernel
theorem D17_10 : decode (byt 17) 10 = .ok (.getfield 36, 3) := by decide +kernel
theorem D17_13 : decode (byt 17) 13 = .ok (.if_icmp .ge 23, 3) := by decide +kernel
theorem D17_16 : decode (byt 17) 16 = .ok (.lload_n 2, 1) := by decide +kernel
theorem D17_17 : decode (byt 17) 17 = .ok (.aload_n 0, 1) := by decide +kernel
theorem D17_18 : decode (byt 17) 18 = .ok (.aload_n 0, 1) := by decide +kernel
theorem D17_19 : decode (byt 17) 19 = .ok (.iload 4, 2) := by decide +kernel
theorem D17_21 : decode (byt 17) 21 = .ok (.invokevirtual 108, 3) := by decide +kernel
theorem D17_24 : decode (byt 17) 24 = .ok (.iload_n 1, 1) := by decide +kernel
theorem D17_25 : decode (byt 17) 25 = .ok (.invokevirtual 111, 3) := by decide +kernel
theorem D17_28 : decode (byt 17) 28 = .ok (.land, 1) := by decide +kernel
theorem D17_29 : decode (byt 17) 29 = .ok (.lstore_n 2, 1) := by decide +kernel
theorem D17_30 : decode (byt 17) 30 = .ok (.iinc 4 1, 3) := by decide +kernel
theorem D17_33 : decode (byt 17) 33 = .ok (.goto (-26), 3) := by decide +kernel
theorem D17_36 : decode (byt 17) 36 = .ok (.lload_n 2, 1) := by decide +kernel
theorem D17_37 : decode (byt 17) 37 = .ok (.lreturn, 1) := by decide +kernel
theorem D18_0 : decode (byt 18) 0 = .ok (.lconst 0, 1) := by decide +kernel
theorem D18_1 : decode (byt 18) 1 = .ok (.lstore_n 3, 1) := by decide +kernel
theorem D18_2 : decode (byt 18) 2 = .ok (.iload_n 1, 1) := by decide +kernel
theorem D18_3 : decode (byt 18) 3 = .ok (.invokestatic 115, 3) := by decide +kernel
theorem D18_6 : decode (byt 18) 6 = .ok (.istore 5, 2) := by decide +kernel
theorem D18_8 : decode (byt 18) 8 = .ok (.iconst 1, 1) := by decide +kernel
theorem D18_9 : decode (byt 18) 9 = .ok (.istore 6, 2) := by decide +kernel
theorem D18_11 : decode (byt 18) 11 = .ok (.iload 6, 2) := by decide +kernel
theorem D18_13 : decode (byt 18) 13 = .ok (.aload_n 0, 1) := by decide +kernel
theorem D18_14 : decode (byt 18) 14 = .ok (.getfield 32, 3) := by decide +kernel
theorem D18_17 : decode (byt 18) 17 = .ok (.if_icmp .gt 62, 3) := by decide +kernel
theorem D18_20 : decode (byt 18) 20 = .ok (.iload 5, 2) := by decide +kernel
theorem D18_22 : decode (byt 18) 22 = .ok (.iload 6, 2) := by decide +kernel
theorem D18_24 : decode (byt 18) 24 = .ok (.iconst 1, 1) := by decide +kernel
theorem D18_25 : decode (byt 18) 25 = .ok (.isub, 1) := by decide +kernel
theorem D18_26 : decode (byt 18) 26 = .ok (.ishr, 1) := by decide +kernel
theorem D18_27 : decode (byt 18) 27 = .ok (.iconst 1, 1) := by decide +kernel
theorem D18_28 : decode (byt 18) 28 = .ok (.iand, 1) := by decide +kernel
theorem D18_29 : decode (byt 18) 29 = .ok (.ifCond .eq 44, 3) := by decide +kernel
theorem D18_32 : decode (byt 18) 32 = .ok (.iload_n 1, 1) := by decide +kernel
theorem D18_33 : decode (byt 18) 33 = .ok (.iload 6, 2) := by decide +kernel
theorem D18_35 : decode (byt 18) 35 = .ok (.invokestatic 71, 3) := by decide +kernel
theorem D18_38 : decode (byt 18) 38 = .ok (.iand, 1) := by decide +kernel
theorem D18_39 : decode (byt 18) 39 = .ok (.ifCond .eq 7, 3) := by decide +kernel
theorem D18_42 : decode (byt 18) 42 = .ok (.iconst 1, 1) := by decide +kernel
theorem D18_43 : decode (byt 18) 43 = .ok (.goto 4, 3) := by decide +kernel
theorem D18_46 : decode (byt 18) 46 = .ok (.iconst 0, 1) := by decide +kernel
theorem D18_47 : decode (byt 18) 47 = .ok (.istore 7, 2) := by decide +kernel
theorem D18_49 : decode (byt 18) 49 = .ok (.lload_n 3, 1) := by decide +kernel
theorem D18_50 : decode (byt 18) 50 = .ok (.iload 7, 2) := by decide +kernel
theorem D18_52 : decode (byt 18) 52 = .ok (.ifCond .eq 8, 3) := by decide +kernel
theorem D18_55 : decode (byt 18) 55 = .ok (.iload 6, 2) := by decide +kernel
theorem D18_57 : decode (byt 18) 57 = .ok (.goto 6, 3) := by decide +kernel
theorem D18_60 : decode (byt 18) 60 = .ok (.iload 6, 2) := by decide +kernel
theorem D18_62 : decode (byt 18) 62 = .ok (.ineg, 1) := by decide +kernel
theorem D18_63 : decode (byt 18) 63 = .ok (.aload_n 0, 1) := by decide +kernel
theorem D18_64 : decode (byt 18) 64 = .ok (.getfield 32, 3) := by decide +kernel
theorem D18_67 : decode (byt 18) 67 = .ok (.iload_n 2, 1) := by decide +kernel
theorem D18_68 : decode (byt 18) 68 = .ok (.invokestatic 118, 3) := by decide +kernel
theorem D18_71 : decode (byt 18) 71 = .ok (.lor, 1) := by decide +kernel
theorem D18_72 : decode (byt 18) 72 = .ok (.lstore_n 3, 1) := by decide +kernel
theorem D18_73 : decode (byt 18) 73 = .ok (.iinc 6 1, 3) := by decide +kernel
theorem D18_76 : decode (byt 18) 76 = .ok (.goto (-65), 3) := by decide +kernel
theorem D18_79 : decode (byt 18) 79 = .ok (.lload_n 3, 1) := by decide +kernel
theorem D18_80 : decode (byt 18) 80 = .ok (.lreturn, 1) := by decide +kernel
theorem D19_0 : decode (byt 19) 0 = .ok (.aload_n 0, 1) := by decide +kernel
theorem D19_1 : decode (byt 19) 1 = .ok (.invokespecial 3, 3) := by decide +kernel
theorem D19_4 : decode (byt 19) 4 = .ok (.aload_n 0, 1) := by decide +kernel
theorem D19_5 : decode (byt 19) 5 = .ok (.sipush 1500, 3) := by decide +kernel
theorem D19_8 : decode (byt 19) 8 = .ok (.newarray .int, 2) := by decide +kernel
theorem D19_10 : decode (byt 19) 10 = .ok (.putfield 9, 3) := by decide +kernel
theorem D19_13 : decode (byt 19) 13 = .ok (.aload_n 0, 1) := by decide +kernel
theorem D19_14 : decode (byt 19) 14 = .ok (.sipush 1500, 3) := by decide +kernel
theorem D19_17 : decode (byt 19) 17 = .ok (.newarray .int, 2) := by decide +kernel
theorem D19_19 : decode (byt 19) 19 = .ok (.putfield 15, 3) := by decide +kernel
theorem D19_22 : decode (byt 19) 22 = .ok (.aload_n 0, 1) := by decide +kernel
theorem D19_23 : decode (byt 19) 23 = .ok (.sipush 1500, 3) := by decide +kernel
theorem D19_26 : decode (byt 19) 26 = .ok (.newarray .int, 2) := by decide +kernel
theorem D19_28 : decode (byt 19) 28 = .ok (.putfield 18, 3) := by decide +kernel
theorem D19_31 : decode (byt 19) 31 = .ok (.aload_n 0, 1) := by decide +kernel
theorem D19_32 : decode (byt 19) 32 = .ok (.sipush 1500, 3) := by decide +kernel
theorem D19_35 : decode (byt 19) 35 = .ok (.newarray .int, 2) := by decide +kernel
theorem D19_37 : decode (byt 19) 37 = .ok (.putfield 21, 3) := by decide +kernel
theorem D19_40 : decode (byt 19) 40 = .ok (.aload_n 0, 1) := by decide +kernel
theorem D19_41 : decode (byt 19) 41 = .ok (.sipush 18000, 3) := by decide +kernel
theorem D19_44 : decode (byt 19) 44 = .ok (.newarray .int, 2) := by decide +kernel
theorem D19_46 : decode (byt 19) 46 = .ok (.putfield 24, 3) := by decide +kernel
theorem D19_49 : decode (byt 19) 49 = .ok (.aload_n 0, 1) := by decide +kernel
theorem D19_50 : decode (byt 19) 50 = .ok (.sipush 1500, 3) := by decide +kernel
theorem D19_53 : decode (byt 19) 53 = .ok (.newarray .long, 2) := by decide +kernel
theorem D19_55 : decode (byt 19) 55 = .ok (.putfield 27, 3) := by decide +kernel
theorem D19_58 : decode (byt 19) 58 = .ok (.aload_n 0, 1) := by decide +kernel
theorem D19_59 : decode (byt 19) 59 = .ok (.new 31, 3) := by decide +kernel
theorem D19_62 : decode (byt 19) 62 = .ok (.dup, 1) := by decide +kernel
theorem D19_63 : decode (byt 19) 63 = .ok (.invokespecial 33, 3) := by decide +kernel
theorem D19_66 : decode (byt 19) 66 = .ok (.putfield 34, 3) := by decide +kernel
theorem D19_69 : decode (byt 19) 69 = .ok (.aload_n 0, 1) := by decide +kernel
theorem D19_70 : decode (byt 19) 70 = .ok (.iconst 1, 1) := by decide +kernel
theorem D19_71 : decode (byt 19) 71 = .ok (.putfield 38, 3) := by decide +kernel
theorem D19_74 : decode (byt 19) 74 = .ok (.aload_n 0, 1) := by decide +kernel
theorem D19_75 : decode (byt 19) 75 = .ok (.iconst 0, 1) := by decide +kernel
theorem D19_76 : decode (byt 19) 76 = .ok (.putfield 42, 3) := by decide +kernel
theorem D19_79 : decode (byt 19) 79 = .ok (.aload_n 0, 1) := by decide +kernel
theorem D19_80 : decode (byt 19) 80 = .ok (.iconst 0, 1) := by decide +kernel
theorem D19_81 : decode (byt 19) 81 = .ok (.putfield 46, 3) := by decide +kernel
theorem D19_84 : decode (byt 19) 84 = .ok (.aload_n 0, 1) := by decide +kernel
theorem D19_85 : decode (byt 19) 85 = .ok (.iconst 0, 1) := by decide +kernel
theorem D19_86 : decode (byt 19) 86 = .ok (.putfield 49, 3) := by decide +kernel
theorem D19_89 : decode (byt 19) 89 = .ok (.aload_n 0, 1) := by decide +kernel
theorem D19_90 : decode (byt 19) 90 = .ok (.iconst 0, 1) := by decide +kernel
theorem D19_91 : decode (byt 19) 91 = .ok (.putfield 52, 3) := by decide +kernel
theorem D19_94 : decode (byt 19) 94 = .ok (.return_, 1) := by decide +kernel
theorem D20_0 : decode (byt 20) 0 = .ok (.aload_n 0, 1) := by decide +kernel
theorem D20_1 : decode (byt 20) 1 = .ok (.iconst 0, 1) := by decide +kernel
theorem D20_2 : decode (byt 20) 2 = .ok (.putfield 42, 3) := by decide +kernel
theorem D20_5 : decode (byt 20) 5 = .ok (.aload_n 0, 1) := by decide +kernel
theorem D20_6 : decode (byt 20) 6 = .ok (.iconst 0, 1) := by decide +kernel
theorem D20_7 : decode (byt 20) 7 = .ok (.putfield 46, 3) := by decide +kernel
theorem D20_10 : decode (byt 20) 10 = .ok (.aload_n 0, 1) := by decide +kernel
theorem D20_11 : decode (byt 20) 11 = .ok (.iconst 0, 1) := by decide +kernel
theorem D20_12 : decode (byt 20) 12 = .ok (.putfield 49, 3) := by decide +kernel
theorem D20_15 : decode (byt 20) 15 = .ok (.aload_n 0, 1) := by decide +kernel
theorem D20_16 : decode (byt 20) 16 = .ok (.iconst 0, 1) := by decide +kernel
theorem D20_17 : decode (byt 20) 17 = .ok (.putfield 52, 3) := by decide +kernel
theorem D20_20 : decode (byt 20) 20 = .ok (.aload_n 0, 1) := by decide +kernel
theorem D20_21 : decode (byt 20) 21 = .ok (.iconst 1, 1) := by decide +kernel
theorem D20_22 : decode (byt 20) 22 = .ok (.putfield 38, 3) := by decide +kernel
theorem D20_25 : decode (byt 20) 25 = .ok (.aload_n 0, 1) := by decide +kernel
theorem D20_26 : decode (byt 20) 26 = .ok (.iconst 0, 1) := by decide +kernel
theorem D20_27 : decode (byt 20) 27 = .ok (.iconst 0, 1) := by decide +kernel
theorem D20_28 : decode (byt 20) 28 = .ok (.iconst 0, 1) := by decide +kernel
theorem D20_29 : decode (byt 20) 29 = .ok (.invokevirtual 55, 3) := by decide +kernel
theorem D20_32 : decode (byt 20) 32 = .ok (.pop, 1) := by decide +kernel
theorem D20_33 : decode (byt 20) 33 = .ok (.aload_n 0, 1) := by decide +kernel
theorem D20_34 : decode (byt 20) 34 = .ok (.iconst 1, 1) := by decide +kernel
theorem D20_35 : decode (byt 20) 35 = .ok (.iconst 0, 1) := by decide +kernel
theorem D20_36 : decode (byt 20) 36 = .ok (.iconst 0, 1) := by decide +kernel
theorem D20_37 : decode (byt 20) 37 = .ok (.invokevirtual 55, 3) := by decide +kernel
theorem D20_40 : decode (byt 20) 40 = .ok (.pop, 1) := by decide +kernel
theorem D20_41 : decode (byt 20) 41 = .ok (.return_, 1) := by decide +kernel
theorem D21_0 : decode (byt 21) 0 = .ok (.iload_n 1, 1) := by decide +kernel
theorem D21_1 : decode (byt 21) 1 = .ok (.ifCond .lt 22, 3) := by decide +kernel
theorem D21_4 : decode (byt 21) 4 = .ok (.iload_n 1, 1) := by decide +kernel
theorem D21_5 : decode (byt 21) 5 = .ok (.aload_n 0, 1) := by decide +kernel
theorem D21_6 : decode (byt 21) 6 = .ok (.getfield 42, 3) := by decide +kernel
theorem D21_9 : decode (byt 21) 9 = .ok (.if_icmp .ge 14, 3) := by decide +kernel
theorem D21_12 : decode (byt 21) 12 = .ok (.iload_n 1, 1) := by decide +kernel
theorem D21_13 : decode (byt 21) 13 = .ok (.sipush 1500, 3) := by decide +kernel
theorem D21_16 : decode (byt 21) 16 = .ok (.if_icmp .ge 7, 3) := by decide +kernel
theorem D21_19 : decode (byt 21) 19 = .ok (.iconst 1, 1) := by decide +kernel
theorem D21_20 : decode (byt 21) 20 = .ok (.goto 4, 3) := by decide +kernel
theorem D21_23 : decode (byt 21) 23 = .ok (.iconst 0, 1) := by decide +kernel
theorem D21_24 : decode (byt 21) 24 = .ok (.ireturn, 1) := by decide +kernel
theorem D22_0 : decode (byt 22) 0 = .ok (.aload_n 0, 1) := by decide +kernel
theorem D22_1 : decode (byt 22) 1 = .ok (.getfield 42, 3) := by decide +kernel
theorem D22_4 : decode (byt 22) 4 = .ok (.sipush 1500, 3) := by decide +kernel
theorem D22_7 : decode (byt 22) 7 = .ok (.if_icmp .lt 10, 3) := by decide +kernel
theorem D22_10 : decode (byt 22) 10 = .ok (.aload_n 0, 1) := by decide +kernel
theorem D22_11 : decode (byt 22) 11 = .ok (.iconst 1, 1) := by decide +kernel
theorem D22_12 : decode (byt 22) 12 = .ok (.putfield 52, 3) := by decide +kernel
theorem D22_15 : decode (byt 22) 15 = .ok (.iconst (-1), 1) := by decide +kernel
theorem D22_16 : decode (byt 22) 16 = .ok (.ireturn, 1) := by decide +kernel
theorem D22_17 : decode (byt 22) 17 = .ok (.aload_n 0, 1) := by decide +kernel
theorem D22_18 : decode (byt 22) 18 = .ok (.getfield 42, 3) := by decide +kernel
theorem D22_21 : decode (byt 22) 21 = .ok (.istore 4, 2) := by decide +kernel
theorem D22_23 : decode (byt 22) 23 = .ok (.aload_n 0, 1) := by decide +kernel
theorem D22_24 : decode (byt 22) 24 = .ok (.dup, 1) := by decide +kernel
theorem D22_25 : decode (byt 22) 25 = .ok (.getfield 42, 3) := by decide +kernel
theorem D22_28 : decode (byt 22) 28 = .ok (.iconst 1, 1) := by decide +kernel
theorem D22_29 : decode (byt 22) 29 = .ok (.iadd, 1) := by decide +kernel
theorem D22_30 : decode (byt 22) 30 = .ok (.putfield 42, 3) := by decide +kernel
theorem D22_33 : decode (byt 22) 33 = .ok (.aload_n 0, 1) := by decide +kernel
theorem D22_34 : decode (byt 22) 34 = .ok (.getfield 9, 3) := by decide +kernel
theorem D22_37 : decode (byt 22) 37 = .ok (.iload 4, 2) := by decide +kernel
theorem D22_39 : decode (byt 22) 39 = .ok (.iload_n 1, 1) := by decide +kernel
theorem D22_40 : decode (byt 22) 40 = .ok (.iastore, 1) := by decide +kernel
theorem D22_41 : decode (byt 22) 41 = .ok (.aload_n 0, 1) := by decide +kernel
theorem D22_42 : decode (byt 22) 42 = .ok (.getfield 15, 3) := by decide +kernel
theorem D22_45 : decode (byt 22) 45 = .ok (.iload 4, 2) := by decide +kernel
theorem D22_47 : decode (byt 22) 47 = .ok (.iload_n 2, 1) := by decide +kernel
theorem D22_48 : decode (byt 22) 48 = .ok (.iastore, 1) := by decide +kernel
theorem D22_49 : decode (byt 22) 49 = .ok (.aload_n 0, 1) := by decide +kernel
theorem D22_50 : decode (byt 22) 50 = .ok (.getfield 18, 3) := by decide +kernel
theorem D22_53 : decode (byt 22) 53 = .ok (.iload 4, 2) := by decide +kernel
theorem D22_55 : decode (byt 22) 55 = .ok (.iconst 0, 1) := by decide +kernel
theorem D22_56 : decode (byt 22) 56 = .ok (.iastore, 1) := by decide +kernel
theorem D22_57 : decode (byt 22) 57 = .ok (.aload_n 0, 1) := by decide +kernel
theorem D22_58 : decode (byt 22) 58 = .ok (.getfield 21, 3) := by decide +kernel
theorem D22_61 : decode (byt 22) 61 = .ok (.iload 4, 2) := by decide +kernel
theorem D22_63 : decode (byt 22) 63 = .ok (.iload_n 3, 1) := by decide +kernel
theorem D22_64 : decode (byt 22) 64 = .ok (.iastore, 1) := by decide +kernel
theorem D22_65 : decode (byt 22) 65 = .ok (.iload 4, 2) := by decide +kernel
theorem D22_67 : decode (byt 22) 67 = .ok (.ireturn, 1) := by decide +kernel
theorem D23_0 : decode (byt 23) 0 = .ok (.aload_n 0, 1) := by decide +kernel
theorem D23_1 : decode (byt 23) 1 = .ok (.iload_n 1, 1) := by decide +kernel
theorem D23_2 : decode (byt 23) 2 = .ok (.invokevirtual 59, 3) := by decide +kernel
theorem D23_5 : decode (byt 23) 5 = .ok (.ifCond .eq 22, 3) := by decide +kernel
theorem D23_8 : decode (byt 23) 8 = .ok (.aload_n 0, 1) := by decide +kernel
theorem D23_9 : decode (byt 23) 9 = .ok (.iload_n 2, 1) := by decide +kernel
theorem D23_10 : decode (byt 23) 10 = .ok (.invokevirtual 59, 3) := by decide +kernel
theorem D23_13 : decode (byt 23) 13 = .ok (.ifCond .eq 14, 3) := by decide +kernel
theorem D23_16 : decode (byt 23) 16 = .ok (.aload_n 0, 1) := by decide +kernel
theorem D23_17 : decode (byt 23) 17 = .ok (.getfield 18, 3) := by decide +kernel
theorem D23_20 : decode (byt 23) 20 = .ok (.iload_n 1, 1) := by decide +kernel
theorem D23_21 : decode (byt 23) 21 = .ok (.iaload, 1) := by decide +kernel
theorem D23_22 : decode (byt 23) 22 = .ok (.bipush 12, 2) := by decide +kernel
theorem D23_24 : decode (byt 23) 24 = .ok (.if_icmp .lt 4, 3) := by decide +kernel
theorem D23_27 : decode (byt 23) 27 = .ok (.return_, 1) := by decide +kernel
theorem D23_28 : decode (byt 23) 28 = .ok (.aload_n 0, 1) := by decide +kernel
theorem D23_29 : decode (byt 23) 29 = .ok (.getfield 24, 3) := by decide +kernel
theorem D23_32 : decode (byt 23) 32 = .ok (.iload_n 1, 1) := by decide +kernel
theorem D23_33 : decode (byt 23) 33 = .ok (.bipush 12, 2) := by decide +kernel
theorem D23_35 : decode (byt 23) 35 = .ok (.imul, 1) := by decide +kernel
theorem D23_36 : decode (byt 23) 36 = .ok (.aload_n 0, 1) := by decide +kernel
theorem D23_37 : decode (byt 23) 37 = .ok (.getfield 18, 3) := by decide +kernel
theorem D23_40 : decode (byt 23) 40 = .ok (.iload_n 1, 1) := by decide +kernel
theorem D23_41 : decode (byt 23) 41 = .ok (.iaload, 1) := by decide +kernel
theorem D23_42 : decode (byt 23) 42 = .ok (.iadd, 1) := by decide +kernel
theorem D23_43 : decode (byt 23) 43 = .ok (.iload_n 2, 1) := by decide +kernel
theorem D23_44 : decode (byt 23) 44 = .ok (.iastore, 1) := by decide +kernel
theorem D23_45 : decode (byt 23) 45 = .ok (.aload_n 0, 1) := by decide +kernel
theorem D23_46 : decode (byt 23) 46 = .ok (.getfield 18, 3) := by decide +kernel
theorem D23_49 : decode (byt 23) 49 = .ok (.iload_n 1, 1) := by decide +kernel
theorem D23_50 : decode (byt 23) 50 = .ok (.dup2, 1) := by decide +kernel
theorem D23_51 : decode (byt 23) 51 = .ok (.iaload, 1) := by decide +kernel
theorem D23_52 : decode (byt 23) 52 = .ok (.iconst 1, 1) := by decide +kernel
theorem D23_53 : decode (byt 23) 53 = .ok (.iadd, 1) := by decide +kernel
theorem D23_54 : decode (byt 23) 54 = .ok (.iastore, 1) := by decide +kernel
theorem D23_55 : decode (byt 23) 55 = .ok (.aload_n 0, 1) := by decide +kernel
theorem D23_56 : decode (byt 23) 56 = .ok (.getfield 21, 3) := by decide +kernel
theorem D23_59 : decode (byt 23) 59 = .ok (.iload_n 1, 1) := by decide +kernel
theorem D23_60 : decode (byt 23) 60 = .ok (.dup2, 1) := by decide +kernel
theorem D23_61 : decode (byt 23) 61 = .ok (.iaload, 1) := by decide +kernel
theorem D23_62 : decode (byt 23) 62 = .ok (.aload_n 0, 1) := by decide +kernel
theorem D23_63 : decode (byt 23) 63 = .ok (.getfield 21, 3) := by decide +kernel
theorem D23_66 : decode (byt 23) 66 = .ok (.iload_n 2, 1) := by decide +kernel
theorem D23_67 : decode (byt 23) 67 = .ok (.iaload, 1) := by decide +kernel
theorem D23_68 : decode (byt 23) 68 = .ok (.ior, 1) := by decide +kernel
theorem D23_69 : decode (byt 23) 69 = .ok (.iastore, 1) := by decide +kernel
theorem D23_70 : decode (byt 23) 70 = .ok (.return_, 1) := by decide +kernel
theorem D24_0 : decode (byt 24) 0 = .ok (.aload_n 0, 1) := by decide +kernel
theorem D24_1 : decode (byt 24) 1 = .ok (.iload_n 1, 1) := by decide +kernel
theorem D24_2 : decode (byt 24) 2 = .ok (.invokevirtual 59, 3) := by decide +kernel
theorem D24_5 : decode (byt 24) 5 = .ok (.ifCond .eq 17, 3) := by decide +kernel
theorem D24_8 : decode (byt 24) 8 = .ok (.iload_n 2, 1) := by decide +kernel
theorem D24_9 : decode (byt 24) 9 = .ok (.ifCond .lt 13, 3) := by decide +kernel
theorem D24_12 : decode (byt 24) 12 = .ok (.iload_n 2, 1) := by decide +kernel
theorem D24_13 : decode (byt 24) 13 = .ok (.aload_n 0, 1) := by decide +kernel
theorem D24_14 : decode (byt 24) 14 = .ok (.getfield 18, 3) := by decide +kernel
theorem D24_17 : decode (byt 24) 17 = .ok (.iload_n 1, 1) := by decide +kernel
theorem D24_18 : decode (byt 24) 18 = .ok (.iaload, 1) := by decide +kernel
theorem D24_19 : decode (byt 24) 19 = .ok (.if_icmp .lt 5, 3) := by decide +kernel
theorem D24_22 : decode (byt 24) 22 = .ok (.iconst (-1), 1) := by decide +kernel
theorem D24_23 : decode (byt 24) 23 = .ok (.ireturn, 1) := by decide +kernel
theorem D24_24 : decode (byt 24) 24 = .ok (.aload_n 0, 1) := by decide +kernel
theorem D24_25 : decode (byt 24) 25 = .ok (.getfield 24, 3) := by decide +kernel
theorem D24_28 : decode (byt 24) 28 = .ok (.iload_n 1, 1) := by decide +kernel
theorem D24_29 : decode (byt 24) 29 = .ok (.bipush 12, 2) := by decide +kernel
theorem D24_31 : decode (byt 24) 31 = .ok (.imul, 1) := by decide +kernel
theorem D24_32 : decode (byt 24) 32 = .ok (.iload_n 2, 1) := by decide +kernel
theorem D24_33 : decode (byt 24) 33 = .ok (.iadd, 1) := by decide +kernel
theorem D24_34 : decode (byt 24) 34 = .ok (.iaload, 1) := by decide +kernel
theorem D24_35 : decode (byt 24) 35 = .ok (.ireturn, 1) := by decide +kernel
theorem D25_0 : decode (byt 25) 0 = .ok (.aload_n 0, 1) := by decide +kernel
theorem D25_1 : decode (byt 25) 1 = .ok (.iload_n 1, 1) := by decide +kernel
theorem D25_2 : decode (byt 25) 2 = .ok (.invokevirtual 59, 3) := by decide +kernel
theorem D25_5 : decode (byt 25) 5 = .ok (.ifCond .eq 26, 3) := by decide +kernel
theorem D25_8 : decode (byt 25) 8 = .ok (.iload_n 2, 1) := by decide +kernel
theorem D25_9 : decode (byt 25) 9 = .ok (.ifCond .lt 22, 3) := by decide +kernel
theorem D25_12 : decode (byt 25) 12 = .ok (.iload_n 2, 1) := by decide +kernel
theorem D25_13 : decode (byt 25) 13 = .ok (.aload_n 0, 1) := by decide +kernel
theorem D25_14 : decode (byt 25) 14 = .ok (.getfield 18, 3) := by decide +kernel
theorem D25_17 : decode (byt 25) 17 = .ok (.iload_n 1, 1) := by decide +kernel
theorem D25_18 : decode (byt 25) 18 = .ok (.iaload, 1) := by decide +kernel
theorem D25_19 : decode (byt 25) 19 = .ok (.if_icmp .ge 12, 3) := by decide +kernel
theorem D25_22 : decode (byt 25) 22 = .ok (.iload_n 3, 1) := by decide +kernel
theorem D25_23 : decode (byt 25) 23 = .ok (.ifCond .lt 8, 3) := by decide +kernel
theorem D25_26 : decode (byt 25) 26 = .ok (.iload_n 3, 1) := by decide +kernel
theorem D25_27 : decode (byt 25) 27 = .ok (.iload_n 1, 1) := by decide +kernel
theorem D25_28 : decode (byt 25) 28 = .ok (.if_icmp .lt 4, 3) := by decide +kernel
theorem D25_31 : decode (byt 25) 31 = .ok (.return_, 1) := by decide +kernel
theorem D25_32 : decode (byt 25) 32 = .ok (.aload_n 0, 1) := by decide +kernel
theorem D25_33 : decode (byt 25) 33 = .ok (.getfield 24, 3) := by decide +kernel
theorem D25_36 : decode (byt 25) 36 = .ok (.iload_n 1, 1) := by decide +kernel
theorem D25_37 : decode (byt 25) 37 = .ok (.bipush 12, 2) := by decide +kernel
theorem D25_39 : decode (byt 25) 39 = .ok (.imul, 1) := by decide +kernel
theorem D25_40 : decode (byt 25) 40 = .ok (.iload_n 2, 1) := by decide +kernel
theorem D25_41 : decode (byt 25) 41 = .ok (.iadd, 1) := by decide +kernel
theorem D25_42 : decode (byt 25) 42 = .ok (.iload_n 3, 1) := by decide +kernel
theorem D25_43 : decode (byt 25) 43 = .ok (.iastore, 1) := by decide +kernel
theorem D25_44 : decode (byt 25) 44 = .ok (.aload_n 0, 1) := by decide +kernel
theorem D25_45 : decode (byt 25) 45 = .ok (.iconst 1, 1) := by decide +kernel
theorem D25_46 : decode (byt 25) 46 = .ok (.putfield 38, 3) := by decide +kernel
theorem D25_49 : decode (byt 25) 49 = .ok (.iload_n 1, 1) := by decide +kernel
theorem D25_50 : decode (byt 25) 50 = .ok (.istore 4, 2) := by decide +kernel
theorem D25_52 : decode (byt 25) 52 = .ok (.iload 4, 2) := by decide +kernel
theorem D25_54 : decode (byt 25) 54 = .ok (.aload_n 0, 1) := by decide +kernel
theorem D25_55 : decode (byt 25) 55 = .ok (.getfield 42, 3) := by decide +kernel
theorem D25_58 : decode (byt 25) 58 = .ok (.if_icmp .ge 15, 3) := by decide +kernel
theorem D25_61 : decode (byt 25) 61 = .ok (.aload_n 0, 1) := by decide +kernel
theorem D25_62 : decode (byt 25) 62 = .ok (.iload 4, 2) := by decide +kernel
theorem D25_64 : decode (byt 25) 64 = .ok (.invokevirtual 63, 3) := by decide +kernel
theorem D25_67 : decode (byt 25) 67 = .ok (.iinc 4 1, 3) := by decide +kernel
theorem D25_70 : decode (byt 25) 70 = .ok (.goto (-18), 3) := by decide +kernel
theorem D25_73 : decode (byt 25) 73 = .ok (.return_, 1) := by decide +kernel
theorem D26_0 : decode (byt 26) 0 = .ok (.aload_n 0, 1) := by decide +kernel
theorem D26_1 : decode (byt 26) 1 = .ok (.getfield 15, 3) := by decide +kernel
theorem D26_4 : decode (byt 26) 4 = .ok (.iload_n 1, 1) := by decide +kernel
theorem D26_5 : decode (byt 26) 5 = .ok (.iaload, 1) := by decide +kernel
theorem D26_6 : decode (byt 26) 6 = .ok (.invokestatic 67, 3) := by decide +kernel
theorem D26_9 : decode (byt 26) 9 = .ok (.invokestatic 71, 3) := by decide +kernel
theorem D26_12 : decode (byt 26) 12 = .ok (.istore_n 2, 1) := by decide +kernel
theorem D26_13 : decode (byt 26) 13 = .ok (.iconst 0, 1) := by decide +kernel
theorem D26_14 : decode (byt 26) 14 = .ok (.istore_n 3, 1) := by decide +kernel
theorem D26_15 : decode (byt 26) 15 = .ok (.iload_n 3, 1) := by decide +kernel
theorem D26_16 : decode (byt 26) 16 = .ok (.aload_n 0, 1) := by decide +kernel
theorem D26_17 : decode (byt 26) 17 = .ok (.getfield 18, 3) := by decide +kernel
theorem D26_20 : decode (byt 26) 20 = .ok (.iload_n 1, 1) := by decide +kernel
theorem D26_21 : decode (byt 26) 21 = .ok (.iaload, 1) := by decide +kernel
theorem D26_22 : decode (byt 26) 22 = .ok (.if_icmp .ge 23, 3) := by decide +kernel
theorem D26_25 : decode (byt 26) 25 = .ok (.iload_n 2, 1) := by decide +kernel
theorem D26_26 : decode (byt 26) 26 = .ok (.aload_n 0, 1) := by decide +kernel
theorem D26_27 : decode (byt 26) 27 = .ok (.getfield 21, 3) := by decide +kernel
theorem D26_30 : decode (byt 26) 30 = .ok (.aload_n 0, 1) := by decide +kernel
theorem D26_31 : decode (byt 26) 31 = .ok (.iload_n 1, 1) := by decide +kernel
theorem D26_32 : decode (byt 26) 32 = .ok (.iload_n 3, 1) := by decide +kernel
theorem D26_33 : decode (byt 26) 33 = .ok (.invokevirtual 74, 3) := by decide +kernel
theorem D26_36 : decode (byt 26) 36 = .ok (.iaload, 1) := by decide +kernel
theorem D26_37 : decode (byt 26) 37 = .ok (.ior, 1) := by decide +kernel
theorem D26_38 : decode (byt 26) 38 = .ok (.istore_n 2, 1) := by decide +kernel
theorem D26_39 : decode (byt 26) 39 = .ok (.iinc 3 1, 3) := by decide +kernel
theorem D26_42 : decode (byt 26) 42 = .ok (.goto (-27), 3) := by decide +kernel
theorem D26_45 : decode (byt 26) 45 = .ok (.aload_n 0, 1) := by decide +kernel
theorem D26_46 : decode (byt 26) 46 = .ok (.getfield 21, 3) := by decide +kernel
theorem D26_49 : decode (byt 26) 49 = .ok (.iload_n 1, 1) := by decide +kernel
theorem D26_50 : decode (byt 26) 50 = .ok (.iload_n 2, 1) := by decide +kernel
theorem D26_51 : decode (byt 26) 51 = .ok (.iastore, 1) := by decide +kernel
theorem D26_52 : decode (byt 26) 52 = .ok (.return_, 1) := by decide +kernel
theorem D27_0 : decode (byt 27) 0 = .ok (.iconst 0, 1) := by decide +kernel
theorem D27_1 : decode (byt 27) 1 = .ok (.istore_n 1, 1) := by decide +kernel
theorem D27_2 : decode (byt 27) 2 = .ok (.iload_n 1, 1) := by decide +kernel
theorem D27_3 : decode (byt 27) 3 = .ok (.aload_n 0, 1) := by decide +kernel
theorem D27_4 : decode (byt 27) 4 = .ok (.getfield 42, 3) := by decide +kernel
theorem D27_7 : decode (byt 27) 7 = .ok (.if_icmp .ge 29, 3) := by decide +kernel
theorem D27_10 : decode (byt 27) 10 = .ok (.aload_n 0, 1) := by decide +kernel
theorem D27_11 : decode (byt 27) 11 = .ok (.getfield 9, 3) := by decide +kernel
theorem D27_14 : decode (byt 27) 14 = .ok (.iload_n 1, 1) := by decide +kernel
theorem D27_15 : decode (byt 27) 15 = .ok (.iaload, 1) := by decide +kernel
theorem D27_16 : decode (byt 27) 16 = .ok (.iconst 3, 1) := by decide +kernel
theorem D27_17 : decode (byt 27) 17 = .ok (.if_icmp .ne 13, 3) := by decide +kernel
theorem D27_20 : decode (byt 27) 20 = .ok (.aload_n 0, 1) := by decide +kernel
theorem D27_21 : decode (byt 27) 21 = .ok (.iload_n 1, 1) := by decide +kernel
theorem D27_22 : decode (byt 27) 22 = .ok (.invokevirtual 78, 3) := by decide +kernel
theorem D27_25 : decode (byt 27) 25 = .ok (.ifCond .eq 5, 3) := by decide +kernel
theorem D27_28 : decode (byt 27) 28 = .ok (.iload_n 1, 1) := by decide +kernel
theorem D27_29 : decode (byt 27) 29 = .ok (.ireturn, 1) := by decide +kernel
theorem D27_30 : decode (byt 27) 30 = .ok (.iinc 1 1, 3) := by decide +kernel
theorem D27_33 : decode (byt 27) 33 = .ok (.goto (-31), 3) := by decide +kernel
theorem D27_36 : decode (byt 27) 36 = .ok (.iconst (-1), 1) := by decide +kernel
theorem D27_37 : decode (byt 27) 37 = .ok (.ireturn, 1) := by decide +kernel
theorem D28_0 : decode (byt 28) 0 = .ok (.iconst 0, 1) := by decide +kernel
theorem D28_1 : decode (byt 28) 1 = .ok (.istore_n 2, 1) := by decide +kernel
theorem D28_2 : decode (byt 28) 2 = .ok (.iconst 0, 1) := by decide +kernel
theorem D28_3 : decode (byt 28) 3 = .ok (.istore_n 3, 1) := by decide +kernel
theorem D28_4 : decode (byt 28) 4 = .ok (.iload_n 3, 1) := by decide +kernel
theorem D28_5 : decode (byt 28) 5 = .ok (.aload_n 0, 1) := by decide +kernel
theorem D28_6 : decode (byt 28) 6 = .ok (.getfield 18, 3) := by decide +kernel
theorem D28_9 : decode (byt 28) 9 = .ok (.iload_n 1, 1) := by decide +kernel
theorem D28_10 : decode (byt 28) 10 = .ok (.iaload, 1) := by decide +kernel
theorem D28_11 : decode (byt 28) 11 = .ok (.if_icmp .ge 36, 3) := by decide +kernel
theorem D28_14 : decode (byt 28) 14 = .ok (.aload_n 0, 1) := by decide +kernel
theorem D28_15 : decode (byt 28) 15 = .ok (.getfield 21, 3) := by decide +kernel
theorem D28_18 : decode (byt 28) 18 = .ok (.aload_n 0, 1) := by decide +kernel
theorem D28_19 : decode (byt 28) 19 = .ok (.iload_n 1, 1) := by decide +kernel
theorem D28_20 : decode (byt 28) 20 = .ok (.iload_n 3, 1) := by decide +kernel
theorem D28_21 : decode (byt 28) 21 = .ok (.invokevirtual 74, 3) := by decide +kernel
theorem D28_24 : decode (byt 28) 24 = .ok (.iaload, 1) := by decide +kernel
theorem D28_25 : decode (byt 28) 25 = .ok (.istore 4, 2) := by decide +kernel
theorem D28_27 : decode (byt 28) 27 = .ok (.iload_n 2, 1) := by decide +kernel
theorem D28_28 : decode (byt 28) 28 = .ok (.iload 4, 2) := by decide +kernel
theorem D28_30 : decode (byt 28) 30 = .ok (.iand, 1) := by decide +kernel
theorem D28_31 : decode (byt 28) 31 = .ok (.ifCond .eq 5, 3) := by decide +kernel
theorem D28_34 : decode (byt 28) 34 = .ok (.iconst 1, 1) := by decide +kernel
theorem D28_35 : decode (byt 28) 35 = .ok (.ireturn, 1) := by decide +kernel
theorem D28_36 : decode (byt 28) 36 = .ok (.iload_n 2, 1) := by decide +kernel
theorem D28_37 : decode (byt 28) 37 = .ok (.iload 4, 2) := by decide +kernel
theorem D28_39 : decode (byt 28) 39 = .ok (.ior, 1) := by decide +kernel
theorem D28_40 : decode (byt 28) 40 = .ok (.istore_n 2, 1) := by decide +kernel
theorem D28_41 : decode (byt 28) 41 = .ok (.iinc 3 1, 3) := by decide +kernel
theorem D28_44 : decode (byt 28) 44 = .ok (.goto (-40), 3) := by decide +kernel
theorem D28_47 : decode (byt 28) 47 = .ok (.iconst 0, 1) := by decide +kernel
theorem D28_48 : decode (byt 28) 48 = .ok (.ireturn, 1) := by decide +kernel
theorem D29_0 : decode (byt 29) 0 = .ok (.iconst 0, 1) := by decide +kernel
theorem D29_1 : decode (byt 29) 1 = .ok (.istore_n 1, 1) := by decide +kernel
theorem D29_2 : decode (byt 29) 2 = .ok (.iload_n 1, 1) := by decide +kernel
theorem D29_3 : decode (byt 29) 3 = .ok (.aload_n 0, 1) := by decide +kernel
theorem D29_4 : decode (byt 29) 4 = .ok (.getfield 42, 3) := by decide +kernel
theorem D29_7 : decode (byt 29) 7 = .ok (.if_icmp .ge 69, 3) := by decide +kernel
theorem D29_10 : decode (byt 29) 10 = .ok (.aload_n 0, 1) := by decide +kernel
theorem D29_11 : decode (byt 29) 11 = .ok (.getfield 9, 3) := by decide +kernel
theorem D29_14 : decode (byt 29) 14 = .ok (.iload_n 1, 1) := by decide +kernel
theorem D29_15 : decode (byt 29) 15 = .ok (.iaload, 1) := by decide +kernel
theorem D29_16 : decode (byt 29) 16 = .ok (.iconst 4, 1) := by decide +kernel
theorem D29_17 : decode (byt 29) 17 = .ok (.if_icmp .ne 53, 3) := by decide +kernel
theorem D29_20 : decode (byt 29) 20 = .ok (.aload_n 0, 1) := by decide +kernel
theorem D29_21 : decode (byt 29) 21 = .ok (.getfield 18, 3) := by decide +kernel
theorem D29_24 : decode (byt 29) 24 = .ok (.iload_n 1, 1) := by decide +kernel
theorem D29_25 : decode (byt 29) 25 = .ok (.iaload, 1) := by decide +kernel
theorem D29_26 : decode (byt 29) 26 = .ok (.iconst 2, 1) := by decide +kernel
theorem D29_27 : decode (byt 29) 27 = .ok (.if_icmp .ne 43, 3) := by decide +kernel
theorem D29_30 : decode (byt 29) 30 = .ok (.aload_n 0, 1) := by decide +kernel
theorem D29_31 : decode (byt 29) 31 = .ok (.getfield 21, 3) := by decide +kernel
theorem D29_34 : decode (byt 29) 34 = .ok (.aload_n 0, 1) := by decide +kernel
theorem D29_35 : decode (byt 29) 35 = .ok (.iload_n 1, 1) := by decide +kernel
theorem D29_36 : decode (byt 29) 36 = .ok (.iconst 0, 1) := by decide +kernel
theorem D29_37 : decode (byt 29) 37 = .ok (.invokevirtual 74, 3) := by decide +kernel
theorem D29_40 : decode (byt 29) 40 = .ok (.iaload, 1) := by decide +kernel
theorem D29_41 : decode (byt 29) 41 = .ok (.aload_n 0, 1) := by decide +kernel
theorem D29_42 : decode (byt 29) 42 = .ok (.getfield 21, 3) := by decide +kernel
theorem D29_45 : decode (byt 29) 45 = .ok (.aload_n 0, 1) := by decide +kernel
theorem D29_46 : decode (byt 29) 46 = .ok (.iload_n 1, 1) := by decide +kernel
theorem D29_47 : decode (byt 29) 47 = .ok (.iconst 1, 1) := by decide +kernel
theorem D29_48 : decode (byt 29) 48 = .ok (.invokevirtual 74, 3) := by decide +kernel
theorem D29_51 : decode (byt 29) 51 = .ok (.iaload, 1) := by decide +kernel
theorem D29_52 : decode (byt 29) 52 = .ok (.ior, 1) := by decide +kernel
theorem D29_53 : decode (byt 29) 53 = .ok (.istore_n 2, 1) := by decide +kernel
theorem D29_54 : decode (byt 29) 54 = .ok (.iload_n 2, 1) := by decide +kernel
theorem D29_55 : decode (byt 29) 55 = .ok (.aload_n 0, 1) := by decide +kernel
theorem D29_56 : decode (byt 29) 56 = .ok (.getfield 15, 3) := by decide +kernel
theorem D29_59 : decode (byt 29) 59 = .ok (.iload_n 1, 1) := by decide +kernel
theorem D29_60 : decode (byt 29) 60 = .ok (.iaload, 1) := by decide +kernel
theorem D29_61 : decode (byt 29) 61 = .ok (.invokestatic 67, 3) := by decide +kernel
theorem D29_64 : decode (byt 29) 64 = .ok (.iand, 1) := by decide +kernel
theorem D29_65 : decode (byt 29) 65 = .ok (.ifCond .eq 5, 3) := by decide +kernel
theorem D29_68 : decode (byt 29) 68 = .ok (.iload_n 1, 1) := by decide +kernel
theorem D29_69 : decode (byt 29) 69 = .ok (.ireturn, 1) := by decide +kernel
theorem D29_70 : decode (byt 29) 70 = .ok (.iinc 1 1, 3) := by decide +kernel
theorem D29_73 : decode (byt 29) 73 = .ok (.goto (-71), 3) := by decide +kernel
theorem D29_76 : decode (byt 29) 76 = .ok (.iconst (-1), 1) := by decide +kernel
theorem D29_77 : decode (byt 29) 77 = .ok (.ireturn, 1) := by decide +kernel
theorem D30_0 : decode (byt 30) 0 = .ok (.aload_n 0, 1) := by decide +kernel
theorem D30_1 : decode (byt 30) 1 = .ok (.getfield 38, 3) := by decide +kernel
theorem D30_4 : decode (byt 30) 4 = .ok (.ifCond .eq 49, 3) := by decide +kernel
theorem D30_7 : decode (byt 30) 7 = .ok (.aload_n 0, 1) := by decide +kernel
theorem D30_8 : decode (byt 30) 8 = .ok (.getfield 34, 3) := by decide +kernel
theorem D30_11 : decode (byt 30) 11 = .ok (.iload_n 1, 1) := by decide +kernel
theorem D30_12 : decode (byt 30) 12 = .ok (.invokevirtual 81, 3) := by decide +kernel
theorem D30_15 : decode (byt 30) 15 = .ok (.iconst 0, 1) := by decide +kernel
theorem D30_16 : decode (byt 30) 16 = .ok (.istore_n 2, 1) := by decide +kernel
theorem D30_17 : decode (byt 30) 17 = .ok (.iload_n 2, 1) := by decide +kernel
theorem D30_18 : decode (byt 30) 18 = .ok (.aload_n 0, 1) := by decide +kernel
theorem D30_19 : decode (byt 30) 19 = .ok (.getfield 34, 3) := by decide +kernel
theorem D30_22 : decode (byt 30) 22 = .ok (.getfield 84, 3) := by decide +kernel
theorem D30_25 : decode (byt 30) 25 = .ok (.if_icmp .ge 23, 3) := by decide +kernel
theorem D30_28 : decode (byt 30) 28 = .ok (.aload_n 0, 1) := by decide +kernel
theorem D30_29 : decode (byt 30) 29 = .ok (.getfield 34, 3) := by decide +kernel
theorem D30_32 : decode (byt 30) 32 = .ok (.iload_n 2, 1) := by decide +kernel
theorem D30_33 : decode (byt 30) 33 = .ok (.aload_n 0, 1) := by decide +kernel
theorem D30_34 : decode (byt 30) 34 = .ok (.iload_n 1, 1) := by decide +kernel
theorem D30_35 : decode (byt 30) 35 = .ok (.iload_n 2, 1) := by decide +kernel
theorem D30_36 : decode (byt 30) 36 = .ok (.invokevirtual 87, 3) := by decide +kernel
theorem D30_39 : decode (byt 30) 39 = .ok (.invokevirtual 91, 3) := by decide +kernel
theorem D30_42 : decode (byt 30) 42 = .ok (.iinc 2 1, 3) := by decide +kernel
theorem D30_45 : decode (byt 30) 45 = .ok (.goto (-28), 3) := by decide +kernel
theorem D30_48 : decode (byt 30) 48 = .ok (.aload_n 0, 1) := by decide +kernel
theorem D30_49 : decode (byt 30) 49 = .ok (.iconst 0, 1) := by decide +kernel
theorem D30_50 : decode (byt 30) 50 = .ok (.putfield 38, 3) := by decide +kernel
theorem D30_53 : decode (byt 30) 53 = .ok (.aload_n 0, 1) := by decide +kernel
theorem D30_54 : decode (byt 30) 54 = .ok (.getfield 34, 3) := by decide +kernel
theorem D30_57 : decode (byt 30) 57 = .ok (.areturn, 1) := by decide +kernel
theorem D31_0 : decode (byt 31) 0 = .ok (.iconst 0, 1) := by decide +kernel
theorem D31_1 : decode (byt 31) 1 = .ok (.istore_n 3, 1) := by decide +kernel
theorem D31_2 : decode (byt 31) 2 = .ok (.iload_n 3, 1) := by decide +kernel
theorem D31_3 : decode (byt 31) 3 = .ok (.aload_n 0, 1) := by decide +kernel
theorem D31_4 : decode (byt 31) 4 = .ok (.getfield 46, 3) := by decide +kernel
theorem D31_7 : decode (byt 31) 7 = .ok (.if_icmp .gt 30, 3) := by decide +kernel
theorem D31_10 : decode (byt 31) 10 = .ok (.iload_n 3, 1) := by decide +kernel
theorem D31_11 : decode (byt 31) 11 = .ok (.aload_n 0, 1) := by decide +kernel
theorem D31_12 : decode (byt 31) 12 = .ok (.getfield 42, 3) := by decide +kernel
theorem D31_15 : decode (byt 31) 15 = .ok (.if_icmp .ge 22, 3) := by decide +kernel
theorem D31_18 : decode (byt 31) 18 = .ok (.aload_n 0, 1) := by decide +kernel
theorem D31_19 : decode (byt 31) 19 = .ok (.getfield 27, 3) := by decide +kernel
theorem D31_22 : decode (byt 31) 22 = .ok (.iload_n 3, 1) := by decide +kernel
theorem D31_23 : decode (byt 31) 23 = .ok (.aload_n 0, 1) := by decide +kernel
theorem D31_24 : decode (byt 31) 24 = .ok (.iload_n 3, 1) := by decide +kernel
theorem D31_25 : decode (byt 31) 25 = .ok (.iload_n 1, 1) := by decide +kernel
theorem D31_26 : decode (byt 31) 26 = .ok (.iload_n 2, 1) := by decide +kernel
theorem D31_27 : decode (byt 31) 27 = .ok (.invokevirtual 95, 3) := by decide +kernel
theorem D31_30 : decode (byt 31) 30 = .ok (.lastore, 1) := by decide +kernel
theorem D31_31 : decode (byt 31) 31 = .ok (.iinc 3 1, 3) := by decide +kernel
theorem D31_34 : decode (byt 31) 34 = .ok (.goto (-32), 3) := by decide +kernel
theorem D31_37 : decode (byt 31) 37 = .ok (.aload_n 0, 1) := by decide +kernel
theorem D31_38 : decode (byt 31) 38 = .ok (.aload_n 0, 1) := by decide +kernel
theorem D31_39 : decode (byt 31) 39 = .ok (.getfield 46, 3) := by decide +kernel
theorem D31_42 : decode (byt 31) 42 = .ok (.invokevirtual 59, 3) := by decide +kernel
theorem D31_45 : decode (byt 31) 45 = .ok (.ifCond .eq 15, 3) := by decide +kernel
theorem D31_48 : decode (byt 31) 48 = .ok (.aload_n 0, 1) := by decide +kernel
theorem D31_49 : decode (byt 31) 49 = .ok (.getfield 27, 3) := by decide +kernel
theorem D31_52 : decode (byt 31) 52 = .ok (.aload_n 0, 1) := by decide +kernel
theorem D31_53 : decode (byt 31) 53 = .ok (.getfield 46, 3) := by decide +kernel
theorem D31_56 : decode (byt 31) 56 = .ok (.laload, 1) := by decide +kernel
theorem D31_57 : decode (byt 31) 57 = .ok (.goto 4, 3) := by decide +kernel
theorem D31_60 : decode (byt 31) 60 = .ok (.lconst 0, 1) := by decide +kernel
theorem D31_61 : decode (byt 31) 61 = .ok (.lreturn, 1) := by decide +kernel
theorem D32_0 : decode (byt 32) 0 = .ok (.aload_n 0, 1) := by decide +kernel
theorem D32_1 : decode (byt 32) 1 = .ok (.getfield 9, 3) := by decide +kernel
theorem D32_4 : decode (byt 32) 4 = .ok (.iload_n 1, 1) := by decide +kernel
theorem D32_5 : decode (byt 32) 5 = .ok (.iaload, 1) := by decide +kernel
theorem D32_6 : decode (byt 32) 6 = .ok (.tableswitch 73 0 4 #[34, 73, 38, 50, 56], 34) := by decide +kernel
theorem D32_40 : decode (byt 32) 40 = .ok (.ldc2_w 99, 3) := by decide +kernel
theorem D32_43 : decode (byt 32) 43 = .ok (.lreturn, 1) := by decide +kernel
theorem D32_44 : decode (byt 32) 44 = .ok (.aload_n 0, 1) := by decide +kernel
theorem D32_45 : decode (byt 32) 45 = .ok (.getfield 15, 3) := by decide +kernel
theorem D32_48 : decode (byt 32) 48 = .ok (.iload_n 1, 1) := by decide +kernel
theorem D32_49 : decode (byt 32) 49 = .ok (.iaload, 1) := by decide +kernel
theorem D32_50 : decode (byt 32) 50 = .ok (.iload_n 2, 1) := by decide +kernel
theorem D32_51 : decode (byt 32) 51 = .ok (.iload_n 3, 1) := by decide +kernel
theorem D32_52 : decode (byt 32) 52 = .ok (.invokestatic 101, 3) := by decide +kernel
theorem D32_55 : decode (byt 32) 55 = .ok (.lreturn, 1) := by decide +kernel
theorem D32_56 : decode (byt 32) 56 = .ok (.aload_n 0, 1) := by decide +kernel
theorem D32_57 : decode (byt 32) 57 = .ok (.iload_n 1, 1) := by decide +kernel
theorem D32_58 : decode (byt 32) 58 = .ok (.invokevirtual 104, 3) := by decide +kernel
theorem D32_61 : decode (byt 32) 61 = .ok (.lreturn, 1) := by decide +kernel
theorem D32_62 : decode (byt 32) 62 = .ok (.aload_n 0, 1) := by decide +kernel
theorem D32_63 : decode (byt 32) 63 = .ok (.iload_n 1, 1) := by decide +kernel
theorem D32_64 : decode (byt 32) 64 = .ok (.aload_n 0, 1) := by decide +kernel
theorem D32_65 : decode (byt 32) 65 = .ok (.getfield 15, 3) := by decide +kernel
theorem D32_68 : decode (byt 32) 68 = .ok (.iload_n 1, 1) := by decide +kernel
theorem D32_69 : decode (byt 32) 69 = .ok (.iaload, 1) := by decide +kernel
theorem D32_70 : decode (byt 32) 70 = .ok (.iload_n 2, 1) := by decide +kernel
theorem D32_71 : decode (byt 32) 71 = .ok (.iload_n 3, 1) := by decide +kernel
theorem D32_72 : decode (byt 32) 72 = .ok (.invokestatic 101, 3) := by decide +kernel
theorem D32_75 : decode (byt 32) 75 = .ok (.invokevirtual 108, 3) := by decide +kernel
theorem D32_78 : decode (byt 32) 78 = .ok (.lreturn, 1) := by decide +kernel
theorem D32_79 : decode (byt 32) 79 = .ok (.lconst 0, 1) := by decide +kernel
theorem D32_80 : decode (byt 32) 80 = .ok (.lreturn, 1) := by decide +kernel
theorem D33_0 : decode (byt 33) 0 = .ok (.ldc2_w 99, 3) := by decide +kernel
theorem D33_3 : decode (byt 33) 3 = .ok (.lstore_n 2, 1) := by decide +kernel
theorem D33_4 : decode (byt 33) 4 = .ok (.iload_n 1, 1) := by decide +kernel
theorem D33_5 : decode (byt 33) 5 = .ok (.bipush 12, 2) := by decide +kernel
theorem D33_7 : decode (byt 33) 7 = .ok (.imul, 1) := by decide +kernel
theorem D33_8 : decode (byt 33) 8 = .ok (.istore 4, 2) := by decide +kernel
theorem D33_10 : decode (byt 33) 10 = .ok (.iconst 0, 1) := by decide +kernel
theorem D33_11 : decode (byt 33) 11 = .ok (.istore 5, 2) := by decide +kernel
theorem D33_13 : decode (byt 33) 13 = .ok (.iload 5, 2) := by decide +kernel
theorem D33_15 : decode (byt 33) 15 = .ok (.aload_n 0, 1) := by decide +kernel
theorem D33_16 : decode (byt 33) 16 = .ok (.getfield 18, 3) := by decide +kernel
theorem D33_19 : decode (byt 33) 19 = .ok (.iload_n 1, 1) := by decide +kernel
theorem D33_20 : decode (byt 33) 20 = .ok (.iaload, 1) := by decide +kernel
theorem D33_21 : decode (byt 33) 21 = .ok (.if_icmp .ge 34, 3) := by decide +kernel
theorem D33_24 : decode (byt 33) 24 = .ok (.iload 5, 2) := by decide +kernel
theorem D33_26 : decode (byt 33) 26 = .ok (.bipush 12, 2) := by decide +kernel
theorem D33_28 : decode (byt 33) 28 = .ok (.if_icmp .ge 27, 3) := by decide +kernel
theorem D33_31 : decode (byt 33) 31 = .ok (.lload_n 2, 1) := by decide +kernel
theorem D33_32 : decode (byt 33) 32 = .ok (.aload_n 0, 1) := by decide +kernel
theorem D33_33 : decode (byt 33) 33 = .ok (.getfield 27, 3) := by decide +kernel
theorem D33_36 : decode (byt 33) 36 = .ok (.aload_n 0, 1) := by decide +kernel
theorem D33_37 : decode (byt 33) 37 = .ok (.getfield 24, 3) := by decide +kernel
theorem D33_40 : decode (byt 33) 40 = .ok (.iload 4, 2) := by decide +kernel
theorem D33_42 : decode (byt 33) 42 = .ok (.iload 5, 2) := by decide +kernel
theorem D33_44 : decode (byt 33) 44 = .ok (.iadd, 1) := by decide +kernel
theorem D33_45 : decode (byt 33) 45 = .ok (.iaload, 1) := by decide +kernel
theorem D33_46 : decode (byt 33) 46 = .ok (.laload, 1) := by decide +kernel
theorem D33_47 : decode (byt 33) 47 = .ok (.land, 1) := by decide +kernel
theorem D33_48 : decode (byt 33) 48 = .ok (.lstore_n 2, 1) := by decide +kernel
theorem D33_49 : decode (byt 33) 49 = .ok (.iinc 5 1, 3) := by decide +kernel
theorem D33_52 : decode (byt 33) 52 = .ok (.goto (-39), 3) := by decide +kernel
theorem D33_55 : decode (byt 33) 55 = .ok (.lload_n 2, 1) := by decide +kernel
theorem D33_56 : decode (byt 33) 56 = .ok (.lreturn, 1) := by decide +kernel
theorem D34_0 : decode (byt 34) 0 = .ok (.iload_n 1, 1) := by decide +kernel
theorem D34_1 : decode (byt 34) 1 = .ok (.bipush 12, 2) := by decide +kernel
theorem D34_3 : decode (byt 34) 3 = .ok (.imul, 1) := by decide +kernel
theorem D34_4 : decode (byt 34) 4 = .ok (.istore 4, 2) := by decide +kernel
theorem D34_6 : decode (byt 34) 6 = .ok (.lload_n 2, 1) := by decide +kernel
theorem D34_7 : decode (byt 34) 7 = .ok (.aload_n 0, 1) := by decide +kernel
theorem D34_8 : decode (byt 34) 8 = .ok (.getfield 27, 3) := by decide +kernel
theorem D34_11 : decode (byt 34) 11 = .ok (.aload_n 0, 1) := by decide +kernel
theorem D34_12 : decode (byt 34) 12 = .ok (.getfield 24, 3) := by decide +kernel
theorem D34_15 : decode (byt 34) 15 = .ok (.iload 4, 2) := by decide +kernel
theorem D34_17 : decode (byt 34) 17 = .ok (.iaload, 1) := by decide +kernel
theorem D34_18 : decode (byt 34) 18 = .ok (.laload, 1) := by decide +kernel
theorem D34_19 : decode (byt 34) 19 = .ok (.land, 1) := by decide +kernel
theorem D34_20 : decode (byt 34) 20 = .ok (.lload_n 2, 1) := by decide +kernel
theorem D34_21 : decode (byt 34) 21 = .ok (.ldc2_w 99, 3) := by decide +kernel
theorem D34_24 : decode (byt 34) 24 = .ok (.lxor, 1) := by decide +kernel
theorem D34_25 : decode (byt 34) 25 = .ok (.aload_n 0, 1) := by decide +kernel
theorem D34_26 : decode (byt 34) 26 = .ok (.getfield 27, 3) := by decide +kernel
theorem D34_29 : decode (byt 34) 29 = .ok (.aload_n 0, 1) := by decide +kernel
theorem D34_30 : decode (byt 34) 30 = .ok (.getfield 24, 3) := by decide +kernel
theorem D34_33 : decode (byt 34) 33 = .ok (.iload 4, 2) := by decide +kernel
theorem D34_35 : decode (byt 34) 35 = .ok (.iconst 1, 1) := by decide +kernel
theorem D34_36 : decode (byt 34) 36 = .ok (.iadd, 1) := by decide +kernel
theorem D34_37 : decode (byt 34) 37 = .ok (.iaload, 1) := by decide +kernel
theorem D34_38 : decode (byt 34) 38 = .ok (.laload, 1) := by decide +kernel
theorem D34_39 : decode (byt 34) 39 = .ok (.land, 1) := by decide +kernel
theorem D34_40 : decode (byt 34) 40 = .ok (.lor, 1) := by decide +kernel
theorem D34_41 : decode (byt 34) 41 = .ok (.lreturn, 1) := by decide +kernel
theorem D35_0 : decode (byt 35) 0 = .ok (.aload_n 0, 1) := by decide +kernel
theorem D35_1 : decode (byt 35) 1 = .ok (.invokespecial 3, 3) := by decide +kernel
theorem D35_4 : decode (byt 35) 4 = .ok (.aload_n 0, 1) := by decide +kernel
theorem D35_5 : decode (byt 35) 5 = .ok (.bipush 40, 2) := by decide +kernel
theorem D35_7 : decode (byt 35) 7 = .ok (.newarray .int, 2) := by decide +kernel
theorem D35_9 : decode (byt 35) 9 = .ok (.putfield 9, 3) := by decide +kernel
theorem D35_12 : decode (byt 35) 12 = .ok (.aload_n 0, 1) := by decide +kernel
theorem D35_13 : decode (byt 35) 13 = .ok (.bipush 40, 2) := by decide +kernel
theorem D35_15 : decode (byt 35) 15 = .ok (.newarray .int, 2) := by decide +kernel
theorem D35_17 : decode (byt 35) 17 = .ok (.putfield 15, 3) := by decide +kernel
theorem D35_20 : decode (byt 35) 20 = .ok (.aload_n 0, 1) := by decide +kernel
theorem D35_21 : decode (byt 35) 21 = .ok (.bipush 40, 2) := by decide +kernel
theorem D35_23 : decode (byt 35) 23 = .ok (.newarray .int, 2) := by decide +kernel
theorem D35_25 : decode (byt 35) 25 = .ok (.putfield 18, 3) := by decide +kernel
theorem D35_28 : decode (byt 35) 28 = .ok (.aload_n 0, 1) := by decide +kernel
theorem D35_29 : decode (byt 35) 29 = .ok (.bipush 12, 2) := by decide +kernel
theorem D35_31 : decode (byt 35) 31 = .ok (.newarray .int, 2) := by decide +kernel
theorem D35_33 : decode (byt 35) 33 = .ok (.putfield 21, 3) := by decide +kernel
theorem D35_36 : decode (byt 35) 36 = .ok (.aload_n 0, 1) := by decide +kernel
theorem D35_37 : decode (byt 35) 37 = .ok (.bipush 12, 2) := by decide +kernel
theorem D35_39 : decode (byt 35) 39 = .ok (.newarray .int, 2) := by decide +kernel
theorem D35_41 : decode (byt 35) 41 = .ok (.putfield 24, 3) := by decide +kernel
theorem D35_44 : decode (byt 35) 44 = .ok (.aload_n 0, 1) := by decide +kernel
theorem D35_45 : decode (byt 35) 45 = .ok (.iconst 0, 1) := by decide +kernel
theorem D35_46 : decode (byt 35) 46 = .ok (.putfield 27, 3) := by decide +kernel
theorem D35_49 : decode (byt 35) 49 = .ok (.aload_n 0, 1) := by decide +kernel
theorem D35_50 : decode (byt 35) 50 = .ok (.iconst 0, 1) := by decide +kernel
theorem D35_51 : decode (byt 35) 51 = .ok (.putfield 31, 3) := by decide +kernel
theorem D35_54 : decode (byt 35) 54 = .ok (.aload_n 0, 1) := by decide +kernel
theorem D35_55 : decode (byt 35) 55 = .ok (.iconst 0, 1) := by decide +kernel
theorem D35_56 : decode (byt 35) 56 = .ok (.putfield 34, 3) := by decide +kernel
theorem D35_59 : decode (byt 35) 59 = .ok (.aload_n 0, 1) := by decide +kernel
theorem D35_60 : decode (byt 35) 60 = .ok (.iconst 0, 1) := by decide +kernel
theorem D35_61 : decode (byt 35) 61 = .ok (.putfield 37, 3) := by decide +kernel
theorem D35_64 : decode (byt 35) 64 = .ok (.return_, 1) := by decide +kernel
theorem D36_0 : decode (byt 36) 0 = .ok (.aload_n 0, 1) := by decide +kernel
theorem D36_1 : decode (byt 36) 1 = .ok (.iconst 0, 1) := by decide +kernel
theorem D36_2 : decode (byt 36) 2 = .ok (.putfield 34, 3) := by decide +kernel
theorem D36_5 : decode (byt 36) 5 = .ok (.aload_n 0, 1) := by decide +kernel
theorem D36_6 : decode (byt 36) 6 = .ok (.iconst 0, 1) := by decide +kernel
theorem D36_7 : decode (byt 36) 7 = .ok (.putfield 37, 3) := by decide +kernel
theorem D36_10 : decode (byt 36) 10 = .ok (.aload_n 0, 1) := by decide +kernel
theorem D36_11 : decode (byt 36) 11 = .ok (.aload_n 1, 1) := by decide +kernel
theorem D36_12 : decode (byt 36) 12 = .ok (.iload_n 2, 1) := by decide +kernel
theorem D36_13 : decode (byt 36) 13 = .ok (.iload_n 3, 1) := by decide +kernel
theorem D36_14 : decode (byt 36) 14 = .ok (.invokevirtual 40, 3) := by decide +kernel
theorem D36_17 : decode (byt 36) 17 = .ok (.return_, 1) := by decide +kernel
theorem D37_0 : decode (byt 37) 0 = .ok (.iload_n 3, 1) := by decide +kernel
theorem D37_1 : decode (byt 37) 1 = .ok (.invokestatic 44, 3) := by decide +kernel
theorem D37_4 : decode (byt 37) 4 = .ok (.istore 4, 2) := by decide +kernel
theorem D37_6 : decode (byt 37) 6 = .ok (.aload_n 0, 1) := by decide +kernel
theorem D37_7 : decode (byt 37) 7 = .ok (.iconst 0, 1) := by decide +kernel
theorem D37_8 : decode (byt 37) 8 = .ok (.putfield 27, 3) := by decide +kernel
theorem D37_11 : decode (byt 37) 11 = .ok (.iconst 0, 1) := by decide +kernel
theorem D37_12 : decode (byt 37) 12 = .ok (.istore 5, 2) := by decide +kernel
theorem D37_14 : decode (byt 37) 14 = .ok (.iload 5, 2) := by decide +kernel
theorem D37_16 : decode (byt 37) 16 = .ok (.iload_n 2, 1) := by decide +kernel
theorem D37_17 : decode (byt 37) 17 = .ok (.if_icmp .ge 38, 3) := by decide +kernel
theorem D37_20 : decode (byt 37) 20 = .ok (.iload 5, 2) := by decide +kernel
theorem D37_22 : decode (byt 37) 22 = .ok (.aload_n 1, 1) := by decide +kernel
theorem D37_23 : decode (byt 37) 23 = .ok (.arraylength, 1) := by decide +kernel
theorem D37_24 : decode (byt 37) 24 = .ok (.if_icmp .ge 31, 3) := by decide +kernel
theorem D37_27 : decode (byt 37) 27 = .ok (.aload_n 1, 1) := by decide +kernel
theorem D37_28 : decode (byt 37) 28 = .ok (.iload 5, 2) := by decide +kernel
theorem D37_30 : decode (byt 37) 30 = .ok (.iaload, 1) := by decide +kernel
theorem D37_31 : decode (byt 37) 31 = .ok (.iload_n 3, 1) := by decide +kernel
theorem D37_32 : decode (byt 37) 32 = .ok (.iand, 1) := by decide +kernel
theorem D37_33 : decode (byt 37) 33 = .ok (.ifCond .ne 16, 3) := by decide +kernel
theorem D37_36 : decode (byt 37) 36 = .ok (.aload_n 0, 1) := by decide +kernel
theorem D37_37 : decode (byt 37) 37 = .ok (.aload_n 1, 1) := by decide +kernel
theorem D37_38 : decode (byt 37) 38 = .ok (.iload 5, 2) := by decide +kernel
theorem D37_40 : decode (byt 37) 40 = .ok (.iaload, 1) := by decide +kernel
theorem D37_41 : decode (byt 37) 41 = .ok (.iload 4, 2) := by decide +kernel
theorem D37_43 : decode (byt 37) 43 = .ok (.iconst (-1), 1) := by decide +kernel
theorem D37_44 : decode (byt 37) 44 = .ok (.ixor, 1) := by decide +kernel
theorem D37_45 : decode (byt 37) 45 = .ok (.iand, 1) := by decide +kernel
theorem D37_46 : decode (byt 37) 46 = .ok (.invokevirtual 48, 3) := by decide +kernel
theorem D37_49 : decode (byt 37) 49 = .ok (.iinc 5 1, 3) := by decide +kernel
theorem D37_52 : decode (byt 37) 52 = .ok (.goto (-38), 3) := by decide +kernel
theorem D37_55 : decode (byt 37) 55 = .ok (.return_, 1) := by decide +kernel
theorem D38_0 : decode (byt 38) 0 = .ok (.iconst 0, 1) := by decide +kernel
theorem D38_1 : decode (byt 38) 1 = .ok (.istore_n 2, 1) := by decide +kernel
theorem D38_2 : decode (byt 38) 2 = .ok (.iload_n 2, 1) := by decide +kernel
theorem D38_3 : decode (byt 38) 3 = .ok (.aload_n 0, 1) := by decide +kernel
theorem D38_4 : decode (byt 38) 4 = .ok (.getfield 27, 3) := by decide +kernel
theorem D38_7 : decode (byt 38) 7 = .ok (.if_icmp .ge 20, 3) := by decide +kernel
theorem D38_10 : decode (byt 38) 10 = .ok (.aload_n 0, 1) := by decide +kernel
theorem D38_11 : decode (byt 38) 11 = .ok (.getfield 9, 3) := by decide +kernel
theorem D38_14 : decode (byt 38) 14 = .ok (.iload_n 2, 1) := by decide +kernel
theorem D38_15 : decode (byt 38) 15 = .ok (.iaload, 1) := by decide +kernel
theorem D38_16 : decode (byt 38) 16 = .ok (.iload_n 1, 1) := by decide +kernel
theorem D38_17 : decode (byt 38) 17 = .ok (.if_icmp .ne 4, 3) := by decide +kernel
theorem D38_20 : decode (byt 38) 20 = .ok (.return_, 1) := by decide +kernel
theorem D38_21 : decode (byt 38) 21 = .ok (.iinc 2 1, 3) := by decide +kernel
theorem D38_24 : decode (byt 38) 24 = .ok (.goto (-22), 3) := by decide +kernel
theorem D38_27 : decode (byt 38) 27 = .ok (.aload_n 0, 1) := by decide +kernel
theorem D38_28 : decode (byt 38) 28 = .ok (.getfield 27, 3) := by decide +kernel
theorem D38_31 : decode (byt 38) 31 = .ok (.aload_n 0, 1) := by decide +kernel
theorem D38_32 : decode (byt 38) 32 = .ok (.getfield 9, 3) := by decide +kernel
theorem D38_35 : decode (byt 38) 35 = .ok (.arraylength, 1) := by decide +kernel
theorem D38_36 : decode (byt 38) 36 = .ok (.if_icmp .ge 23, 3) := by decide +kernel
theorem D38_39 : decode (byt 38) 39 = .ok (.aload_n 0, 1) := by decide +kernel
theorem D38_40 : decode (byt 38) 40 = .ok (.getfield 9, 3) := by decide +kernel
theorem D38_43 : decode (byt 38) 43 = .ok (.aload_n 0, 1) := by decide +kernel
theorem D38_44 : decode (byt 38) 44 = .ok (.getfield 27, 3) := by decide +kernel
theorem D38_47 : decode (byt 38) 47 = .ok (.iload_n 1, 1) := by decide +kernel
theorem D38_48 : decode (byt 38) 48 = .ok (.iastore, 1) := by decide +kernel
theorem D38_49 : decode (byt 38) 49 = .ok (.aload_n 0, 1) := by decide +kernel
theorem D38_50 : decode (byt 38) 50 = .ok (.dup, 1) := by decide +kernel
theorem D38_51 : decode (byt 38) 51 = .ok (.getfield 27, 3) := by decide +kernel
theorem D38_54 : decode (byt 38) 54 = .ok (.iconst 1, 1) := by decide +kernel
theorem D38_55 : decode (byt 38) 55 = .ok (.iadd, 1) := by decide +kernel
theorem D38_56 : decode (byt 38) 56 = .ok (.putfield 27, 3) := by decide +kernel
theorem D38_59 : decode (byt 38) 59 = .ok (.return_, 1) := by decide +kernel
theorem D39_0 : decode (byt 39) 0 = .ok (.iconst 0, 1) := by decide +kernel
theorem D39_1 : decode (byt 39) 1 = .ok (.istore_n 1, 1) := by decide +kernel
theorem D39_2 : decode (byt 39) 2 = .ok (.iload_n 1, 1) := by decide +kernel
theorem D39_3 : decode (byt 39) 3 = .ok (.bipush 12, 2) := by decide +kernel
theorem D39_5 : decode (byt 39) 5 = .ok (.if_icmp .gt 74, 3) := by decide +kernel
theorem D39_8 : decode (byt 39) 8 = .ok (.aload_n 0, 1) := by decide +kernel
theorem D39_9 : decode (byt 39) 9 = .ok (.invokevirtual 52, 3) := by decide +kernel
theorem D39_12 : decode (byt 39) 12 = .ok (.ifCond .eq 5, 3) := by decide +kernel
theorem D39_15 : decode (byt 39) 15 = .ok (.iconst 0, 1) := by decide +kernel
theorem D39_16 : decode (byt 39) 16 = .ok (.ireturn, 1) := by decide +kernel
theorem D39_17 : decode (byt 39) 17 = .ok (.aload_n 0, 1) := by decide +kernel
theorem D39_18 : decode (byt 39) 18 = .ok (.invokevirtual 56, 3) := by decide +kernel
theorem D39_21 : decode (byt 39) 21 = .ok (.istore_n 2, 1) := by decide +kernel
theorem D39_22 : decode (byt 39) 22 = .ok (.iload_n 2, 1) := by decide +kernel
theorem D39_23 : decode (byt 39) 23 = .ok (.ifCond .ne 5, 3) := by decide +kernel
theorem D39_26 : decode (byt 39) 26 = .ok (.iconst 1, 1) := by decide +kernel
theorem D39_27 : decode (byt 39) 27 = .ok (.ireturn, 1) := by decide +kernel
theorem D39_28 : decode (byt 39) 28 = .ok (.aload_n 0, 1) := by decide +kernel
theorem D39_29 : decode (byt 39) 29 = .ok (.getfield 34, 3) := by decide +kernel
theorem D39_32 : decode (byt 39) 32 = .ok (.aload_n 0, 1) := by decide +kernel
theorem D39_33 : decode (byt 39) 33 = .ok (.getfield 21, 3) := by decide +kernel
theorem D39_36 : decode (byt 39) 36 = .ok (.arraylength, 1) := by decide +kernel
theorem D39_37 : decode (byt 39) 37 = .ok (.if_icmp .ge 23, 3) := by decide +kernel
theorem D39_40 : decode (byt 39) 40 = .ok (.aload_n 0, 1) := by decide +kernel
theorem D39_41 : decode (byt 39) 41 = .ok (.getfield 21, 3) := by decide +kernel
theorem D39_44 : decode (byt 39) 44 = .ok (.aload_n 0, 1) := by decide +kernel
theorem D39_45 : decode (byt 39) 45 = .ok (.getfield 34, 3) := by decide +kernel
theorem D39_48 : decode (byt 39) 48 = .ok (.iload_n 2, 1) := by decide +kernel
theorem D39_49 : decode (byt 39) 49 = .ok (.iastore, 1) := by decide +kernel
theorem D39_50 : decode (byt 39) 50 = .ok (.aload_n 0, 1) := by decide +kernel
theorem D39_51 : decode (byt 39) 51 = .ok (.dup, 1) := by decide +kernel
theorem D39_52 : decode (byt 39) 52 = .ok (.getfield 34, 3) := by decide +kernel
theorem D39_55 : decode (byt 39) 55 = .ok (.iconst 1, 1) := by decide +kernel
theorem D39_56 : decode (byt 39) 56 = .ok (.iadd, 1) := by decide +kernel
theorem D39_57 : decode (byt 39) 57 = .ok (.putfield 34, 3) := by decide +kernel
theorem D39_60 : decode (byt 39) 60 = .ok (.aload_n 0, 1) := by decide +kernel
theorem D39_61 : decode (byt 39) 61 = .ok (.aload_n 0, 1) := by decide +kernel
theorem D39_62 : decode (byt 39) 62 = .ok (.getfield 9, 3) := by decide +kernel
theorem D39_65 : decode (byt 39) 65 = .ok (.aload_n 0, 1) := by decide +kernel
theorem D39_66 : decode (byt 39) 66 = .ok (.getfield 27, 3) := by decide +kernel
theorem D39_69 : decode (byt 39) 69 = .ok (.iload_n 2, 1) := by decide +kernel
theorem D39_70 : decode (byt 39) 70 = .ok (.invokevirtual 40, 3) := by decide +kernel
theorem D39_73 : decode (byt 39) 73 = .ok (.iinc 1 1, 3) := by decide +kernel
theorem D39_76 : decode (byt 39) 76 = .ok (.goto (-74), 3) := by decide +kernel
theorem D39_79 : decode (byt 39) 79 = .ok (.iconst 1, 1) := by decide +kernel
theorem D39_80 : decode (byt 39) 80 = .ok (.ireturn, 1) := by decide +kernel
theorem D40_0 : decode (byt 40) 0 = .ok (.iconst 0, 1) := by decide +kernel
theorem D40_1 : decode (byt 40) 1 = .ok (.istore_n 1, 1) := by decide +kernel
theorem D40_2 : decode (byt 40) 2 = .ok (.iload_n 1, 1) := by decide +kernel
theorem D40_3 : decode (byt 40) 3 = .ok (.aload_n 0, 1) := by decide +kernel
theorem D40_4 : decode (byt 40) 4 = .ok (.getfield 27, 3) := by decide +kernel
theorem D40_7 : decode (byt 40) 7 = .ok (.if_icmp .ge 20, 3) := by decide +kernel
theorem D40_10 : decode (byt 40) 10 = .ok (.aload_n 0, 1) := by decide +kernel
theorem D40_11 : decode (byt 40) 11 = .ok (.getfield 9, 3) := by decide +kernel
theorem D40_14 : decode (byt 40) 14 = .ok (.iload_n 1, 1) := by decide +kernel
theorem D40_15 : decode (byt 40) 15 = .ok (.iaload, 1) := by decide +kernel
theorem D40_16 : decode (byt 40) 16 = .ok (.ifCond .ne 5, 3) := by decide +kernel
theorem D40_19 : decode (byt 40) 19 = .ok (.iconst 1, 1) := by decide +kernel
theorem D40_20 : decode (byt 40) 20 = .ok (.ireturn, 1) := by decide +kernel
theorem D40_21 : decode (byt 40) 21 = .ok (.iinc 1 1, 3) := by decide +kernel
theorem D40_24 : decode (byt 40) 24 = .ok (.goto (-22), 3) := by decide +kernel
theorem D40_27 : decode (byt 40) 27 = .ok (.iconst 0, 1) := by decide +kernel
theorem D40_28 : decode (byt 40) 28 = .ok (.ireturn, 1) := by decide +kernel
theorem D41_0 : decode (byt 41) 0 = .ok (.iconst 0, 1) := by decide +kernel
theorem D41_1 : decode (byt 41) 1 = .ok (.istore_n 1, 1) := by decide +kernel
theorem D41_2 : decode (byt 41) 2 = .ok (.iload_n 1, 1) := by decide +kernel
theorem D41_3 : decode (byt 41) 3 = .ok (.aload_n 0, 1) := by decide +kernel
theorem D41_4 : decode (byt 41) 4 = .ok (.getfield 27, 3) := by decide +kernel
theorem D41_7 : decode (byt 41) 7 = .ok (.if_icmp .ge 29, 3) := by decide +kernel
theorem D41_10 : decode (byt 41) 10 = .ok (.aload_n 0, 1) := by decide +kernel
theorem D41_11 : decode (byt 41) 11 = .ok (.getfield 9, 3) := by decide +kernel
theorem D41_14 : decode (byt 41) 14 = .ok (.iload_n 1, 1) := by decide +kernel
theorem D41_15 : decode (byt 41) 15 = .ok (.iaload, 1) := by decide +kernel
theorem D41_16 : decode (byt 41) 16 = .ok (.invokestatic 60, 3) := by decide +kernel
theorem D41_19 : decode (byt 41) 19 = .ok (.iconst 1, 1) := by decide +kernel
theorem D41_20 : decode (byt 41) 20 = .ok (.if_icmp .ne 10, 3) := by decide +kernel
theorem D41_23 : decode (byt 41) 23 = .ok (.aload_n 0, 1) := by decide +kernel
theorem D41_24 : decode (byt 41) 24 = .ok (.getfield 9, 3) := by decide +kernel
theorem D41_27 : decode (byt 41) 27 = .ok (.iload_n 1, 1) := by decide +kernel
theorem D41_28 : decode (byt 41) 28 = .ok (.iaload, 1) := by decide +kernel
theorem D41_29 : decode (byt 41) 29 = .ok (.ireturn, 1) := by decide +kernel
theorem D41_30 : decode (byt 41) 30 = .ok (.iinc 1 1, 3) := by decide +kernel
theorem D41_33 : decode (byt 41) 33 = .ok (.goto (-31), 3) := by decide +kernel
theorem D41_36 : decode (byt 41) 36 = .ok (.iconst 0, 1) := by decide +kernel
theorem D41_37 : decode (byt 41) 37 = .ok (.ireturn, 1) := by decide +kernel
theorem D42_0 : decode (byt 42) 0 = .ok (.iconst 0, 1) := by decide +kernel
theorem D42_1 : decode (byt 42) 1 = .ok (.istore_n 1, 1) := by decide +kernel
theorem D42_2 : decode (byt 42) 2 = .ok (.iload_n 1, 1) := by decide +kernel
theorem D42_3 : decode (byt 42) 3 = .ok (.aload_n 0, 1) := by decide +kernel
theorem D42_4 : decode (byt 42) 4 = .ok (.getfield 27, 3) := by decide +kernel
theorem D42_7 : decode (byt 42) 7 = .ok (.if_icmp .ge 16, 3) := by decide +kernel
theorem D42_10 : decode (byt 42) 10 = .ok (.aload_n 0, 1) := by decide +kernel
theorem D42_11 : decode (byt 42) 11 = .ok (.getfield 15, 3) := by decide +kernel
theorem D42_14 : decode (byt 42) 14 = .ok (.iload_n 1, 1) := by decide +kernel
theorem D42_15 : decode (byt 42) 15 = .ok (.iconst (-1), 1) := by decide +kernel
theorem D42_16 : decode (byt 42) 16 = .ok (.iastore, 1) := by decide +kernel
theorem D42_17 : decode (byt 42) 17 = .ok (.iinc 1 1, 3) := by decide +kernel
theorem D42_20 : decode (byt 42) 20 = .ok (.goto (-18), 3) := by decide +kernel
theorem D42_23 : decode (byt 42) 23 = .ok (.iconst 0, 1) := by decide +kernel
theorem D42_24 : decode (byt 42) 24 = .ok (.istore_n 1, 1) := by decide +kernel
theorem D42_25 : decode (byt 42) 25 = .ok (.iconst 0, 1) := by decide +kernel
theorem D42_26 : decode (byt 42) 26 = .ok (.istore_n 2, 1) := by decide +kernel
theorem D42_27 : decode (byt 42) 27 = .ok (.iload_n 2, 1) := by decide +kernel
theorem D42_28 : decode (byt 42) 28 = .ok (.aload_n 0, 1) := by decide +kernel
theorem D42_29 : decode (byt 42) 29 = .ok (.getfield 27, 3) := by decide +kernel
theorem D42_32 : decode (byt 42) 32 = .ok (.if_icmp .ge 28, 3) := by decide +kernel
theorem D42_35 : decode (byt 42) 35 = .ok (.aload_n 0, 1) := by decide +kernel
theorem D42_36 : decode (byt 42) 36 = .ok (.getfield 15, 3) := by decide +kernel
theorem D42_39 : decode (byt 42) 39 = .ok (.iload_n 2, 1) := by decide +kernel
theorem D42_40 : decode (byt 42) 40 = .ok (.iaload, 1) := by decide +kernel
theorem D42_41 : decode (byt 42) 41 = .ok (.iconst (-1), 1) := by decide +kernel
theorem D42_42 : decode (byt 42) 42 = .ok (.if_icmp .ne 12, 3) := by decide +kernel
theorem D42_45 : decode (byt 42) 45 = .ok (.aload_n 0, 1) := by decide +kernel
theorem D42_46 : decode (byt 42) 46 = .ok (.iload_n 2, 1) := by decide +kernel
theorem D42_47 : decode (byt 42) 47 = .ok (.iload_n 1, 1) := by decide +kernel
theorem D42_48 : decode (byt 42) 48 = .ok (.invokevirtual 65, 3) := by decide +kernel
theorem D42_51 : decode (byt 42) 51 = .ok (.iinc 1 1, 3) := by decide +kernel
theorem D42_54 : decode (byt 42) 54 = .ok (.iinc 2 1, 3) := by decide +kernel
theorem D42_57 : decode (byt 42) 57 = .ok (.goto (-30), 3) := by decide +kernel
theorem D42_60 : decode (byt 42) 60 = .ok (.iload_n 1, 1) := by decide +kernel
theorem D42_61 : decode (byt 42) 61 = .ok (.ireturn, 1) := by decide +kernel
theorem D43_0 : decode (byt 43) 0 = .ok (.aload_n 0, 1) := by decide +kernel
theorem D43_1 : decode (byt 43) 1 = .ok (.getfield 9, 3) := by decide +kernel
theorem D43_4 : decode (byt 43) 4 = .ok (.iload_n 1, 1) := by decide +kernel
theorem D43_5 : decode (byt 43) 5 = .ok (.iaload, 1) := by decide +kernel
theorem D43_6 : decode (byt 43) 6 = .ok (.invokestatic 69, 3) := by decide +kernel
theorem D43_9 : decode (byt 43) 9 = .ok (.istore_n 3, 1) := by decide +kernel
theorem D43_10 : decode (byt 43) 10 = .ok (.iconst 0, 1) := by decide +kernel
theorem D43_11 : decode (byt 43) 11 = .ok (.istore 4, 2) := by decide +kernel
theorem D43_13 : decode (byt 43) 13 = .ok (.iconst 0, 1) := by decide +kernel
theorem D43_14 : decode (byt 43) 14 = .ok (.istore 5, 2) := by decide +kernel
theorem D43_16 : decode (byt 43) 16 = .ok (.iload 5, 2) := by decide +kernel
theorem D43_18 : decode (byt 43) 18 = .ok (.bipush 12, 2) := by decide +kernel
theorem D43_20 : decode (byt 43) 20 = .ok (.if_icmp .gt 72, 3) := by decide +kernel
theorem D43_23 : decode (byt 43) 23 = .ok (.iload_n 3, 1) := by decide +kernel
theorem D43_24 : decode (byt 43) 24 = .ok (.iload 4, 2) := by decide +kernel
theorem D43_26 : decode (byt 43) 26 = .ok (.if_icmp .eq 66, 3) := by decide +kernel
theorem D43_29 : decode (byt 43) 29 = .ok (.iload_n 3, 1) := by decide +kernel
theorem D43_30 : decode (byt 43) 30 = .ok (.istore 4, 2) := by decide +kernel
theorem D43_32 : decode (byt 43) 32 = .ok (.iload_n 1, 1) := by decide +kernel
theorem D43_33 : decode (byt 43) 33 = .ok (.istore 6, 2) := by decide +kernel
theorem D43_35 : decode (byt 43) 35 = .ok (.iload 6, 2) := by decide +kernel
theorem D43_37 : decode (byt 43) 37 = .ok (.aload_n 0, 1) := by decide +kernel
theorem D43_38 : decode (byt 43) 38 = .ok (.getfield 27, 3) := by decide +kernel
theorem D43_41 : decode (byt 43) 41 = .ok (.if_icmp .ge 45, 3) := by decide +kernel
theorem D43_44 : decode (byt 43) 44 = .ok (.aload_n 0, 1) := by decide +kernel
theorem D43_45 : decode (byt 43) 45 = .ok (.getfield 9, 3) := by decide +kernel
theorem D43_48 : decode (byt 43) 48 = .ok (.iload 6, 2) := by decide +kernel
theorem D43_50 : decode (byt 43) 50 = .ok (.iaload, 1) := by decide +kernel
theorem D43_51 : decode (byt 43) 51 = .ok (.invokestatic 69, 3) := by decide +kernel
theorem D43_54 : decode (byt 43) 54 = .ok (.iload_n 3, 1) := by decide +kernel
theorem D43_55 : decode (byt 43) 55 = .ok (.iand, 1) := by decide +kernel
theorem D43_56 : decode (byt 43) 56 = .ok (.ifCond .eq 24, 3) := by decide +kernel
theorem D43_59 : decode (byt 43) 59 = .ok (.aload_n 0, 1) := by decide +kernel
theorem D43_60 : decode (byt 43) 60 = .ok (.getfield 15, 3) := by decide +kernel
theorem D43_63 : decode (byt 43) 63 = .ok (.iload 6, 2) := by decide +kernel
theorem D43_65 : decode (byt 43) 65 = .ok (.iload_n 2, 1) := by decide +kernel
theorem D43_66 : decode (byt 43) 66 = .ok (.iastore, 1) := by decide +kernel
theorem D43_67 : decode (byt 43) 67 = .ok (.iload_n 3, 1) := by decide +kernel
theorem D43_68 : decode (byt 43) 68 = .ok (.aload_n 0, 1) := by decide +kernel
theorem D43_69 : decode (byt 43) 69 = .ok (.getfield 9, 3) := by decide +kernel
theorem D43_72 : decode (byt 43) 72 = .ok (.iload 6, 2) := by decide +kernel
theorem D43_74 : decode (byt 43) 74 = .ok (.iaload, 1) := by decide +kernel
theorem D43_75 : decode (byt 43) 75 = .ok (.invokestatic 69, 3) := by decide +kernel
theorem D43_78 : decode (byt 43) 78 = .ok (.ior, 1) := by decide +kernel
theorem D43_79 : decode (byt 43) 79 = .ok (.istore_n 3, 1) := by decide +kernel
theorem D43_80 : decode (byt 43) 80 = .ok (.iinc 6 1, 3) := by decide +kernel
theorem D43_83 : decode (byt 43) 83 = .ok (.goto (-48), 3) := by decide +kernel
theorem D43_86 : decode (byt 43) 86 = .ok (.iinc 5 1, 3) := by decide +kernel
theorem D43_89 : decode (byt 43) 89 = .ok (.goto (-73), 3) := by decide +kernel
theorem D43_92 : decode (byt 43) 92 = .ok (.return_, 1) := by decide +kernel
theorem D44_0 : decode (byt 44) 0 = .ok (.aload_n 0, 1) := by decide +kernel
theorem D44_1 : decode (byt 44) 1 = .ok (.iconst 0, 1) := by decide +kernel
theorem D44_2 : decode (byt 44) 2 = .ok (.putfield 31, 3) := by decide +kernel
theorem D44_5 : decode (byt 44) 5 = .ok (.iconst 0, 1) := by decide +kernel
theorem D44_6 : decode (byt 44) 6 = .ok (.istore_n 2, 1) := by decide +kernel
theorem D44_7 : decode (byt 44) 7 = .ok (.iload_n 2, 1) := by decide +kernel
theorem D44_8 : decode (byt 44) 8 = .ok (.aload_n 0, 1) := by decide +kernel
theorem D44_9 : decode (byt 44) 9 = .ok (.getfield 27, 3) := by decide +kernel
theorem D44_12 : decode (byt 44) 12 = .ok (.if_icmp .ge 44, 3) := by decide +kernel
theorem D44_15 : decode (byt 44) 15 = .ok (.aload_n 0, 1) := by decide +kernel
theorem D44_16 : decode (byt 44) 16 = .ok (.getfield 15, 3) := by decide +kernel
theorem D44_19 : decode (byt 44) 19 = .ok (.iload_n 2, 1) := by decide +kernel
theorem D44_20 : decode (byt 44) 20 = .ok (.iaload, 1) := by decide +kernel
theorem D44_21 : decode (byt 44) 21 = .ok (.iload_n 1, 1) := by decide +kernel
theorem D44_22 : decode (byt 44) 22 = .ok (.if_icmp .ne 28, 3) := by decide +kernel
theorem D44_25 : decode (byt 44) 25 = .ok (.aload_n 0, 1) := by decide +kernel
theorem D44_26 : decode (byt 44) 26 = .ok (.getfield 18, 3) := by decide +kernel
theorem D44_29 : decode (byt 44) 29 = .ok (.aload_n 0, 1) := by decide +kernel
theorem D44_30 : decode (byt 44) 30 = .ok (.getfield 31, 3) := by decide +kernel
theorem D44_33 : decode (byt 44) 33 = .ok (.aload_n 0, 1) := by decide +kernel
theorem D44_34 : decode (byt 44) 34 = .ok (.getfield 9, 3) := by decide +kernel
theorem D44_37 : decode (byt 44) 37 = .ok (.iload_n 2, 1) := by decide +kernel
theorem D44_38 : decode (byt 44) 38 = .ok (.iaload, 1) := by decide +kernel
theorem D44_39 : decode (byt 44) 39 = .ok (.iastore, 1) := by decide +kernel
theorem D44_40 : decode (byt 44) 40 = .ok (.aload_n 0, 1) := by decide +kernel
theorem D44_41 : decode (byt 44) 41 = .ok (.dup, 1) := by decide +kernel
theorem D44_42 : decode (byt 44) 42 = .ok (.getfield 31, 3) := by decide +kernel
theorem D44_45 : decode (byt 44) 45 = .ok (.iconst 1, 1) := by decide +kernel
theorem D44_46 : decode (byt 44) 46 = .ok (.iadd, 1) := by decide +kernel
theorem D44_47 : decode (byt 44) 47 = .ok (.putfield 31, 3) := by decide +kernel
theorem D44_50 : decode (byt 44) 50 = .ok (.iinc 2 1, 3) := by decide +kernel
theorem D44_53 : decode (byt 44) 53 = .ok (.goto (-46), 3) := by decide +kernel
theorem D44_56 : decode (byt 44) 56 = .ok (.return_, 1) := by decide +kernel
theorem D45_0 : decode (byt 45) 0 = .ok (.aload_n 0, 1) := by decide +kernel
theorem D45_1 : decode (byt 45) 1 = .ok (.getfield 37, 3) := by decide +kernel
theorem D45_4 : decode (byt 45) 4 = .ok (.aload_n 0, 1) := by decide +kernel
theorem D45_5 : decode (byt 45) 5 = .ok (.getfield 24, 3) := by decide +kernel
theorem D45_8 : decode (byt 45) 8 = .ok (.arraylength, 1) := by decide +kernel
theorem D45_9 : decode (byt 45) 9 = .ok (.if_icmp .ge 23, 3) := by decide +kernel
theorem D45_12 : decode (byt 45) 12 = .ok (.aload_n 0, 1) := by decide +kernel
theorem D45_13 : decode (byt 45) 13 = .ok (.getfield 24, 3) := by decide +kernel
theorem D45_16 : decode (byt 45) 16 = .ok (.aload_n 0, 1) := by decide +kernel
theorem D45_17 : decode (byt 45) 17 = .ok (.getfield 37, 3) := by decide +kernel
theorem D45_20 : decode (byt 45) 20 = .ok (.iload_n 1, 1) := by decide +kernel
theorem D45_21 : decode (byt 45) 21 = .ok (.iastore, 1) := by decide +kernel
theorem D45_22 : decode (byt 45) 22 = .ok (.aload_n 0, 1) := by decide +kernel
theorem D45_23 : decode (byt 45) 23 = .ok (.dup, 1) := by decide +kernel
theorem D45_24 : decode (byt 45) 24 = .ok (.getfield 37, 3) := by decide +kernel
theorem D45_27 : decode (byt 45) 27 = .ok (.iconst 1, 1) := by decide +kernel
theorem D45_28 : decode (byt 45) 28 = .ok (.iadd, 1) := by decide +kernel
theorem D45_29 : decode (byt 45) 29 = .ok (.putfield 37, 3) := by decide +kernel
theorem D45_32 : decode (byt 45) 32 = .ok (.return_, 1) := by decide +kernel
theorem D46_0 : decode (byt 46) 0 = .ok (.iconst 0, 1) := by decide +kernel
theorem D46_1 : decode (byt 46) 1 = .ok (.istore_n 2, 1) := by decide +kernel
theorem D46_2 : decode (byt 46) 2 = .ok (.iconst 0, 1) := by decide +kernel
theorem D46_3 : decode (byt 46) 3 = .ok (.istore_n 3, 1) := by decide +kernel
theorem D46_4 : decode (byt 46) 4 = .ok (.iload_n 3, 1) := by decide +kernel
theorem D46_5 : decode (byt 46) 5 = .ok (.aload_n 0, 1) := by decide +kernel
theorem D46_6 : decode (byt 46) 6 = .ok (.getfield 31, 3) := by decide +kernel
theorem D46_9 : decode (byt 46) 9 = .ok (.if_icmp .ge 21, 3) := by decide +kernel
theorem D46_12 : decode (byt 46) 12 = .ok (.iload_n 2, 1) := by decide +kernel
theorem D46_13 : decode (byt 46) 13 = .ok (.aload_n 0, 1) := by decide +kernel
theorem D46_14 : decode (byt 46) 14 = .ok (.getfield 18, 3) := by decide +kernel
theorem D46_17 : decode (byt 46) 17 = .ok (.iload_n 3, 1) := by decide +kernel
theorem D46_18 : decode (byt 46) 18 = .ok (.iaload, 1) := by decide +kernel
theorem D46_19 : decode (byt 46) 19 = .ok (.invokestatic 69, 3) := by decide +kernel
theorem D46_22 : decode (byt 46) 22 = .ok (.ior, 1) := by decide +kernel
theorem D46_23 : decode (byt 46) 23 = .ok (.istore_n 2, 1) := by decide +kernel
theorem D46_24 : decode (byt 46) 24 = .ok (.iinc 3 1, 3) := by decide +kernel
theorem D46_27 : decode (byt 46) 27 = .ok (.goto (-23), 3) := by decide +kernel
theorem D46_30 : decode (byt 46) 30 = .ok (.iload_n 2, 1) := by decide +kernel
theorem D46_31 : decode (byt 46) 31 = .ok (.iload_n 1, 1) := by decide +kernel
theorem D46_32 : decode (byt 46) 32 = .ok (.iand, 1) := by decide +kernel
theorem D46_33 : decode (byt 46) 33 = .ok (.ifCond .eq 7, 3) := by decide +kernel
theorem D46_36 : decode (byt 46) 36 = .ok (.iload_n 2, 1) := by decide +kernel
theorem D46_37 : decode (byt 46) 37 = .ok (.iload_n 1, 1) := by decide +kernel
theorem D46_38 : decode (byt 46) 38 = .ok (.iand, 1) := by decide +kernel
theorem D46_39 : decode (byt 46) 39 = .ok (.istore_n 2, 1) := by decide +kernel
theorem D46_40 : decode (byt 46) 40 = .ok (.iconst 0, 1) := by decide +kernel
theorem D46_41 : decode (byt 46) 41 = .ok (.istore_n 3, 1) := by decide +kernel
theorem D46_42 : decode (byt 46) 42 = .ok (.iconst 0, 1) := by decide +kernel
theorem D46_43 : decode (byt 46) 43 = .ok (.istore 4, 2) := by decide +kernel
theorem D46_45 : decode (byt 46) 45 = .ok (.iconst 1, 1) := by decide +kernel
theorem D46_46 : decode (byt 46) 46 = .ok (.istore 5, 2) := by decide +kernel
theorem D46_48 : decode (byt 46) 48 = .ok (.iload 5, 2) := by decide +kernel
theorem D46_50 : decode (byt 46) 50 = .ok (.bipush 12, 2) := by decide +kernel
theorem D46_52 : decode (byt 46) 52 = .ok (.if_icmp .gt 48, 3) := by decide +kernel
theorem D46_55 : decode (byt 46) 55 = .ok (.iload_n 2, 1) := by decide +kernel
theorem D46_56 : decode (byt 46) 56 = .ok (.iload 5, 2) := by decide +kernel
theorem D46_58 : decode (byt 46) 58 = .ok (.invokestatic 72, 3) := by decide +kernel
theorem D46_61 : decode (byt 46) 61 = .ok (.iand, 1) := by decide +kernel
theorem D46_62 : decode (byt 46) 62 = .ok (.ifCond .eq 15, 3) := by decide +kernel
theorem D46_65 : decode (byt 46) 65 = .ok (.aload_n 0, 1) := by decide +kernel
theorem D46_66 : decode (byt 46) 66 = .ok (.iload 5, 2) := by decide +kernel
theorem D46_68 : decode (byt 46) 68 = .ok (.invokestatic 72, 3) := by decide +kernel
theorem D46_71 : decode (byt 46) 71 = .ok (.invokevirtual 75, 3) := by decide +kernel
theorem D46_74 : decode (byt 46) 74 = .ok (.goto 4, 3) := by decide +kernel
theorem D46_77 : decode (byt 46) 77 = .ok (.iconst 0, 1) := by decide +kernel
theorem D46_78 : decode (byt 46) 78 = .ok (.istore 6, 2) := by decide +kernel
theorem D46_80 : decode (byt 46) 80 = .ok (.iload 6, 2) := by decide +kernel
theorem D46_82 : decode (byt 46) 82 = .ok (.iload 4, 2) := by decide +kernel
theorem D46_84 : decode (byt 46) 84 = .ok (.if_icmp .le 10, 3) := by decide +kernel
theorem D46_87 : decode (byt 46) 87 = .ok (.iload 5, 2) := by decide +kernel
theorem D46_89 : decode (byt 46) 89 = .ok (.istore_n 3, 1) := by decide +kernel
theorem D46_90 : decode (byt 46) 90 = .ok (.iload 6, 2) := by decide +kernel
theorem D46_92 : decode (byt 46) 92 = .ok (.istore 4, 2) := by decide +kernel
theorem D46_94 : decode (byt 46) 94 = .ok (.iinc 5 1, 3) := by decide +kernel
theorem D46_97 : decode (byt 46) 97 = .ok (.goto (-49), 3) := by decide +kernel
theorem D46_100 : decode (byt 46) 100 = .ok (.iload_n 3, 1) := by decide +kernel
theorem D46_101 : decode (byt 46) 101 = .ok (.ireturn, 1) := by decide +kernel
theorem D47_0 : decode (byt 47) 0 = .ok (.iconst 0, 1) := by decide +kernel
theorem D47_1 : decode (byt 47) 1 = .ok (.istore_n 2, 1) := by decide +kernel
theorem D47_2 : decode (byt 47) 2 = .ok (.iconst 0, 1) := by decide +kernel
theorem D47_3 : decode (byt 47) 3 = .ok (.istore_n 3, 1) := by decide +kernel
theorem D47_4 : decode (byt 47) 4 = .ok (.iload_n 3, 1) := by decide +kernel
theorem D47_5 : decode (byt 47) 5 = .ok (.aload_n 0, 1) := by decide +kernel
theorem D47_6 : decode (byt 47) 6 = .ok (.getfield 31, 3) := by decide +kernel
theorem D47_9 : decode (byt 47) 9 = .ok (.if_icmp .ge 26, 3) := by decide +kernel
theorem D47_12 : decode (byt 47) 12 = .ok (.aload_n 0, 1) := by decide +kernel
theorem D47_13 : decode (byt 47) 13 = .ok (.getfield 18, 3) := by decide +kernel
theorem D47_16 : decode (byt 47) 16 = .ok (.iload_n 3, 1) := by decide +kernel
theorem D47_17 : decode (byt 47) 17 = .ok (.iaload, 1) := by decide +kernel
theorem D47_18 : decode (byt 47) 18 = .ok (.invokestatic 69, 3) := by decide +kernel
theorem D47_21 : decode (byt 47) 21 = .ok (.iload_n 1, 1) := by decide +kernel
theorem D47_22 : decode (byt 47) 22 = .ok (.iand, 1) := by decide +kernel
theorem D47_23 : decode (byt 47) 23 = .ok (.ifCond .eq 6, 3) := by decide +kernel
theorem D47_26 : decode (byt 47) 26 = .ok (.iinc 2 1, 3) := by decide +kernel
theorem D47_29 : decode (byt 47) 29 = .ok (.iinc 3 1, 3) := by decide +kernel
theorem D47_32 : decode (byt 47) 32 = .ok (.goto (-28), 3) := by decide +kernel
theorem D47_35 : decode (byt 47) 35 = .ok (.iload_n 2, 1) := by decide +kernel
theorem D47_36 : decode (byt 47) 36 = .ok (.ireturn, 1) := by decide +kernel
theorem D48_0 : decode (byt 48) 0 = .ok (.aload_n 0, 1) := by decide +kernel
theorem D48_1 : decode (byt 48) 1 = .ok (.invokespecial 3, 3) := by decide +kernel
theorem D48_4 : decode (byt 48) 4 = .ok (.aload_n 0, 1) := by decide +kernel
theorem D48_5 : decode (byt 48) 5 = .ok (.bipush 13, 2) := by decide +kernel
theorem D48_7 : decode (byt 48) 7 = .ok (.anewarray 9, 3) := by decide +kernel
theorem D48_10 : decode (byt 48) 10 = .ok (.putfield 11, 3) := by decide +kernel
theorem D48_13 : decode (byt 48) 13 = .ok (.aload_n 0, 1) := by decide +kernel
theorem D48_14 : decode (byt 48) 14 = .ok (.new 17, 3) := by decide +kernel
theorem D48_17 : decode (byt 48) 17 = .ok (.dup, 1) := by decide +kernel
theorem D48_18 : decode (byt 48) 18 = .ok (.invokespecial 19, 3) := by decide +kernel
theorem D48_21 : decode (byt 48) 21 = .ok (.putfield 20, 3) := by decide +kernel
theorem D48_24 : decode (byt 48) 24 = .ok (.aload_n 0, 1) := by decide +kernel
theorem D48_25 : decode (byt 48) 25 = .ok (.bipush 24, 2) := by decide +kernel
theorem D48_27 : decode (byt 48) 27 = .ok (.newarray .int, 2) := by decide +kernel
theorem D48_29 : decode (byt 48) 29 = .ok (.putfield 24, 3) := by decide +kernel
theorem D48_32 : decode (byt 48) 32 = .ok (.aload_n 0, 1) := by decide +kernel
theorem D48_33 : decode (byt 48) 33 = .ok (.iconst 0, 1) := by decide +kernel
theorem D48_34 : decode (byt 48) 34 = .ok (.putfield 28, 3) := by decide +kernel
theorem D48_37 : decode (byt 48) 37 = .ok (.iconst 0, 1) := by decide +kernel
theorem D48_38 : decode (byt 48) 38 = .ok (.istore_n 1, 1) := by decide +kernel
theorem D48_39 : decode (byt 48) 39 = .ok (.iload_n 1, 1) := by decide +kernel
theorem D48_40 : decode (byt 48) 40 = .ok (.aload_n 0, 1) := by decide +kernel
theorem D48_41 : decode (byt 48) 41 = .ok (.getfield 11, 3) := by decide +kernel
theorem D48_44 : decode (byt 48) 44 = .ok (.arraylength, 1) := by decide +kernel
theorem D48_45 : decode (byt 48) 45 = .ok (.if_icmp .ge 22, 3) := by decide +kernel
theorem D48_48 : decode (byt 48) 48 = .ok (.aload_n 0, 1) := by decide +kernel
theorem D48_49 : decode (byt 48) 49 = .ok (.getfield 11, 3) := by decide +kernel
theorem D48_52 : decode (byt 48) 52 = .ok (.iload_n 1, 1) := by decide +kernel
theorem D48_53 : decode (byt 48) 53 = .ok (.new 9, 3) := by decide +kernel
theorem D48_56 : decode (byt 48) 56 = .ok (.dup, 1) := by decide +kernel
theorem D48_57 : decode (byt 48) 57 = .ok (.invokespecial 32, 3) := by decide +kernel
theorem D48_60 : decode (byt 48) 60 = .ok (.aastore, 1) := by decide +kernel
theorem D48_61 : decode (byt 48) 61 = .ok (.iinc 1 1, 3) := by decide +kernel
theorem D48_64 : decode (byt 48) 64 = .ok (.goto (-25), 3) := by decide +kernel
theorem D48_67 : decode (byt 48) 67 = .ok (.return_, 1) := by decide +kernel
theorem D49_0 : decode (byt 49) 0 = .ok (.aload_n 0, 1) := by decide +kernel
theorem D49_1 : decode (byt 49) 1 = .ok (.aload_n 1, 1) := by decide +kernel
theorem D49_2 : decode (byt 49) 2 = .ok (.getfield 33, 3) := by decide +kernel
theorem D49_5 : decode (byt 49) 5 = .ok (.putfield 28, 3) := by decide +kernel
theorem D49_8 : decode (byt 49) 8 = .ok (.aload_n 0, 1) := by decide +kernel
theorem D49_9 : decode (byt 49) 9 = .ok (.getfield 20, 3) := by decide +kernel
theorem D49_12 : decode (byt 49) 12 = .ok (.invokevirtual 36, 3) := by decide +kernel
theorem D49_15 : decode (byt 49) 15 = .ok (.iconst 0, 1) := by decide +kernel
theorem D49_16 : decode (byt 49) 16 = .ok (.istore_n 2, 1) := by decide +kernel
theorem D49_17 : decode (byt 49) 17 = .ok (.iload_n 2, 1) := by decide +kernel
theorem D49_18 : decode (byt 49) 18 = .ok (.aload_n 0, 1) := by decide +kernel
theorem D49_19 : decode (byt 49) 19 = .ok (.getfield 24, 3) := by decide +kernel
theorem D49_22 : decode (byt 49) 22 = .ok (.arraylength, 1) := by decide +kernel
theorem D49_23 : decode (byt 49) 23 = .ok (.if_icmp .ge 16, 3) := by decide +kernel
theorem D49_26 : decode (byt 49) 26 = .ok (.aload_n 0, 1) := by decide +kernel
theorem D49_27 : decode (byt 49) 27 = .ok (.getfield 24, 3) := by decide +kernel
theorem D49_30 : decode (byt 49) 30 = .ok (.iload_n 2, 1) := by decide +kernel
theorem D49_31 : decode (byt 49) 31 = .ok (.iconst (-1), 1) := by decide +kernel
theorem D49_32 : decode (byt 49) 32 = .ok (.iastore, 1) := by decide +kernel
theorem D49_33 : decode (byt 49) 33 = .ok (.iinc 2 1, 3) := by decide +kernel
theorem D49_36 : decode (byt 49) 36 = .ok (.goto (-19), 3) := by decide +kernel
theorem D49_39 : decode (byt 49) 39 = .ok (.aload_n 1, 1) := by decide +kernel
theorem D49_40 : decode (byt 49) 40 = .ok (.getfield 39, 3) := by decide +kernel
theorem D49_43 : decode (byt 49) 43 = .ok (.invokevirtual 43, 3) := by decide +kernel
theorem D49_46 : decode (byt 49) 46 = .ok (.aload_n 0, 1) := by decide +kernel
theorem D49_47 : decode (byt 49) 47 = .ok (.getfield 11, 3) := by decide +kernel
theorem D49_50 : decode (byt 49) 50 = .ok (.iconst 0, 1) := by decide +kernel
theorem D49_51 : decode (byt 49) 51 = .ok (.aaload, 1) := by decide +kernel
theorem D49_52 : decode (byt 49) 52 = .ok (.aload_n 1, 1) := by decide +kernel
theorem D49_53 : decode (byt 49) 53 = .ok (.getfield 48, 3) := by decide +kernel
theorem D49_56 : decode (byt 49) 56 = .ok (.aload_n 1, 1) := by decide +kernel
theorem D49_57 : decode (byt 49) 57 = .ok (.getfield 51, 3) := by decide +kernel
theorem D49_60 : decode (byt 49) 60 = .ok (.iconst 0, 1) := by decide +kernel
theorem D49_61 : decode (byt 49) 61 = .ok (.invokevirtual 54, 3) := by decide +kernel
theorem D49_64 : decode (byt 49) 64 = .ok (.aload_n 1, 1) := by decide +kernel
theorem D49_65 : decode (byt 49) 65 = .ok (.getfield 39, 3) := by decide +kernel
theorem D49_68 : decode (byt 49) 68 = .ok (.aload_n 0, 1) := by decide +kernel
theorem D49_69 : decode (byt 49) 69 = .ok (.aload_n 1, 1) := by decide +kernel
theorem D49_70 : decode (byt 49) 70 = .ok (.getfield 39, 3) := by decide +kernel
theorem D49_73 : decode (byt 49) 73 = .ok (.iconst 0, 1) := by decide +kernel
theorem D49_74 : decode (byt 49) 74 = .ok (.invokevirtual 58, 3) := by decide +kernel
theorem D49_77 : decode (byt 49) 77 = .ok (.putfield 62, 3) := by decide +kernel
theorem D49_80 : decode (byt 49) 80 = .ok (.aload_n 1, 1) := by decide +kernel
theorem D49_81 : decode (byt 49) 81 = .ok (.getfield 39, 3) := by decide +kernel
theorem D49_84 : decode (byt 49) 84 = .ok (.getfield 65, 3) := by decide +kernel
theorem D49_87 : decode (byt 49) 87 = .ok (.ifCond .ne 7, 3) := by decide +kernel
theorem D49_90 : decode (byt 49) 90 = .ok (.iconst 1, 1) := by decide +kernel
theorem D49_91 : decode (byt 49) 91 = .ok (.goto 4, 3) := by decide +kernel
theorem D49_94 : decode (byt 49) 94 = .ok (.iconst 0, 1) := by decide +kernel
theorem D49_95 : decode (byt 49) 95 = .ok (.ireturn, 1) := by decide +kernel
theorem D50_0 : decode (byt 50) 0 = .ok (.aload_n 0, 1) := by decide +kernel
theorem D50_1 : decode (byt 50) 1 = .ok (.getfield 11, 3) := by decide +kernel
theorem D50_4 : decode (byt 50) 4 = .ok (.iload_n 2, 1) := by decide +kernel
theorem D50_5 : decode (byt 50) 5 = .ok (.aaload, 1) := by decide +kernel
theorem D50_6 : decode (byt 50) 6 = .ok (.astore_n 3, 1) := by decide +kernel
theorem D50_7 : decode (byt 50) 7 = .ok (.aload_n 3, 1) := by decide +kernel
theorem D50_8 : decode (byt 50) 8 = .ok (.invokevirtual 69, 3) := by decide +kernel
theorem D50_11 : decode (byt 50) 11 = .ok (.ifCond .ne 5, 3) := by decide +kernel
theorem D50_14 : decode (byt 50) 14 = .ok (.iconst 1, 1) := by decide +kernel
theorem D50_15 : decode (byt 50) 15 = .ok (.ireturn, 1) := by decide +kernel
theorem D50_16 : decode (byt 50) 16 = .ok (.aload_n 3, 1) := by decide +kernel
theorem D50_17 : decode (byt 50) 17 = .ok (.invokevirtual 73, 3) := by decide +kernel
theorem D50_20 : decode (byt 50) 20 = .ok (.istore 4, 2) := by decide +kernel
theorem D50_22 : decode (byt 50) 22 = .ok (.iconst 0, 1) := by decide +kernel
theorem D50_23 : decode (byt 50) 23 = .ok (.istore 5, 2) := by decide +kernel
theorem D50_25 : decode (byt 50) 25 = .ok (.iload 5, 2) := by decide +kernel
theorem D50_27 : decode (byt 50) 27 = .ok (.iload 4, 2) := by decide +kernel
theorem D50_29 : decode (byt 50) 29 = .ok (.if_icmp .ge 44, 3) := by decide +kernel
theorem D50_32 : decode (byt 50) 32 = .ok (.aload_n 3, 1) := by decide +kernel
theorem D50_33 : decode (byt 50) 33 = .ok (.iload 5, 2) := by decide +kernel
theorem D50_35 : decode (byt 50) 35 = .ok (.invokevirtual 77, 3) := by decide +kernel
theorem D50_38 : decode (byt 50) 38 = .ok (.aload_n 0, 1) := by decide +kernel
theorem D50_39 : decode (byt 50) 39 = .ok (.aload_n 1, 1) := by decide +kernel
theorem D50_40 : decode (byt 50) 40 = .ok (.iload_n 2, 1) := by decide +kernel
theorem D50_41 : decode (byt 50) 41 = .ok (.invokevirtual 81, 3) := by decide +kernel
theorem D50_44 : decode (byt 50) 44 = .ok (.istore 6, 2) := by decide +kernel
theorem D50_46 : decode (byt 50) 46 = .ok (.aload_n 1, 1) := by decide +kernel
theorem D50_47 : decode (byt 50) 47 = .ok (.getfield 65, 3) := by decide +kernel
theorem D50_50 : decode (byt 50) 50 = .ok (.ifCond .ne 9, 3) := by decide +kernel
theorem D50_53 : decode (byt 50) 53 = .ok (.iload 6, 2) := by decide +kernel
theorem D50_55 : decode (byt 50) 55 = .ok (.iconst 1, 1) := by decide +kernel
theorem D50_56 : decode (byt 50) 56 = .ok (.if_icmp .ne 5, 3) := by decide +kernel
theorem D50_59 : decode (byt 50) 59 = .ok (.iconst 1, 1) := by decide +kernel
theorem D50_60 : decode (byt 50) 60 = .ok (.ireturn, 1) := by decide +kernel
theorem D50_61 : decode (byt 50) 61 = .ok (.aload_n 3, 1) := by decide +kernel
theorem D50_62 : decode (byt 50) 62 = .ok (.iload 6, 2) := by decide +kernel
theorem D50_64 : decode (byt 50) 64 = .ok (.invokevirtual 84, 3) := by decide +kernel
theorem D50_67 : decode (byt 50) 67 = .ok (.iinc 5 1, 3) := by decide +kernel
theorem D50_70 : decode (byt 50) 70 = .ok (.goto (-45), 3) := by decide +kernel
theorem D50_73 : decode (byt 50) 73 = .ok (.aload_n 0, 1) := by decide +kernel
theorem D50_74 : decode (byt 50) 74 = .ok (.aload_n 1, 1) := by decide +kernel
theorem D50_75 : decode (byt 50) 75 = .ok (.aload_n 3, 1) := by decide +kernel
theorem D50_76 : decode (byt 50) 76 = .ok (.invokevirtual 87, 3) := by decide +kernel
theorem D50_79 : decode (byt 50) 79 = .ok (.ireturn, 1) := by decide +kernel
theorem D51_0 : decode (byt 51) 0 = .ok (.aload_n 0, 1) := by decide +kernel
theorem D51_1 : decode (byt 51) 1 = .ok (.getfield 11, 3) := by decide +kernel
theorem D51_4 : decode (byt 51) 4 = .ok (.iload_n 2, 1) := by decide +kernel
theorem D51_5 : decode (byt 51) 5 = .ok (.aaload, 1) := by decide +kernel
theorem D51_6 : decode (byt 51) 6 = .ok (.astore_n 3, 1) := by decide +kernel
theorem D51_7 : decode (byt 51) 7 = .ok (.aload_n 0, 1) := by decide +kernel
theorem D51_8 : decode (byt 51) 8 = .ok (.getfield 20, 3) := by decide +kernel
theorem D51_11 : decode (byt 51) 11 = .ok (.aload_n 3, 1) := by decide +kernel
theorem D51_12 : decode (byt 51) 12 = .ok (.getfield 91, 3) := by decide +kernel
theorem D51_15 : decode (byt 51) 15 = .ok (.aload_n 3, 1) := by decide +kernel
theorem D51_16 : decode (byt 51) 16 = .ok (.getfield 94, 3) := by decide +kernel
theorem D51_19 : decode (byt 51) 19 = .ok (.invokevirtual 97, 3) := by decide +kernel
theorem D51_22 : decode (byt 51) 22 = .ok (.istore 4, 2) := by decide +kernel
theorem D51_24 : decode (byt 51) 24 = .ok (.iload 4, 2) := by decide +kernel
theorem D51_26 : decode (byt 51) 26 = .ok (.iconst (-1), 1) := by decide +kernel
theorem D51_27 : decode (byt 51) 27 = .ok (.if_icmp .eq 16, 3) := by decide +kernel
theorem D51_30 : decode (byt 51) 30 = .ok (.aload_n 1, 1) := by decide +kernel
theorem D51_31 : decode (byt 51) 31 = .ok (.dup, 1) := by decide +kernel
theorem D51_32 : decode (byt 51) 32 = .ok (.getfield 101, 3) := by decide +kernel
theorem D51_35 : decode (byt 51) 35 = .ok (.iconst 1, 1) := by decide +kernel
theorem D51_36 : decode (byt 51) 36 = .ok (.iadd, 1) := by decide +kernel
theorem D51_37 : decode (byt 51) 37 = .ok (.putfield 101, 3) := by decide +kernel
theorem D51_40 : decode (byt 51) 40 = .ok (.iload 4, 2) := by decide +kernel
theorem D51_42 : decode (byt 51) 42 = .ok (.ireturn, 1) := by decide +kernel
theorem D51_43 : decode (byt 51) 43 = .ok (.aload_n 3, 1) := by decide +kernel
theorem D51_44 : decode (byt 51) 44 = .ok (.aload_n 0, 1) := by decide +kernel
theorem D51_45 : decode (byt 51) 45 = .ok (.getfield 28, 3) := by decide +kernel
theorem D51_48 : decode (byt 51) 48 = .ok (.invokevirtual 104, 3) := by decide +kernel
theorem D51_51 : decode (byt 51) 51 = .ok (.istore 5, 2) := by decide +kernel
theorem D51_53 : decode (byt 51) 53 = .ok (.aload_n 0, 1) := by decide +kernel
theorem D51_54 : decode (byt 51) 54 = .ok (.aload_n 1, 1) := by decide +kernel
theorem D51_55 : decode (byt 51) 55 = .ok (.iload_n 2, 1) := by decide +kernel
theorem D51_56 : decode (byt 51) 56 = .ok (.iload 5, 2) := by decide +kernel
theorem D51_58 : decode (byt 51) 58 = .ok (.invokestatic 108, 3) := by decide +kernel
theorem D51_61 : decode (byt 51) 61 = .ok (.invokevirtual 111, 3) := by decide +kernel
theorem D51_64 : decode (byt 51) 64 = .ok (.istore 6, 2) := by decide +kernel
theorem D51_66 : decode (byt 51) 66 = .ok (.aload_n 1, 1) := by decide +kernel
theorem D51_67 : decode (byt 51) 67 = .ok (.getfield 65, 3) := by decide +kernel
theorem D51_70 : decode (byt 51) 70 = .ok (.ifCond .eq 7, 3) := by decide +kernel
theorem D51_73 : decode (byt 51) 73 = .ok (.iconst 1, 1) := by decide +kernel
theorem D51_74 : decode (byt 51) 74 = .ok (.goto 15, 3) := by decide +kernel
theorem D51_77 : decode (byt 51) 77 = .ok (.aload_n 0, 1) := by decide +kernel
theorem D51_78 : decode (byt 51) 78 = .ok (.aload_n 1, 1) := by decide +kernel
theorem D51_79 : decode (byt 51) 79 = .ok (.iload_n 2, 1) := by decide +kernel
theorem D51_80 : decode (byt 51) 80 = .ok (.iload 5, 2) := by decide +kernel
theorem D51_82 : decode (byt 51) 82 = .ok (.ineg, 1) := by decide +kernel
theorem D51_83 : decode (byt 51) 83 = .ok (.invokestatic 108, 3) := by decide +kernel
theorem D51_86 : decode (byt 51) 86 = .ok (.invokevirtual 111, 3) := by decide +kernel
theorem D51_89 : decode (byt 51) 89 = .ok (.istore 7, 2) := by decide +kernel
theorem D51_91 : decode (byt 51) 91 = .ok (.aload_n 1, 1) := by decide +kernel
theorem D51_92 : decode (byt 51) 92 = .ok (.getfield 65, 3) := by decide +kernel
theorem D51_95 : decode (byt 51) 95 = .ok (.ifCond .eq 5, 3) := by decide +kernel
theorem D51_98 : decode (byt 51) 98 = .ok (.iconst 1, 1) := by decide +kernel
theorem D51_99 : decode (byt 51) 99 = .ok (.ireturn, 1) := by decide +kernel
theorem D51_100 : decode (byt 51) 100 = .ok (.iconst 1, 1) := by decide +kernel
theorem D51_101 : decode (byt 51) 101 = .ok (.istore 8, 2) := by decide +kernel
theorem D51_103 : decode (byt 51) 103 = .ok (.iload 6, 2) := by decide +kernel
theorem D51_105 : decode (byt 51) 105 = .ok (.iconst 1, 1) := by decide +kernel
theorem D51_106 : decode (byt 51) 106 = .ok (.if_icmp .ne 9, 3) := by decide +kernel
theorem D51_109 : decode (byt 51) 109 = .ok (.iload 7, 2) := by decide +kernel
theorem D51_111 : decode (byt 51) 111 = .ok (.iconst 1, 1) := by decide +kernel
theorem D51_112 : decode (byt 51) 112 = .ok (.if_icmp .eq 33, 3) := by decide +kernel
theorem D51_115 : decode (byt 51) 115 = .ok (.aload_n 1, 1) := by decide +kernel
theorem D51_116 : decode (byt 51) 116 = .ok (.iconst 4, 1) := by decide +kernel
theorem D51_117 : decode (byt 51) 117 = .ok (.iload 5, 2) := by decide +kernel
theorem D51_119 : decode (byt 51) 119 = .ok (.iload 5, 2) := by decide +kernel
theorem D51_121 : decode (byt 51) 121 = .ok (.invokestatic 108, 3) := by decide +kernel
theorem D51_124 : decode (byt 51) 124 = .ok (.invokevirtual 115, 3) := by decide +kernel
theorem D51_127 : decode (byt 51) 127 = .ok (.istore 8, 2) := by decide +kernel
theorem D51_129 : decode (byt 51) 129 = .ok (.aload_n 1, 1) := by decide +kernel
theorem D51_130 : decode (byt 51) 130 = .ok (.iload 8, 2) := by decide +kernel
theorem D51_132 : decode (byt 51) 132 = .ok (.iload 6, 2) := by decide +kernel
theorem D51_134 : decode (byt 51) 134 = .ok (.invokevirtual 119, 3) := by decide +kernel
theorem D51_137 : decode (byt 51) 137 = .ok (.aload_n 1, 1) := by decide +kernel
theorem D51_138 : decode (byt 51) 138 = .ok (.iload 8, 2) := by decide +kernel
theorem D51_140 : decode (byt 51) 140 = .ok (.iload 7, 2) := by decide +kernel
theorem D51_142 : decode (byt 51) 142 = .ok (.invokevirtual 119, 3) := by decide +kernel
theorem D51_145 : decode (byt 51) 145 = .ok (.aload_n 0, 1) := by decide +kernel
theorem D51_146 : decode (byt 51) 146 = .ok (.getfield 20, 3) := by decide +kernel
theorem D51_149 : decode (byt 51) 149 = .ok (.aload_n 3, 1) := by decide +kernel
theorem D51_150 : decode (byt 51) 150 = .ok (.getfield 91, 3) := by decide +kernel
theorem D51_153 : decode (byt 51) 153 = .ok (.aload_n 3, 1) := by decide +kernel
theorem D51_154 : decode (byt 51) 154 = .ok (.getfield 94, 3) := by decide +kernel
theorem D51_157 : decode (byt 51) 157 = .ok (.iload 8, 2) := by decide +kernel
theorem D51_159 : decode (byt 51) 159 = .ok (.invokevirtual 123, 3) := by decide +kernel
theorem D51_162 : decode (byt 51) 162 = .ok (.ifCond .ne 8, 3) := by decide +kernel
theorem D51_165 : decode (byt 51) 165 = .ok (.aload_n 1, 1) := by decide +kernel
theorem D51_166 : decode (byt 51) 166 = .ok (.iconst 1, 1) := by decide +kernel
theorem D51_167 : decode (byt 51) 167 = .ok (.putfield 65, 3) := by decide +kernel
theorem D51_170 : decode (byt 51) 170 = .ok (.iload 8, 2) := by decide +kernel
theorem D51_172 : decode (byt 51) 172 = .ok (.ireturn, 1) := by decide +kernel
theorem D52_0 : decode (byt 52) 0 = .ok (.iload_n 2, 1) := by decide +kernel
theorem D52_1 : decode (byt 52) 1 = .ok (.iconst 1, 1) := by decide +kernel
theorem D52_2 : decode (byt 52) 2 = .ok (.iadd, 1) := by decide +kernel
theorem D52_3 : decode (byt 52) 3 = .ok (.aload_n 0, 1) := by decide +kernel
theorem D52_4 : decode (byt 52) 4 = .ok (.getfield 11, 3) := by decide +kernel
theorem D52_7 : decode (byt 52) 7 = .ok (.arraylength, 1) := by decide +kernel
theorem D52_8 : decode (byt 52) 8 = .ok (.if_icmp .lt 10, 3) := by decide +kernel
theorem D52_11 : decode (byt 52) 11 = .ok (.aload_n 1, 1) := by decide +kernel
theorem D52_12 : decode (byt 52) 12 = .ok (.iconst 1, 1) := by decide +kernel
theorem D52_13 : decode (byt 52) 13 = .ok (.putfield 65, 3) := by decide +kernel
theorem D52_16 : decode (byt 52) 16 = .ok (.iconst 1, 1) := by decide +kernel
theorem D52_17 : decode (byt 52) 17 = .ok (.ireturn, 1) := by decide +kernel
theorem D52_18 : decode (byt 52) 18 = .ok (.aload_n 0, 1) := by decide +kernel
theorem D52_19 : decode (byt 52) 19 = .ok (.getfield 11, 3) := by decide +kernel
theorem D52_22 : decode (byt 52) 22 = .ok (.iload_n 2, 1) := by decide +kernel
theorem D52_23 : decode (byt 52) 23 = .ok (.iconst 1, 1) := by decide +kernel
theorem D52_24 : decode (byt 52) 24 = .ok (.iadd, 1) := by decide +kernel
theorem D52_25 : decode (byt 52) 25 = .ok (.aaload, 1) := by decide +kernel
theorem D52_26 : decode (byt 52) 26 = .ok (.aload_n 0, 1) := by decide +kernel
theorem D52_27 : decode (byt 52) 27 = .ok (.getfield 11, 3) := by decide +kernel
theorem D52_30 : decode (byt 52) 30 = .ok (.iload_n 2, 1) := by decide +kernel
theorem D52_31 : decode (byt 52) 31 = .ok (.aaload, 1) := by decide +kernel
theorem D52_32 : decode (byt 52) 32 = .ok (.getfield 91, 3) := by decide +kernel
theorem D52_35 : decode (byt 52) 35 = .ok (.aload_n 0, 1) := by decide +kernel
theorem D52_36 : decode (byt 52) 36 = .ok (.getfield 11, 3) := by decide +kernel
theorem D52_39 : decode (byt 52) 39 = .ok (.iload_n 2, 1) := by decide +kernel
theorem D52_40 : decode (byt 52) 40 = .ok (.aaload, 1) := by decide +kernel
theorem D52_41 : decode (byt 52) 41 = .ok (.getfield 94, 3) := by decide +kernel
theorem D52_44 : decode (byt 52) 44 = .ok (.iload_n 3, 1) := by decide +kernel
theorem D52_45 : decode (byt 52) 45 = .ok (.invokevirtual 54, 3) := by decide +kernel
theorem D52_48 : decode (byt 52) 48 = .ok (.aload_n 0, 1) := by decide +kernel
theorem D52_49 : decode (byt 52) 49 = .ok (.aload_n 1, 1) := by decide +kernel
theorem D52_50 : decode (byt 52) 50 = .ok (.iload_n 2, 1) := by decide +kernel
theorem D52_51 : decode (byt 52) 51 = .ok (.iconst 1, 1) := by decide +kernel
theorem D52_52 : decode (byt 52) 52 = .ok (.iadd, 1) := by decide +kernel
theorem D52_53 : decode (byt 52) 53 = .ok (.invokevirtual 58, 3) := by decide +kernel
theorem D52_56 : decode (byt 52) 56 = .ok (.ireturn, 1) := by decide +kernel
theorem D53_0 : decode (byt 53) 0 = .ok (.iconst 0, 1) := by decide +kernel
theorem D53_1 : decode (byt 53) 1 = .ok (.istore_n 3, 1) := by decide +kernel
theorem D53_2 : decode (byt 53) 2 = .ok (.iload_n 3, 1) := by decide +kernel
theorem D53_3 : decode (byt 53) 3 = .ok (.aload_n 2, 1) := by decide +kernel
theorem D53_4 : decode (byt 53) 4 = .ok (.getfield 127, 3) := by decide +kernel
theorem D53_7 : decode (byt 53) 7 = .ok (.if_icmp .ge 26, 3) := by decide +kernel
theorem D53_10 : decode (byt 53) 10 = .ok (.aload_n 2, 1) := by decide +kernel
theorem D53_11 : decode (byt 53) 11 = .ok (.getfield 130, 3) := by decide +kernel
theorem D53_14 : decode (byt 53) 14 = .ok (.iload_n 3, 1) := by decide +kernel
theorem D53_15 : decode (byt 53) 15 = .ok (.aload_n 0, 1) := by decide +kernel
theorem D53_16 : decode (byt 53) 16 = .ok (.aload_n 1, 1) := by decide +kernel
theorem D53_17 : decode (byt 53) 17 = .ok (.aload_n 2, 1) := by decide +kernel
theorem D53_18 : decode (byt 53) 18 = .ok (.getfield 130, 3) := by decide +kernel
theorem D53_21 : decode (byt 53) 21 = .ok (.iload_n 3, 1) := by decide +kernel
theorem D53_22 : decode (byt 53) 22 = .ok (.iaload, 1) := by decide +kernel
theorem D53_23 : decode (byt 53) 23 = .ok (.invokevirtual 133, 3) := by decide +kernel
theorem D53_26 : decode (byt 53) 26 = .ok (.iastore, 1) := by decide +kernel
theorem D53_27 : decode (byt 53) 27 = .ok (.iinc 3 1, 3) := by decide +kernel
theorem D53_30 : decode (byt 53) 30 = .ok (.goto (-28), 3) := by decide +kernel
theorem D53_33 : decode (byt 53) 33 = .ok (.aload_n 2, 1) := by decide +kernel
theorem D53_34 : decode (byt 53) 34 = .ok (.getfield 127, 3) := by decide +kernel
theorem D53_37 : decode (byt 53) 37 = .ok (.aload_n 2, 1) := by decide +kernel
theorem D53_38 : decode (byt 53) 38 = .ok (.getfield 136, 3) := by decide +kernel
theorem D53_41 : decode (byt 53) 41 = .ok (.iadd, 1) := by decide +kernel
theorem D53_42 : decode (byt 53) 42 = .ok (.ifCond .ne 5, 3) := by decide +kernel
theorem D53_45 : decode (byt 53) 45 = .ok (.iconst 0, 1) := by decide +kernel
theorem D53_46 : decode (byt 53) 46 = .ok (.ireturn, 1) := by decide +kernel
theorem D53_47 : decode (byt 53) 47 = .ok (.aload_n 2, 1) := by decide +kernel
theorem D53_48 : decode (byt 53) 48 = .ok (.getfield 127, 3) := by decide +kernel
theorem D53_51 : decode (byt 53) 51 = .ok (.aload_n 2, 1) := by decide +kernel
theorem D53_52 : decode (byt 53) 52 = .ok (.getfield 136, 3) := by decide +kernel
theorem D53_55 : decode (byt 53) 55 = .ok (.iadd, 1) := by decide +kernel
theorem D53_56 : decode (byt 53) 56 = .ok (.iconst 1, 1) := by decide +kernel
theorem D53_57 : decode (byt 53) 57 = .ok (.if_icmp .ne 27, 3) := by decide +kernel
theorem D53_60 : decode (byt 53) 60 = .ok (.aload_n 2, 1) := by decide +kernel
theorem D53_61 : decode (byt 53) 61 = .ok (.getfield 127, 3) := by decide +kernel
theorem D53_64 : decode (byt 53) 64 = .ok (.iconst 1, 1) := by decide +kernel
theorem D53_65 : decode (byt 53) 65 = .ok (.if_icmp .ne 12, 3) := by decide +kernel
theorem D53_68 : decode (byt 53) 68 = .ok (.aload_n 2, 1) := by decide +kernel
theorem D53_69 : decode (byt 53) 69 = .ok (.getfield 130, 3) := by decide +kernel
theorem D53_72 : decode (byt 53) 72 = .ok (.iconst 0, 1) := by decide +kernel
theorem D53_73 : decode (byt 53) 73 = .ok (.iaload, 1) := by decide +kernel
theorem D53_74 : decode (byt 53) 74 = .ok (.goto 9, 3) := by decide +kernel
theorem D53_77 : decode (byt 53) 77 = .ok (.aload_n 2, 1) := by decide +kernel
theorem D53_78 : decode (byt 53) 78 = .ok (.getfield 139, 3) := by decide +kernel
theorem D53_81 : decode (byt 53) 81 = .ok (.iconst 0, 1) := by decide +kernel
theorem D53_82 : decode (byt 53) 82 = .ok (.iaload, 1) := by decide +kernel
theorem D53_83 : decode (byt 53) 83 = .ok (.ireturn, 1) := by decide +kernel
theorem D53_84 : decode (byt 53) 84 = .ok (.aload_n 1, 1) := by decide +kernel
theorem D53_85 : decode (byt 53) 85 = .ok (.iconst 3, 1) := by decide +kernel
theorem D53_86 : decode (byt 53) 86 = .ok (.iconst 0, 1) := by decide +kernel
theorem D53_87 : decode (byt 53) 87 = .ok (.iconst 0, 1) := by decide +kernel
theorem D53_88 : decode (byt 53) 88 = .ok (.invokevirtual 115, 3) := by decide +kernel
theorem D53_91 : decode (byt 53) 91 = .ok (.istore_n 3, 1) := by decide +kernel
theorem D53_92 : decode (byt 53) 92 = .ok (.iconst 0, 1) := by decide +kernel
theorem D53_93 : decode (byt 53) 93 = .ok (.istore 4, 2) := by decide +kernel
theorem D53_95 : decode (byt 53) 95 = .ok (.iload 4, 2) := by decide +kernel
theorem D53_97 : decode (byt 53) 97 = .ok (.aload_n 2, 1) := by decide +kernel
theorem D53_98 : decode (byt 53) 98 = .ok (.getfield 127, 3) := by decide +kernel
theorem D53_101 : decode (byt 53) 101 = .ok (.if_icmp .ge 21, 3) := by decide +kernel
theorem D53_104 : decode (byt 53) 104 = .ok (.aload_n 1, 1) := by decide +kernel
theorem D53_105 : decode (byt 53) 105 = .ok (.iload_n 3, 1) := by decide +kernel
theorem D53_106 : decode (byt 53) 106 = .ok (.aload_n 2, 1) := by decide +kernel
theorem D53_107 : decode (byt 53) 107 = .ok (.getfield 130, 3) := by decide +kernel
theorem D53_110 : decode (byt 53) 110 = .ok (.iload 4, 2) := by decide +kernel
theorem D53_112 : decode (byt 53) 112 = .ok (.iaload, 1) := by decide +kernel
theorem D53_113 : decode (byt 53) 113 = .ok (.invokevirtual 119, 3) := by decide +kernel
theorem D53_116 : decode (byt 53) 116 = .ok (.iinc 4 1, 3) := by decide +kernel
theorem D53_119 : decode (byt 53) 119 = .ok (.goto (-24), 3) := by decide +kernel
theorem D53_122 : decode (byt 53) 122 = .ok (.iconst 0, 1) := by decide +kernel
theorem D53_123 : decode (byt 53) 123 = .ok (.istore 4, 2) := by decide +kernel
theorem D53_125 : decode (byt 53) 125 = .ok (.iload 4, 2) := by decide +kernel
theorem D53_127 : decode (byt 53) 127 = .ok (.aload_n 2, 1) := by decide +kernel
theorem D53_128 : decode (byt 53) 128 = .ok (.getfield 136, 3) := by decide +kernel
theorem D53_131 : decode (byt 53) 131 = .ok (.if_icmp .ge 21, 3) := by decide +kernel
theorem D53_134 : decode (byt 53) 134 = .ok (.aload_n 1, 1) := by decide +kernel
theorem D53_135 : decode (byt 53) 135 = .ok (.iload_n 3, 1) := by decide +kernel
theorem D53_136 : decode (byt 53) 136 = .ok (.aload_n 2, 1) := by decide +kernel
theorem D53_137 : decode (byt 53) 137 = .ok (.getfield 139, 3) := by decide +kernel
theorem D53_140 : decode (byt 53) 140 = .ok (.iload 4, 2) := by decide +kernel
theorem D53_142 : decode (byt 53) 142 = .ok (.iaload, 1) := by decide +kernel
theorem D53_143 : decode (byt 53) 143 = .ok (.invokevirtual 119, 3) := by decide +kernel
theorem D53_146 : decode (byt 53) 146 = .ok (.iinc 4 1, 3) := by decide +kernel
theorem D53_149 : decode (byt 53) 149 = .ok (.goto (-24), 3) := by decide +kernel
theorem D53_152 : decode (byt 53) 152 = .ok (.iload_n 3, 1) := by decide +kernel
theorem D53_153 : decode (byt 53) 153 = .ok (.ireturn, 1) := by decide +kernel
theorem D54_0 : decode (byt 54) 0 = .ok (.iload_n 2, 1) := by decide +kernel
theorem D54_1 : decode (byt 54) 1 = .ok (.iconst 1, 1) := by decide +kernel
theorem D54_2 : decode (byt 54) 2 = .ok (.isub, 1) := by decide +kernel
theorem D54_3 : decode (byt 54) 3 = .ok (.invokestatic 142, 3) := by decide +kernel
theorem D54_6 : decode (byt 54) 6 = .ok (.istore_n 3, 1) := by decide +kernel
theorem D54_7 : decode (byt 54) 7 = .ok (.iload_n 3, 1) := by decide +kernel
theorem D54_8 : decode (byt 54) 8 = .ok (.aload_n 0, 1) := by decide +kernel
theorem D54_9 : decode (byt 54) 9 = .ok (.getfield 24, 3) := by decide +kernel
theorem D54_12 : decode (byt 54) 12 = .ok (.arraylength, 1) := by decide +kernel
theorem D54_13 : decode (byt 54) 13 = .ok (.if_icmp .lt 5, 3) := by decide +kernel
theorem D54_16 : decode (byt 54) 16 = .ok (.iconst 1, 1) := by decide +kernel
theorem D54_17 : decode (byt 54) 17 = .ok (.ireturn, 1) := by decide +kernel
theorem D54_18 : decode (byt 54) 18 = .ok (.aload_n 0, 1) := by decide +kernel
theorem D54_19 : decode (byt 54) 19 = .ok (.getfield 24, 3) := by decide +kernel
theorem D54_22 : decode (byt 54) 22 = .ok (.iload_n 3, 1) := by decide +kernel
theorem D54_23 : decode (byt 54) 23 = .ok (.iaload, 1) := by decide +kernel
theorem D54_24 : decode (byt 54) 24 = .ok (.iconst (-1), 1) := by decide +kernel
theorem D54_25 : decode (byt 54) 25 = .ok (.if_icmp .ne 46, 3) := by decide +kernel
theorem D54_28 : decode (byt 54) 28 = .ok (.iload_n 3, 1) := by decide +kernel
theorem D54_29 : decode (byt 54) 29 = .ok (.bipush 12, 2) := by decide +kernel
theorem D54_31 : decode (byt 54) 31 = .ok (.irem, 1) := by decide +kernel
theorem D54_32 : decode (byt 54) 32 = .ok (.iconst 1, 1) := by decide +kernel
theorem D54_33 : decode (byt 54) 33 = .ok (.iadd, 1) := by decide +kernel
theorem D54_34 : decode (byt 54) 34 = .ok (.istore 4, 2) := by decide +kernel
theorem D54_36 : decode (byt 54) 36 = .ok (.iload_n 3, 1) := by decide +kernel
theorem D54_37 : decode (byt 54) 37 = .ok (.bipush 12, 2) := by decide +kernel
theorem D54_39 : decode (byt 54) 39 = .ok (.if_icmp .ge 8, 3) := by decide +kernel
theorem D54_42 : decode (byt 54) 42 = .ok (.iload 4, 2) := by decide +kernel
theorem D54_44 : decode (byt 54) 44 = .ok (.goto 6, 3) := by decide +kernel
theorem D54_47 : decode (byt 54) 47 = .ok (.iload 4, 2) := by decide +kernel
theorem D54_49 : decode (byt 54) 49 = .ok (.ineg, 1) := by decide +kernel
theorem D54_50 : decode (byt 54) 50 = .ok (.istore 5, 2) := by decide +kernel
theorem D54_52 : decode (byt 54) 52 = .ok (.aload_n 0, 1) := by decide +kernel
theorem D54_53 : decode (byt 54) 53 = .ok (.getfield 24, 3) := by decide +kernel
theorem D54_56 : decode (byt 54) 56 = .ok (.iload_n 3, 1) := by decide +kernel
theorem D54_57 : decode (byt 54) 57 = .ok (.aload_n 1, 1) := by decide +kernel
theorem D54_58 : decode (byt 54) 58 = .ok (.iconst 2, 1) := by decide +kernel
theorem D54_59 : decode (byt 54) 59 = .ok (.iload 5, 2) := by decide +kernel
theorem D54_61 : decode (byt 54) 61 = .ok (.iconst 1, 1) := by decide +kernel
theorem D54_62 : decode (byt 54) 62 = .ok (.iload 4, 2) := by decide +kernel
theorem D54_64 : decode (byt 54) 64 = .ok (.iconst 1, 1) := by decide +kernel
theorem D54_65 : decode (byt 54) 65 = .ok (.isub, 1) := by decide +kernel
theorem D54_66 : decode (byt 54) 66 = .ok (.ishl, 1) := by decide +kernel
theorem D54_67 : decode (byt 54) 67 = .ok (.invokevirtual 115, 3) := by decide +kernel
theorem D54_70 : decode (byt 54) 70 = .ok (.iastore, 1) := by decide +kernel
theorem D54_71 : decode (byt 54) 71 = .ok (.aload_n 0, 1) := by decide +kernel
theorem D54_72 : decode (byt 54) 72 = .ok (.getfield 24, 3) := by decide +kernel
theorem D54_75 : decode (byt 54) 75 = .ok (.iload_n 3, 1) := by decide +kernel
theorem D54_76 : decode (byt 54) 76 = .ok (.iaload, 1) := by decide +kernel
theorem D54_77 : decode (byt 54) 77 = .ok (.ireturn, 1) := by decide +kernel
theorem D55_0 : decode (byt 55) 0 = .ok (.aload_n 0, 1) := by decide +kernel
theorem D55_1 : decode (byt 55) 1 = .ok (.invokespecial 3, 3) := by decide +kernel
theorem D55_4 : decode (byt 55) 4 = .ok (.aload_n 0, 1) := by decide +kernel
theorem D55_5 : decode (byt 55) 5 = .ok (.ldc 9, 2) := by decide +kernel
theorem D55_7 : decode (byt 55) 7 = .ok (.newarray .int, 2) := by decide +kernel
theorem D55_9 : decode (byt 55) 9 = .ok (.putfield 10, 3) := by decide +kernel
theorem D55_12 : decode (byt 55) 12 = .ok (.aload_n 0, 1) := by decide +kernel
theorem D55_13 : decode (byt 55) 13 = .ok (.sipush 2047, 3) := by decide +kernel
theorem D55_16 : decode (byt 55) 16 = .ok (.newarray .int, 2) := by decide +kernel
theorem D55_18 : decode (byt 55) 18 = .ok (.putfield 16, 3) := by decide +kernel
theorem D55_21 : decode (byt 55) 21 = .ok (.aload_n 0, 1) := by decide +kernel
theorem D55_22 : decode (byt 55) 22 = .ok (.sipush 2047, 3) := by decide +kernel
theorem D55_25 : decode (byt 55) 25 = .ok (.newarray .int, 2) := by decide +kernel
theorem D55_27 : decode (byt 55) 27 = .ok (.putfield 19, 3) := by decide +kernel
theorem D55_30 : decode (byt 55) 30 = .ok (.aload_n 0, 1) := by decide +kernel
theorem D55_31 : decode (byt 55) 31 = .ok (.sipush 2047, 3) := by decide +kernel
theorem D55_34 : decode (byt 55) 34 = .ok (.newarray .int, 2) := by decide +kernel
theorem D55_36 : decode (byt 55) 36 = .ok (.putfield 22, 3) := by decide +kernel
theorem D55_39 : decode (byt 55) 39 = .ok (.aload_n 0, 1) := by decide +kernel
theorem D55_40 : decode (byt 55) 40 = .ok (.sipush 2047, 3) := by decide +kernel
theorem D55_43 : decode (byt 55) 43 = .ok (.newarray .int, 2) := by decide +kernel
theorem D55_45 : decode (byt 55) 45 = .ok (.putfield 25, 3) := by decide +kernel
theorem D55_48 : decode (byt 55) 48 = .ok (.aload_n 0, 1) := by decide +kernel
theorem D55_49 : decode (byt 55) 49 = .ok (.sipush 256, 3) := by decide +kernel
theorem D55_52 : decode (byt 55) 52 = .ok (.newarray .int, 2) := by decide +kernel
theorem D55_54 : decode (byt 55) 54 = .ok (.putfield 28, 3) := by decide +kernel
theorem D55_57 : decode (byt 55) 57 = .ok (.aload_n 0, 1) := by decide +kernel
theorem D55_58 : decode (byt 55) 58 = .ok (.iconst 0, 1) := by decide +kernel
theorem D55_59 : decode (byt 55) 59 = .ok (.putfield 31, 3) := by decide +kernel
theorem D55_62 : decode (byt 55) 62 = .ok (.aload_n 0, 1) := by decide +kernel
theorem D55_63 : decode (byt 55) 63 = .ok (.iconst 0, 1) := by decide +kernel
theorem D55_64 : decode (byt 55) 64 = .ok (.putfield 35, 3) := by decide +kernel
theorem D55_67 : decode (byt 55) 67 = .ok (.return_, 1) := by decide +kernel
theorem D56_0 : decode (byt 56) 0 = .ok (.aload_n 0, 1) := by decide +kernel
theorem D56_1 : decode (byt 56) 1 = .ok (.iconst 0, 1) := by decide +kernel
theorem D56_2 : decode (byt 56) 2 = .ok (.putfield 31, 3) := by decide +kernel
theorem D56_5 : decode (byt 56) 5 = .ok (.aload_n 0, 1) := by decide +kernel
theorem D56_6 : decode (byt 56) 6 = .ok (.iconst 0, 1) := by decide +kernel
theorem D56_7 : decode (byt 56) 7 = .ok (.putfield 35, 3) := by decide +kernel
theorem D56_10 : decode (byt 56) 10 = .ok (.iconst 0, 1) := by decide +kernel
theorem D56_11 : decode (byt 56) 11 = .ok (.istore_n 1, 1) := by decide +kernel
theorem D56_12 : decode (byt 56) 12 = .ok (.iload_n 1, 1) := by decide +kernel
theorem D56_13 : decode (byt 56) 13 = .ok (.aload_n 0, 1) := by decide +kernel
theorem D56_14 : decode (byt 56) 14 = .ok (.getfield 28, 3) := by decide +kernel
theorem D56_17 : decode (byt 56) 17 = .ok (.arraylength, 1) := by decide +kernel
theorem D56_18 : decode (byt 56) 18 = .ok (.if_icmp .ge 16, 3) := by decide +kernel
theorem D56_21 : decode (byt 56) 21 = .ok (.aload_n 0, 1) := by decide +kernel
theorem D56_22 : decode (byt 56) 22 = .ok (.getfield 28, 3) := by decide +kernel
theorem D56_25 : decode (byt 56) 25 = .ok (.iload_n 1, 1) := by decide +kernel
theorem D56_26 : decode (byt 56) 26 = .ok (.iconst (-1), 1) := by decide +kernel
theorem D56_27 : decode (byt 56) 27 = .ok (.iastore, 1) := by decide +kernel
theorem D56_28 : decode (byt 56) 28 = .ok (.iinc 1 1, 3) := by decide +kernel
theorem D56_31 : decode (byt 56) 31 = .ok (.goto (-19), 3) := by decide +kernel
theorem D56_34 : decode (byt 56) 34 = .ok (.return_, 1) := by decide +kernel
theorem D57_0 : decode (byt 57) 0 = .ok (.aload_n 0, 1) := by decide +kernel
theorem D57_1 : decode (byt 57) 1 = .ok (.getfield 28, 3) := by decide +kernel
theorem D57_4 : decode (byt 57) 4 = .ok (.aload_n 1, 1) := by decide +kernel
theorem D57_5 : decode (byt 57) 5 = .ok (.iload_n 2, 1) := by decide +kernel
theorem D57_6 : decode (byt 57) 6 = .ok (.invokestatic 38, 3) := by decide +kernel
theorem D57_9 : decode (byt 57) 9 = .ok (.iaload, 1) := by decide +kernel
theorem D57_10 : decode (byt 57) 10 = .ok (.istore_n 3, 1) := by decide +kernel
theorem D57_11 : decode (byt 57) 11 = .ok (.iconst 0, 1) := by decide +kernel
theorem D57_12 : decode (byt 57) 12 = .ok (.istore 4, 2) := by decide +kernel
theorem D57_14 : decode (byt 57) 14 = .ok (.iload 4, 2) := by decide +kernel
theorem D57_16 : decode (byt 57) 16 = .ok (.aload_n 0, 1) := by decide +kernel
theorem D57_17 : decode (byt 57) 17 = .ok (.getfield 31, 3) := by decide +kernel
theorem D57_20 : decode (byt 57) 20 = .ok (.if_icmp .ge 45, 3) := by decide +kernel
theorem D57_23 : decode (byt 57) 23 = .ok (.iload_n 3, 1) := by decide +kernel
theorem D57_24 : decode (byt 57) 24 = .ok (.ifCond .lt 41, 3) := by decide +kernel
theorem D57_27 : decode (byt 57) 27 = .ok (.iload_n 3, 1) := by decide +kernel
theorem D57_28 : decode (byt 57) 28 = .ok (.aload_n 0, 1) := by decide +kernel
theorem D57_29 : decode (byt 57) 29 = .ok (.getfield 31, 3) := by decide +kernel
theorem D57_32 : decode (byt 57) 32 = .ok (.if_icmp .ge 33, 3) := by decide +kernel
theorem D57_35 : decode (byt 57) 35 = .ok (.aload_n 0, 1) := by decide +kernel
theorem D57_36 : decode (byt 57) 36 = .ok (.iload_n 3, 1) := by decide +kernel
theorem D57_37 : decode (byt 57) 37 = .ok (.aload_n 1, 1) := by decide +kernel
theorem D57_38 : decode (byt 57) 38 = .ok (.iload_n 2, 1) := by decide +kernel
theorem D57_39 : decode (byt 57) 39 = .ok (.invokevirtual 42, 3) := by decide +kernel
theorem D57_42 : decode (byt 57) 42 = .ok (.ifCond .eq 10, 3) := by decide +kernel
theorem D57_45 : decode (byt 57) 45 = .ok (.aload_n 0, 1) := by decide +kernel
theorem D57_46 : decode (byt 57) 46 = .ok (.getfield 22, 3) := by decide +kernel
theorem D57_49 : decode (byt 57) 49 = .ok (.iload_n 3, 1) := by decide +kernel
theorem D57_50 : decode (byt 57) 50 = .ok (.iaload, 1) := by decide +kernel
theorem D57_51 : decode (byt 57) 51 = .ok (.ireturn, 1) := by decide +kernel
theorem D57_52 : decode (byt 57) 52 = .ok (.aload_n 0, 1) := by decide +kernel
theorem D57_53 : decode (byt 57) 53 = .ok (.getfield 25, 3) := by decide +kernel
theorem D57_56 : decode (byt 57) 56 = .ok (.iload_n 3, 1) := by decide +kernel
theorem D57_57 : decode (byt 57) 57 = .ok (.iaload, 1) := by decide +kernel
theorem D57_58 : decode (byt 57) 58 = .ok (.istore_n 3, 1) := by decide +kernel
theorem D57_59 : decode (byt 57) 59 = .ok (.iinc 4 1, 3) := by decide +kernel
theorem D57_62 : decode (byt 57) 62 = .ok (.goto (-48), 3) := by decide +kernel
theorem D57_65 : decode (byt 57) 65 = .ok (.iconst (-1), 1) := by decide +kernel
theorem D57_66 : decode (byt 57) 66 = .ok (.ireturn, 1) := by decide +kernel
theorem D58_0 : decode (byt 58) 0 = .ok (.aload_n 0, 1) := by decide +kernel
theorem D58_1 : decode (byt 58) 1 = .ok (.getfield 31, 3) := by decide +kernel
theorem D58_4 : decode (byt 58) 4 = .ok (.sipush 2047, 3) := by decide +kernel
theorem D58_7 : decode (byt 58) 7 = .ok (.if_icmp .ge 20, 3) := by decide +kernel
theorem D58_10 : decode (byt 58) 10 = .ok (.iload_n 2, 1) := by decide +kernel
theorem D58_11 : decode (byt 58) 11 = .ok (.aload_n 1, 1) := by decide +kernel
theorem D58_12 : decode (byt 58) 12 = .ok (.arraylength, 1) := by decide +kernel
theorem D58_13 : decode (byt 58) 13 = .ok (.if_icmp .gt 14, 3) := by decide +kernel
theorem D58_16 : decode (byt 58) 16 = .ok (.iload_n 2, 1) := by decide +kernel
theorem D58_17 : decode (byt 58) 17 = .ok (.ldc 9, 2) := by decide +kernel
theorem D58_19 : decode (byt 58) 19 = .ok (.aload_n 0, 1) := by decide +kernel
theorem D58_20 : decode (byt 58) 20 = .ok (.getfield 35, 3) := by decide +kernel
theorem D58_23 : decode (byt 58) 23 = .ok (.isub, 1) := by decide +kernel
theorem D58_24 : decode (byt 58) 24 = .ok (.if_icmp .le 5, 3) := by decide +kernel
theorem D58_27 : decode (byt 58) 27 = .ok (.iconst 0, 1) := by decide +kernel
theorem D58_28 : decode (byt 58) 28 = .ok (.ireturn, 1) := by decide +kernel
theorem D58_29 : decode (byt 58) 29 = .ok (.aload_n 1, 1) := by decide +kernel
theorem D58_30 : decode (byt 58) 30 = .ok (.iload_n 2, 1) := by decide +kernel
theorem D58_31 : decode (byt 58) 31 = .ok (.invokestatic 38, 3) := by decide +kernel
theorem D58_34 : decode (byt 58) 34 = .ok (.istore 4, 2) := by decide +kernel
theorem D58_36 : decode (byt 58) 36 = .ok (.aload_n 0, 1) := by decide +kernel
theorem D58_37 : decode (byt 58) 37 = .ok (.getfield 16, 3) := by decide +kernel
theorem D58_40 : decode (byt 58) 40 = .ok (.aload_n 0, 1) := by decide +kernel
theorem D58_41 : decode (byt 58) 41 = .ok (.getfield 31, 3) := by decide +kernel
theorem D58_44 : decode (byt 58) 44 = .ok (.aload_n 0, 1) := by decide +kernel
theorem D58_45 : decode (byt 58) 45 = .ok (.getfield 35, 3) := by decide +kernel
theorem D58_48 : decode (byt 58) 48 = .ok (.iastore, 1) := by decide +kernel
theorem D58_49 : decode (byt 58) 49 = .ok (.aload_n 0, 1) := by decide +kernel
theorem D58_50 : decode (byt 58) 50 = .ok (.getfield 19, 3) := by decide +kernel
theorem D58_53 : decode (byt 58) 53 = .ok (.aload_n 0, 1) := by decide +kernel
theorem D58_54 : decode (byt 58) 54 = .ok (.getfield 31, 3) := by decide +kernel
theorem D58_57 : decode (byt 58) 57 = .ok (.iload_n 2, 1) := by decide +kernel
theorem D58_58 : decode (byt 58) 58 = .ok (.iastore, 1) := by decide +kernel
theorem D58_59 : decode (byt 58) 59 = .ok (.aload_n 0, 1) := by decide +kernel
theorem D58_60 : decode (byt 58) 60 = .ok (.getfield 22, 3) := by decide +kernel
theorem D58_63 : decode (byt 58) 63 = .ok (.aload_n 0, 1) := by decide +kernel
theorem D58_64 : decode (byt 58) 64 = .ok (.getfield 31, 3) := by decide +kernel
theorem D58_67 : decode (byt 58) 67 = .ok (.iload_n 3, 1) := by decide +kernel
theorem D58_68 : decode (byt 58) 68 = .ok (.iastore, 1) := by decide +kernel
theorem D58_69 : decode (byt 58) 69 = .ok (.aload_n 0, 1) := by decide +kernel
theorem D58_70 : decode (byt 58) 70 = .ok (.getfield 25, 3) := by decide +kernel
theorem D58_73 : decode (byt 58) 73 = .ok (.aload_n 0, 1) := by decide +kernel
theorem D58_74 : decode (byt 58) 74 = .ok (.getfield 31, 3) := by decide +kernel
theorem D58_77 : decode (byt 58) 77 = .ok (.aload_n 0, 1) := by decide +kernel
theorem D58_78 : decode (byt 58) 78 = .ok (.getfield 28, 3) := by decide +kernel
theorem D58_81 : decode (byt 58) 81 = .ok (.iload 4, 2) := by decide +kernel
theorem D58_83 : decode (byt 58) 83 = .ok (.iaload, 1) := by decide +kernel
theorem D58_84 : decode (byt 58) 84 = .ok (.iastore, 1) := by decide +kernel
theorem D58_85 : decode (byt 58) 85 = .ok (.aload_n 0, 1) := by decide +kernel
theorem D58_86 : decode (byt 58) 86 = .ok (.getfield 28, 3) := by decide +kernel
theorem D58_89 : decode (byt 58) 89 = .ok (.iload 4, 2) := by decide +kernel
theorem D58_91 : decode (byt 58) 91 = .ok (.aload_n 0, 1) := by decide +kernel
theorem D58_92 : decode (byt 58) 92 = .ok (.getfield 31, 3) := by decide +kernel
theorem D58_95 : decode (byt 58) 95 = .ok (.iastore, 1) := by decide +kernel
theorem D58_96 : decode (byt 58) 96 = .ok (.aload_n 0, 1) := by decide +kernel
theorem D58_97 : decode (byt 58) 97 = .ok (.dup, 1) := by decide +kernel
theorem D58_98 : decode (byt 58) 98 = .ok (.getfield 31, 3) := by decide +kernel
theorem D58_101 : decode (byt 58) 101 = .ok (.iconst 1, 1) := by decide +kernel
theorem D58_102 : decode (byt 58) 102 = .ok (.iadd, 1) := by decide +kernel
theorem D58_103 : decode (byt 58) 103 = .ok (.putfield 31, 3) := by decide +kernel
theorem D58_106 : decode (byt 58) 106 = .ok (.iconst 0, 1) := by decide +kernel
theorem D58_107 : decode (byt 58) 107 = .ok (.istore 5, 2) := by decide +kernel
theorem D58_109 : decode (byt 58) 109 = .ok (.iload 5, 2) := by decide +kernel
theorem D58_111 : decode (byt 58) 111 = .ok (.iload_n 2, 1) := by decide +kernel
theorem D58_112 : decode (byt 58) 112 = .ok (.if_icmp .ge 32, 3) := by decide +kernel
theorem D58_115 : decode (byt 58) 115 = .ok (.aload_n 0, 1) := by decide +kernel
theorem D58_116 : decode (byt 58) 116 = .ok (.getfield 10, 3) := by decide +kernel
theorem D58_119 : decode (byt 58) 119 = .ok (.aload_n 0, 1) := by decide +kernel
theorem D58_120 : decode (byt 58) 120 = .ok (.getfield 35, 3) := by decide +kernel
theorem D58_123 : decode (byt 58) 123 = .ok (.aload_n 1, 1) := by decide +kernel
theorem D58_124 : decode (byt 58) 124 = .ok (.iload 5, 2) := by decide +kernel
theorem D58_126 : decode (byt 58) 126 = .ok (.iaload, 1) := by decide +kernel
theorem D58_127 : decode (byt 58) 127 = .ok (.iastore, 1) := by decide +kernel
theorem D58_128 : decode (byt 58) 128 = .ok (.aload_n 0, 1) := by decide +kernel
theorem D58_129 : decode (byt 58) 129 = .ok (.dup, 1) := by decide +kernel
theorem D58_130 : decode (byt 58) 130 = .ok (.getfield 35, 3) := by decide +kernel
theorem D58_133 : decode (byt 58) 133 = .ok (.iconst 1, 1) := by decide +kernel
theorem D58_134 : decode (byt 58) 134 = .ok (.iadd, 1) := by decide +kernel
theorem D58_135 : decode (byt 58) 135 = .ok (.putfield 35, 3) := by decide +kernel
theorem D58_138 : decode (byt 58) 138 = .ok (.iinc 5 1, 3) := by decide +kernel
theorem D58_141 : decode (byt 58) 141 = .ok (.goto (-32), 3) := by decide +kernel
theorem D58_144 : decode (byt 58) 144 = .ok (.iconst 1, 1) := by decide +kernel
theorem D58_145 : decode (byt 58) 145 = .ok (.ireturn, 1) := by decide +kernel
theorem D59_0 : decode (byt 59) 0 = .ok (.aload_n 0, 1) := by decide +kernel
theorem D59_1 : decode (byt 59) 1 = .ok (.getfield 19, 3) := by decide +kernel
theorem D59_4 : decode (byt 59) 4 = .ok (.iload_n 1, 1) := by decide +kernel
theorem D59_5 : decode (byt 59) 5 = .ok (.iaload, 1) := by decide +kernel
theorem D59_6 : decode (byt 59) 6 = .ok (.iload_n 3, 1) := by decide +kernel
theorem D59_7 : decode (byt 59) 7 = .ok (.if_icmp .ne 9, 3) := by decide +kernel
theorem D59_10 : decode (byt 59) 10 = .ok (.iload_n 3, 1) := by decide +kernel
theorem D59_11 : decode (byt 59) 11 = .ok (.aload_n 2, 1) := by decide +kernel
theorem D59_12 : decode (byt 59) 12 = .ok (.arraylength, 1) := by decide +kernel
theorem D59_13 : decode (byt 59) 13 = .ok (.if_icmp .le 5, 3) := by decide +kernel
theorem D59_16 : decode (byt 59) 16 = .ok (.iconst 0, 1) := by decide +kernel
theorem D59_17 : decode (byt 59) 17 = .ok (.ireturn, 1) := by decide +kernel
theorem D59_18 : decode (byt 59) 18 = .ok (.iconst 0, 1) := by decide +kernel
theorem D59_19 : decode (byt 59) 19 = .ok (.istore 4, 2) := by decide +kernel
theorem D59_21 : decode (byt 59) 21 = .ok (.iload 4, 2) := by decide +kernel
theorem D59_23 : decode (byt 59) 23 = .ok (.iload_n 3, 1) := by decide +kernel
theorem D59_24 : decode (byt 59) 24 = .ok (.if_icmp .ge 32, 3) := by decide +kernel
theorem D59_27 : decode (byt 59) 27 = .ok (.aload_n 0, 1) := by decide +kernel
theorem D59_28 : decode (byt 59) 28 = .ok (.getfield 10, 3) := by decide +kernel
theorem D59_31 : decode (byt 59) 31 = .ok (.aload_n 0, 1) := by decide +kernel
theorem D59_32 : decode (byt 59) 32 = .ok (.getfield 16, 3) := by decide +kernel
theorem D59_35 : decode (byt 59) 35 = .ok (.iload_n 1, 1) := by decide +kernel
theorem D59_36 : decode (byt 59) 36 = .ok (.iaload, 1) := by decide +kernel
theorem D59_37 : decode (byt 59) 37 = .ok (.iload 4, 2) := by decide +kernel
theorem D59_39 : decode (byt 59) 39 = .ok (.iadd, 1) := by decide +kernel
theorem D59_40 : decode (byt 59) 40 = .ok (.iaload, 1) := by decide +kernel
theorem D59_41 : decode (byt 59) 41 = .ok (.aload_n 2, 1) := by decide +kernel
theorem D59_42 : decode (byt 59) 42 = .ok (.iload 4, 2) := by decide +kernel
theorem D59_44 : decode (byt 59) 44 = .ok (.iaload, 1) := by decide +kernel
theorem D59_45 : decode (byt 59) 45 = .ok (.if_icmp .eq 5, 3) := by decide +kernel
theorem D59_48 : decode (byt 59) 48 = .ok (.iconst 0, 1) := by decide +kernel
theorem D59_49 : decode (byt 59) 49 = .ok (.ireturn, 1) := by decide +kernel
theorem D59_50 : decode (byt 59) 50 = .ok (.iinc 4 1, 3) := by decide +kernel
theorem D59_53 : decode (byt 59) 53 = .ok (.goto (-32), 3) := by decide +kernel
theorem D59_56 : decode (byt 59) 56 = .ok (.iconst 1, 1) := by decide +kernel
theorem D59_57 : decode (byt 59) 57 = .ok (.ireturn, 1) := by decide +kernel
theorem D60_0 : decode (byt 60) 0 = .ok (.iload_n 1, 1) := by decide +kernel
theorem D60_1 : decode (byt 60) 1 = .ok (.istore_n 2, 1) := by decide +kernel
theorem D60_2 : decode (byt 60) 2 = .ok (.iconst 0, 1) := by decide +kernel
theorem D60_3 : decode (byt 60) 3 = .ok (.istore_n 3, 1) := by decide +kernel
theorem D60_4 : decode (byt 60) 4 = .ok (.iload_n 3, 1) := by decide +kernel
theorem D60_5 : decode (byt 60) 5 = .ok (.iload_n 1, 1) := by decide +kernel
theorem D60_6 : decode (byt 60) 6 = .ok (.if_icmp .ge 24, 3) := by decide +kernel
theorem D60_9 : decode (byt 60) 9 = .ok (.iload_n 3, 1) := by decide +kernel
theorem D60_10 : decode (byt 60) 10 = .ok (.aload_n 0, 1) := by decide +kernel
theorem D60_11 : decode (byt 60) 11 = .ok (.arraylength, 1) := by decide +kernel
theorem D60_12 : decode (byt 60) 12 = .ok (.if_icmp .ge 18, 3) := by decide +kernel
theorem D60_15 : decode (byt 60) 15 = .ok (.iload_n 2, 1) := by decide +kernel
theorem D60_16 : decode (byt 60) 16 = .ok (.bipush 31, 2) := by decide +kernel
theorem D60_18 : decode (byt 60) 18 = .ok (.imul, 1) := by decide +kernel
theorem D60_19 : decode (byt 60) 19 = .ok (.aload_n 0, 1) := by decide +kernel
theorem D60_20 : decode (byt 60) 20 = .ok (.iload_n 3, 1) := by decide +kernel
theorem D60_21 : decode (byt 60) 21 = .ok (.iaload, 1) := by decide +kernel
theorem D60_22 : decode (byt 60) 22 = .ok (.iadd, 1) := by decide +kernel
theorem D60_23 : decode (byt 60) 23 = .ok (.istore_n 2, 1) := by decide +kernel
theorem D60_24 : decode (byt 60) 24 = .ok (.iinc 3 1, 3) := by decide +kernel
theorem D60_27 : decode (byt 60) 27 = .ok (.goto (-23), 3) := by decide +kernel
theorem D60_30 : decode (byt 60) 30 = .ok (.iload_n 2, 1) := by decide +kernel
theorem D60_31 : decode (byt 60) 31 = .ok (.iload_n 2, 1) := by decide +kernel
theorem D60_32 : decode (byt 60) 32 = .ok (.bipush 16, 2) := by decide +kernel
theorem D60_34 : decode (byt 60) 34 = .ok (.iushr, 1) := by decide +kernel
theorem D60_35 : decode (byt 60) 35 = .ok (.ixor, 1) := by decide +kernel
theorem D60_36 : decode (byt 60) 36 = .ok (.istore_n 2, 1) := by decide +kernel
theorem D60_37 : decode (byt 60) 37 = .ok (.iload_n 2, 1) := by decide +kernel
theorem D60_38 : decode (byt 60) 38 = .ok (.iload_n 2, 1) := by decide +kernel
theorem D60_39 : decode (byt 60) 39 = .ok (.bipush 8, 2) := by decide +kernel
theorem D60_41 : decode (byt 60) 41 = .ok (.iushr, 1) := by decide +kernel
theorem D60_42 : decode (byt 60) 42 = .ok (.ixor, 1) := by decide +kernel
theorem D60_43 : decode (byt 60) 43 = .ok (.istore_n 2, 1) := by decide +kernel
theorem D60_44 : decode (byt 60) 44 = .ok (.iload_n 2, 1) := by decide +kernel
theorem D60_45 : decode (byt 60) 45 = .ok (.sipush 255, 3) := by decide +kernel
theorem D60_48 : decode (byt 60) 48 = .ok (.iand, 1) := by decide +kernel
theorem D60_49 : decode (byt 60) 49 = .ok (.ireturn, 1) := by decide +kernel
theorem D61_0 : decode (byt 61) 0 = .ok (.aload_n 0, 1) := by decide +kernel
theorem D61_1 : decode (byt 61) 1 = .ok (.invokespecial 3, 3) := by decide +kernel
theorem D61_4 : decode (byt 61) 4 = .ok (.aload_n 0, 1) := by decide +kernel
theorem D61_5 : decode (byt 61) 5 = .ok (.bipush 64, 2) := by decide +kernel
theorem D61_7 : decode (byt 61) 7 = .ok (.newarray .long, 2) := by decide +kernel
theorem D61_9 : decode (byt 61) 9 = .ok (.putfield 9, 3) := by decide +kernel
theorem D61_12 : decode (byt 61) 12 = .ok (.aload_n 0, 1) := by decide +kernel
theorem D61_13 : decode (byt 61) 13 = .ok (.iconst 0, 1) := by decide +kernel
theorem D61_14 : decode (byt 61) 14 = .ok (.putfield 15, 3) := by decide +kernel
theorem D61_17 : decode (byt 61) 17 = .ok (.aload_n 0, 1) := by decide +kernel
theorem D61_18 : decode (byt 61) 18 = .ok (.iconst 1, 1) := by decide +kernel
theorem D61_19 : decode (byt 61) 19 = .ok (.putfield 19, 3) := by decide +kernel
theorem D61_22 : decode (byt 61) 22 = .ok (.aload_n 0, 1) := by decide +kernel
theorem D61_23 : decode (byt 61) 23 = .ok (.iconst 1, 1) := by decide +kernel
theorem D61_24 : decode (byt 61) 24 = .ok (.putfield 22, 3) := by decide +kernel
theorem D61_27 : decode (byt 61) 27 = .ok (.return_, 1) := by decide +kernel
theorem D62_0 : decode (byt 62) 0 = .ok (.aload_n 0, 1) := by decide +kernel
theorem D62_1 : decode (byt 62) 1 = .ok (.iload_n 1, 1) := by decide +kernel
theorem D62_2 : decode (byt 62) 2 = .ok (.putfield 15, 3) := by decide +kernel
theorem D62_5 : decode (byt 62) 5 = .ok (.aload_n 0, 1) := by decide +kernel
theorem D62_6 : decode (byt 62) 6 = .ok (.iconst 1, 1) := by decide +kernel
theorem D62_7 : decode (byt 62) 7 = .ok (.iload_n 1, 1) := by decide +kernel
theorem D62_8 : decode (byt 62) 8 = .ok (.ishl, 1) := by decide +kernel
theorem D62_9 : decode (byt 62) 9 = .ok (.putfield 19, 3) := by decide +kernel
theorem D62_12 : decode (byt 62) 12 = .ok (.aload_n 0, 1) := by decide +kernel
theorem D62_13 : decode (byt 62) 13 = .ok (.bipush 64, 2) := by decide +kernel
theorem D62_15 : decode (byt 62) 15 = .ok (.iconst 1, 1) := by decide +kernel
theorem D62_16 : decode (byt 62) 16 = .ok (.aload_n 0, 1) := by decide +kernel
theorem D62_17 : decode (byt 62) 17 = .ok (.getfield 19, 3) := by decide +kernel
theorem D62_20 : decode (byt 62) 20 = .ok (.bipush 64, 2) := by decide +kernel
theorem D62_22 : decode (byt 62) 22 = .ok (.idiv, 1) := by decide +kernel
theorem D62_23 : decode (byt 62) 23 = .ok (.invokestatic 25, 3) := by decide +kernel
theorem D62_26 : decode (byt 62) 26 = .ok (.invokestatic 31, 3) := by decide +kernel
theorem D62_29 : decode (byt 62) 29 = .ok (.putfield 22, 3) := by decide +kernel
theorem D62_32 : decode (byt 62) 32 = .ok (.iconst 0, 1) := by decide +kernel
theorem D62_33 : decode (byt 62) 33 = .ok (.istore_n 2, 1) := by decide +kernel
theorem D62_34 : decode (byt 62) 34 = .ok (.iload_n 2, 1) := by decide +kernel
theorem D62_35 : decode (byt 62) 35 = .ok (.aload_n 0, 1) := by decide +kernel
theorem D62_36 : decode (byt 62) 36 = .ok (.getfield 22, 3) := by decide +kernel
theorem D62_39 : decode (byt 62) 39 = .ok (.if_icmp .ge 16, 3) := by decide +kernel
theorem D62_42 : decode (byt 62) 42 = .ok (.aload_n 0, 1) := by decide +kernel
theorem D62_43 : decode (byt 62) 43 = .ok (.getfield 9, 3) := by decide +kernel
theorem D62_46 : decode (byt 62) 46 = .ok (.iload_n 2, 1) := by decide +kernel
theorem D62_47 : decode (byt 62) 47 = .ok (.lconst 0, 1) := by decide +kernel
theorem D62_48 : decode (byt 62) 48 = .ok (.lastore, 1) := by decide +kernel
theorem D62_49 : decode (byt 62) 49 = .ok (.iinc 2 1, 3) := by decide +kernel
theorem D62_52 : decode (byt 62) 52 = .ok (.goto (-18), 3) := by decide +kernel
theorem D62_55 : decode (byt 62) 55 = .ok (.return_, 1) := by decide +kernel
theorem D63_0 : decode (byt 63) 0 = .ok (.aload_n 0, 1) := by decide +kernel
theorem D63_1 : decode (byt 63) 1 = .ok (.aload_n 1, 1) := by decide +kernel
theorem D63_2 : decode (byt 63) 2 = .ok (.getfield 15, 3) := by decide +kernel
theorem D63_5 : decode (byt 63) 5 = .ok (.invokevirtual 34, 3) := by decide +kernel
theorem D63_8 : decode (byt 63) 8 = .ok (.iconst 0, 1) := by decide +kernel
theorem D63_9 : decode (byt 63) 9 = .ok (.istore_n 2, 1) := by decide +kernel
theorem D63_10 : decode (byt 63) 10 = .ok (.iload_n 2, 1) := by decide +kernel
theorem D63_11 : decode (byt 63) 11 = .ok (.aload_n 0, 1) := by decide +kernel
theorem D63_12 : decode (byt 63) 12 = .ok (.getfield 22, 3) := by decide +kernel
theorem D63_15 : decode (byt 63) 15 = .ok (.if_icmp .ge 21, 3) := by decide +kernel
theorem D63_18 : decode (byt 63) 18 = .ok (.aload_n 0, 1) := by decide +kernel
theorem D63_19 : decode (byt 63) 19 = .ok (.getfield 9, 3) := by decide +kernel
theorem D63_22 : decode (byt 63) 22 = .ok (.iload_n 2, 1) := by decide +kernel
theorem D63_23 : decode (byt 63) 23 = .ok (.aload_n 1, 1) := by decide +kernel
theorem D63_24 : decode (byt 63) 24 = .ok (.getfield 9, 3) := by decide +kernel
theorem D63_27 : decode (byt 63) 27 = .ok (.iload_n 2, 1) := by decide +kernel
theorem D63_28 : decode (byt 63) 28 = .ok (.laload, 1) := by decide +kernel
theorem D63_29 : decode (byt 63) 29 = .ok (.lastore, 1) := by decide +kernel
theorem D63_30 : decode (byt 63) 30 = .ok (.iinc 2 1, 3) := by decide +kernel
theorem D63_33 : decode (byt 63) 33 = .ok (.goto (-23), 3) := by decide +kernel
theorem D63_36 : decode (byt 63) 36 = .ok (.return_, 1) := by decide +kernel
theorem D64_0 : decode (byt 64) 0 = .ok (.iload_n 1, 1) := by decide +kernel
theorem D64_1 : decode (byt 64) 1 = .ok (.ifCond .lt 40, 3) := by decide +kernel
theorem D64_4 : decode (byt 64) 4 = .ok (.iload_n 1, 1) := by decide +kernel
theorem D64_5 : decode (byt 64) 5 = .ok (.aload_n 0, 1) := by decide +kernel
theorem D64_6 : decode (byt 64) 6 = .ok (.getfield 22, 3) := by decide +kernel
theorem D64_9 : decode (byt 64) 9 = .ok (.if_icmp .ge 32, 3) := by decide +kernel
theorem D64_12 : decode (byt 64) 12 = .ok (.aload_n 0, 1) := by decide +kernel
theorem D64_13 : decode (byt 64) 13 = .ok (.getfield 9, 3) := by decide +kernel
theorem D64_16 : decode (byt 64) 16 = .ok (.iload_n 1, 1) := by decide +kernel
theorem D64_17 : decode (byt 64) 17 = .ok (.aload_n 0, 1) := by decide +kernel
theorem D64_18 : decode (byt 64) 18 = .ok (.getfield 19, 3) := by decide +kernel
theorem D64_21 : decode (byt 64) 21 = .ok (.bipush 64, 2) := by decide +kernel
theorem D64_23 : decode (byt 64) 23 = .ok (.if_icmp .ge 16, 3) := by decide +kernel
theorem D64_26 : decode (byt 64) 26 = .ok (.lload_n 2, 1) := by decide +kernel
theorem D64_27 : decode (byt 64) 27 = .ok (.lconst 1, 1) := by decide +kernel
theorem D64_28 : decode (byt 64) 28 = .ok (.aload_n 0, 1) := by decide +kernel
theorem D64_29 : decode (byt 64) 29 = .ok (.getfield 19, 3) := by decide +kernel
theorem D64_32 : decode (byt 64) 32 = .ok (.lshl, 1) := by decide +kernel
theorem D64_33 : decode (byt 64) 33 = .ok (.lconst 1, 1) := by decide +kernel
theorem D64_34 : decode (byt 64) 34 = .ok (.lsub, 1) := by decide +kernel
theorem D64_35 : decode (byt 64) 35 = .ok (.land, 1) := by decide +kernel
theorem D64_36 : decode (byt 64) 36 = .ok (.goto 4, 3) := by decide +kernel
theorem D64_39 : decode (byt 64) 39 = .ok (.lload_n 2, 1) := by decide +kernel
theorem D64_40 : decode (byt 64) 40 = .ok (.lastore, 1) := by decide +kernel
theorem D64_41 : decode (byt 64) 41 = .ok (.return_, 1) := by decide +kernel
theorem D65_0 : decode (byt 65) 0 = .ok (.iload_n 1, 1) := by decide +kernel
theorem D65_1 : decode (byt 65) 1 = .ok (.ifCond .lt 29, 3) := by decide +kernel
theorem D65_4 : decode (byt 65) 4 = .ok (.iload_n 1, 1) := by decide +kernel
theorem D65_5 : decode (byt 65) 5 = .ok (.aload_n 0, 1) := by decide +kernel
theorem D65_6 : decode (byt 65) 6 = .ok (.getfield 19, 3) := by decide +kernel
theorem D65_9 : decode (byt 65) 9 = .ok (.if_icmp .ge 21, 3) := by decide +kernel
theorem D65_12 : decode (byt 65) 12 = .ok (.aload_n 0, 1) := by decide +kernel
theorem D65_13 : decode (byt 65) 13 = .ok (.getfield 9, 3) := by decide +kernel
theorem D65_16 : decode (byt 65) 16 = .ok (.iload_n 1, 1) := by decide +kernel
theorem D65_17 : decode (byt 65) 17 = .ok (.bipush 6, 2) := by decide +kernel
theorem D65_19 : decode (byt 65) 19 = .ok (.ishr, 1) := by decide +kernel
theorem D65_20 : decode (byt 65) 20 = .ok (.dup2, 1) := by decide +kernel
theorem D65_21 : decode (byt 65) 21 = .ok (.laload, 1) := by decide +kernel
theorem D65_22 : decode (byt 65) 22 = .ok (.lconst 1, 1) := by decide +kernel
theorem D65_23 : decode (byt 65) 23 = .ok (.iload_n 1, 1) := by decide +kernel
theorem D65_24 : decode (byt 65) 24 = .ok (.bipush 63, 2) := by decide +kernel
theorem D65_26 : decode (byt 65) 26 = .ok (.iand, 1) := by decide +kernel
theorem D65_27 : decode (byt 65) 27 = .ok (.lshl, 1) := by decide +kernel
theorem D65_28 : decode (byt 65) 28 = .ok (.lor, 1) := by decide +kernel
theorem D65_29 : decode (byt 65) 29 = .ok (.lastore, 1) := by decide +kernel
theorem D65_30 : decode (byt 65) 30 = .ok (.return_, 1) := by decide +kernel
theorem D66_0 : decode (byt 66) 0 = .ok (.iload_n 1, 1) := by decide +kernel
theorem D66_1 : decode (byt 66) 1 = .ok (.ifCond .lt 36, 3) := by decide +kernel
theorem D66_4 : decode (byt 66) 4 = .ok (.iload_n 1, 1) := by decide +kernel
theorem D66_5 : decode (byt 66) 5 = .ok (.aload_n 0, 1) := by decide +kernel
theorem D66_6 : decode (byt 66) 6 = .ok (.getfield 19, 3) := by decide +kernel
theorem D66_9 : decode (byt 66) 9 = .ok (.if_icmp .ge 28, 3) := by decide +kernel
theorem D66_12 : decode (byt 66) 12 = .ok (.aload_n 0, 1) := by decide +kernel
theorem D66_13 : decode (byt 66) 13 = .ok (.getfield 9, 3) := by decide +kernel
theorem D66_16 : decode (byt 66) 16 = .ok (.iload_n 1, 1) := by decide +kernel
theorem D66_17 : decode (byt 66) 17 = .ok (.bipush 6, 2) := by decide +kernel
theorem D66_19 : decode (byt 66) 19 = .ok (.ishr, 1) := by decide +kernel
theorem D66_20 : decode (byt 66) 20 = .ok (.laload, 1) := by decide +kernel
theorem D66_21 : decode (byt 66) 21 = .ok (.iload_n 1, 1) := by decide +kernel
theorem D66_22 : decode (byt 66) 22 = .ok (.bipush 63, 2) := by decide +kernel
theorem D66_24 : decode (byt 66) 24 = .ok (.iand, 1) := by decide +kernel
theorem D66_25 : decode (byt 66) 25 = .ok (.lshr, 1) := by decide +kernel
theorem D66_26 : decode (byt 66) 26 = .ok (.lconst 1, 1) := by decide +kernel
theorem D66_27 : decode (byt 66) 27 = .ok (.land, 1) := by decide +kernel
theorem D66_28 : decode (byt 66) 28 = .ok (.lconst 0, 1) := by decide +kernel
theorem D66_29 : decode (byt 66) 29 = .ok (.lcmp, 1) := by decide +kernel
theorem D66_30 : decode (byt 66) 30 = .ok (.ifCond .eq 7, 3) := by decide +kernel
theorem D66_33 : decode (byt 66) 33 = .ok (.iconst 1, 1) := by decide +kernel
theorem D66_34 : decode (byt 66) 34 = .ok (.goto 4, 3) := by decide +kernel
theorem D66_37 : decode (byt 66) 37 = .ok (.iconst 0, 1) := by decide +kernel
theorem D66_38 : decode (byt 66) 38 = .ok (.ireturn, 1) := by decide +kernel
theorem D67_0 : decode (byt 67) 0 = .ok (.iconst 0, 1) := by decide +kernel
theorem D67_1 : decode (byt 67) 1 = .ok (.istore_n 2, 1) := by decide +kernel
theorem D67_2 : decode (byt 67) 2 = .ok (.iload_n 2, 1) := by decide +kernel
theorem D67_3 : decode (byt 67) 3 = .ok (.aload_n 0, 1) := by decide +kernel
theorem D67_4 : decode (byt 67) 4 = .ok (.getfield 22, 3) := by decide +kernel
theorem D67_7 : decode (byt 67) 7 = .ok (.if_icmp .ge 27, 3) := by decide +kernel
theorem D67_10 : decode (byt 67) 10 = .ok (.aload_n 0, 1) := by decide +kernel
theorem D67_11 : decode (byt 67) 11 = .ok (.getfield 9, 3) := by decide +kernel
theorem D67_14 : decode (byt 67) 14 = .ok (.iload_n 2, 1) := by decide +kernel
theorem D67_15 : decode (byt 67) 15 = .ok (.dup2, 1) := by decide +kernel
theorem D67_16 : decode (byt 67) 16 = .ok (.laload, 1) := by decide +kernel
theorem D67_17 : decode (byt 67) 17 = .ok (.iload_n 1, 1) := by decide +kernel
theorem D67_18 : decode (byt 67) 18 = .ok (.aload_n 0, 1) := by decide +kernel
theorem D67_19 : decode (byt 67) 19 = .ok (.getfield 15, 3) := by decide +kernel
theorem D67_22 : decode (byt 67) 22 = .ok (.iload_n 2, 1) := by decide +kernel
theorem D67_23 : decode (byt 67) 23 = .ok (.invokestatic 38, 3) := by decide +kernel
theorem D67_26 : decode (byt 67) 26 = .ok (.land, 1) := by decide +kernel
theorem D67_27 : decode (byt 67) 27 = .ok (.lastore, 1) := by decide +kernel
theorem D67_28 : decode (byt 67) 28 = .ok (.iinc 2 1, 3) := by decide +kernel
theorem D67_31 : decode (byt 67) 31 = .ok (.goto (-29), 3) := by decide +kernel
theorem D67_34 : decode (byt 67) 34 = .ok (.return_, 1) := by decide +kernel
theorem D68_0 : decode (byt 68) 0 = .ok (.aload_n 0, 1) := by decide +kernel
theorem D68_1 : decode (byt 68) 1 = .ok (.aload_n 0, 1) := by decide +kernel
theorem D68_2 : decode (byt 68) 2 = .ok (.getfield 19, 3) := by decide +kernel
theorem D68_5 : decode (byt 68) 5 = .ok (.invokevirtual 42, 3) := by decide +kernel
theorem D68_8 : decode (byt 68) 8 = .ok (.ireturn, 1) := by decide +kernel
theorem D69_0 : decode (byt 69) 0 = .ok (.aload_n 0, 1) := by decide +kernel
theorem D69_1 : decode (byt 69) 1 = .ok (.getfield 22, 3) := by decide +kernel
theorem D69_4 : decode (byt 69) 4 = .ok (.iload_n 1, 1) := by decide +kernel
theorem D69_5 : decode (byt 69) 5 = .ok (.bipush 6, 2) := by decide +kernel
theorem D69_7 : decode (byt 69) 7 = .ok (.ishr, 1) := by decide +kernel
theorem D69_8 : decode (byt 69) 8 = .ok (.invokestatic 31, 3) := by decide +kernel
theorem D69_11 : decode (byt 69) 11 = .ok (.istore_n 2, 1) := by decide +kernel
theorem D69_12 : decode (byt 69) 12 = .ok (.iconst 0, 1) := by decide +kernel
theorem D69_13 : decode (byt 69) 13 = .ok (.istore_n 3, 1) := by decide +kernel
theorem D69_14 : decode (byt 69) 14 = .ok (.iconst 0, 1) := by decide +kernel
theorem D69_15 : decode (byt 69) 15 = .ok (.istore 4, 2) := by decide +kernel
theorem D69_17 : decode (byt 69) 17 = .ok (.iload 4, 2) := by decide +kernel
theorem D69_19 : decode (byt 69) 19 = .ok (.iload_n 2, 1) := by decide +kernel
theorem D69_20 : decode (byt 69) 20 = .ok (.if_icmp .ge 22, 3) := by decide +kernel
theorem D69_23 : decode (byt 69) 23 = .ok (.iload_n 3, 1) := by decide +kernel
theorem D69_24 : decode (byt 69) 24 = .ok (.aload_n 0, 1) := by decide +kernel
theorem D69_25 : decode (byt 69) 25 = .ok (.getfield 9, 3) := by decide +kernel
theorem D69_28 : decode (byt 69) 28 = .ok (.iload 4, 2) := by decide +kernel
theorem D69_30 : decode (byt 69) 30 = .ok (.laload, 1) := by decide +kernel
theorem D69_31 : decode (byt 69) 31 = .ok (.invokestatic 46, 3) := by decide +kernel
theorem D69_34 : decode (byt 69) 34 = .ok (.iadd, 1) := by decide +kernel
theorem D69_35 : decode (byt 69) 35 = .ok (.istore_n 3, 1) := by decide +kernel
theorem D69_36 : decode (byt 69) 36 = .ok (.iinc 4 1, 3) := by decide +kernel
theorem D69_39 : decode (byt 69) 39 = .ok (.goto (-22), 3) := by decide +kernel
theorem D69_42 : decode (byt 69) 42 = .ok (.iload_n 2, 1) := by decide +kernel
theorem D69_43 : decode (byt 69) 43 = .ok (.aload_n 0, 1) := by decide +kernel
theorem D69_44 : decode (byt 69) 44 = .ok (.getfield 22, 3) := by decide +kernel
theorem D69_47 : decode (byt 69) 47 = .ok (.if_icmp .ge 24, 3) := by decide +kernel
theorem D69_50 : decode (byt 69) 50 = .ok (.iload_n 3, 1) := by decide +kernel
theorem D69_51 : decode (byt 69) 51 = .ok (.aload_n 0, 1) := by decide +kernel
theorem D69_52 : decode (byt 69) 52 = .ok (.getfield 9, 3) := by decide +kernel
theorem D69_55 : decode (byt 69) 55 = .ok (.iload_n 2, 1) := by decide +kernel
theorem D69_56 : decode (byt 69) 56 = .ok (.laload, 1) := by decide +kernel
theorem D69_57 : decode (byt 69) 57 = .ok (.lconst 1, 1) := by decide +kernel
theorem D69_58 : decode (byt 69) 58 = .ok (.iload_n 1, 1) := by decide +kernel
theorem D69_59 : decode (byt 69) 59 = .ok (.bipush 63, 2) := by decide +kernel
theorem D69_61 : decode (byt 69) 61 = .ok (.iand, 1) := by decide +kernel
theorem D69_62 : decode (byt 69) 62 = .ok (.lshl, 1) := by decide +kernel
theorem D69_63 : decode (byt 69) 63 = .ok (.lconst 1, 1) := by decide +kernel
theorem D69_64 : decode (byt 69) 64 = .ok (.lsub, 1) := by decide +kernel
theorem D69_65 : decode (byt 69) 65 = .ok (.land, 1) := by decide +kernel
theorem D69_66 : decode (byt 69) 66 = .ok (.invokestatic 46, 3) := by decide +kernel
theorem D69_69 : decode (byt 69) 69 = .ok (.iadd, 1) := by decide +kernel
theorem D69_70 : decode (byt 69) 70 = .ok (.istore_n 3, 1) := by decide +kernel
theorem D69_71 : decode (byt 69) 71 = .ok (.iload_n 3, 1) := by decide +kernel
theorem D69_72 : decode (byt 69) 72 = .ok (.ireturn, 1) := by decide +kernel
theorem D70_0 : decode (byt 70) 0 = .ok (.iconst 0, 1) := by decide +kernel
theorem D70_1 : decode (byt 70) 1 = .ok (.istore_n 2, 1) := by decide +kernel
theorem D70_2 : decode (byt 70) 2 = .ok (.iconst 0, 1) := by decide +kernel
theorem D70_3 : decode (byt 70) 3 = .ok (.istore_n 3, 1) := by decide +kernel
theorem D70_4 : decode (byt 70) 4 = .ok (.iload_n 3, 1) := by decide +kernel
theorem D70_5 : decode (byt 70) 5 = .ok (.aload_n 0, 1) := by decide +kernel
theorem D70_6 : decode (byt 70) 6 = .ok (.getfield 22, 3) := by decide +kernel
theorem D70_9 : decode (byt 70) 9 = .ok (.if_icmp .ge 32, 3) := by decide +kernel
theorem D70_12 : decode (byt 70) 12 = .ok (.iload_n 2, 1) := by decide +kernel
theorem D70_13 : decode (byt 70) 13 = .ok (.aload_n 0, 1) := by decide +kernel
theorem D70_14 : decode (byt 70) 14 = .ok (.getfield 9, 3) := by decide +kernel
theorem D70_17 : decode (byt 70) 17 = .ok (.iload_n 3, 1) := by decide +kernel
theorem D70_18 : decode (byt 70) 18 = .ok (.laload, 1) := by decide +kernel
theorem D70_19 : decode (byt 70) 19 = .ok (.aload_n 1, 1) := by decide +kernel
theorem D70_20 : decode (byt 70) 20 = .ok (.getfield 9, 3) := by decide +kernel
theorem D70_23 : decode (byt 70) 23 = .ok (.iload_n 3, 1) := by decide +kernel
theorem D70_24 : decode (byt 70) 24 = .ok (.laload, 1) := by decide +kernel
theorem D70_25 : decode (byt 70) 25 = .ok (.ldc2_w 52, 3) := by decide +kernel
theorem D70_28 : decode (byt 70) 28 = .ok (.lxor, 1) := by decide +kernel
theorem D70_29 : decode (byt 70) 29 = .ok (.land, 1) := by decide +kernel
theorem D70_30 : decode (byt 70) 30 = .ok (.invokestatic 46, 3) := by decide +kernel
theorem D70_33 : decode (byt 70) 33 = .ok (.iadd, 1) := by decide +kernel
theorem D70_34 : decode (byt 70) 34 = .ok (.istore_n 2, 1) := by decide +kernel
theorem D70_35 : decode (byt 70) 35 = .ok (.iinc 3 1, 3) := by decide +kernel
theorem D70_38 : decode (byt 70) 38 = .ok (.goto (-34), 3) := by decide +kernel
theorem D70_41 : decode (byt 70) 41 = .ok (.iload_n 2, 1) := by decide +kernel
theorem D70_42 : decode (byt 70) 42 = .ok (.ireturn, 1) := by decide +kernel
theorem D71_0 : decode (byt 71) 0 = .ok (.iconst 0, 1) := by decide +kernel
theorem D71_1 : decode (byt 71) 1 = .ok (.iload_n 1, 1) := by decide +kernel
theorem D71_2 : decode (byt 71) 2 = .ok (.invokestatic 25, 3) := by decide +kernel
theorem D71_5 : decode (byt 71) 5 = .ok (.istore_n 2, 1) := by decide +kernel
theorem D71_6 : decode (byt 71) 6 = .ok (.iload_n 2, 1) := by decide +kernel
theorem D71_7 : decode (byt 71) 7 = .ok (.aload_n 0, 1) := by decide +kernel
theorem D71_8 : decode (byt 71) 8 = .ok (.getfield 19, 3) := by decide +kernel
theorem D71_11 : decode (byt 71) 11 = .ok (.if_icmp .ge 19, 3) := by decide +kernel
theorem D71_14 : decode (byt 71) 14 = .ok (.aload_n 0, 1) := by decide +kernel
theorem D71_15 : decode (byt 71) 15 = .ok (.iload_n 2, 1) := by decide +kernel
theorem D71_16 : decode (byt 71) 16 = .ok (.invokevirtual 54, 3) := by decide +kernel
theorem D71_19 : decode (byt 71) 19 = .ok (.ifCond .eq 5, 3) := by decide +kernel
theorem D71_22 : decode (byt 71) 22 = .ok (.iload_n 2, 1) := by decide +kernel
theorem D71_23 : decode (byt 71) 23 = .ok (.ireturn, 1) := by decide +kernel
theorem D71_24 : decode (byt 71) 24 = .ok (.iinc 2 1, 3) := by decide +kernel
theorem D71_27 : decode (byt 71) 27 = .ok (.goto (-21), 3) := by decide +kernel
theorem D71_30 : decode (byt 71) 30 = .ok (.iconst (-1), 1) := by decide +kernel
theorem D71_31 : decode (byt 71) 31 = .ok (.ireturn, 1) := by decide +kernel
theorem D72_0 : decode (byt 72) 0 = .ok (.iload_n 1, 1) := by decide +kernel
theorem D72_1 : decode (byt 72) 1 = .ok (.istore_n 2, 1) := by decide +kernel
theorem D72_2 : decode (byt 72) 2 = .ok (.iconst 0, 1) := by decide +kernel
theorem D72_3 : decode (byt 72) 3 = .ok (.istore_n 3, 1) := by decide +kernel
theorem D72_4 : decode (byt 72) 4 = .ok (.iload_n 3, 1) := by decide +kernel
theorem D72_5 : decode (byt 72) 5 = .ok (.aload_n 0, 1) := by decide +kernel
theorem D72_6 : decode (byt 72) 6 = .ok (.getfield 22, 3) := by decide +kernel
theorem D72_9 : decode (byt 72) 9 = .ok (.if_icmp .ge 41, 3) := by decide +kernel
theorem D72_12 : decode (byt 72) 12 = .ok (.aload_n 0, 1) := by decide +kernel
theorem D72_13 : decode (byt 72) 13 = .ok (.getfield 9, 3) := by decide +kernel
theorem D72_16 : decode (byt 72) 16 = .ok (.iload_n 3, 1) := by decide +kernel
theorem D72_17 : decode (byt 72) 17 = .ok (.laload, 1) := by decide +kernel
theorem D72_18 : decode (byt 72) 18 = .ok (.invokestatic 46, 3) := by decide +kernel
theorem D72_21 : decode (byt 72) 21 = .ok (.istore 4, 2) := by decide +kernel
theorem D72_23 : decode (byt 72) 23 = .ok (.iload_n 2, 1) := by decide +kernel
theorem D72_24 : decode (byt 72) 24 = .ok (.iload 4, 2) := by decide +kernel
theorem D72_26 : decode (byt 72) 26 = .ok (.if_icmp .ge 13, 3) := by decide +kernel
theorem D72_29 : decode (byt 72) 29 = .ok (.aload_n 0, 1) := by decide +kernel
theorem D72_30 : decode (byt 72) 30 = .ok (.iload_n 3, 1) := by decide +kernel
theorem D72_31 : decode (byt 72) 31 = .ok (.bipush 6, 2) := by decide +kernel
theorem D72_33 : decode (byt 72) 33 = .ok (.ishl, 1) := by decide +kernel
theorem D72_34 : decode (byt 72) 34 = .ok (.iload_n 2, 1) := by decide +kernel
theorem D72_35 : decode (byt 72) 35 = .ok (.invokevirtual 58, 3) := by decide +kernel
theorem D72_38 : decode (byt 72) 38 = .ok (.ireturn, 1) := by decide +kernel
theorem D72_39 : decode (byt 72) 39 = .ok (.iload_n 2, 1) := by decide +kernel
theorem D72_40 : decode (byt 72) 40 = .ok (.iload 4, 2) := by decide +kernel
theorem D72_42 : decode (byt 72) 42 = .ok (.isub, 1) := by decide +kernel
theorem D72_43 : decode (byt 72) 43 = .ok (.istore_n 2, 1) := by decide +kernel
theorem D72_44 : decode (byt 72) 44 = .ok (.iinc 3 1, 3) := by decide +kernel
theorem D72_47 : decode (byt 72) 47 = .ok (.goto (-43), 3) := by decide +kernel
theorem D72_50 : decode (byt 72) 50 = .ok (.iconst (-1), 1) := by decide +kernel
theorem D72_51 : decode (byt 72) 51 = .ok (.ireturn, 1) := by decide +kernel
theorem D73_0 : decode (byt 73) 0 = .ok (.iload_n 2, 1) := by decide +kernel
theorem D73_1 : decode (byt 73) 1 = .ok (.istore_n 3, 1) := by decide +kernel
theorem D73_2 : decode (byt 73) 2 = .ok (.iload_n 1, 1) := by decide +kernel
theorem D73_3 : decode (byt 73) 3 = .ok (.istore 4, 2) := by decide +kernel
theorem D73_5 : decode (byt 73) 5 = .ok (.iload 4, 2) := by decide +kernel
theorem D73_7 : decode (byt 73) 7 = .ok (.aload_n 0, 1) := by decide +kernel
theorem D73_8 : decode (byt 73) 8 = .ok (.getfield 19, 3) := by decide +kernel
theorem D73_11 : decode (byt 73) 11 = .ok (.if_icmp .ge 28, 3) := by decide +kernel
theorem D73_14 : decode (byt 73) 14 = .ok (.aload_n 0, 1) := by decide +kernel
theorem D73_15 : decode (byt 73) 15 = .ok (.iload 4, 2) := by decide +kernel
theorem D73_17 : decode (byt 73) 17 = .ok (.invokevirtual 54, 3) := by decide +kernel
theorem D73_20 : decode (byt 73) 20 = .ok (.ifCond .eq 13, 3) := by decide +kernel
theorem D73_23 : decode (byt 73) 23 = .ok (.iload_n 3, 1) := by decide +kernel
theorem D73_24 : decode (byt 73) 24 = .ok (.ifCond .ne 6, 3) := by decide +kernel
theorem D73_27 : decode (byt 73) 27 = .ok (.iload 4, 2) := by decide +kernel
theorem D73_29 : decode (byt 73) 29 = .ok (.ireturn, 1) := by decide +kernel
theorem D73_30 : decode (byt 73) 30 = .ok (.iinc 3 (-1), 3) := by decide +kernel
theorem D73_33 : decode (byt 73) 33 = .ok (.iinc 4 1, 3) := by decide +kernel
theorem D73_36 : decode (byt 73) 36 = .ok (.goto (-31), 3) := by decide +kernel
theorem D73_39 : decode (byt 73) 39 = .ok (.iconst (-1), 1) := by decide +kernel
theorem D73_40 : decode (byt 73) 40 = .ok (.ireturn, 1) := by decide +kernel
theorem D74_0 : decode (byt 74) 0 = .ok (.aload_n 0, 1) := by decide +kernel
theorem D74_1 : decode (byt 74) 1 = .ok (.invokespecial 3, 3) := by decide +kernel
theorem D74_4 : decode (byt 74) 4 = .ok (.aload_n 0, 1) := by decide +kernel
theorem D74_5 : decode (byt 74) 5 = .ok (.new 9, 3) := by decide +kernel
theorem D74_8 : decode (byt 74) 8 = .ok (.dup, 1) := by decide +kernel
theorem D74_9 : decode (byt 74) 9 = .ok (.invokespecial 11, 3) := by decide +kernel
theorem D74_12 : decode (byt 74) 12 = .ok (.putfield 12, 3) := by decide +kernel
theorem D74_15 : decode (byt 74) 15 = .ok (.aload_n 0, 1) := by decide +kernel
theorem D74_16 : decode (byt 74) 16 = .ok (.new 9, 3) := by decide +kernel
theorem D74_19 : decode (byt 74) 19 = .ok (.dup, 1) := by decide +kernel
theorem D74_20 : decode (byt 74) 20 = .ok (.invokespecial 11, 3) := by decide +kernel
theorem D74_23 : decode (byt 74) 23 = .ok (.putfield 16, 3) := by decide +kernel
theorem D74_26 : decode (byt 74) 26 = .ok (.aload_n 0, 1) := by decide +kernel
theorem D74_27 : decode (byt 74) 27 = .ok (.new 19, 3) := by decide +kernel
theorem D74_30 : decode (byt 74) 30 = .ok (.dup, 1) := by decide +kernel
theorem D74_31 : decode (byt 74) 31 = .ok (.invokespecial 21, 3) := by decide +kernel
theorem D74_34 : decode (byt 74) 34 = .ok (.putfield 22, 3) := by decide +kernel
theorem D74_37 : decode (byt 74) 37 = .ok (.aload_n 0, 1) := by decide +kernel
theorem D74_38 : decode (byt 74) 38 = .ok (.sipush 4096, 3) := by decide +kernel
theorem D74_41 : decode (byt 74) 41 = .ok (.newarray .long, 2) := by decide +kernel
theorem D74_43 : decode (byt 74) 43 = .ok (.putfield 26, 3) := by decide +kernel
theorem D74_46 : decode (byt 74) 46 = .ok (.aload_n 0, 1) := by decide +kernel
theorem D74_47 : decode (byt 74) 47 = .ok (.new 30, 3) := by decide +kernel
theorem D74_50 : decode (byt 74) 50 = .ok (.dup, 1) := by decide +kernel
theorem D74_51 : decode (byt 74) 51 = .ok (.invokespecial 32, 3) := by decide +kernel
theorem D74_54 : decode (byt 74) 54 = .ok (.putfield 33, 3) := by decide +kernel
theorem D74_57 : decode (byt 74) 57 = .ok (.aload_n 0, 1) := by decide +kernel
theorem D74_58 : decode (byt 74) 58 = .ok (.iconst 5, 1) := by decide +kernel
theorem D74_59 : decode (byt 74) 59 = .ok (.newarray .int, 2) := by decide +kernel
theorem D74_61 : decode (byt 74) 61 = .ok (.putfield 37, 3) := by decide +kernel
theorem D74_64 : decode (byt 74) 64 = .ok (.aload_n 0, 1) := by decide +kernel
theorem D74_65 : decode (byt 74) 65 = .ok (.bipush 10, 2) := by decide +kernel
theorem D74_67 : decode (byt 74) 67 = .ok (.newarray .int, 2) := by decide +kernel
theorem D74_69 : decode (byt 74) 69 = .ok (.putfield 41, 3) := by decide +kernel
theorem D74_72 : decode (byt 74) 72 = .ok (.aload_n 0, 1) := by decide +kernel
theorem D74_73 : decode (byt 74) 73 = .ok (.iconst 0, 1) := by decide +kernel
theorem D74_74 : decode (byt 74) 74 = .ok (.putfield 44, 3) := by decide +kernel
theorem D74_77 : decode (byt 74) 77 = .ok (.aload_n 0, 1) := by decide +kernel
theorem D74_78 : decode (byt 74) 78 = .ok (.iconst 0, 1) := by decide +kernel
theorem D74_79 : decode (byt 74) 79 = .ok (.putfield 48, 3) := by decide +kernel
theorem D74_82 : decode (byt 74) 82 = .ok (.aload_n 0, 1) := by decide +kernel
theorem D74_83 : decode (byt 74) 83 = .ok (.iconst (-1), 1) := by decide +kernel
theorem D74_84 : decode (byt 74) 84 = .ok (.putfield 52, 3) := by decide +kernel
theorem D74_87 : decode (byt 74) 87 = .ok (.return_, 1) := by decide +kernel
theorem D75_0 : decode (byt 75) 0 = .ok (.aload_n 0, 1) := by decide +kernel
theorem D75_1 : decode (byt 75) 1 = .ok (.iload_n 1, 1) := by decide +kernel
theorem D75_2 : decode (byt 75) 2 = .ok (.invokevirtual 55, 3) := by decide +kernel
theorem D75_5 : decode (byt 75) 5 = .ok (.astore_n 3, 1) := by decide +kernel
theorem D75_6 : decode (byt 75) 6 = .ok (.aload_n 3, 1) := by decide +kernel
theorem D75_7 : decode (byt 75) 7 = .ok (.ifnonnull 10, 3) := by decide +kernel
theorem D75_10 : decode (byt 75) 10 = .ok (.aload_n 0, 1) := by decide +kernel
theorem D75_11 : decode (byt 75) 11 = .ok (.bipush (-3), 2) := by decide +kernel
theorem D75_13 : decode (byt 75) 13 = .ok (.invokevirtual 59, 3) := by decide +kernel
theorem D75_16 : decode (byt 75) 16 = .ok (.ireturn, 1) := by decide +kernel
theorem D75_17 : decode (byt 75) 17 = .ok (.iload_n 2, 1) := by decide +kernel
theorem D75_18 : decode (byt 75) 18 = .ok (.iconst 1, 1) := by decide +kernel
theorem D75_19 : decode (byt 75) 19 = .ok (.if_icmp .lt 9, 3) := by decide +kernel
theorem D75_22 : decode (byt 75) 22 = .ok (.iload_n 2, 1) := by decide +kernel
theorem D75_23 : decode (byt 75) 23 = .ok (.bipush 12, 2) := by decide +kernel
theorem D75_25 : decode (byt 75) 25 = .ok (.if_icmp .le 10, 3) := by decide +kernel
theorem D75_28 : decode (byt 75) 28 = .ok (.aload_n 0, 1) := by decide +kernel
theorem D75_29 : decode (byt 75) 29 = .ok (.bipush (-7), 2) := by decide +kernel
theorem D75_31 : decode (byt 75) 31 = .ok (.invokevirtual 59, 3) := by decide +kernel
theorem D75_34 : decode (byt 75) 34 = .ok (.ireturn, 1) := by decide +kernel
theorem D75_35 : decode (byt 75) 35 = .ok (.aload_n 3, 1) := by decide +kernel
theorem D75_36 : decode (byt 75) 36 = .ok (.getfield 63, 3) := by decide +kernel
theorem D75_39 : decode (byt 75) 39 = .ok (.istore 4, 2) := by decide +kernel
theorem D75_41 : decode (byt 75) 41 = .ok (.aload_n 3, 1) := by decide +kernel
theorem D75_42 : decode (byt 75) 42 = .ok (.iload_n 2, 1) := by decide +kernel
theorem D75_43 : decode (byt 75) 43 = .ok (.invokevirtual 66, 3) := by decide +kernel
theorem D75_46 : decode (byt 75) 46 = .ok (.iload 4, 2) := by decide +kernel
theorem D75_48 : decode (byt 75) 48 = .ok (.ireturn, 1) := by decide +kernel
theorem D76_0 : decode (byt 76) 0 = .ok (.aload_n 0, 1) := by decide +kernel
theorem D76_1 : decode (byt 76) 1 = .ok (.iload_n 1, 1) := by decide +kernel
theorem D76_2 : decode (byt 76) 2 = .ok (.invokevirtual 55, 3) := by decide +kernel
theorem D76_5 : decode (byt 76) 5 = .ok (.astore 6, 2) := by decide +kernel
theorem D76_7 : decode (byt 76) 7 = .ok (.aload 6, 2) := by decide +kernel
theorem D76_9 : decode (byt 76) 9 = .ok (.ifnonnull 10, 3) := by decide +kernel
theorem D76_12 : decode (byt 76) 12 = .ok (.aload_n 0, 1) := by decide +kernel
theorem D76_13 : decode (byt 76) 13 = .ok (.bipush (-3), 2) := by decide +kernel
theorem D76_15 : decode (byt 76) 15 = .ok (.invokevirtual 59, 3) := by decide +kernel
theorem D76_18 : decode (byt 76) 18 = .ok (.ireturn, 1) := by decide +kernel
theorem D76_19 : decode (byt 76) 19 = .ok (.aload 6, 2) := by decide +kernel
theorem D76_21 : decode (byt 76) 21 = .ok (.iload_n 2, 1) := by decide +kernel
theorem D76_22 : decode (byt 76) 22 = .ok (.invokevirtual 70, 3) := by decide +kernel
theorem D76_25 : decode (byt 76) 25 = .ok (.ifCond .eq 32, 3) := by decide +kernel
theorem D76_28 : decode (byt 76) 28 = .ok (.aload 6, 2) := by decide +kernel
theorem D76_30 : decode (byt 76) 30 = .ok (.iload_n 3, 1) := by decide +kernel
theorem D76_31 : decode (byt 76) 31 = .ok (.invokevirtual 70, 3) := by decide +kernel
theorem D76_34 : decode (byt 76) 34 = .ok (.ifCond .eq 23, 3) := by decide +kernel
theorem D76_37 : decode (byt 76) 37 = .ok (.aload 6, 2) := by decide +kernel
theorem D76_39 : decode (byt 76) 39 = .ok (.iload 4, 2) := by decide +kernel
theorem D76_41 : decode (byt 76) 41 = .ok (.invokevirtual 70, 3) := by decide +kernel
theorem D76_44 : decode (byt 76) 44 = .ok (.ifCond .eq 13, 3) := by decide +kernel
theorem D76_47 : decode (byt 76) 47 = .ok (.aload 6, 2) := by decide +kernel
theorem D76_49 : decode (byt 76) 49 = .ok (.iload 5, 2) := by decide +kernel
theorem D76_51 : decode (byt 76) 51 = .ok (.invokevirtual 70, 3) := by decide +kernel
theorem D76_54 : decode (byt 76) 54 = .ok (.ifCond .ne 10, 3) := by decide +kernel
theorem D76_57 : decode (byt 76) 57 = .ok (.aload_n 0, 1) := by decide +kernel
theorem D76_58 : decode (byt 76) 58 = .ok (.bipush (-3), 2) := by decide +kernel
theorem D76_60 : decode (byt 76) 60 = .ok (.invokevirtual 59, 3) := by decide +kernel
theorem D76_63 : decode (byt 76) 63 = .ok (.ireturn, 1) := by decide +kernel
theorem D76_64 : decode (byt 76) 64 = .ok (.aload_n 0, 1) := by decide +kernel
theorem D76_65 : decode (byt 76) 65 = .ok (.aload 6, 2) := by decide +kernel
theorem D76_67 : decode (byt 76) 67 = .ok (.iload_n 2, 1) := by decide +kernel
theorem D76_68 : decode (byt 76) 68 = .ok (.invokestatic 74, 3) := by decide +kernel
theorem D76_71 : decode (byt 76) 71 = .ok (.iload_n 3, 1) := by decide +kernel
theorem D76_72 : decode (byt 76) 72 = .ok (.invokestatic 74, 3) := by decide +kernel
theorem D76_75 : decode (byt 76) 75 = .ok (.ior, 1) := by decide +kernel
theorem D76_76 : decode (byt 76) 76 = .ok (.iload 4, 2) := by decide +kernel
theorem D76_78 : decode (byt 76) 78 = .ok (.invokestatic 74, 3) := by decide +kernel
theorem D76_81 : decode (byt 76) 81 = .ok (.ior, 1) := by decide +kernel
theorem D76_82 : decode (byt 76) 82 = .ok (.iload 5, 2) := by decide +kernel
theorem D76_84 : decode (byt 76) 84 = .ok (.invokestatic 74, 3) := by decide +kernel
theorem D76_87 : decode (byt 76) 87 = .ok (.ior, 1) := by decide +kernel
theorem D76_88 : decode (byt 76) 88 = .ok (.invokevirtual 77, 3) := by decide +kernel
theorem D76_91 : decode (byt 76) 91 = .ok (.ireturn, 1) := by decide +kernel
theorem D77_0 : decode (byt 77) 0 = .ok (.aload_n 0, 1) := by decide +kernel
theorem D77_1 : decode (byt 77) 1 = .ok (.iload_n 1, 1) := by decide +kernel
theorem D77_2 : decode (byt 77) 2 = .ok (.invokevirtual 55, 3) := by decide +kernel
theorem D77_5 : decode (byt 77) 5 = .ok (.astore_n 3, 1) := by decide +kernel
theorem D77_6 : decode (byt 77) 6 = .ok (.aload_n 3, 1) := by decide +kernel
theorem D77_7 : decode (byt 77) 7 = .ok (.ifnull 11, 3) := by decide +kernel
theorem D77_10 : decode (byt 77) 10 = .ok (.aload_n 3, 1) := by decide +kernel
theorem D77_11 : decode (byt 77) 11 = .ok (.iload_n 2, 1) := by decide +kernel
theorem D77_12 : decode (byt 77) 12 = .ok (.invokevirtual 81, 3) := by decide +kernel
theorem D77_15 : decode (byt 77) 15 = .ok (.ifCond .ne 10, 3) := by decide +kernel
theorem D77_18 : decode (byt 77) 18 = .ok (.aload_n 0, 1) := by decide +kernel
theorem D77_19 : decode (byt 77) 19 = .ok (.bipush (-3), 2) := by decide +kernel
theorem D77_21 : decode (byt 77) 21 = .ok (.invokevirtual 59, 3) := by decide +kernel
theorem D77_24 : decode (byt 77) 24 = .ok (.ireturn, 1) := by decide +kernel
theorem D77_25 : decode (byt 77) 25 = .ok (.aload_n 3, 1) := by decide +kernel
theorem D77_26 : decode (byt 77) 26 = .ok (.getfield 84, 3) := by decide +kernel
theorem D77_29 : decode (byt 77) 29 = .ok (.ifCond .ne 10, 3) := by decide +kernel
theorem D77_32 : decode (byt 77) 32 = .ok (.aload_n 0, 1) := by decide +kernel
theorem D77_33 : decode (byt 77) 33 = .ok (.bipush (-2), 2) := by decide +kernel
theorem D77_35 : decode (byt 77) 35 = .ok (.invokevirtual 59, 3) := by decide +kernel
theorem D77_38 : decode (byt 77) 38 = .ok (.ireturn, 1) := by decide +kernel
theorem D77_39 : decode (byt 77) 39 = .ok (.aload_n 3, 1) := by decide +kernel
theorem D77_40 : decode (byt 77) 40 = .ok (.aload_n 3, 1) := by decide +kernel
theorem D77_41 : decode (byt 77) 41 = .ok (.getfield 84, 3) := by decide +kernel
theorem D77_44 : decode (byt 77) 44 = .ok (.iconst 1, 1) := by decide +kernel
theorem D77_45 : decode (byt 77) 45 = .ok (.isub, 1) := by decide +kernel
theorem D77_46 : decode (byt 77) 46 = .ok (.invokevirtual 87, 3) := by decide +kernel
theorem D77_49 : decode (byt 77) 49 = .ok (.istore 4, 2) := by decide +kernel
theorem D77_51 : decode (byt 77) 51 = .ok (.iload 4, 2) := by decide +kernel
theorem D77_53 : decode (byt 77) 53 = .ok (.iload_n 2, 1) := by decide +kernel
theorem D77_54 : decode (byt 77) 54 = .ok (.invokestatic 74, 3) := by decide +kernel
theorem D77_57 : decode (byt 77) 57 = .ok (.iload_n 2, 1) := by decide +kernel
theorem D77_58 : decode (byt 77) 58 = .ok (.ineg, 1) := by decide +kernel
theorem D77_59 : decode (byt 77) 59 = .ok (.invokestatic 74, 3) := by decide +kernel
theorem D77_62 : decode (byt 77) 62 = .ok (.ior, 1) := by decide +kernel
theorem D77_63 : decode (byt 77) 63 = .ok (.iand, 1) := by decide +kernel
theorem D77_64 : decode (byt 77) 64 = .ok (.ifCond .eq 10, 3) := by decide +kernel
theorem D77_67 : decode (byt 77) 67 = .ok (.aload_n 0, 1) := by decide +kernel
theorem D77_68 : decode (byt 77) 68 = .ok (.bipush (-7), 2) := by decide +kernel
theorem D77_70 : decode (byt 77) 70 = .ok (.invokevirtual 59, 3) := by decide +kernel
theorem D77_73 : decode (byt 77) 73 = .ok (.ireturn, 1) := by decide +kernel
theorem D77_74 : decode (byt 77) 74 = .ok (.iload 4, 2) := by decide +kernel
theorem D77_76 : decode (byt 77) 76 = .ok (.invokestatic 90, 3) := by decide +kernel
theorem D77_79 : decode (byt 77) 79 = .ok (.iconst 5, 1) := by decide +kernel
theorem D77_80 : decode (byt 77) 80 = .ok (.if_icmp .lt 10, 3) := by decide +kernel
theorem D77_83 : decode (byt 77) 83 = .ok (.aload_n 0, 1) := by decide +kernel
theorem D77_84 : decode (byt 77) 84 = .ok (.bipush (-8), 2) := by decide +kernel
theorem D77_86 : decode (byt 77) 86 = .ok (.invokevirtual 59, 3) := by decide +kernel
theorem D77_89 : decode (byt 77) 89 = .ok (.ireturn, 1) := by decide +kernel
theorem D77_90 : decode (byt 77) 90 = .ok (.aload_n 3, 1) := by decide +kernel
theorem D77_91 : decode (byt 77) 91 = .ok (.iload_n 2, 1) := by decide +kernel
theorem D77_92 : decode (byt 77) 92 = .ok (.invokestatic 74, 3) := by decide +kernel
theorem D77_95 : decode (byt 77) 95 = .ok (.invokevirtual 95, 3) := by decide +kernel
theorem D77_98 : decode (byt 77) 98 = .ok (.iload 4, 2) := by decide +kernel
theorem D77_100 : decode (byt 77) 100 = .ok (.invokestatic 90, 3) := by decide +kernel
theorem D77_103 : decode (byt 77) 103 = .ok (.iconst 1, 1) := by decide +kernel
theorem D77_104 : decode (byt 77) 104 = .ok (.iadd, 1) := by decide +kernel
theorem D77_105 : decode (byt 77) 105 = .ok (.ireturn, 1) := by decide +kernel
theorem D78_0 : decode (byt 78) 0 = .ok (.aload_n 0, 1) := by decide +kernel
theorem D78_1 : decode (byt 78) 1 = .ok (.iload_n 1, 1) := by decide +kernel
theorem D78_2 : decode (byt 78) 2 = .ok (.invokevirtual 55, 3) := by decide +kernel
theorem D78_5 : decode (byt 78) 5 = .ok (.astore_n 2, 1) := by decide +kernel
theorem D78_6 : decode (byt 78) 6 = .ok (.aload_n 2, 1) := by decide +kernel
theorem D78_7 : decode (byt 78) 7 = .ok (.ifnonnull 10, 3) := by decide +kernel
theorem D78_10 : decode (byt 78) 10 = .ok (.aload_n 0, 1) := by decide +kernel
theorem D78_11 : decode (byt 78) 11 = .ok (.bipush (-3), 2) := by decide +kernel
theorem D78_13 : decode (byt 78) 13 = .ok (.invokevirtual 59, 3) := by decide +kernel
theorem D78_16 : decode (byt 78) 16 = .ok (.ireturn, 1) := by decide +kernel
theorem D78_17 : decode (byt 78) 17 = .ok (.aload_n 2, 1) := by decide +kernel
theorem D78_18 : decode (byt 78) 18 = .ok (.getfield 84, 3) := by decide +kernel
theorem D78_21 : decode (byt 78) 21 = .ok (.ifCond .ne 10, 3) := by decide +kernel
theorem D78_24 : decode (byt 78) 24 = .ok (.aload_n 0, 1) := by decide +kernel
theorem D78_25 : decode (byt 78) 25 = .ok (.bipush (-2), 2) := by decide +kernel
theorem D78_27 : decode (byt 78) 27 = .ok (.invokevirtual 59, 3) := by decide +kernel
theorem D78_30 : decode (byt 78) 30 = .ok (.ireturn, 1) := by decide +kernel
theorem D78_31 : decode (byt 78) 31 = .ok (.aload_n 2, 1) := by decide +kernel
theorem D78_32 : decode (byt 78) 32 = .ok (.invokevirtual 98, 3) := by decide +kernel
theorem D78_35 : decode (byt 78) 35 = .ok (.aload_n 2, 1) := by decide +kernel
theorem D78_36 : decode (byt 78) 36 = .ok (.getfield 84, 3) := by decide +kernel
theorem D78_39 : decode (byt 78) 39 = .ok (.ireturn, 1) := by decide +kernel
theorem D79_0 : decode (byt 79) 0 = .ok (.aload_n 0, 1) := by decide +kernel
theorem D79_1 : decode (byt 79) 1 = .ok (.iload_n 1, 1) := by decide +kernel
theorem D79_2 : decode (byt 79) 2 = .ok (.invokevirtual 55, 3) := by decide +kernel
theorem D79_5 : decode (byt 79) 5 = .ok (.astore 4, 2) := by decide +kernel
theorem D79_7 : decode (byt 79) 7 = .ok (.aload 4, 2) := by decide +kernel
theorem D79_9 : decode (byt 79) 9 = .ok (.ifnull 12, 3) := by decide +kernel
theorem D79_12 : decode (byt 79) 12 = .ok (.aload 4, 2) := by decide +kernel
theorem D79_14 : decode (byt 79) 14 = .ok (.iload_n 2, 1) := by decide +kernel
theorem D79_15 : decode (byt 79) 15 = .ok (.invokevirtual 101, 3) := by decide +kernel
theorem D79_18 : decode (byt 79) 18 = .ok (.ifCond .ne 10, 3) := by decide +kernel
theorem D79_21 : decode (byt 79) 21 = .ok (.aload_n 0, 1) := by decide +kernel
theorem D79_22 : decode (byt 79) 22 = .ok (.bipush (-3), 2) := by decide +kernel
theorem D79_24 : decode (byt 79) 24 = .ok (.invokevirtual 59, 3) := by decide +kernel
theorem D79_27 : decode (byt 79) 27 = .ok (.ireturn, 1) := by decide +kernel
theorem D79_28 : decode (byt 79) 28 = .ok (.iload_n 2, 1) := by decide +kernel
theorem D79_29 : decode (byt 79) 29 = .ok (.invokestatic 74, 3) := by decide +kernel
theorem D79_32 : decode (byt 79) 32 = .ok (.istore 5, 2) := by decide +kernel
theorem D79_34 : decode (byt 79) 34 = .ok (.aload 4, 2) := by decide +kernel
theorem D79_36 : decode (byt 79) 36 = .ok (.getfield 104, 3) := by decide +kernel
theorem D79_39 : decode (byt 79) 39 = .ok (.iload 5, 2) := by decide +kernel
theorem D79_41 : decode (byt 79) 41 = .ok (.iand, 1) := by decide +kernel
theorem D79_42 : decode (byt 79) 42 = .ok (.ifCond .eq 7, 3) := by decide +kernel
theorem D79_45 : decode (byt 79) 45 = .ok (.iconst 1, 1) := by decide +kernel
theorem D79_46 : decode (byt 79) 46 = .ok (.goto 4, 3) := by decide +kernel
theorem D79_49 : decode (byt 79) 49 = .ok (.iconst 0, 1) := by decide +kernel
theorem D79_50 : decode (byt 79) 50 = .ok (.istore 6, 2) := by decide +kernel
theorem D79_52 : decode (byt 79) 52 = .ok (.iload 6, 2) := by decide +kernel
theorem D79_54 : decode (byt 79) 54 = .ok (.iload_n 3, 1) := by decide +kernel
theorem D79_55 : decode (byt 79) 55 = .ok (.if_icmp .eq 21, 3) := by decide +kernel
theorem D79_58 : decode (byt 79) 58 = .ok (.aload 4, 2) := by decide +kernel
theorem D79_60 : decode (byt 79) 60 = .ok (.dup, 1) := by decide +kernel
theorem D79_61 : decode (byt 79) 61 = .ok (.getfield 104, 3) := by decide +kernel
theorem D79_64 : decode (byt 79) 64 = .ok (.iload 5, 2) := by decide +kernel
theorem D79_66 : decode (byt 79) 66 = .ok (.ixor, 1) := by decide +kernel
theorem D79_67 : decode (byt 79) 67 = .ok (.putfield 104, 3) := by decide +kernel
theorem D79_70 : decode (byt 79) 70 = .ok (.aload 4, 2) := by decide +kernel
theorem D79_72 : decode (byt 79) 72 = .ok (.iconst 0, 1) := by decide +kernel
theorem D79_73 : decode (byt 79) 73 = .ok (.putfield 107, 3) := by decide +kernel
theorem D79_76 : decode (byt 79) 76 = .ok (.iload 6, 2) := by decide +kernel
theorem D79_78 : decode (byt 79) 78 = .ok (.ifCond .eq 7, 3) := by decide +kernel
theorem D79_81 : decode (byt 79) 81 = .ok (.iconst 1, 1) := by decide +kernel
theorem D79_82 : decode (byt 79) 82 = .ok (.goto 4, 3) := by decide +kernel
theorem D79_85 : decode (byt 79) 85 = .ok (.iconst 0, 1) := by decide +kernel
theorem D79_86 : decode (byt 79) 86 = .ok (.ireturn, 1) := by decide +kernel
theorem D80_0 : decode (byt 80) 0 = .ok (.aload_n 0, 1) := by decide +kernel
theorem D80_1 : decode (byt 80) 1 = .ok (.iload_n 1, 1) := by decide +kernel
theorem D80_2 : decode (byt 80) 2 = .ok (.invokevirtual 55, 3) := by decide +kernel
theorem D80_5 : decode (byt 80) 5 = .ok (.astore_n 3, 1) := by decide +kernel
theorem D80_6 : decode (byt 80) 6 = .ok (.aload_n 3, 1) := by decide +kernel
theorem D80_7 : decode (byt 80) 7 = .ok (.ifnull 11, 3) := by decide +kernel
theorem D80_10 : decode (byt 80) 10 = .ok (.aload_n 3, 1) := by decide +kernel
theorem D80_11 : decode (byt 80) 11 = .ok (.iload_n 2, 1) := by decide +kernel
theorem D80_12 : decode (byt 80) 12 = .ok (.invokevirtual 81, 3) := by decide +kernel
theorem D80_15 : decode (byt 80) 15 = .ok (.ifCond .ne 10, 3) := by decide +kernel
theorem D80_18 : decode (byt 80) 18 = .ok (.aload_n 0, 1) := by decide +kernel
theorem D80_19 : decode (byt 80) 19 = .ok (.bipush (-3), 2) := by decide +kernel
theorem D80_21 : decode (byt 80) 21 = .ok (.invokevirtual 59, 3) := by decide +kernel
theorem D80_24 : decode (byt 80) 24 = .ok (.ireturn, 1) := by decide +kernel
theorem D80_25 : decode (byt 80) 25 = .ok (.iload_n 2, 1) := by decide +kernel
theorem D80_26 : decode (byt 80) 26 = .ok (.invokestatic 74, 3) := by decide +kernel
theorem D80_29 : decode (byt 80) 29 = .ok (.istore 4, 2) := by decide +kernel
theorem D80_31 : decode (byt 80) 31 = .ok (.iload_n 2, 1) := by decide +kernel
theorem D80_32 : decode (byt 80) 32 = .ok (.ineg, 1) := by decide +kernel
theorem D80_33 : decode (byt 80) 33 = .ok (.invokestatic 74, 3) := by decide +kernel
theorem D80_36 : decode (byt 80) 36 = .ok (.istore 5, 2) := by decide +kernel
theorem D80_38 : decode (byt 80) 38 = .ok (.aload_n 3, 1) := by decide +kernel
theorem D80_39 : decode (byt 80) 39 = .ok (.getfield 110, 3) := by decide +kernel
theorem D80_42 : decode (byt 80) 42 = .ok (.iload 4, 2) := by decide +kernel
theorem D80_44 : decode (byt 80) 44 = .ok (.iand, 1) := by decide +kernel
theorem D80_45 : decode (byt 80) 45 = .ok (.ifCond .eq 5, 3) := by decide +kernel
theorem D80_48 : decode (byt 80) 48 = .ok (.iconst 0, 1) := by decide +kernel
theorem D80_49 : decode (byt 80) 49 = .ok (.ireturn, 1) := by decide +kernel
theorem D80_50 : decode (byt 80) 50 = .ok (.aload_n 3, 1) := by decide +kernel
theorem D80_51 : decode (byt 80) 51 = .ok (.getfield 110, 3) := by decide +kernel
theorem D80_54 : decode (byt 80) 54 = .ok (.iload 5, 2) := by decide +kernel
theorem D80_56 : decode (byt 80) 56 = .ok (.iand, 1) := by decide +kernel
theorem D80_57 : decode (byt 80) 57 = .ok (.ifCond .eq 7, 3) := by decide +kernel
theorem D80_60 : decode (byt 80) 60 = .ok (.iconst 1, 1) := by decide +kernel
theorem D80_61 : decode (byt 80) 61 = .ok (.goto 4, 3) := by decide +kernel
theorem D80_64 : decode (byt 80) 64 = .ok (.iconst 0, 1) := by decide +kernel
theorem D80_65 : decode (byt 80) 65 = .ok (.istore 6, 2) := by decide +kernel
theorem D80_67 : decode (byt 80) 67 = .ok (.aload_n 3, 1) := by decide +kernel
theorem D80_68 : decode (byt 80) 68 = .ok (.aload_n 3, 1) := by decide +kernel
theorem D80_69 : decode (byt 80) 69 = .ok (.getfield 110, 3) := by decide +kernel
theorem D80_72 : decode (byt 80) 72 = .ok (.iload 5, 2) := by decide +kernel
theorem D80_74 : decode (byt 80) 74 = .ok (.iconst (-1), 1) := by decide +kernel
theorem D80_75 : decode (byt 80) 75 = .ok (.ixor, 1) := by decide +kernel
theorem D80_76 : decode (byt 80) 76 = .ok (.iand, 1) := by decide +kernel
theorem D80_77 : decode (byt 80) 77 = .ok (.iload 4, 2) := by decide +kernel
theorem D80_79 : decode (byt 80) 79 = .ok (.ior, 1) := by decide +kernel
theorem D80_80 : decode (byt 80) 80 = .ok (.putfield 110, 3) := by decide +kernel
theorem D80_83 : decode (byt 80) 83 = .ok (.iload 6, 2) := by decide +kernel
theorem D80_85 : decode (byt 80) 85 = .ok (.ifCond .eq 7, 3) := by decide +kernel
theorem D80_88 : decode (byt 80) 88 = .ok (.iconst 2, 1) := by decide +kernel
theorem D80_89 : decode (byt 80) 89 = .ok (.goto 4, 3) := by decide +kernel
theorem D80_92 : decode (byt 80) 92 = .ok (.iconst 1, 1) := by decide +kernel
theorem D80_93 : decode (byt 80) 93 = .ok (.ireturn, 1) := by decide +kernel
theorem D81_0 : decode (byt 81) 0 = .ok (.aload_n 0, 1) := by decide +kernel
theorem D81_1 : decode (byt 81) 1 = .ok (.iload_n 1, 1) := by decide +kernel
theorem D81_2 : decode (byt 81) 2 = .ok (.invokevirtual 55, 3) := by decide +kernel
theorem D81_5 : decode (byt 81) 5 = .ok (.astore_n 3, 1) := by decide +kernel
theorem D81_6 : decode (byt 81) 6 = .ok (.aload_n 3, 1) := by decide +kernel
theorem D81_7 : decode (byt 81) 7 = .ok (.ifnull 11, 3) := by decide +kernel
theorem D81_10 : decode (byt 81) 10 = .ok (.aload_n 3, 1) := by decide +kernel
theorem D81_11 : decode (byt 81) 11 = .ok (.iload_n 2, 1) := by decide +kernel
theorem D81_12 : decode (byt 81) 12 = .ok (.invokevirtual 101, 3) := by decide +kernel
theorem D81_15 : decode (byt 81) 15 = .ok (.ifCond .ne 10, 3) := by decide +kernel
theorem D81_18 : decode (byt 81) 18 = .ok (.aload_n 0, 1) := by decide +kernel
theorem D81_19 : decode (byt 81) 19 = .ok (.bipush (-3), 2) := by decide +kernel
theorem D81_21 : decode (byt 81) 21 = .ok (.invokevirtual 59, 3) := by decide +kernel
theorem D81_24 : decode (byt 81) 24 = .ok (.ireturn, 1) := by decide +kernel
theorem D81_25 : decode (byt 81) 25 = .ok (.iload_n 2, 1) := by decide +kernel
theorem D81_26 : decode (byt 81) 26 = .ok (.invokestatic 74, 3) := by decide +kernel
theorem D81_29 : decode (byt 81) 29 = .ok (.iload_n 2, 1) := by decide +kernel
theorem D81_30 : decode (byt 81) 30 = .ok (.ineg, 1) := by decide +kernel
theorem D81_31 : decode (byt 81) 31 = .ok (.invokestatic 74, 3) := by decide +kernel
theorem D81_34 : decode (byt 81) 34 = .ok (.ior, 1) := by decide +kernel
theorem D81_35 : decode (byt 81) 35 = .ok (.istore 4, 2) := by decide +kernel
theorem D81_37 : decode (byt 81) 37 = .ok (.aload_n 3, 1) := by decide +kernel
theorem D81_38 : decode (byt 81) 38 = .ok (.getfield 110, 3) := by decide +kernel
theorem D81_41 : decode (byt 81) 41 = .ok (.iload 4, 2) := by decide +kernel
theorem D81_43 : decode (byt 81) 43 = .ok (.iand, 1) := by decide +kernel
theorem D81_44 : decode (byt 81) 44 = .ok (.ifCond .eq 7, 3) := by decide +kernel
theorem D81_47 : decode (byt 81) 47 = .ok (.iconst 1, 1) := by decide +kernel
theorem D81_48 : decode (byt 81) 48 = .ok (.goto 4, 3) := by decide +kernel
theorem D81_51 : decode (byt 81) 51 = .ok (.iconst 0, 1) := by decide +kernel
theorem D81_52 : decode (byt 81) 52 = .ok (.istore 5, 2) := by decide +kernel
theorem D81_54 : decode (byt 81) 54 = .ok (.aload_n 3, 1) := by decide +kernel
theorem D81_55 : decode (byt 81) 55 = .ok (.dup, 1) := by decide +kernel
theorem D81_56 : decode (byt 81) 56 = .ok (.getfield 110, 3) := by decide +kernel
theorem D81_59 : decode (byt 81) 59 = .ok (.iload 4, 2) := by decide +kernel
theorem D81_61 : decode (byt 81) 61 = .ok (.iconst (-1), 1) := by decide +kernel
theorem D81_62 : decode (byt 81) 62 = .ok (.ixor, 1) := by decide +kernel
theorem D81_63 : decode (byt 81) 63 = .ok (.iand, 1) := by decide +kernel
theorem D81_64 : decode (byt 81) 64 = .ok (.putfield 110, 3) := by decide +kernel
theorem D81_67 : decode (byt 81) 67 = .ok (.iload 5, 2) := by decide +kernel
theorem D81_69 : decode (byt 81) 69 = .ok (.ifCond .eq 7, 3) := by decide +kernel
theorem D81_72 : decode (byt 81) 72 = .ok (.iconst 1, 1) := by decide +kernel
theorem D81_73 : decode (byt 81) 73 = .ok (.goto 4, 3) := by decide +kernel
theorem D81_76 : decode (byt 81) 76 = .ok (.iconst 0, 1) := by decide +kernel
theorem D81_77 : decode (byt 81) 77 = .ok (.ireturn, 1) := by decide +kernel
theorem D82_0 : decode (byt 82) 0 = .ok (.aload_n 0, 1) := by decide +kernel
theorem D82_1 : decode (byt 82) 1 = .ok (.iload_n 1, 1) := by decide +kernel
theorem D82_2 : decode (byt 82) 2 = .ok (.invokevirtual 55, 3) := by decide +kernel
theorem D82_5 : decode (byt 82) 5 = .ok (.astore 4, 2) := by decide +kernel
theorem D82_7 : decode (byt 82) 7 = .ok (.aload 4, 2) := by decide +kernel
theorem D82_9 : decode (byt 82) 9 = .ok (.ifnull 12, 3) := by decide +kernel
theorem D82_12 : decode (byt 82) 12 = .ok (.aload 4, 2) := by decide +kernel
theorem D82_14 : decode (byt 82) 14 = .ok (.iload_n 2, 1) := by decide +kernel
theorem D82_15 : decode (byt 82) 15 = .ok (.invokevirtual 81, 3) := by decide +kernel
theorem D82_18 : decode (byt 82) 18 = .ok (.ifCond .ne 10, 3) := by decide +kernel
theorem D82_21 : decode (byt 82) 21 = .ok (.aload_n 0, 1) := by decide +kernel
theorem D82_22 : decode (byt 82) 22 = .ok (.bipush (-3), 2) := by decide +kernel
theorem D82_24 : decode (byt 82) 24 = .ok (.invokevirtual 59, 3) := by decide +kernel
theorem D82_27 : decode (byt 82) 27 = .ok (.ireturn, 1) := by decide +kernel
theorem D82_28 : decode (byt 82) 28 = .ok (.iload_n 3, 1) := by decide +kernel
theorem D82_29 : decode (byt 82) 29 = .ok (.ifCond .lt 9, 3) := by decide +kernel
theorem D82_32 : decode (byt 82) 32 = .ok (.iload_n 3, 1) := by decide +kernel
theorem D82_33 : decode (byt 82) 33 = .ok (.bipush 7, 2) := by decide +kernel
theorem D82_35 : decode (byt 82) 35 = .ok (.if_icmp .le 10, 3) := by decide +kernel
theorem D82_38 : decode (byt 82) 38 = .ok (.aload_n 0, 1) := by decide +kernel
theorem D82_39 : decode (byt 82) 39 = .ok (.bipush (-7), 2) := by decide +kernel
theorem D82_41 : decode (byt 82) 41 = .ok (.invokevirtual 59, 3) := by decide +kernel
theorem D82_44 : decode (byt 82) 44 = .ok (.ireturn, 1) := by decide +kernel
theorem D82_45 : decode (byt 82) 45 = .ok (.aload 4, 2) := by decide +kernel
theorem D82_47 : decode (byt 82) 47 = .ok (.iload_n 2, 1) := by decide +kernel
theorem D82_48 : decode (byt 82) 48 = .ok (.invokevirtual 113, 3) := by decide +kernel
theorem D82_51 : decode (byt 82) 51 = .ok (.istore 5, 2) := by decide +kernel
theorem D82_53 : decode (byt 82) 53 = .ok (.aload 4, 2) := by decide +kernel
theorem D82_55 : decode (byt 82) 55 = .ok (.iload_n 2, 1) := by decide +kernel
theorem D82_56 : decode (byt 82) 56 = .ok (.iload_n 3, 1) := by decide +kernel
theorem D82_57 : decode (byt 82) 57 = .ok (.invokevirtual 116, 3) := by decide +kernel
theorem D82_60 : decode (byt 82) 60 = .ok (.iload 5, 2) := by decide +kernel
theorem D82_62 : decode (byt 82) 62 = .ok (.ireturn, 1) := by decide +kernel
theorem D83_0 : decode (byt 83) 0 = .ok (.aload_n 0, 1) := by decide +kernel
theorem D83_1 : decode (byt 83) 1 = .ok (.iload_n 1, 1) := by decide +kernel
theorem D83_2 : decode (byt 83) 2 = .ok (.invokevirtual 55, 3) := by decide +kernel
theorem D83_5 : decode (byt 83) 5 = .ok (.astore_n 3, 1) := by decide +kernel
theorem D83_6 : decode (byt 83) 6 = .ok (.aload_n 3, 1) := by decide +kernel
theorem D83_7 : decode (byt 83) 7 = .ok (.ifnonnull 10, 3) := by decide +kernel
theorem D83_10 : decode (byt 83) 10 = .ok (.aload_n 0, 1) := by decide +kernel
theorem D83_11 : decode (byt 83) 11 = .ok (.bipush (-3), 2) := by decide +kernel
theorem D83_13 : decode (byt 83) 13 = .ok (.invokevirtual 59, 3) := by decide +kernel
theorem D83_16 : decode (byt 83) 16 = .ok (.ireturn, 1) := by decide +kernel
theorem D83_17 : decode (byt 83) 17 = .ok (.iload_n 2, 1) := by decide +kernel
theorem D83_18 : decode (byt 83) 18 = .ok (.tableswitch 102 0 5 #[38, 43, 48, 67, 86, 94], 38) := by decide +kernel
theorem D83_56 : decode (byt 83) 56 = .ok (.aload_n 3, 1) := by decide +kernel
theorem D83_57 : decode (byt 83) 57 = .ok (.getfield 63, 3) := by decide +kernel
theorem D83_60 : decode (byt 83) 60 = .ok (.ireturn, 1) := by decide +kernel
theorem D83_61 : decode (byt 83) 61 = .ok (.aload_n 3, 1) := by decide +kernel
theorem D83_62 : decode (byt 83) 62 = .ok (.getfield 84, 3) := by decide +kernel
theorem D83_65 : decode (byt 83) 65 = .ok (.ireturn, 1) := by decide +kernel
theorem D83_66 : decode (byt 83) 66 = .ok (.aload_n 3, 1) := by decide +kernel
theorem D83_67 : decode (byt 83) 67 = .ok (.getfield 107, 3) := by decide +kernel
theorem D83_70 : decode (byt 83) 70 = .ok (.ifCond .eq 13, 3) := by decide +kernel
theorem D83_73 : decode (byt 83) 73 = .ok (.aload_n 3, 1) := by decide +kernel
theorem D83_74 : decode (byt 83) 74 = .ok (.getfield 120, 3) := by decide +kernel
theorem D83_77 : decode (byt 83) 77 = .ok (.getfield 124, 3) := by decide +kernel
theorem D83_80 : decode (byt 83) 80 = .ok (.goto 4, 3) := by decide +kernel
theorem D83_83 : decode (byt 83) 83 = .ok (.iconst 0, 1) := by decide +kernel
theorem D83_84 : decode (byt 83) 84 = .ok (.ireturn, 1) := by decide +kernel
theorem D83_85 : decode (byt 83) 85 = .ok (.aload_n 3, 1) := by decide +kernel
theorem D83_86 : decode (byt 83) 86 = .ok (.getfield 107, 3) := by decide +kernel
theorem D83_89 : decode (byt 83) 89 = .ok (.ifCond .eq 13, 3) := by decide +kernel
theorem D83_92 : decode (byt 83) 92 = .ok (.aload_n 3, 1) := by decide +kernel
theorem D83_93 : decode (byt 83) 93 = .ok (.getfield 120, 3) := by decide +kernel
theorem D83_96 : decode (byt 83) 96 = .ok (.getfield 129, 3) := by decide +kernel
theorem D83_99 : decode (byt 83) 99 = .ok (.goto 4, 3) := by decide +kernel
theorem D83_102 : decode (byt 83) 102 = .ok (.iconst 0, 1) := by decide +kernel
theorem D83_103 : decode (byt 83) 103 = .ok (.ireturn, 1) := by decide +kernel
theorem D83_104 : decode (byt 83) 104 = .ok (.aload_n 3, 1) := by decide +kernel
theorem D83_105 : decode (byt 83) 105 = .ok (.getfield 104, 3) := by decide +kernel
theorem D83_108 : decode (byt 83) 108 = .ok (.invokestatic 90, 3) := by decide +kernel
theorem D83_111 : decode (byt 83) 111 = .ok (.ireturn, 1) := by decide +kernel
theorem D83_112 : decode (byt 83) 112 = .ok (.aload_n 3, 1) := by decide +kernel
theorem D83_113 : decode (byt 83) 113 = .ok (.getfield 110, 3) := by decide +kernel
theorem D83_116 : decode (byt 83) 116 = .ok (.invokestatic 90, 3) := by decide +kernel
theorem D83_119 : decode (byt 83) 119 = .ok (.ireturn, 1) := by decide +kernel
theorem D83_120 : decode (byt 83) 120 = .ok (.aload_n 0, 1) := by decide +kernel
theorem D83_121 : decode (byt 83) 121 = .ok (.bipush (-7), 2) := by decide +kernel
theorem D83_123 : decode (byt 83) 123 = .ok (.invokevirtual 59, 3) := by decide +kernel
theorem D83_126 : decode (byt 83) 126 = .ok (.ireturn, 1) := by decide +kernel
theorem D84_0 : decode (byt 84) 0 = .ok (.aload_n 0, 1) := by decide +kernel
theorem D84_1 : decode (byt 84) 1 = .ok (.iload_n 1, 1) := by decide +kernel
theorem D84_2 : decode (byt 84) 2 = .ok (.invokevirtual 55, 3) := by decide +kernel
theorem D84_5 : decode (byt 84) 5 = .ok (.astore_n 2, 1) := by decide +kernel
theorem D84_6 : decode (byt 84) 6 = .ok (.aload_n 2, 1) := by decide +kernel
theorem D84_7 : decode (byt 84) 7 = .ok (.ifnonnull 10, 3) := by decide +kernel
theorem D84_10 : decode (byt 84) 10 = .ok (.aload_n 0, 1) := by decide +kernel
theorem D84_11 : decode (byt 84) 11 = .ok (.bipush (-3), 2) := by decide +kernel
theorem D84_13 : decode (byt 84) 13 = .ok (.invokevirtual 59, 3) := by decide +kernel
theorem D84_16 : decode (byt 84) 16 = .ok (.ireturn, 1) := by decide +kernel
theorem D84_17 : decode (byt 84) 17 = .ok (.aload_n 2, 1) := by decide +kernel
theorem D84_18 : decode (byt 84) 18 = .ok (.aload_n 0, 1) := by decide +kernel
theorem D84_19 : decode (byt 84) 19 = .ok (.getfield 22, 3) := by decide +kernel
theorem D84_22 : decode (byt 84) 22 = .ok (.aload_n 2, 1) := by decide +kernel
theorem D84_23 : decode (byt 84) 23 = .ok (.invokevirtual 132, 3) := by decide +kernel
theorem D84_26 : decode (byt 84) 26 = .ok (.putfield 107, 3) := by decide +kernel
theorem D84_29 : decode (byt 84) 29 = .ok (.aload_n 2, 1) := by decide +kernel
theorem D84_30 : decode (byt 84) 30 = .ok (.getfield 107, 3) := by decide +kernel
theorem D84_33 : decode (byt 84) 33 = .ok (.ifCond .ne 10, 3) := by decide +kernel
theorem D84_36 : decode (byt 84) 36 = .ok (.aload_n 0, 1) := by decide +kernel
theorem D84_37 : decode (byt 84) 37 = .ok (.bipush (-9), 2) := by decide +kernel
theorem D84_39 : decode (byt 84) 39 = .ok (.invokevirtual 59, 3) := by decide +kernel
theorem D84_42 : decode (byt 84) 42 = .ok (.ireturn, 1) := by decide +kernel
theorem D84_43 : decode (byt 84) 43 = .ok (.aload_n 2, 1) := by decide +kernel
theorem D84_44 : decode (byt 84) 44 = .ok (.getfield 120, 3) := by decide +kernel
theorem D84_47 : decode (byt 84) 47 = .ok (.getfield 124, 3) := by decide +kernel
theorem D84_50 : decode (byt 84) 50 = .ok (.ireturn, 1) := by decide +kernel
theorem D85_0 : decode (byt 85) 0 = .ok (.aload_n 0, 1) := by decide +kernel
theorem D85_1 : decode (byt 85) 1 = .ok (.iload_n 1, 1) := by decide +kernel
theorem D85_2 : decode (byt 85) 2 = .ok (.invokevirtual 55, 3) := by decide +kernel
theorem D85_5 : decode (byt 85) 5 = .ok (.astore_n 2, 1) := by decide +kernel
theorem D85_6 : decode (byt 85) 6 = .ok (.aload_n 2, 1) := by decide +kernel
theorem D85_7 : decode (byt 85) 7 = .ok (.ifnonnull 10, 3) := by decide +kernel
theorem D85_10 : decode (byt 85) 10 = .ok (.aload_n 0, 1) := by decide +kernel
theorem D85_11 : decode (byt 85) 11 = .ok (.bipush (-3), 2) := by decide +kernel
theorem D85_13 : decode (byt 85) 13 = .ok (.invokevirtual 59, 3) := by decide +kernel
theorem D85_16 : decode (byt 85) 16 = .ok (.ireturn, 1) := by decide +kernel
theorem D85_17 : decode (byt 85) 17 = .ok (.aload_n 2, 1) := by decide +kernel
theorem D85_18 : decode (byt 85) 18 = .ok (.getfield 107, 3) := by decide +kernel
theorem D85_21 : decode (byt 85) 21 = .ok (.ifCond .ne 10, 3) := by decide +kernel
theorem D85_24 : decode (byt 85) 24 = .ok (.aload_n 0, 1) := by decide +kernel
theorem D85_25 : decode (byt 85) 25 = .ok (.bipush (-2), 2) := by decide +kernel
theorem D85_27 : decode (byt 85) 27 = .ok (.invokevirtual 59, 3) := by decide +kernel
theorem D85_30 : decode (byt 85) 30 = .ok (.ireturn, 1) := by decide +kernel
theorem D85_31 : decode (byt 85) 31 = .ok (.aload_n 2, 1) := by decide +kernel
theorem D85_32 : decode (byt 85) 32 = .ok (.getfield 120, 3) := by decide +kernel
theorem D85_35 : decode (byt 85) 35 = .ok (.getfield 136, 3) := by decide +kernel
theorem D85_38 : decode (byt 85) 38 = .ok (.ireturn, 1) := by decide +kernel
theorem D86_0 : decode (byt 86) 0 = .ok (.aload_n 0, 1) := by decide +kernel
theorem D86_1 : decode (byt 86) 1 = .ok (.iload_n 1, 1) := by decide +kernel
theorem D86_2 : decode (byt 86) 2 = .ok (.invokevirtual 55, 3) := by decide +kernel
theorem D86_5 : decode (byt 86) 5 = .ok (.astore 4, 2) := by decide +kernel
theorem D86_7 : decode (byt 86) 7 = .ok (.aload 4, 2) := by decide +kernel
theorem D86_9 : decode (byt 86) 9 = .ok (.ifnonnull 10, 3) := by decide +kernel
theorem D86_12 : decode (byt 86) 12 = .ok (.aload_n 0, 1) := by decide +kernel
theorem D86_13 : decode (byt 86) 13 = .ok (.bipush (-3), 2) := by decide +kernel
theorem D86_15 : decode (byt 86) 15 = .ok (.invokevirtual 59, 3) := by decide +kernel
theorem D86_18 : decode (byt 86) 18 = .ok (.ireturn, 1) := by decide +kernel
theorem D86_19 : decode (byt 86) 19 = .ok (.aload 4, 2) := by decide +kernel
theorem D86_21 : decode (byt 86) 21 = .ok (.getfield 107, 3) := by decide +kernel
theorem D86_24 : decode (byt 86) 24 = .ok (.ifCond .ne 10, 3) := by decide +kernel
theorem D86_27 : decode (byt 86) 27 = .ok (.aload_n 0, 1) := by decide +kernel
theorem D86_28 : decode (byt 86) 28 = .ok (.bipush (-2), 2) := by decide +kernel
theorem D86_30 : decode (byt 86) 30 = .ok (.invokevirtual 59, 3) := by decide +kernel
theorem D86_33 : decode (byt 86) 33 = .ok (.ireturn, 1) := by decide +kernel
theorem D86_34 : decode (byt 86) 34 = .ok (.aload 4, 2) := by decide +kernel
theorem D86_36 : decode (byt 86) 36 = .ok (.getfield 120, 3) := by decide +kernel
theorem D86_39 : decode (byt 86) 39 = .ok (.iload_n 2, 1) := by decide +kernel
theorem D86_40 : decode (byt 86) 40 = .ok (.invokevirtual 139, 3) := by decide +kernel
theorem D86_43 : decode (byt 86) 43 = .ok (.ifCond .ne 10, 3) := by decide +kernel
theorem D86_46 : decode (byt 86) 46 = .ok (.aload_n 0, 1) := by decide +kernel
theorem D86_47 : decode (byt 86) 47 = .ok (.bipush (-3), 2) := by decide +kernel
theorem D86_49 : decode (byt 86) 49 = .ok (.invokevirtual 59, 3) := by decide +kernel
theorem D86_52 : decode (byt 86) 52 = .ok (.ireturn, 1) := by decide +kernel
theorem D86_53 : decode (byt 86) 53 = .ok (.iload_n 3, 1) := by decide +kernel
theorem D86_54 : decode (byt 86) 54 = .ok (.tableswitch 74 0 3 #[30, 41, 52, 63], 30) := by decide +kernel
theorem D86_84 : decode (byt 86) 84 = .ok (.aload 4, 2) := by decide +kernel
theorem D86_86 : decode (byt 86) 86 = .ok (.getfield 120, 3) := by decide +kernel
theorem D86_89 : decode (byt 86) 89 = .ok (.getfield 142, 3) := by decide +kernel
theorem D86_92 : decode (byt 86) 92 = .ok (.iload_n 2, 1) := by decide +kernel
theorem D86_93 : decode (byt 86) 93 = .ok (.iaload, 1) := by decide +kernel
theorem D86_94 : decode (byt 86) 94 = .ok (.ireturn, 1) := by decide +kernel
theorem D86_95 : decode (byt 86) 95 = .ok (.aload 4, 2) := by decide +kernel
theorem D86_97 : decode (byt 86) 97 = .ok (.getfield 120, 3) := by decide +kernel
theorem D86_100 : decode (byt 86) 100 = .ok (.getfield 145, 3) := by decide +kernel
theorem D86_103 : decode (byt 86) 103 = .ok (.iload_n 2, 1) := by decide +kernel
theorem D86_104 : decode (byt 86) 104 = .ok (.iaload, 1) := by decide +kernel
theorem D86_105 : decode (byt 86) 105 = .ok (.ireturn, 1) := by decide +kernel
theorem D86_106 : decode (byt 86) 106 = .ok (.aload 4, 2) := by decide +kernel
theorem D86_108 : decode (byt 86) 108 = .ok (.getfield 120, 3) := by decide +kernel
theorem D86_111 : decode (byt 86) 111 = .ok (.getfield 148, 3) := by decide +kernel
theorem D86_114 : decode (byt 86) 114 = .ok (.iload_n 2, 1) := by decide +kernel
theorem D86_115 : decode (byt 86) 115 = .ok (.iaload, 1) := by decide +kernel
theorem D86_116 : decode (byt 86) 116 = .ok (.ireturn, 1) := by decide +kernel
theorem D86_117 : decode (byt 86) 117 = .ok (.aload 4, 2) := by decide +kernel
theorem D86_119 : decode (byt 86) 119 = .ok (.getfield 120, 3) := by decide +kernel
theorem D86_122 : decode (byt 86) 122 = .ok (.getfield 151, 3) := by decide +kernel
theorem D86_125 : decode (byt 86) 125 = .ok (.iload_n 2, 1) := by decide +kernel
theorem D86_126 : decode (byt 86) 126 = .ok (.iaload, 1) := by decide +kernel
theorem D86_127 : decode (byt 86) 127 = .ok (.ireturn, 1) := by decide +kernel
theorem D86_128 : decode (byt 86) 128 = .ok (.aload_n 0, 1) := by decide +kernel
theorem D86_129 : decode (byt 86) 129 = .ok (.bipush (-7), 2) := by decide +kernel
theorem D86_131 : decode (byt 86) 131 = .ok (.invokevirtual 59, 3) := by decide +kernel
theorem D86_134 : decode (byt 86) 134 = .ok (.ireturn, 1) := by decide +kernel
theorem D87_0 : decode (byt 87) 0 = .ok (.aload_n 0, 1) := by decide +kernel
theorem D87_1 : decode (byt 87) 1 = .ok (.iload_n 1, 1) := by decide +kernel
theorem D87_2 : decode (byt 87) 2 = .ok (.invokevirtual 55, 3) := by decide +kernel
theorem D87_5 : decode (byt 87) 5 = .ok (.astore 4, 2) := by decide +kernel
theorem D87_7 : decode (byt 87) 7 = .ok (.aload 4, 2) := by decide +kernel
theorem D87_9 : decode (byt 87) 9 = .ok (.ifnonnull 10, 3) := by decide +kernel
theorem D87_12 : decode (byt 87) 12 = .ok (.aload_n 0, 1) := by decide +kernel
theorem D87_13 : decode (byt 87) 13 = .ok (.bipush (-3), 2) := by decide +kernel
theorem D87_15 : decode (byt 87) 15 = .ok (.invokevirtual 59, 3) := by decide +kernel
theorem D87_18 : decode (byt 87) 18 = .ok (.ireturn, 1) := by decide +kernel
theorem D87_19 : decode (byt 87) 19 = .ok (.aload 4, 2) := by decide +kernel
theorem D87_21 : decode (byt 87) 21 = .ok (.getfield 107, 3) := by decide +kernel
theorem D87_24 : decode (byt 87) 24 = .ok (.ifCond .ne 10, 3) := by decide +kernel
theorem D87_27 : decode (byt 87) 27 = .ok (.aload_n 0, 1) := by decide +kernel
theorem D87_28 : decode (byt 87) 28 = .ok (.bipush (-2), 2) := by decide +kernel
theorem D87_30 : decode (byt 87) 30 = .ok (.invokevirtual 59, 3) := by decide +kernel
theorem D87_33 : decode (byt 87) 33 = .ok (.ireturn, 1) := by decide +kernel
theorem D87_34 : decode (byt 87) 34 = .ok (.aload 4, 2) := by decide +kernel
theorem D87_36 : decode (byt 87) 36 = .ok (.getfield 120, 3) := by decide +kernel
theorem D87_39 : decode (byt 87) 39 = .ok (.iload_n 2, 1) := by decide +kernel
theorem D87_40 : decode (byt 87) 40 = .ok (.invokevirtual 139, 3) := by decide +kernel
theorem D87_43 : decode (byt 87) 43 = .ok (.ifCond .ne 10, 3) := by decide +kernel
theorem D87_46 : decode (byt 87) 46 = .ok (.aload_n 0, 1) := by decide +kernel
theorem D87_47 : decode (byt 87) 47 = .ok (.bipush (-3), 2) := by decide +kernel
theorem D87_49 : decode (byt 87) 49 = .ok (.invokevirtual 59, 3) := by decide +kernel
theorem D87_52 : decode (byt 87) 52 = .ok (.ireturn, 1) := by decide +kernel
theorem D87_53 : decode (byt 87) 53 = .ok (.aload 4, 2) := by decide +kernel
theorem D87_55 : decode (byt 87) 55 = .ok (.getfield 120, 3) := by decide +kernel
theorem D87_58 : decode (byt 87) 58 = .ok (.getfield 148, 3) := by decide +kernel
theorem D87_61 : decode (byt 87) 61 = .ok (.iload_n 2, 1) := by decide +kernel
theorem D87_62 : decode (byt 87) 62 = .ok (.iaload, 1) := by decide +kernel
theorem D87_63 : decode (byt 87) 63 = .ok (.ifCond .ne 10, 3) := by decide +kernel
theorem D87_66 : decode (byt 87) 66 = .ok (.aload_n 0, 1) := by decide +kernel
theorem D87_67 : decode (byt 87) 67 = .ok (.bipush (-5), 2) := by decide +kernel
theorem D87_69 : decode (byt 87) 69 = .ok (.invokevirtual 59, 3) := by decide +kernel
theorem D87_72 : decode (byt 87) 72 = .ok (.ireturn, 1) := by decide +kernel
theorem D87_73 : decode (byt 87) 73 = .ok (.iload_n 3, 1) := by decide +kernel
theorem D87_74 : decode (byt 87) 74 = .ok (.ifCond .lt 17, 3) := by decide +kernel
theorem D87_77 : decode (byt 87) 77 = .ok (.iload_n 3, 1) := by decide +kernel
theorem D87_78 : decode (byt 87) 78 = .ok (.aload 4, 2) := by decide +kernel
theorem D87_80 : decode (byt 87) 80 = .ok (.getfield 120, 3) := by decide +kernel
theorem D87_83 : decode (byt 87) 83 = .ok (.getfield 148, 3) := by decide +kernel
theorem D87_86 : decode (byt 87) 86 = .ok (.iload_n 2, 1) := by decide +kernel
theorem D87_87 : decode (byt 87) 87 = .ok (.iaload, 1) := by decide +kernel
theorem D87_88 : decode (byt 87) 88 = .ok (.if_icmp .lt 10, 3) := by decide +kernel
theorem D87_91 : decode (byt 87) 91 = .ok (.aload_n 0, 1) := by decide +kernel
theorem D87_92 : decode (byt 87) 92 = .ok (.bipush (-3), 2) := by decide +kernel
theorem D87_94 : decode (byt 87) 94 = .ok (.invokevirtual 59, 3) := by decide +kernel
theorem D87_97 : decode (byt 87) 97 = .ok (.ireturn, 1) := by decide +kernel
theorem D87_98 : decode (byt 87) 98 = .ok (.aload 4, 2) := by decide +kernel
theorem D87_100 : decode (byt 87) 100 = .ok (.getfield 120, 3) := by decide +kernel
theorem D87_103 : decode (byt 87) 103 = .ok (.iload_n 2, 1) := by decide +kernel
theorem D87_104 : decode (byt 87) 104 = .ok (.iload_n 3, 1) := by decide +kernel
theorem D87_105 : decode (byt 87) 105 = .ok (.invokevirtual 154, 3) := by decide +kernel
theorem D87_108 : decode (byt 87) 108 = .ok (.ireturn, 1) := by decide +kernel
theorem D88_0 : decode (byt 88) 0 = .ok (.aload_n 0, 1) := by decide +kernel
theorem D88_1 : decode (byt 88) 1 = .ok (.iload_n 1, 1) := by decide +kernel
theorem D88_2 : decode (byt 88) 2 = .ok (.invokevirtual 55, 3) := by decide +kernel
theorem D88_5 : decode (byt 88) 5 = .ok (.astore 5, 2) := by decide +kernel
theorem D88_7 : decode (byt 88) 7 = .ok (.aload 5, 2) := by decide +kernel
theorem D88_9 : decode (byt 88) 9 = .ok (.ifnonnull 10, 3) := by decide +kernel
theorem D88_12 : decode (byt 88) 12 = .ok (.aload_n 0, 1) := by decide +kernel
theorem D88_13 : decode (byt 88) 13 = .ok (.bipush (-3), 2) := by decide +kernel
theorem D88_15 : decode (byt 88) 15 = .ok (.invokevirtual 59, 3) := by decide +kernel
theorem D88_18 : decode (byt 88) 18 = .ok (.ireturn, 1) := by decide +kernel
theorem D88_19 : decode (byt 88) 19 = .ok (.aload 5, 2) := by decide +kernel
theorem D88_21 : decode (byt 88) 21 = .ok (.getfield 107, 3) := by decide +kernel
theorem D88_24 : decode (byt 88) 24 = .ok (.ifCond .ne 10, 3) := by decide +kernel
theorem D88_27 : decode (byt 88) 27 = .ok (.aload_n 0, 1) := by decide +kernel
theorem D88_28 : decode (byt 88) 28 = .ok (.bipush (-2), 2) := by decide +kernel
theorem D88_30 : decode (byt 88) 30 = .ok (.invokevirtual 59, 3) := by decide +kernel
theorem D88_33 : decode (byt 88) 33 = .ok (.ireturn, 1) := by decide +kernel
theorem D88_34 : decode (byt 88) 34 = .ok (.aload 5, 2) := by decide +kernel
theorem D88_36 : decode (byt 88) 36 = .ok (.getfield 120, 3) := by decide +kernel
theorem D88_39 : decode (byt 88) 39 = .ok (.iload_n 2, 1) := by decide +kernel
theorem D88_40 : decode (byt 88) 40 = .ok (.invokevirtual 139, 3) := by decide +kernel
theorem D88_43 : decode (byt 88) 43 = .ok (.ifCond .ne 10, 3) := by decide +kernel
theorem D88_46 : decode (byt 88) 46 = .ok (.aload_n 0, 1) := by decide +kernel
theorem D88_47 : decode (byt 88) 47 = .ok (.bipush (-3), 2) := by decide +kernel
theorem D88_49 : decode (byt 88) 49 = .ok (.invokevirtual 59, 3) := by decide +kernel
theorem D88_52 : decode (byt 88) 52 = .ok (.ireturn, 1) := by decide +kernel
theorem D88_53 : decode (byt 88) 53 = .ok (.aload 5, 2) := by decide +kernel
theorem D88_55 : decode (byt 88) 55 = .ok (.getfield 120, 3) := by decide +kernel
theorem D88_58 : decode (byt 88) 58 = .ok (.getfield 148, 3) := by decide +kernel
theorem D88_61 : decode (byt 88) 61 = .ok (.iload_n 2, 1) := by decide +kernel
theorem D88_62 : decode (byt 88) 62 = .ok (.iaload, 1) := by decide +kernel
theorem D88_63 : decode (byt 88) 63 = .ok (.ifCond .ne 10, 3) := by decide +kernel
theorem D88_66 : decode (byt 88) 66 = .ok (.aload_n 0, 1) := by decide +kernel
theorem D88_67 : decode (byt 88) 67 = .ok (.bipush (-5), 2) := by decide +kernel
theorem D88_69 : decode (byt 88) 69 = .ok (.invokevirtual 59, 3) := by decide +kernel
theorem D88_72 : decode (byt 88) 72 = .ok (.ireturn, 1) := by decide +kernel
theorem D88_73 : decode (byt 88) 73 = .ok (.iload_n 3, 1) := by decide +kernel
theorem D88_74 : decode (byt 88) 74 = .ok (.ifCond .lt 28, 3) := by decide +kernel
theorem D88_77 : decode (byt 88) 77 = .ok (.iload_n 3, 1) := by decide +kernel
theorem D88_78 : decode (byt 88) 78 = .ok (.aload 5, 2) := by decide +kernel
theorem D88_80 : decode (byt 88) 80 = .ok (.getfield 120, 3) := by decide +kernel
theorem D88_83 : decode (byt 88) 83 = .ok (.getfield 148, 3) := by decide +kernel
theorem D88_86 : decode (byt 88) 86 = .ok (.iload_n 2, 1) := by decide +kernel
theorem D88_87 : decode (byt 88) 87 = .ok (.iaload, 1) := by decide +kernel
theorem D88_88 : decode (byt 88) 88 = .ok (.if_icmp .ge 14, 3) := by decide +kernel
theorem D88_91 : decode (byt 88) 91 = .ok (.iload 4, 2) := by decide +kernel
theorem D88_93 : decode (byt 88) 93 = .ok (.ifCond .lt 9, 3) := by decide +kernel
theorem D88_96 : decode (byt 88) 96 = .ok (.iload 4, 2) := by decide +kernel
theorem D88_98 : decode (byt 88) 98 = .ok (.iload_n 2, 1) := by decide +kernel
theorem D88_99 : decode (byt 88) 99 = .ok (.if_icmp .lt 10, 3) := by decide +kernel
theorem D88_102 : decode (byt 88) 102 = .ok (.aload_n 0, 1) := by decide +kernel
theorem D88_103 : decode (byt 88) 103 = .ok (.bipush (-3), 2) := by decide +kernel
theorem D88_105 : decode (byt 88) 105 = .ok (.invokevirtual 59, 3) := by decide +kernel
theorem D88_108 : decode (byt 88) 108 = .ok (.ireturn, 1) := by decide +kernel
theorem D88_109 : decode (byt 88) 109 = .ok (.aload 5, 2) := by decide +kernel
theorem D88_111 : decode (byt 88) 111 = .ok (.getfield 120, 3) := by decide +kernel
theorem D88_114 : decode (byt 88) 114 = .ok (.iload_n 2, 1) := by decide +kernel
theorem D88_115 : decode (byt 88) 115 = .ok (.iload_n 3, 1) := by decide +kernel
theorem D88_116 : decode (byt 88) 116 = .ok (.invokevirtual 154, 3) := by decide +kernel
theorem D88_119 : decode (byt 88) 119 = .ok (.istore 6, 2) := by decide +kernel
theorem D88_121 : decode (byt 88) 121 = .ok (.aload 5, 2) := by decide +kernel
theorem D88_123 : decode (byt 88) 123 = .ok (.getfield 120, 3) := by decide +kernel
theorem D88_126 : decode (byt 88) 126 = .ok (.iload_n 2, 1) := by decide +kernel
theorem D88_127 : decode (byt 88) 127 = .ok (.iload_n 3, 1) := by decide +kernel
theorem D88_128 : decode (byt 88) 128 = .ok (.iload 4, 2) := by decide +kernel
theorem D88_130 : decode (byt 88) 130 = .ok (.invokevirtual 158, 3) := by decide +kernel
theorem D88_133 : decode (byt 88) 133 = .ok (.iload 6, 2) := by decide +kernel
theorem D88_135 : decode (byt 88) 135 = .ok (.ireturn, 1) := by decide +kernel
theorem D89_0 : decode (byt 89) 0 = .ok (.aload_n 0, 1) := by decide +kernel
theorem D89_1 : decode (byt 89) 1 = .ok (.iload_n 1, 1) := by decide +kernel
theorem D89_2 : decode (byt 89) 2 = .ok (.invokevirtual 55, 3) := by decide +kernel
theorem D89_5 : decode (byt 89) 5 = .ok (.astore_n 2, 1) := by decide +kernel
theorem D89_6 : decode (byt 89) 6 = .ok (.aload_n 2, 1) := by decide +kernel
theorem D89_7 : decode (byt 89) 7 = .ok (.ifnonnull 10, 3) := by decide +kernel
theorem D89_10 : decode (byt 89) 10 = .ok (.aload_n 0, 1) := by decide +kernel
theorem D89_11 : decode (byt 89) 11 = .ok (.bipush (-3), 2) := by decide +kernel
theorem D89_13 : decode (byt 89) 13 = .ok (.invokevirtual 59, 3) := by decide +kernel
theorem D89_16 : decode (byt 89) 16 = .ok (.ireturn, 1) := by decide +kernel
theorem D89_17 : decode (byt 89) 17 = .ok (.aload_n 2, 1) := by decide +kernel
theorem D89_18 : decode (byt 89) 18 = .ok (.getfield 107, 3) := by decide +kernel
theorem D89_21 : decode (byt 89) 21 = .ok (.ifCond .ne 10, 3) := by decide +kernel
theorem D89_24 : decode (byt 89) 24 = .ok (.aload_n 0, 1) := by decide +kernel
theorem D89_25 : decode (byt 89) 25 = .ok (.bipush (-2), 2) := by decide +kernel
theorem D89_27 : decode (byt 89) 27 = .ok (.invokevirtual 59, 3) := by decide +kernel
theorem D89_30 : decode (byt 89) 30 = .ok (.ireturn, 1) := by decide +kernel
theorem D89_31 : decode (byt 89) 31 = .ok (.aload_n 0, 1) := by decide +kernel
theorem D89_32 : decode (byt 89) 32 = .ok (.aload_n 2, 1) := by decide +kernel
theorem D89_33 : decode (byt 89) 33 = .ok (.getfield 120, 3) := by decide +kernel
theorem D89_36 : decode (byt 89) 36 = .ok (.invokevirtual 162, 3) := by decide +kernel
theorem D89_39 : decode (byt 89) 39 = .ok (.putfield 52, 3) := by decide +kernel
theorem D89_42 : decode (byt 89) 42 = .ok (.aload_n 0, 1) := by decide +kernel
theorem D89_43 : decode (byt 89) 43 = .ok (.getfield 52, 3) := by decide +kernel
theorem D89_46 : decode (byt 89) 46 = .ok (.iconst (-1), 1) := by decide +kernel
theorem D89_47 : decode (byt 89) 47 = .ok (.if_icmp .eq 5, 3) := by decide +kernel
theorem D89_50 : decode (byt 89) 50 = .ok (.iconst 1, 1) := by decide +kernel
theorem D89_51 : decode (byt 89) 51 = .ok (.ireturn, 1) := by decide +kernel
theorem D89_52 : decode (byt 89) 52 = .ok (.aload_n 0, 1) := by decide +kernel
theorem D89_53 : decode (byt 89) 53 = .ok (.aload_n 2, 1) := by decide +kernel
theorem D89_54 : decode (byt 89) 54 = .ok (.getfield 120, 3) := by decide +kernel
theorem D89_57 : decode (byt 89) 57 = .ok (.invokevirtual 166, 3) := by decide +kernel
theorem D89_60 : decode (byt 89) 60 = .ok (.putfield 52, 3) := by decide +kernel
theorem D89_63 : decode (byt 89) 63 = .ok (.aload_n 0, 1) := by decide +kernel
theorem D89_64 : decode (byt 89) 64 = .ok (.getfield 52, 3) := by decide +kernel
theorem D89_67 : decode (byt 89) 67 = .ok (.iconst (-1), 1) := by decide +kernel
theorem D89_68 : decode (byt 89) 68 = .ok (.if_icmp .eq 5, 3) := by decide +kernel
theorem D89_71 : decode (byt 89) 71 = .ok (.iconst 2, 1) := by decide +kernel
theorem D89_72 : decode (byt 89) 72 = .ok (.ireturn, 1) := by decide +kernel
theorem D89_73 : decode (byt 89) 73 = .ok (.aload_n 0, 1) := by decide +kernel
theorem D89_74 : decode (byt 89) 74 = .ok (.aload_n 2, 1) := by decide +kernel
theorem D89_75 : decode (byt 89) 75 = .ok (.invokevirtual 169, 3) := by decide +kernel
theorem D89_78 : decode (byt 89) 78 = .ok (.putfield 52, 3) := by decide +kernel
theorem D89_81 : decode (byt 89) 81 = .ok (.aload_n 0, 1) := by decide +kernel
theorem D89_82 : decode (byt 89) 82 = .ok (.getfield 52, 3) := by decide +kernel
theorem D89_85 : decode (byt 89) 85 = .ok (.iconst (-1), 1) := by decide +kernel
theorem D89_86 : decode (byt 89) 86 = .ok (.if_icmp .ne 7, 3) := by decide +kernel
theorem D89_89 : decode (byt 89) 89 = .ok (.iconst 0, 1) := by decide +kernel
theorem D89_90 : decode (byt 89) 90 = .ok (.goto 4, 3) := by decide +kernel
theorem D89_93 : decode (byt 89) 93 = .ok (.iconst 3, 1) := by decide +kernel
theorem D89_94 : decode (byt 89) 94 = .ok (.ireturn, 1) := by decide +kernel
theorem D90_0 : decode (byt 90) 0 = .ok (.aload_n 0, 1) := by decide +kernel
theorem D90_1 : decode (byt 90) 1 = .ok (.getfield 52, 3) := by decide +kernel
theorem D90_4 : decode (byt 90) 4 = .ok (.ireturn, 1) := by decide +kernel
theorem D91_0 : decode (byt 91) 0 = .ok (.aload_n 0, 1) := by decide +kernel
theorem D91_1 : decode (byt 91) 1 = .ok (.iload_n 1, 1) := by decide +kernel
theorem D91_2 : decode (byt 91) 2 = .ok (.invokevirtual 55, 3) := by decide +kernel
theorem D91_5 : decode (byt 91) 5 = .ok (.astore_n 2, 1) := by decide +kernel
theorem D91_6 : decode (byt 91) 6 = .ok (.aload_n 2, 1) := by decide +kernel
theorem D91_7 : decode (byt 91) 7 = .ok (.ifnonnull 10, 3) := by decide +kernel
theorem D91_10 : decode (byt 91) 10 = .ok (.aload_n 0, 1) := by decide +kernel
theorem D91_11 : decode (byt 91) 11 = .ok (.bipush (-3), 2) := by decide +kernel
theorem D91_13 : decode (byt 91) 13 = .ok (.invokevirtual 59, 3) := by decide +kernel
theorem D91_16 : decode (byt 91) 16 = .ok (.ireturn, 1) := by decide +kernel
theorem D91_17 : decode (byt 91) 17 = .ok (.aload_n 2, 1) := by decide +kernel
theorem D91_18 : decode (byt 91) 18 = .ok (.getfield 107, 3) := by decide +kernel
theorem D91_21 : decode (byt 91) 21 = .ok (.ifCond .ne 10, 3) := by decide +kernel
theorem D91_24 : decode (byt 91) 24 = .ok (.aload_n 0, 1) := by decide +kernel
theorem D91_25 : decode (byt 91) 25 = .ok (.bipush (-2), 2) := by decide +kernel
theorem D91_27 : decode (byt 91) 27 = .ok (.invokevirtual 59, 3) := by decide +kernel
theorem D91_30 : decode (byt 91) 30 = .ok (.ireturn, 1) := by decide +kernel
theorem D91_31 : decode (byt 91) 31 = .ok (.aload_n 2, 1) := by decide +kernel
theorem D91_32 : decode (byt 91) 32 = .ok (.invokevirtual 172, 3) := by decide +kernel
theorem D91_35 : decode (byt 91) 35 = .ok (.invokevirtual 176, 3) := by decide +kernel
theorem D91_38 : decode (byt 91) 38 = .ok (.ireturn, 1) := by decide +kernel
theorem D92_0 : decode (byt 92) 0 = .ok (.aload_n 0, 1) := by decide +kernel
theorem D92_1 : decode (byt 92) 1 = .ok (.iload_n 1, 1) := by decide +kernel
theorem D92_2 : decode (byt 92) 2 = .ok (.invokevirtual 55, 3) := by decide +kernel
theorem D92_5 : decode (byt 92) 5 = .ok (.astore_n 3, 1) := by decide +kernel
theorem D92_6 : decode (byt 92) 6 = .ok (.aload_n 3, 1) := by decide +kernel
theorem D92_7 : decode (byt 92) 7 = .ok (.ifnonnull 10, 3) := by decide +kernel
theorem D92_10 : decode (byt 92) 10 = .ok (.aload_n 0, 1) := by decide +kernel
theorem D92_11 : decode (byt 92) 11 = .ok (.bipush (-3), 2) := by decide +kernel
theorem D92_13 : decode (byt 92) 13 = .ok (.invokevirtual 59, 3) := by decide +kernel
theorem D92_16 : decode (byt 92) 16 = .ok (.ireturn, 1) := by decide +kernel
theorem D92_17 : decode (byt 92) 17 = .ok (.aload_n 3, 1) := by decide +kernel
theorem D92_18 : decode (byt 92) 18 = .ok (.getfield 107, 3) := by decide +kernel
theorem D92_21 : decode (byt 92) 21 = .ok (.ifCond .ne 10, 3) := by decide +kernel
theorem D92_24 : decode (byt 92) 24 = .ok (.aload_n 0, 1) := by decide +kernel
theorem D92_25 : decode (byt 92) 25 = .ok (.bipush (-2), 2) := by decide +kernel
theorem D92_27 : decode (byt 92) 27 = .ok (.invokevirtual 59, 3) := by decide +kernel
theorem D92_30 : decode (byt 92) 30 = .ok (.ireturn, 1) := by decide +kernel
theorem D92_31 : decode (byt 92) 31 = .ok (.iload_n 2, 1) := by decide +kernel
theorem D92_32 : decode (byt 92) 32 = .ok (.ifCond .lt 11, 3) := by decide +kernel
theorem D92_35 : decode (byt 92) 35 = .ok (.iload_n 2, 1) := by decide +kernel
theorem D92_36 : decode (byt 92) 36 = .ok (.aload_n 3, 1) := by decide +kernel
theorem D92_37 : decode (byt 92) 37 = .ok (.invokevirtual 179, 3) := by decide +kernel
theorem D92_40 : decode (byt 92) 40 = .ok (.if_icmp .lt 10, 3) := by decide +kernel
theorem D92_43 : decode (byt 92) 43 = .ok (.aload_n 0, 1) := by decide +kernel
theorem D92_44 : decode (byt 92) 44 = .ok (.bipush (-3), 2) := by decide +kernel
theorem D92_46 : decode (byt 92) 46 = .ok (.invokevirtual 59, 3) := by decide +kernel
theorem D92_49 : decode (byt 92) 49 = .ok (.ireturn, 1) := by decide +kernel
theorem D92_50 : decode (byt 92) 50 = .ok (.aload_n 3, 1) := by decide +kernel
theorem D92_51 : decode (byt 92) 51 = .ok (.invokevirtual 172, 3) := by decide +kernel
theorem D92_54 : decode (byt 92) 54 = .ok (.iload_n 2, 1) := by decide +kernel
theorem D92_55 : decode (byt 92) 55 = .ok (.invokevirtual 182, 3) := by decide +kernel
theorem D92_58 : decode (byt 92) 58 = .ok (.ifCond .eq 7, 3) := by decide +kernel
theorem D92_61 : decode (byt 92) 61 = .ok (.iconst 1, 1) := by decide +kernel
theorem D92_62 : decode (byt 92) 62 = .ok (.goto 4, 3) := by decide +kernel
theorem D92_65 : decode (byt 92) 65 = .ok (.iconst 0, 1) := by decide +kernel
theorem D92_66 : decode (byt 92) 66 = .ok (.ireturn, 1) := by decide +kernel
theorem D93_0 : decode (byt 93) 0 = .ok (.aload_n 0, 1) := by decide +kernel
theorem D93_1 : decode (byt 93) 1 = .ok (.iload_n 1, 1) := by decide +kernel
theorem D93_2 : decode (byt 93) 2 = .ok (.invokevirtual 55, 3) := by decide +kernel
theorem D93_5 : decode (byt 93) 5 = .ok (.astore_n 2, 1) := by decide +kernel
theorem D93_6 : decode (byt 93) 6 = .ok (.aload_n 2, 1) := by decide +kernel
theorem D93_7 : decode (byt 93) 7 = .ok (.ifnonnull 10, 3) := by decide +kernel
theorem D93_10 : decode (byt 93) 10 = .ok (.aload_n 0, 1) := by decide +kernel
theorem D93_11 : decode (byt 93) 11 = .ok (.bipush (-3), 2) := by decide +kernel
theorem D93_13 : decode (byt 93) 13 = .ok (.invokevirtual 185, 3) := by decide +kernel
theorem D93_16 : decode (byt 93) 16 = .ok (.lreturn, 1) := by decide +kernel
theorem D93_17 : decode (byt 93) 17 = .ok (.aload_n 2, 1) := by decide +kernel
theorem D93_18 : decode (byt 93) 18 = .ok (.getfield 107, 3) := by decide +kernel
theorem D93_21 : decode (byt 93) 21 = .ok (.ifCond .ne 10, 3) := by decide +kernel
theorem D93_24 : decode (byt 93) 24 = .ok (.aload_n 0, 1) := by decide +kernel
theorem D93_25 : decode (byt 93) 25 = .ok (.bipush (-2), 2) := by decide +kernel
theorem D93_27 : decode (byt 93) 27 = .ok (.invokevirtual 185, 3) := by decide +kernel
theorem D93_30 : decode (byt 93) 30 = .ok (.lreturn, 1) := by decide +kernel
theorem D93_31 : decode (byt 93) 31 = .ok (.aload_n 2, 1) := by decide +kernel
theorem D93_32 : decode (byt 93) 32 = .ok (.aload_n 0, 1) := by decide +kernel
theorem D93_33 : decode (byt 93) 33 = .ok (.getfield 26, 3) := by decide +kernel
theorem D93_36 : decode (byt 93) 36 = .ok (.invokevirtual 189, 3) := by decide +kernel
theorem D93_39 : decode (byt 93) 39 = .ok (.aload_n 0, 1) := by decide +kernel
theorem D93_40 : decode (byt 93) 40 = .ok (.aload_n 2, 1) := by decide +kernel
theorem D93_41 : decode (byt 93) 41 = .ok (.invokevirtual 172, 3) := by decide +kernel
theorem D93_44 : decode (byt 93) 44 = .ok (.invokevirtual 193, 3) := by decide +kernel
theorem D93_47 : decode (byt 93) 47 = .ok (.lreturn, 1) := by decide +kernel
theorem D94_0 : decode (byt 94) 0 = .ok (.aload_n 0, 1) := by decide +kernel
theorem D94_1 : decode (byt 94) 1 = .ok (.iload_n 1, 1) := by decide +kernel
theorem D94_2 : decode (byt 94) 2 = .ok (.invokevirtual 55, 3) := by decide +kernel
theorem D94_5 : decode (byt 94) 5 = .ok (.astore 4, 2) := by decide +kernel
theorem D94_7 : decode (byt 94) 7 = .ok (.aload 4, 2) := by decide +kernel
theorem D94_9 : decode (byt 94) 9 = .ok (.ifnull 12, 3) := by decide +kernel
theorem D94_12 : decode (byt 94) 12 = .ok (.aload 4, 2) := by decide +kernel
theorem D94_14 : decode (byt 94) 14 = .ok (.iload_n 2, 1) := by decide +kernel
theorem D94_15 : decode (byt 94) 15 = .ok (.invokevirtual 81, 3) := by decide +kernel
theorem D94_18 : decode (byt 94) 18 = .ok (.ifCond .ne 10, 3) := by decide +kernel
theorem D94_21 : decode (byt 94) 21 = .ok (.aload_n 0, 1) := by decide +kernel
theorem D94_22 : decode (byt 94) 22 = .ok (.bipush (-3), 2) := by decide +kernel
theorem D94_24 : decode (byt 94) 24 = .ok (.invokevirtual 185, 3) := by decide +kernel
theorem D94_27 : decode (byt 94) 27 = .ok (.lreturn, 1) := by decide +kernel
theorem D94_28 : decode (byt 94) 28 = .ok (.aload 4, 2) := by decide +kernel
theorem D94_30 : decode (byt 94) 30 = .ok (.getfield 107, 3) := by decide +kernel
theorem D94_33 : decode (byt 94) 33 = .ok (.ifCond .ne 10, 3) := by decide +kernel
theorem D94_36 : decode (byt 94) 36 = .ok (.aload_n 0, 1) := by decide +kernel
theorem D94_37 : decode (byt 94) 37 = .ok (.bipush (-2), 2) := by decide +kernel
theorem D94_39 : decode (byt 94) 39 = .ok (.invokevirtual 185, 3) := by decide +kernel
theorem D94_42 : decode (byt 94) 42 = .ok (.lreturn, 1) := by decide +kernel
theorem D94_43 : decode (byt 94) 43 = .ok (.aload 4, 2) := by decide +kernel
theorem D94_45 : decode (byt 94) 45 = .ok (.aload_n 0, 1) := by decide +kernel
theorem D94_46 : decode (byt 94) 46 = .ok (.getfield 26, 3) := by decide +kernel
theorem D94_49 : decode (byt 94) 49 = .ok (.invokevirtual 189, 3) := by decide +kernel
theorem D94_52 : decode (byt 94) 52 = .ok (.aload 4, 2) := by decide +kernel
theorem D94_54 : decode (byt 94) 54 = .ok (.invokevirtual 172, 3) := by decide +kernel
theorem D94_57 : decode (byt 94) 57 = .ok (.astore 5, 2) := by decide +kernel
theorem D94_59 : decode (byt 94) 59 = .ok (.aload_n 0, 1) := by decide +kernel
theorem D94_60 : decode (byt 94) 60 = .ok (.aload 5, 2) := by decide +kernel
theorem D94_62 : decode (byt 94) 62 = .ok (.invokevirtual 193, 3) := by decide +kernel
theorem D94_65 : decode (byt 94) 65 = .ok (.lstore 6, 2) := by decide +kernel
theorem D94_67 : decode (byt 94) 67 = .ok (.lload 6, 2) := by decide +kernel
theorem D94_69 : decode (byt 94) 69 = .ok (.lconst 0, 1) := by decide +kernel
theorem D94_70 : decode (byt 94) 70 = .ok (.lcmp, 1) := by decide +kernel
theorem D94_71 : decode (byt 94) 71 = .ok (.ifCond .ne 10, 3) := by decide +kernel
theorem D94_74 : decode (byt 94) 74 = .ok (.aload_n 0, 1) := by decide +kernel
theorem D94_75 : decode (byt 94) 75 = .ok (.bipush (-7), 2) := by decide +kernel
theorem D94_77 : decode (byt 94) 77 = .ok (.invokevirtual 185, 3) := by decide +kernel
theorem D94_80 : decode (byt 94) 80 = .ok (.lreturn, 1) := by decide +kernel
theorem D94_81 : decode (byt 94) 81 = .ok (.aload 5, 2) := by decide +kernel
theorem D94_83 : decode (byt 94) 83 = .ok (.iload_n 2, 1) := by decide +kernel
theorem D94_84 : decode (byt 94) 84 = .ok (.invokevirtual 197, 3) := by decide +kernel
theorem D94_87 : decode (byt 94) 87 = .ok (.aload_n 0, 1) := by decide +kernel
theorem D94_88 : decode (byt 94) 88 = .ok (.aload 5, 2) := by decide +kernel
theorem D94_90 : decode (byt 94) 90 = .ok (.invokevirtual 193, 3) := by decide +kernel
theorem D94_93 : decode (byt 94) 93 = .ok (.lstore 8, 2) := by decide +kernel
theorem D94_95 : decode (byt 94) 95 = .ok (.lload 6, 2) := by decide +kernel
theorem D94_97 : decode (byt 94) 97 = .ok (.lload 8, 2) := by decide +kernel
theorem D94_99 : decode (byt 94) 99 = .ok (.invokestatic 200, 3) := by decide +kernel
theorem D94_102 : decode (byt 94) 102 = .ok (.lstore 10, 2) := by decide +kernel
theorem D94_104 : decode (byt 94) 104 = .ok (.lload 10, 2) := by decide +kernel
theorem D94_106 : decode (byt 94) 106 = .ok (.lconst 0, 1) := by decide +kernel
theorem D94_107 : decode (byt 94) 107 = .ok (.lcmp, 1) := by decide +kernel
theorem D94_108 : decode (byt 94) 108 = .ok (.ifCond .ne 5, 3) := by decide +kernel
theorem D94_111 : decode (byt 94) 111 = .ok (.lconst 0, 1) := by decide +kernel
theorem D94_112 : decode (byt 94) 112 = .ok (.lreturn, 1) := by decide +kernel
theorem D94_113 : decode (byt 94) 113 = .ok (.iload_n 3, 1) := by decide +kernel
theorem D94_114 : decode (byt 94) 114 = .ok (.ifCond .eq 8, 3) := by decide +kernel
theorem D94_117 : decode (byt 94) 117 = .ok (.lload 6, 2) := by decide +kernel
theorem D94_119 : decode (byt 94) 119 = .ok (.goto 5, 3) := by decide +kernel
theorem D94_122 : decode (byt 94) 122 = .ok (.lload 8, 2) := by decide +kernel
theorem D94_124 : decode (byt 94) 124 = .ok (.lload 10, 2) := by decide +kernel
theorem D94_126 : decode (byt 94) 126 = .ok (.ldiv, 1) := by decide +kernel
theorem D94_127 : decode (byt 94) 127 = .ok (.lreturn, 1) := by decide +kernel
theorem D95_0 : decode (byt 95) 0 = .ok (.aload_n 0, 1) := by decide +kernel
theorem D95_1 : decode (byt 95) 1 = .ok (.iload_n 1, 1) := by decide +kernel
theorem D95_2 : decode (byt 95) 2 = .ok (.invokevirtual 55, 3) := by decide +kernel
theorem D95_5 : decode (byt 95) 5 = .ok (.astore_n 3, 1) := by decide +kernel
theorem D95_6 : decode (byt 95) 6 = .ok (.aload_n 3, 1) := by decide +kernel
theorem D95_7 : decode (byt 95) 7 = .ok (.ifnull 11, 3) := by decide +kernel
theorem D95_10 : decode (byt 95) 10 = .ok (.aload_n 3, 1) := by decide +kernel
theorem D95_11 : decode (byt 95) 11 = .ok (.iload_n 2, 1) := by decide +kernel
theorem D95_12 : decode (byt 95) 12 = .ok (.invokevirtual 81, 3) := by decide +kernel
theorem D95_15 : decode (byt 95) 15 = .ok (.ifCond .ne 10, 3) := by decide +kernel
theorem D95_18 : decode (byt 95) 18 = .ok (.aload_n 0, 1) := by decide +kernel
theorem D95_19 : decode (byt 95) 19 = .ok (.bipush (-3), 2) := by decide +kernel
theorem D95_21 : decode (byt 95) 21 = .ok (.invokevirtual 59, 3) := by decide +kernel
theorem D95_24 : decode (byt 95) 24 = .ok (.ireturn, 1) := by decide +kernel
theorem D95_25 : decode (byt 95) 25 = .ok (.aload_n 3, 1) := by decide +kernel
theorem D95_26 : decode (byt 95) 26 = .ok (.getfield 107, 3) := by decide +kernel
theorem D95_29 : decode (byt 95) 29 = .ok (.ifCond .ne 10, 3) := by decide +kernel
theorem D95_32 : decode (byt 95) 32 = .ok (.aload_n 0, 1) := by decide +kernel
theorem D95_33 : decode (byt 95) 33 = .ok (.bipush (-2), 2) := by decide +kernel
theorem D95_35 : decode (byt 95) 35 = .ok (.invokevirtual 59, 3) := by decide +kernel
theorem D95_38 : decode (byt 95) 38 = .ok (.ireturn, 1) := by decide +kernel
theorem D95_39 : decode (byt 95) 39 = .ok (.aload_n 3, 1) := by decide +kernel
theorem D95_40 : decode (byt 95) 40 = .ok (.invokevirtual 172, 3) := by decide +kernel
theorem D95_43 : decode (byt 95) 43 = .ok (.astore 4, 2) := by decide +kernel
theorem D95_45 : decode (byt 95) 45 = .ok (.aload 4, 2) := by decide +kernel
theorem D95_47 : decode (byt 95) 47 = .ok (.invokevirtual 176, 3) := by decide +kernel
theorem D95_50 : decode (byt 95) 50 = .ok (.istore 5, 2) := by decide +kernel
theorem D95_52 : decode (byt 95) 52 = .ok (.iload 5, 2) := by decide +kernel
theorem D95_54 : decode (byt 95) 54 = .ok (.ifCond .ne 5, 3) := by decide +kernel
theorem D95_57 : decode (byt 95) 57 = .ok (.iconst 3, 1) := by decide +kernel
theorem D95_58 : decode (byt 95) 58 = .ok (.ireturn, 1) := by decide +kernel
theorem D95_59 : decode (byt 95) 59 = .ok (.aload 4, 2) := by decide +kernel
theorem D95_61 : decode (byt 95) 61 = .ok (.iload_n 2, 1) := by decide +kernel
theorem D95_62 : decode (byt 95) 62 = .ok (.invokevirtual 197, 3) := by decide +kernel
theorem D95_65 : decode (byt 95) 65 = .ok (.aload 4, 2) := by decide +kernel
theorem D95_67 : decode (byt 95) 67 = .ok (.invokevirtual 176, 3) := by decide +kernel
theorem D95_70 : decode (byt 95) 70 = .ok (.istore 6, 2) := by decide +kernel
theorem D95_72 : decode (byt 95) 72 = .ok (.iload 6, 2) := by decide +kernel
theorem D95_74 : decode (byt 95) 74 = .ok (.iload 5, 2) := by decide +kernel
theorem D95_76 : decode (byt 95) 76 = .ok (.if_icmp .ne 5, 3) := by decide +kernel
theorem D95_79 : decode (byt 95) 79 = .ok (.iconst 1, 1) := by decide +kernel
theorem D95_80 : decode (byt 95) 80 = .ok (.ireturn, 1) := by decide +kernel
theorem D95_81 : decode (byt 95) 81 = .ok (.iload 6, 2) := by decide +kernel
theorem D95_83 : decode (byt 95) 83 = .ok (.ifCond .ne 7, 3) := by decide +kernel
theorem D95_86 : decode (byt 95) 86 = .ok (.iconst 2, 1) := by decide +kernel
theorem D95_87 : decode (byt 95) 87 = .ok (.goto 4, 3) := by decide +kernel
theorem D95_90 : decode (byt 95) 90 = .ok (.iconst 0, 1) := by decide +kernel
theorem D95_91 : decode (byt 95) 91 = .ok (.ireturn, 1) := by decide +kernel
theorem D96_0 : decode (byt 96) 0 = .ok (.aload_n 0, 1) := by decide +kernel
theorem D96_1 : decode (byt 96) 1 = .ok (.iload_n 1, 1) := by decide +kernel
theorem D96_2 : decode (byt 96) 2 = .ok (.invokevirtual 55, 3) := by decide +kernel
theorem D96_5 : decode (byt 96) 5 = .ok (.astore_n 3, 1) := by decide +kernel
theorem D96_6 : decode (byt 96) 6 = .ok (.aload_n 3, 1) := by decide +kernel
theorem D96_7 : decode (byt 96) 7 = .ok (.ifnonnull 10, 3) := by decide +kernel
theorem D96_10 : decode (byt 96) 10 = .ok (.aload_n 0, 1) := by decide +kernel
theorem D96_11 : decode (byt 96) 11 = .ok (.bipush (-3), 2) := by decide +kernel
theorem D96_13 : decode (byt 96) 13 = .ok (.invokevirtual 59, 3) := by decide +kernel
theorem D96_16 : decode (byt 96) 16 = .ok (.ireturn, 1) := by decide +kernel
theorem D96_17 : decode (byt 96) 17 = .ok (.aload_n 3, 1) := by decide +kernel
theorem D96_18 : decode (byt 96) 18 = .ok (.getfield 107, 3) := by decide +kernel
theorem D96_21 : decode (byt 96) 21 = .ok (.ifCond .ne 10, 3) := by decide +kernel
theorem D96_24 : decode (byt 96) 24 = .ok (.aload_n 0, 1) := by decide +kernel
theorem D96_25 : decode (byt 96) 25 = .ok (.bipush (-2), 2) := by decide +kernel
theorem D96_27 : decode (byt 96) 27 = .ok (.invokevirtual 59, 3) := by decide +kernel
theorem D96_30 : decode (byt 96) 30 = .ok (.ireturn, 1) := by decide +kernel
theorem D96_31 : decode (byt 96) 31 = .ok (.iload_n 2, 1) := by decide +kernel
theorem D96_32 : decode (byt 96) 32 = .ok (.ifCond .ge 10, 3) := by decide +kernel
theorem D96_35 : decode (byt 96) 35 = .ok (.aload_n 0, 1) := by decide +kernel
theorem D96_36 : decode (byt 96) 36 = .ok (.bipush (-4), 2) := by decide +kernel
theorem D96_38 : decode (byt 96) 38 = .ok (.invokevirtual 59, 3) := by decide +kernel
theorem D96_41 : decode (byt 96) 41 = .ok (.ireturn, 1) := by decide +kernel
theorem D96_42 : decode (byt 96) 42 = .ok (.aload_n 3, 1) := by decide +kernel
theorem D96_43 : decode (byt 96) 43 = .ok (.invokevirtual 172, 3) := by decide +kernel
theorem D96_46 : decode (byt 96) 46 = .ok (.iload_n 2, 1) := by decide +kernel
theorem D96_47 : decode (byt 96) 47 = .ok (.invokevirtual 204, 3) := by decide +kernel
theorem D96_50 : decode (byt 96) 50 = .ok (.istore 4, 2) := by decide +kernel
theorem D96_52 : decode (byt 96) 52 = .ok (.iload 4, 2) := by decide +kernel
theorem D96_54 : decode (byt 96) 54 = .ok (.iconst (-1), 1) := by decide +kernel
theorem D96_55 : decode (byt 96) 55 = .ok (.if_icmp .ne 12, 3) := by decide +kernel
theorem D96_58 : decode (byt 96) 58 = .ok (.aload_n 0, 1) := by decide +kernel
theorem D96_59 : decode (byt 96) 59 = .ok (.bipush (-7), 2) := by decide +kernel
theorem D96_61 : decode (byt 96) 61 = .ok (.invokevirtual 59, 3) := by decide +kernel
theorem D96_64 : decode (byt 96) 64 = .ok (.goto 5, 3) := by decide +kernel
theorem D96_67 : decode (byt 96) 67 = .ok (.iload 4, 2) := by decide +kernel
theorem D96_69 : decode (byt 96) 69 = .ok (.ireturn, 1) := by decide +kernel
theorem D97_0 : decode (byt 97) 0 = .ok (.aload_n 0, 1) := by decide +kernel
theorem D97_1 : decode (byt 97) 1 = .ok (.iload_n 1, 1) := by decide +kernel
theorem D97_2 : decode (byt 97) 2 = .ok (.invokevirtual 55, 3) := by decide +kernel
theorem D97_5 : decode (byt 97) 5 = .ok (.astore_n 3, 1) := by decide +kernel
theorem D97_6 : decode (byt 97) 6 = .ok (.aload_n 3, 1) := by decide +kernel
theorem D97_7 : decode (byt 97) 7 = .ok (.ifnonnull 10, 3) := by decide +kernel
theorem D97_10 : decode (byt 97) 10 = .ok (.aload_n 0, 1) := by decide +kernel
theorem D97_11 : decode (byt 97) 11 = .ok (.bipush (-3), 2) := by decide +kernel
theorem D97_13 : decode (byt 97) 13 = .ok (.invokevirtual 59, 3) := by decide +kernel
theorem D97_16 : decode (byt 97) 16 = .ok (.ireturn, 1) := by decide +kernel
theorem D97_17 : decode (byt 97) 17 = .ok (.aload_n 3, 1) := by decide +kernel
theorem D97_18 : decode (byt 97) 18 = .ok (.getfield 107, 3) := by decide +kernel
theorem D97_21 : decode (byt 97) 21 = .ok (.ifCond .ne 10, 3) := by decide +kernel
theorem D97_24 : decode (byt 97) 24 = .ok (.aload_n 0, 1) := by decide +kernel
theorem D97_25 : decode (byt 97) 25 = .ok (.bipush (-2), 2) := by decide +kernel
theorem D97_27 : decode (byt 97) 27 = .ok (.invokevirtual 59, 3) := by decide +kernel
theorem D97_30 : decode (byt 97) 30 = .ok (.ireturn, 1) := by decide +kernel
theorem D97_31 : decode (byt 97) 31 = .ok (.iload_n 2, 1) := by decide +kernel
theorem D97_32 : decode (byt 97) 32 = .ok (.ifCond .lt 11, 3) := by decide +kernel
theorem D97_35 : decode (byt 97) 35 = .ok (.iload_n 2, 1) := by decide +kernel
theorem D97_36 : decode (byt 97) 36 = .ok (.aload_n 3, 1) := by decide +kernel
theorem D97_37 : decode (byt 97) 37 = .ok (.invokevirtual 179, 3) := by decide +kernel
theorem D97_40 : decode (byt 97) 40 = .ok (.if_icmp .le 10, 3) := by decide +kernel
theorem D97_43 : decode (byt 97) 43 = .ok (.aload_n 0, 1) := by decide +kernel
theorem D97_44 : decode (byt 97) 44 = .ok (.bipush (-3), 2) := by decide +kernel
theorem D97_46 : decode (byt 97) 46 = .ok (.invokevirtual 59, 3) := by decide +kernel
theorem D97_49 : decode (byt 97) 49 = .ok (.ireturn, 1) := by decide +kernel
theorem D97_50 : decode (byt 97) 50 = .ok (.aload_n 3, 1) := by decide +kernel
theorem D97_51 : decode (byt 97) 51 = .ok (.invokevirtual 172, 3) := by decide +kernel
theorem D97_54 : decode (byt 97) 54 = .ok (.iload_n 2, 1) := by decide +kernel
theorem D97_55 : decode (byt 97) 55 = .ok (.invokevirtual 207, 3) := by decide +kernel
theorem D97_58 : decode (byt 97) 58 = .ok (.ireturn, 1) := by decide +kernel
theorem D98_0 : decode (byt 98) 0 = .ok (.aload_n 0, 1) := by decide +kernel
theorem D98_1 : decode (byt 98) 1 = .ok (.iload_n 1, 1) := by decide +kernel
theorem D98_2 : decode (byt 98) 2 = .ok (.invokevirtual 55, 3) := by decide +kernel
theorem D98_5 : decode (byt 98) 5 = .ok (.astore_n 3, 1) := by decide +kernel
theorem D98_6 : decode (byt 98) 6 = .ok (.aload_n 3, 1) := by decide +kernel
theorem D98_7 : decode (byt 98) 7 = .ok (.ifnonnull 10, 3) := by decide +kernel
theorem D98_10 : decode (byt 98) 10 = .ok (.aload_n 0, 1) := by decide +kernel
theorem D98_11 : decode (byt 98) 11 = .ok (.bipush (-3), 2) := by decide +kernel
theorem D98_13 : decode (byt 98) 13 = .ok (.invokevirtual 59, 3) := by decide +kernel
theorem D98_16 : decode (byt 98) 16 = .ok (.ireturn, 1) := by decide +kernel
theorem D98_17 : decode (byt 98) 17 = .ok (.aload_n 3, 1) := by decide +kernel
theorem D98_18 : decode (byt 98) 18 = .ok (.getfield 107, 3) := by decide +kernel
theorem D98_21 : decode (byt 98) 21 = .ok (.ifCond .ne 10, 3) := by decide +kernel
theorem D98_24 : decode (byt 98) 24 = .ok (.aload_n 0, 1) := by decide +kernel
theorem D98_25 : decode (byt 98) 25 = .ok (.bipush (-2), 2) := by decide +kernel
theorem D98_27 : decode (byt 98) 27 = .ok (.invokevirtual 59, 3) := by decide +kernel
theorem D98_30 : decode (byt 98) 30 = .ok (.ireturn, 1) := by decide +kernel
theorem D98_31 : decode (byt 98) 31 = .ok (.iload_n 2, 1) := by decide +kernel
theorem D98_32 : decode (byt 98) 32 = .ok (.iconst (-1), 1) := by decide +kernel
theorem D98_33 : decode (byt 98) 33 = .ok (.if_icmp .lt 11, 3) := by decide +kernel
theorem D98_36 : decode (byt 98) 36 = .ok (.iload_n 2, 1) := by decide +kernel
theorem D98_37 : decode (byt 98) 37 = .ok (.aload_n 3, 1) := by decide +kernel
theorem D98_38 : decode (byt 98) 38 = .ok (.invokevirtual 179, 3) := by decide +kernel
theorem D98_41 : decode (byt 98) 41 = .ok (.if_icmp .lt 10, 3) := by decide +kernel
theorem D98_44 : decode (byt 98) 44 = .ok (.aload_n 0, 1) := by decide +kernel
theorem D98_45 : decode (byt 98) 45 = .ok (.bipush (-3), 2) := by decide +kernel
theorem D98_47 : decode (byt 98) 47 = .ok (.invokevirtual 59, 3) := by decide +kernel
theorem D98_50 : decode (byt 98) 50 = .ok (.ireturn, 1) := by decide +kernel
theorem D98_51 : decode (byt 98) 51 = .ok (.aload_n 3, 1) := by decide +kernel
theorem D98_52 : decode (byt 98) 52 = .ok (.invokevirtual 172, 3) := by decide +kernel
theorem D98_55 : decode (byt 98) 55 = .ok (.iload_n 2, 1) := by decide +kernel
theorem D98_56 : decode (byt 98) 56 = .ok (.iconst 1, 1) := by decide +kernel
theorem D98_57 : decode (byt 98) 57 = .ok (.iadd, 1) := by decide +kernel
theorem D98_58 : decode (byt 98) 58 = .ok (.invokevirtual 210, 3) := by decide +kernel
theorem D98_61 : decode (byt 98) 61 = .ok (.ireturn, 1) := by decide +kernel
theorem D99_0 : decode (byt 99) 0 = .ok (.aload_n 0, 1) := by decide +kernel
theorem D99_1 : decode (byt 99) 1 = .ok (.iload_n 1, 1) := by decide +kernel
theorem D99_2 : decode (byt 99) 2 = .ok (.invokevirtual 55, 3) := by decide +kernel
theorem D99_5 : decode (byt 99) 5 = .ok (.astore_n 3, 1) := by decide +kernel
theorem D99_6 : decode (byt 99) 6 = .ok (.aload_n 3, 1) := by decide +kernel
theorem D99_7 : decode (byt 99) 7 = .ok (.ifnonnull 10, 3) := by decide +kernel
theorem D99_10 : decode (byt 99) 10 = .ok (.aload_n 0, 1) := by decide +kernel
theorem D99_11 : decode (byt 99) 11 = .ok (.bipush (-3), 2) := by decide +kernel
theorem D99_13 : decode (byt 99) 13 = .ok (.invokevirtual 59, 3) := by decide +kernel
theorem D99_16 : decode (byt 99) 16 = .ok (.ireturn, 1) := by decide +kernel
theorem D99_17 : decode (byt 99) 17 = .ok (.aload_n 3, 1) := by decide +kernel
theorem D99_18 : decode (byt 99) 18 = .ok (.getfield 107, 3) := by decide +kernel
theorem D99_21 : decode (byt 99) 21 = .ok (.ifCond .ne 10, 3) := by decide +kernel
theorem D99_24 : decode (byt 99) 24 = .ok (.aload_n 0, 1) := by decide +kernel
theorem D99_25 : decode (byt 99) 25 = .ok (.bipush (-2), 2) := by decide +kernel
theorem D99_27 : decode (byt 99) 27 = .ok (.invokevirtual 59, 3) := by decide +kernel
theorem D99_30 : decode (byt 99) 30 = .ok (.ireturn, 1) := by decide +kernel
theorem D99_31 : decode (byt 99) 31 = .ok (.aload_n 3, 1) := by decide +kernel
theorem D99_32 : decode (byt 99) 32 = .ok (.aload_n 0, 1) := by decide +kernel
theorem D99_33 : decode (byt 99) 33 = .ok (.getfield 26, 3) := by decide +kernel
theorem D99_36 : decode (byt 99) 36 = .ok (.invokevirtual 189, 3) := by decide +kernel
theorem D99_39 : decode (byt 99) 39 = .ok (.aload_n 0, 1) := by decide +kernel
theorem D99_40 : decode (byt 99) 40 = .ok (.aload_n 3, 1) := by decide +kernel
theorem D99_41 : decode (byt 99) 41 = .ok (.invokevirtual 172, 3) := by decide +kernel
theorem D99_44 : decode (byt 99) 44 = .ok (.iload_n 2, 1) := by decide +kernel
theorem D99_45 : decode (byt 99) 45 = .ok (.invokevirtual 213, 3) := by decide +kernel
theorem D99_48 : decode (byt 99) 48 = .ok (.istore 4, 2) := by decide +kernel
theorem D99_50 : decode (byt 99) 50 = .ok (.iload 4, 2) := by decide +kernel
theorem D99_52 : decode (byt 99) 52 = .ok (.iconst (-1), 1) := by decide +kernel
theorem D99_53 : decode (byt 99) 53 = .ok (.if_icmp .ne 12, 3) := by decide +kernel
theorem D99_56 : decode (byt 99) 56 = .ok (.aload_n 0, 1) := by decide +kernel
theorem D99_57 : decode (byt 99) 57 = .ok (.bipush (-7), 2) := by decide +kernel
theorem D99_59 : decode (byt 99) 59 = .ok (.invokevirtual 59, 3) := by decide +kernel
theorem D99_62 : decode (byt 99) 62 = .ok (.goto 5, 3) := by decide +kernel
theorem D99_65 : decode (byt 99) 65 = .ok (.iload 4, 2) := by decide +kernel
theorem D99_67 : decode (byt 99) 67 = .ok (.ireturn, 1) := by decide +kernel
theorem D100_0 : decode (byt 100) 0 = .ok (.aload_n 0, 1) := by decide +kernel
theorem D100_1 : decode (byt 100) 1 = .ok (.iload_n 1, 1) := by decide +kernel
theorem D100_2 : decode (byt 100) 2 = .ok (.invokevirtual 55, 3) := by decide +kernel
theorem D100_5 : decode (byt 100) 5 = .ok (.astore_n 3, 1) := by decide +kernel
theorem D100_6 : decode (byt 100) 6 = .ok (.aload_n 3, 1) := by decide +kernel
theorem D100_7 : decode (byt 100) 7 = .ok (.ifnonnull 10, 3) := by decide +kernel
theorem D100_10 : decode (byt 100) 10 = .ok (.aload_n 0, 1) := by decide +kernel
theorem D100_11 : decode (byt 100) 11 = .ok (.bipush (-3), 2) := by decide +kernel
theorem D100_13 : decode (byt 100) 13 = .ok (.invokevirtual 185, 3) := by decide +kernel
theorem D100_16 : decode (byt 100) 16 = .ok (.lreturn, 1) := by decide +kernel
theorem D100_17 : decode (byt 100) 17 = .ok (.iload_n 2, 1) := by decide +kernel
theorem D100_18 : decode (byt 100) 18 = .ok (.ifCond .lt 11, 3) := by decide +kernel
theorem D100_21 : decode (byt 100) 21 = .ok (.iload_n 2, 1) := by decide +kernel
theorem D100_22 : decode (byt 100) 22 = .ok (.aload_n 3, 1) := by decide +kernel
theorem D100_23 : decode (byt 100) 23 = .ok (.invokevirtual 179, 3) := by decide +kernel
theorem D100_26 : decode (byt 100) 26 = .ok (.if_icmp .lt 10, 3) := by decide +kernel
theorem D100_29 : decode (byt 100) 29 = .ok (.aload_n 0, 1) := by decide +kernel
theorem D100_30 : decode (byt 100) 30 = .ok (.bipush (-3), 2) := by decide +kernel
theorem D100_32 : decode (byt 100) 32 = .ok (.invokevirtual 185, 3) := by decide +kernel
theorem D100_35 : decode (byt 100) 35 = .ok (.lreturn, 1) := by decide +kernel
theorem D100_36 : decode (byt 100) 36 = .ok (.aload_n 3, 1) := by decide +kernel
theorem D100_37 : decode (byt 100) 37 = .ok (.iload_n 2, 1) := by decide +kernel
theorem D100_38 : decode (byt 100) 38 = .ok (.invokevirtual 217, 3) := by decide +kernel
theorem D100_41 : decode (byt 100) 41 = .ok (.lreturn, 1) := by decide +kernel
theorem D101_0 : decode (byt 101) 0 = .ok (.aload_n 0, 1) := by decide +kernel
theorem D101_1 : decode (byt 101) 1 = .ok (.iload_n 1, 1) := by decide +kernel
theorem D101_2 : decode (byt 101) 2 = .ok (.invokevirtual 55, 3) := by decide +kernel
theorem D101_5 : decode (byt 101) 5 = .ok (.astore_n 2, 1) := by decide +kernel
theorem D101_6 : decode (byt 101) 6 = .ok (.aload_n 2, 1) := by decide +kernel
theorem D101_7 : decode (byt 101) 7 = .ok (.ifnonnull 10, 3) := by decide +kernel
theorem D101_10 : decode (byt 101) 10 = .ok (.aload_n 0, 1) := by decide +kernel
theorem D101_11 : decode (byt 101) 11 = .ok (.bipush (-3), 2) := by decide +kernel
theorem D101_13 : decode (byt 101) 13 = .ok (.invokevirtual 59, 3) := by decide +kernel
theorem D101_16 : decode (byt 101) 16 = .ok (.ireturn, 1) := by decide +kernel
theorem D101_17 : decode (byt 101) 17 = .ok (.aload_n 2, 1) := by decide +kernel
theorem D101_18 : decode (byt 101) 18 = .ok (.getfield 107, 3) := by decide +kernel
theorem D101_21 : decode (byt 101) 21 = .ok (.ifCond .ne 10, 3) := by decide +kernel
theorem D101_24 : decode (byt 101) 24 = .ok (.aload_n 0, 1) := by decide +kernel
theorem D101_25 : decode (byt 101) 25 = .ok (.bipush (-2), 2) := by decide +kernel
theorem D101_27 : decode (byt 101) 27 = .ok (.invokevirtual 59, 3) := by decide +kernel
theorem D101_30 : decode (byt 101) 30 = .ok (.ireturn, 1) := by decide +kernel
theorem D101_31 : decode (byt 101) 31 = .ok (.aload_n 2, 1) := by decide +kernel
theorem D101_32 : decode (byt 101) 32 = .ok (.invokevirtual 172, 3) := by decide +kernel
theorem D101_35 : decode (byt 101) 35 = .ok (.astore_n 3, 1) := by decide +kernel
theorem D101_36 : decode (byt 101) 36 = .ok (.aload_n 2, 1) := by decide +kernel
theorem D101_37 : decode (byt 101) 37 = .ok (.invokevirtual 220, 3) := by decide +kernel
theorem D101_40 : decode (byt 101) 40 = .ok (.istore 4, 2) := by decide +kernel
theorem D101_42 : decode (byt 101) 42 = .ok (.aload_n 0, 1) := by decide +kernel
theorem D101_43 : decode (byt 101) 43 = .ok (.getfield 33, 3) := by decide +kernel
theorem D101_46 : decode (byt 101) 46 = .ok (.aload_n 2, 1) := by decide +kernel
theorem D101_47 : decode (byt 101) 47 = .ok (.getfield 63, 3) := by decide +kernel
theorem D101_50 : decode (byt 101) 50 = .ok (.invokevirtual 223, 3) := by decide +kernel
theorem D101_53 : decode (byt 101) 53 = .ok (.iconst 0, 1) := by decide +kernel
theorem D101_54 : decode (byt 101) 54 = .ok (.istore 5, 2) := by decide +kernel
theorem D101_56 : decode (byt 101) 56 = .ok (.iload 5, 2) := by decide +kernel
theorem D101_58 : decode (byt 101) 58 = .ok (.aload_n 2, 1) := by decide +kernel
theorem D101_59 : decode (byt 101) 59 = .ok (.invokevirtual 179, 3) := by decide +kernel
theorem D101_62 : decode (byt 101) 62 = .ok (.if_icmp .ge 30, 3) := by decide +kernel
theorem D101_65 : decode (byt 101) 65 = .ok (.aload_n 3, 1) := by decide +kernel
theorem D101_66 : decode (byt 101) 66 = .ok (.iload 5, 2) := by decide +kernel
theorem D101_68 : decode (byt 101) 68 = .ok (.invokevirtual 182, 3) := by decide +kernel
theorem D101_71 : decode (byt 101) 71 = .ok (.ifCond .eq 15, 3) := by decide +kernel
theorem D101_74 : decode (byt 101) 74 = .ok (.aload_n 0, 1) := by decide +kernel
theorem D101_75 : decode (byt 101) 75 = .ok (.getfield 33, 3) := by decide +kernel
theorem D101_78 : decode (byt 101) 78 = .ok (.iload 5, 2) := by decide +kernel
theorem D101_80 : decode (byt 101) 80 = .ok (.iload 4, 2) := by decide +kernel
theorem D101_82 : decode (byt 101) 82 = .ok (.iand, 1) := by decide +kernel
theorem D101_83 : decode (byt 101) 83 = .ok (.invokevirtual 226, 3) := by decide +kernel
theorem D101_86 : decode (byt 101) 86 = .ok (.iinc 5 1, 3) := by decide +kernel
theorem D101_89 : decode (byt 101) 89 = .ok (.goto (-33), 3) := by decide +kernel
theorem D101_92 : decode (byt 101) 92 = .ok (.aload_n 0, 1) := by decide +kernel
theorem D101_93 : decode (byt 101) 93 = .ok (.getfield 33, 3) := by decide +kernel
theorem D101_96 : decode (byt 101) 96 = .ok (.invokevirtual 176, 3) := by decide +kernel
theorem D101_99 : decode (byt 101) 99 = .ok (.ireturn, 1) := by decide +kernel
theorem D102_0 : decode (byt 102) 0 = .ok (.aload_n 0, 1) := by decide +kernel
theorem D102_1 : decode (byt 102) 1 = .ok (.getfield 12, 3) := by decide +kernel
theorem D102_4 : decode (byt 102) 4 = .ok (.getfield 107, 3) := by decide +kernel
theorem D102_7 : decode (byt 102) 7 = .ok (.ifCond .eq 13, 3) := by decide +kernel
theorem D102_10 : decode (byt 102) 10 = .ok (.aload_n 0, 1) := by decide +kernel
theorem D102_11 : decode (byt 102) 11 = .ok (.getfield 16, 3) := by decide +kernel
theorem D102_14 : decode (byt 102) 14 = .ok (.getfield 107, 3) := by decide +kernel
theorem D102_17 : decode (byt 102) 17 = .ok (.ifCond .ne 10, 3) := by decide +kernel
theorem D102_20 : decode (byt 102) 20 = .ok (.aload_n 0, 1) := by decide +kernel
theorem D102_21 : decode (byt 102) 21 = .ok (.bipush (-2), 2) := by decide +kernel
theorem D102_23 : decode (byt 102) 23 = .ok (.invokevirtual 59, 3) := by decide +kernel
theorem D102_26 : decode (byt 102) 26 = .ok (.ireturn, 1) := by decide +kernel
theorem D102_27 : decode (byt 102) 27 = .ok (.aload_n 0, 1) := by decide +kernel
theorem D102_28 : decode (byt 102) 28 = .ok (.getfield 12, 3) := by decide +kernel
theorem D102_31 : decode (byt 102) 31 = .ok (.getfield 63, 3) := by decide +kernel
theorem D102_34 : decode (byt 102) 34 = .ok (.aload_n 0, 1) := by decide +kernel
theorem D102_35 : decode (byt 102) 35 = .ok (.getfield 16, 3) := by decide +kernel
theorem D102_38 : decode (byt 102) 38 = .ok (.getfield 63, 3) := by decide +kernel
theorem D102_41 : decode (byt 102) 41 = .ok (.if_icmp .eq 10, 3) := by decide +kernel
theorem D102_44 : decode (byt 102) 44 = .ok (.aload_n 0, 1) := by decide +kernel
theorem D102_45 : decode (byt 102) 45 = .ok (.bipush (-7), 2) := by decide +kernel
theorem D102_47 : decode (byt 102) 47 = .ok (.invokevirtual 59, 3) := by decide +kernel
theorem D102_50 : decode (byt 102) 50 = .ok (.ireturn, 1) := by decide +kernel
theorem D102_51 : decode (byt 102) 51 = .ok (.aload_n 0, 1) := by decide +kernel
theorem D102_52 : decode (byt 102) 52 = .ok (.getfield 12, 3) := by decide +kernel
theorem D102_55 : decode (byt 102) 55 = .ok (.invokevirtual 172, 3) := by decide +kernel
theorem D102_58 : decode (byt 102) 58 = .ok (.astore_n 2, 1) := by decide +kernel
theorem D102_59 : decode (byt 102) 59 = .ok (.aload_n 0, 1) := by decide +kernel
theorem D102_60 : decode (byt 102) 60 = .ok (.getfield 16, 3) := by decide +kernel
theorem D102_63 : decode (byt 102) 63 = .ok (.invokevirtual 172, 3) := by decide +kernel
theorem D102_66 : decode (byt 102) 66 = .ok (.astore_n 3, 1) := by decide +kernel
theorem D102_67 : decode (byt 102) 67 = .ok (.iload_n 1, 1) := by decide +kernel
theorem D102_68 : decode (byt 102) 68 = .ok (.ifCond .eq 11, 3) := by decide +kernel
theorem D102_71 : decode (byt 102) 71 = .ok (.aload_n 3, 1) := by decide +kernel
theorem D102_72 : decode (byt 102) 72 = .ok (.aload_n 2, 1) := by decide +kernel
theorem D102_73 : decode (byt 102) 73 = .ok (.invokevirtual 229, 3) := by decide +kernel
theorem D102_76 : decode (byt 102) 76 = .ok (.goto 8, 3) := by decide +kernel
theorem D102_79 : decode (byt 102) 79 = .ok (.aload_n 2, 1) := by decide +kernel
theorem D102_80 : decode (byt 102) 80 = .ok (.aload_n 3, 1) := by decide +kernel
theorem D102_81 : decode (byt 102) 81 = .ok (.invokevirtual 229, 3) := by decide +kernel
theorem D102_84 : decode (byt 102) 84 = .ok (.ireturn, 1) := by decide +kernel
theorem D103_0 : decode (byt 103) 0 = .ok (.aload_n 0, 1) := by decide +kernel
theorem D103_1 : decode (byt 103) 1 = .ok (.getfield 12, 3) := by decide +kernel
theorem D103_4 : decode (byt 103) 4 = .ok (.getfield 63, 3) := by decide +kernel
theorem D103_7 : decode (byt 103) 7 = .ok (.aload_n 0, 1) := by decide +kernel
theorem D103_8 : decode (byt 103) 8 = .ok (.getfield 16, 3) := by decide +kernel
theorem D103_11 : decode (byt 103) 11 = .ok (.getfield 63, 3) := by decide +kernel
theorem D103_14 : decode (byt 103) 14 = .ok (.if_icmp .eq 10, 3) := by decide +kernel
theorem D103_17 : decode (byt 103) 17 = .ok (.aload_n 0, 1) := by decide +kernel
theorem D103_18 : decode (byt 103) 18 = .ok (.bipush (-7), 2) := by decide +kernel
theorem D103_20 : decode (byt 103) 20 = .ok (.invokevirtual 59, 3) := by decide +kernel
theorem D103_23 : decode (byt 103) 23 = .ok (.ireturn, 1) := by decide +kernel
theorem D103_24 : decode (byt 103) 24 = .ok (.aload_n 0, 1) := by decide +kernel
theorem D103_25 : decode (byt 103) 25 = .ok (.getfield 12, 3) := by decide +kernel
theorem D103_28 : decode (byt 103) 28 = .ok (.getfield 84, 3) := by decide +kernel
theorem D103_31 : decode (byt 103) 31 = .ok (.aload_n 0, 1) := by decide +kernel
theorem D103_32 : decode (byt 103) 32 = .ok (.getfield 16, 3) := by decide +kernel
theorem D103_35 : decode (byt 103) 35 = .ok (.getfield 84, 3) := by decide +kernel
theorem D103_38 : decode (byt 103) 38 = .ok (.iadd, 1) := by decide +kernel
theorem D103_39 : decode (byt 103) 39 = .ok (.bipush 40, 2) := by decide +kernel
theorem D103_41 : decode (byt 103) 41 = .ok (.if_icmp .le 10, 3) := by decide +kernel
theorem D103_44 : decode (byt 103) 44 = .ok (.aload_n 0, 1) := by decide +kernel
theorem D103_45 : decode (byt 103) 45 = .ok (.bipush (-8), 2) := by decide +kernel
theorem D103_47 : decode (byt 103) 47 = .ok (.invokevirtual 59, 3) := by decide +kernel
theorem D103_50 : decode (byt 103) 50 = .ok (.ireturn, 1) := by decide +kernel
theorem D103_51 : decode (byt 103) 51 = .ok (.iconst 0, 1) := by decide +kernel
theorem D103_52 : decode (byt 103) 52 = .ok (.istore_n 1, 1) := by decide +kernel
theorem D103_53 : decode (byt 103) 53 = .ok (.iload_n 1, 1) := by decide +kernel
theorem D103_54 : decode (byt 103) 54 = .ok (.aload_n 0, 1) := by decide +kernel
theorem D103_55 : decode (byt 103) 55 = .ok (.getfield 16, 3) := by decide +kernel
theorem D103_58 : decode (byt 103) 58 = .ok (.getfield 84, 3) := by decide +kernel
theorem D103_61 : decode (byt 103) 61 = .ok (.if_icmp .ge 24, 3) := by decide +kernel
theorem D103_64 : decode (byt 103) 64 = .ok (.aload_n 0, 1) := by decide +kernel
theorem D103_65 : decode (byt 103) 65 = .ok (.getfield 12, 3) := by decide +kernel
theorem D103_68 : decode (byt 103) 68 = .ok (.aload_n 0, 1) := by decide +kernel
theorem D103_69 : decode (byt 103) 69 = .ok (.getfield 16, 3) := by decide +kernel
theorem D103_72 : decode (byt 103) 72 = .ok (.iload_n 1, 1) := by decide +kernel
theorem D103_73 : decode (byt 103) 73 = .ok (.invokevirtual 87, 3) := by decide +kernel
theorem D103_76 : decode (byt 103) 76 = .ok (.invokevirtual 233, 3) := by decide +kernel
theorem D103_79 : decode (byt 103) 79 = .ok (.iinc 1 1, 3) := by decide +kernel
theorem D103_82 : decode (byt 103) 82 = .ok (.goto (-29), 3) := by decide +kernel
theorem D103_85 : decode (byt 103) 85 = .ok (.aload_n 0, 1) := by decide +kernel
theorem D103_86 : decode (byt 103) 86 = .ok (.getfield 12, 3) := by decide +kernel
theorem D103_89 : decode (byt 103) 89 = .ok (.getfield 84, 3) := by decide +kernel
theorem D103_92 : decode (byt 103) 92 = .ok (.ireturn, 1) := by decide +kernel
theorem D104_0 : decode (byt 104) 0 = .ok (.aload_n 0, 1) := by decide +kernel
theorem D104_1 : decode (byt 104) 1 = .ok (.iload_n 1, 1) := by decide +kernel
theorem D104_2 : decode (byt 104) 2 = .ok (.invokevirtual 55, 3) := by decide +kernel
theorem D104_5 : decode (byt 104) 5 = .ok (.astore_n 3, 1) := by decide +kernel
theorem D104_6 : decode (byt 104) 6 = .ok (.aload_n 3, 1) := by decide +kernel
theorem D104_7 : decode (byt 104) 7 = .ok (.ifnull 15, 3) := by decide +kernel
theorem D104_10 : decode (byt 104) 10 = .ok (.iload_n 2, 1) := by decide +kernel
theorem D104_11 : decode (byt 104) 11 = .ok (.ifCond .lt 11, 3) := by decide +kernel
theorem D104_14 : decode (byt 104) 14 = .ok (.iload_n 2, 1) := by decide +kernel
theorem D104_15 : decode (byt 104) 15 = .ok (.aload_n 3, 1) := by decide +kernel
theorem D104_16 : decode (byt 104) 16 = .ok (.getfield 84, 3) := by decide +kernel
theorem D104_19 : decode (byt 104) 19 = .ok (.if_icmp .lt 10, 3) := by decide +kernel
theorem D104_22 : decode (byt 104) 22 = .ok (.aload_n 0, 1) := by decide +kernel
theorem D104_23 : decode (byt 104) 23 = .ok (.bipush (-3), 2) := by decide +kernel
theorem D104_25 : decode (byt 104) 25 = .ok (.invokevirtual 59, 3) := by decide +kernel
theorem D104_28 : decode (byt 104) 28 = .ok (.ireturn, 1) := by decide +kernel
theorem D104_29 : decode (byt 104) 29 = .ok (.aload_n 3, 1) := by decide +kernel
theorem D104_30 : decode (byt 104) 30 = .ok (.iload_n 2, 1) := by decide +kernel
theorem D104_31 : decode (byt 104) 31 = .ok (.invokevirtual 87, 3) := by decide +kernel
theorem D104_34 : decode (byt 104) 34 = .ok (.istore 4, 2) := by decide +kernel
theorem D104_36 : decode (byt 104) 36 = .ok (.aload_n 0, 1) := by decide +kernel
theorem D104_37 : decode (byt 104) 37 = .ok (.iconst 0, 1) := by decide +kernel
theorem D104_38 : decode (byt 104) 38 = .ok (.putfield 44, 3) := by decide +kernel
theorem D104_41 : decode (byt 104) 41 = .ok (.aload_n 0, 1) := by decide +kernel
theorem D104_42 : decode (byt 104) 42 = .ok (.iconst 1, 1) := by decide +kernel
theorem D104_43 : decode (byt 104) 43 = .ok (.putfield 48, 3) := by decide +kernel
theorem D104_46 : decode (byt 104) 46 = .ok (.iconst 1, 1) := by decide +kernel
theorem D104_47 : decode (byt 104) 47 = .ok (.istore 5, 2) := by decide +kernel
theorem D104_49 : decode (byt 104) 49 = .ok (.iload 5, 2) := by decide +kernel
theorem D104_51 : decode (byt 104) 51 = .ok (.bipush 12, 2) := by decide +kernel
theorem D104_53 : decode (byt 104) 53 = .ok (.if_icmp .gt 48, 3) := by decide +kernel
theorem D104_56 : decode (byt 104) 56 = .ok (.iload 4, 2) := by decide +kernel
theorem D104_58 : decode (byt 104) 58 = .ok (.iload 5, 2) := by decide +kernel
theorem D104_60 : decode (byt 104) 60 = .ok (.invokestatic 74, 3) := by decide +kernel
theorem D104_63 : decode (byt 104) 63 = .ok (.iand, 1) := by decide +kernel
theorem D104_64 : decode (byt 104) 64 = .ok (.ifCond .eq 12, 3) := by decide +kernel
theorem D104_67 : decode (byt 104) 67 = .ok (.aload_n 0, 1) := by decide +kernel
theorem D104_68 : decode (byt 104) 68 = .ok (.iload 5, 2) := by decide +kernel
theorem D104_70 : decode (byt 104) 70 = .ok (.invokevirtual 236, 3) := by decide +kernel
theorem D104_73 : decode (byt 104) 73 = .ok (.goto 22, 3) := by decide +kernel
theorem D104_76 : decode (byt 104) 76 = .ok (.iload 4, 2) := by decide +kernel
theorem D104_78 : decode (byt 104) 78 = .ok (.iload 5, 2) := by decide +kernel
theorem D104_80 : decode (byt 104) 80 = .ok (.ineg, 1) := by decide +kernel
theorem D104_81 : decode (byt 104) 81 = .ok (.invokestatic 74, 3) := by decide +kernel
theorem D104_84 : decode (byt 104) 84 = .ok (.iand, 1) := by decide +kernel
theorem D104_85 : decode (byt 104) 85 = .ok (.ifCond .eq 10, 3) := by decide +kernel
theorem D104_88 : decode (byt 104) 88 = .ok (.aload_n 0, 1) := by decide +kernel
theorem D104_89 : decode (byt 104) 89 = .ok (.iload 5, 2) := by decide +kernel
theorem D104_91 : decode (byt 104) 91 = .ok (.ineg, 1) := by decide +kernel
theorem D104_92 : decode (byt 104) 92 = .ok (.invokevirtual 236, 3) := by decide +kernel
theorem D104_95 : decode (byt 104) 95 = .ok (.iinc 5 1, 3) := by decide +kernel
theorem D104_98 : decode (byt 104) 98 = .ok (.goto (-49), 3) := by decide +kernel
theorem D104_101 : decode (byt 104) 101 = .ok (.aload_n 0, 1) := by decide +kernel
theorem D104_102 : decode (byt 104) 102 = .ok (.getfield 44, 3) := by decide +kernel
theorem D104_105 : decode (byt 104) 105 = .ok (.ireturn, 1) := by decide +kernel
theorem D105_0 : decode (byt 105) 0 = .ok (.aload_n 0, 1) := by decide +kernel
theorem D105_1 : decode (byt 105) 1 = .ok (.getfield 48, 3) := by decide +kernel
theorem D105_4 : decode (byt 105) 4 = .ok (.istore_n 1, 1) := by decide +kernel
theorem D105_5 : decode (byt 105) 5 = .ok (.aload_n 0, 1) := by decide +kernel
theorem D105_6 : decode (byt 105) 6 = .ok (.iconst 0, 1) := by decide +kernel
theorem D105_7 : decode (byt 105) 7 = .ok (.putfield 48, 3) := by decide +kernel
theorem D105_10 : decode (byt 105) 10 = .ok (.iload_n 1, 1) := by decide +kernel
theorem D105_11 : decode (byt 105) 11 = .ok (.ifCond .eq 7, 3) := by decide +kernel
theorem D105_14 : decode (byt 105) 14 = .ok (.iconst 1, 1) := by decide +kernel
theorem D105_15 : decode (byt 105) 15 = .ok (.goto 4, 3) := by decide +kernel
theorem D105_18 : decode (byt 105) 18 = .ok (.iconst 0, 1) := by decide +kernel
theorem D105_19 : decode (byt 105) 19 = .ok (.ireturn, 1) := by decide +kernel
theorem D106_0 : decode (byt 106) 0 = .ok (.aload_n 0, 1) := by decide +kernel
theorem D106_1 : decode (byt 106) 1 = .ok (.getfield 48, 3) := by decide +kernel
theorem D106_4 : decode (byt 106) 4 = .ok (.ifCond .ne 12, 3) := by decide +kernel
theorem D106_7 : decode (byt 106) 7 = .ok (.aload_n 0, 1) := by decide +kernel
theorem D106_8 : decode (byt 106) 8 = .ok (.bipush (-2), 2) := by decide +kernel
theorem D106_10 : decode (byt 106) 10 = .ok (.invokevirtual 59, 3) := by decide +kernel
theorem D106_13 : decode (byt 106) 13 = .ok (.pop, 1) := by decide +kernel
theorem D106_14 : decode (byt 106) 14 = .ok (.iconst 0, 1) := by decide +kernel
theorem D106_15 : decode (byt 106) 15 = .ok (.ireturn, 1) := by decide +kernel
theorem D106_16 : decode (byt 106) 16 = .ok (.iload_n 1, 1) := by decide +kernel
theorem D106_17 : decode (byt 106) 17 = .ok (.ifCond .lt 11, 3) := by decide +kernel
theorem D106_20 : decode (byt 106) 20 = .ok (.iload_n 1, 1) := by decide +kernel
theorem D106_21 : decode (byt 106) 21 = .ok (.aload_n 0, 1) := by decide +kernel
theorem D106_22 : decode (byt 106) 22 = .ok (.getfield 44, 3) := by decide +kernel
theorem D106_25 : decode (byt 106) 25 = .ok (.if_icmp .lt 12, 3) := by decide +kernel
theorem D106_28 : decode (byt 106) 28 = .ok (.aload_n 0, 1) := by decide +kernel
theorem D106_29 : decode (byt 106) 29 = .ok (.bipush (-3), 2) := by decide +kernel
theorem D106_31 : decode (byt 106) 31 = .ok (.invokevirtual 59, 3) := by decide +kernel
theorem D106_34 : decode (byt 106) 34 = .ok (.pop, 1) := by decide +kernel
theorem D106_35 : decode (byt 106) 35 = .ok (.iconst 0, 1) := by decide +kernel
theorem D106_36 : decode (byt 106) 36 = .ok (.ireturn, 1) := by decide +kernel
theorem D106_37 : decode (byt 106) 37 = .ok (.aload_n 0, 1) := by decide +kernel
theorem D106_38 : decode (byt 106) 38 = .ok (.getfield 37, 3) := by decide +kernel
theorem D106_41 : decode (byt 106) 41 = .ok (.iload_n 1, 1) := by decide +kernel
theorem D106_42 : decode (byt 106) 42 = .ok (.iaload, 1) := by decide +kernel
theorem D106_43 : decode (byt 106) 43 = .ok (.ireturn, 1) := by decide +kernel
theorem D107_0 : decode (byt 107) 0 = .ok (.aload_n 0, 1) := by decide +kernel
theorem D107_1 : decode (byt 107) 1 = .ok (.getfield 48, 3) := by decide +kernel
theorem D107_4 : decode (byt 107) 4 = .ok (.ifCond .ne 10, 3) := by decide +kernel
theorem D107_7 : decode (byt 107) 7 = .ok (.aload_n 0, 1) := by decide +kernel
theorem D107_8 : decode (byt 107) 8 = .ok (.bipush (-2), 2) := by decide +kernel
theorem D107_10 : decode (byt 107) 10 = .ok (.invokevirtual 59, 3) := by decide +kernel
theorem D107_13 : decode (byt 107) 13 = .ok (.ireturn, 1) := by decide +kernel
theorem D107_14 : decode (byt 107) 14 = .ok (.iload_n 3, 1) := by decide +kernel
theorem D107_15 : decode (byt 107) 15 = .ok (.ifCond .ge 10, 3) := by decide +kernel
theorem D107_18 : decode (byt 107) 18 = .ok (.aload_n 0, 1) := by decide +kernel
theorem D107_19 : decode (byt 107) 19 = .ok (.bipush (-4), 2) := by decide +kernel
theorem D107_21 : decode (byt 107) 21 = .ok (.invokevirtual 59, 3) := by decide +kernel
theorem D107_24 : decode (byt 107) 24 = .ok (.ireturn, 1) := by decide +kernel
theorem D107_25 : decode (byt 107) 25 = .ok (.iload_n 3, 1) := by decide +kernel
theorem D107_26 : decode (byt 107) 26 = .ok (.aload_n 0, 1) := by decide +kernel
theorem D107_27 : decode (byt 107) 27 = .ok (.getfield 44, 3) := by decide +kernel
theorem D107_30 : decode (byt 107) 30 = .ok (.if_icmp .gt 31, 3) := by decide +kernel
theorem D107_33 : decode (byt 107) 33 = .ok (.iload_n 1, 1) := by decide +kernel
theorem D107_34 : decode (byt 107) 34 = .ok (.ifCond .lt 27, 3) := by decide +kernel
theorem D107_37 : decode (byt 107) 37 = .ok (.iload_n 2, 1) := by decide +kernel
theorem D107_38 : decode (byt 107) 38 = .ok (.ifCond .lt 23, 3) := by decide +kernel
theorem D107_41 : decode (byt 107) 41 = .ok (.iload_n 1, 1) := by decide +kernel
theorem D107_42 : decode (byt 107) 42 = .ok (.aload_n 0, 1) := by decide +kernel
theorem D107_43 : decode (byt 107) 43 = .ok (.getfield 44, 3) := by decide +kernel
theorem D107_46 : decode (byt 107) 46 = .ok (.iload_n 3, 1) := by decide +kernel
theorem D107_47 : decode (byt 107) 47 = .ok (.isub, 1) := by decide +kernel
theorem D107_48 : decode (byt 107) 48 = .ok (.if_icmp .gt 13, 3) := by decide +kernel
theorem D107_51 : decode (byt 107) 51 = .ok (.iload_n 2, 1) := by decide +kernel
theorem D107_52 : decode (byt 107) 52 = .ok (.aload_n 0, 1) := by decide +kernel
theorem D107_53 : decode (byt 107) 53 = .ok (.getfield 44, 3) := by decide +kernel
theorem D107_56 : decode (byt 107) 56 = .ok (.iload_n 3, 1) := by decide +kernel
theorem D107_57 : decode (byt 107) 57 = .ok (.isub, 1) := by decide +kernel
theorem D107_58 : decode (byt 107) 58 = .ok (.if_icmp .le 10, 3) := by decide +kernel
theorem D107_61 : decode (byt 107) 61 = .ok (.aload_n 0, 1) := by decide +kernel
theorem D107_62 : decode (byt 107) 62 = .ok (.bipush (-6), 2) := by decide +kernel
theorem D107_64 : decode (byt 107) 64 = .ok (.invokevirtual 59, 3) := by decide +kernel
theorem D107_67 : decode (byt 107) 67 = .ok (.ireturn, 1) := by decide +kernel
theorem D107_68 : decode (byt 107) 68 = .ok (.aload_n 0, 1) := by decide +kernel
theorem D107_69 : decode (byt 107) 69 = .ok (.getfield 37, 3) := by decide +kernel
theorem D107_72 : decode (byt 107) 72 = .ok (.iload_n 1, 1) := by decide +kernel
theorem D107_73 : decode (byt 107) 73 = .ok (.aload_n 0, 1) := by decide +kernel
theorem D107_74 : decode (byt 107) 74 = .ok (.getfield 37, 3) := by decide +kernel
theorem D107_77 : decode (byt 107) 77 = .ok (.iload_n 2, 1) := by decide +kernel
theorem D107_78 : decode (byt 107) 78 = .ok (.iload_n 3, 1) := by decide +kernel
theorem D107_79 : decode (byt 107) 79 = .ok (.invokestatic 239, 3) := by decide +kernel
theorem D107_82 : decode (byt 107) 82 = .ok (.iload_n 3, 1) := by decide +kernel
theorem D107_83 : decode (byt 107) 83 = .ok (.ireturn, 1) := by decide +kernel
theorem D108_0 : decode (byt 108) 0 = .ok (.aload_n 0, 1) := by decide +kernel
theorem D108_1 : decode (byt 108) 1 = .ok (.iload_n 1, 1) := by decide +kernel
theorem D108_2 : decode (byt 108) 2 = .ok (.invokevirtual 55, 3) := by decide +kernel
theorem D108_5 : decode (byt 108) 5 = .ok (.astore_n 2, 1) := by decide +kernel
theorem D108_6 : decode (byt 108) 6 = .ok (.aload_n 2, 1) := by decide +kernel
theorem D108_7 : decode (byt 108) 7 = .ok (.ifnonnull 10, 3) := by decide +kernel
theorem D108_10 : decode (byt 108) 10 = .ok (.aload_n 0, 1) := by decide +kernel
theorem D108_11 : decode (byt 108) 11 = .ok (.bipush (-3), 2) := by decide +kernel
theorem D108_13 : decode (byt 108) 13 = .ok (.invokevirtual 59, 3) := by decide +kernel
theorem D108_16 : decode (byt 108) 16 = .ok (.ireturn, 1) := by decide +kernel
theorem D108_17 : decode (byt 108) 17 = .ok (.aload_n 0, 1) := by decide +kernel
theorem D108_18 : decode (byt 108) 18 = .ok (.getfield 48, 3) := by decide +kernel
theorem D108_21 : decode (byt 108) 21 = .ok (.ifCond .ne 10, 3) := by decide +kernel
theorem D108_24 : decode (byt 108) 24 = .ok (.aload_n 0, 1) := by decide +kernel
theorem D108_25 : decode (byt 108) 25 = .ok (.bipush (-2), 2) := by decide +kernel
theorem D108_27 : decode (byt 108) 27 = .ok (.invokevirtual 59, 3) := by decide +kernel
theorem D108_30 : decode (byt 108) 30 = .ok (.ireturn, 1) := by decide +kernel
theorem D108_31 : decode (byt 108) 31 = .ok (.iconst 0, 1) := by decide +kernel
theorem D108_32 : decode (byt 108) 32 = .ok (.istore_n 3, 1) := by decide +kernel
theorem D108_33 : decode (byt 108) 33 = .ok (.iconst 0, 1) := by decide +kernel
theorem D108_34 : decode (byt 108) 34 = .ok (.istore 4, 2) := by decide +kernel
theorem D108_36 : decode (byt 108) 36 = .ok (.iload 4, 2) := by decide +kernel
theorem D108_38 : decode (byt 108) 38 = .ok (.aload_n 0, 1) := by decide +kernel
theorem D108_39 : decode (byt 108) 39 = .ok (.getfield 44, 3) := by decide +kernel
theorem D108_42 : decode (byt 108) 42 = .ok (.if_icmp .ge 43, 3) := by decide +kernel
theorem D108_45 : decode (byt 108) 45 = .ok (.aload_n 2, 1) := by decide +kernel
theorem D108_46 : decode (byt 108) 46 = .ok (.aload_n 0, 1) := by decide +kernel
theorem D108_47 : decode (byt 108) 47 = .ok (.getfield 37, 3) := by decide +kernel
theorem D108_50 : decode (byt 108) 50 = .ok (.iload 4, 2) := by decide +kernel
theorem D108_52 : decode (byt 108) 52 = .ok (.iaload, 1) := by decide +kernel
theorem D108_53 : decode (byt 108) 53 = .ok (.invokevirtual 81, 3) := by decide +kernel
theorem D108_56 : decode (byt 108) 56 = .ok (.ifCond .ne 10, 3) := by decide +kernel
theorem D108_59 : decode (byt 108) 59 = .ok (.aload_n 0, 1) := by decide +kernel
theorem D108_60 : decode (byt 108) 60 = .ok (.bipush (-3), 2) := by decide +kernel
theorem D108_62 : decode (byt 108) 62 = .ok (.invokevirtual 59, 3) := by decide +kernel
theorem D108_65 : decode (byt 108) 65 = .ok (.ireturn, 1) := by decide +kernel
theorem D108_66 : decode (byt 108) 66 = .ok (.iload_n 3, 1) := by decide +kernel
theorem D108_67 : decode (byt 108) 67 = .ok (.aload_n 0, 1) := by decide +kernel
theorem D108_68 : decode (byt 108) 68 = .ok (.getfield 37, 3) := by decide +kernel
theorem D108_71 : decode (byt 108) 71 = .ok (.iload 4, 2) := by decide +kernel
theorem D108_73 : decode (byt 108) 73 = .ok (.iaload, 1) := by decide +kernel
theorem D108_74 : decode (byt 108) 74 = .ok (.invokestatic 74, 3) := by decide +kernel
theorem D108_77 : decode (byt 108) 77 = .ok (.ior, 1) := by decide +kernel
theorem D108_78 : decode (byt 108) 78 = .ok (.istore_n 3, 1) := by decide +kernel
theorem D108_79 : decode (byt 108) 79 = .ok (.iinc 4 1, 3) := by decide +kernel
theorem D108_82 : decode (byt 108) 82 = .ok (.goto (-46), 3) := by decide +kernel
theorem D108_85 : decode (byt 108) 85 = .ok (.aload_n 0, 1) := by decide +kernel
theorem D108_86 : decode (byt 108) 86 = .ok (.aload_n 2, 1) := by decide +kernel
theorem D108_87 : decode (byt 108) 87 = .ok (.iload_n 3, 1) := by decide +kernel
theorem D108_88 : decode (byt 108) 88 = .ok (.invokevirtual 77, 3) := by decide +kernel
theorem D108_91 : decode (byt 108) 91 = .ok (.ireturn, 1) := by decide +kernel
theorem D109_0 : decode (byt 109) 0 = .ok (.iload_n 1, 1) := by decide +kernel
theorem D109_1 : decode (byt 109) 1 = .ok (.bipush (-2), 2) := by decide +kernel
theorem D109_3 : decode (byt 109) 3 = .ok (.if_icmp .gt 9, 3) := by decide +kernel
theorem D109_6 : decode (byt 109) 6 = .ok (.iload_n 1, 1) := by decide +kernel
theorem D109_7 : decode (byt 109) 7 = .ok (.bipush (-9), 2) := by decide +kernel
theorem D109_9 : decode (byt 109) 9 = .ok (.if_icmp .ge 10, 3) := by decide +kernel
theorem D109_12 : decode (byt 109) 12 = .ok (.aload_n 0, 1) := by decide +kernel
theorem D109_13 : decode (byt 109) 13 = .ok (.bipush (-7), 2) := by decide +kernel
theorem D109_15 : decode (byt 109) 15 = .ok (.invokevirtual 59, 3) := by decide +kernel
theorem D109_18 : decode (byt 109) 18 = .ok (.ireturn, 1) := by decide +kernel
theorem D109_19 : decode (byt 109) 19 = .ok (.aload_n 0, 1) := by decide +kernel
theorem D109_20 : decode (byt 109) 20 = .ok (.getfield 41, 3) := by decide +kernel
theorem D109_23 : decode (byt 109) 23 = .ok (.iload_n 1, 1) := by decide +kernel
theorem D109_24 : decode (byt 109) 24 = .ok (.ineg, 1) := by decide +kernel
theorem D109_25 : decode (byt 109) 25 = .ok (.iaload, 1) := by decide +kernel
theorem D109_26 : decode (byt 109) 26 = .ok (.ireturn, 1) := by decide +kernel
theorem D110_0 : decode (byt 110) 0 = .ok (.iload_n 1, 1) := by decide +kernel
theorem D110_1 : decode (byt 110) 1 = .ok (.ifCond .ne 8, 3) := by decide +kernel
theorem D110_4 : decode (byt 110) 4 = .ok (.aload_n 0, 1) := by decide +kernel
theorem D110_5 : decode (byt 110) 5 = .ok (.getfield 12, 3) := by decide +kernel
theorem D110_8 : decode (byt 110) 8 = .ok (.areturn, 1) := by decide +kernel
theorem D110_9 : decode (byt 110) 9 = .ok (.iload_n 1, 1) := by decide +kernel
theorem D110_10 : decode (byt 110) 10 = .ok (.iconst 1, 1) := by decide +kernel
theorem D110_11 : decode (byt 110) 11 = .ok (.if_icmp .ne 10, 3) := by decide +kernel
theorem D110_14 : decode (byt 110) 14 = .ok (.aload_n 0, 1) := by decide +kernel
theorem D110_15 : decode (byt 110) 15 = .ok (.getfield 16, 3) := by decide +kernel
theorem D110_18 : decode (byt 110) 18 = .ok (.goto 4, 3) := by decide +kernel
theorem D110_21 : decode (byt 110) 21 = .ok (.aconst_null, 1) := by decide +kernel
theorem D110_22 : decode (byt 110) 22 = .ok (.areturn, 1) := by decide +kernel
theorem D111_0 : decode (byt 111) 0 = .ok (.iload_n 1, 1) := by decide +kernel
theorem D111_1 : decode (byt 111) 1 = .ok (.bipush (-2), 2) := by decide +kernel
theorem D111_3 : decode (byt 111) 3 = .ok (.if_icmp .gt 20, 3) := by decide +kernel
theorem D111_6 : decode (byt 111) 6 = .ok (.iload_n 1, 1) := by decide +kernel
theorem D111_7 : decode (byt 111) 7 = .ok (.bipush (-9), 2) := by decide +kernel
theorem D111_9 : decode (byt 111) 9 = .ok (.if_icmp .lt 14, 3) := by decide +kernel
theorem D111_12 : decode (byt 111) 12 = .ok (.aload_n 0, 1) := by decide +kernel
theorem D111_13 : decode (byt 111) 13 = .ok (.getfield 41, 3) := by decide +kernel
theorem D111_16 : decode (byt 111) 16 = .ok (.iload_n 1, 1) := by decide +kernel
theorem D111_17 : decode (byt 111) 17 = .ok (.ineg, 1) := by decide +kernel
theorem D111_18 : decode (byt 111) 18 = .ok (.dup2, 1) := by decide +kernel
theorem D111_19 : decode (byt 111) 19 = .ok (.iaload, 1) := by decide +kernel
theorem D111_20 : decode (byt 111) 20 = .ok (.iconst 1, 1) := by decide +kernel
theorem D111_21 : decode (byt 111) 21 = .ok (.iadd, 1) := by decide +kernel
theorem D111_22 : decode (byt 111) 22 = .ok (.iastore, 1) := by decide +kernel
theorem D111_23 : decode (byt 111) 23 = .ok (.iload_n 1, 1) := by decide +kernel
theorem D111_24 : decode (byt 111) 24 = .ok (.ireturn, 1) := by decide +kernel
theorem D112_0 : decode (byt 112) 0 = .ok (.aload_n 0, 1) := by decide +kernel
theorem D112_1 : decode (byt 112) 1 = .ok (.iload_n 1, 1) := by decide +kernel
theorem D112_2 : decode (byt 112) 2 = .ok (.invokevirtual 59, 3) := by decide +kernel
theorem D112_5 : decode (byt 112) 5 = .ok (.pop, 1) := by decide +kernel
theorem D112_6 : decode (byt 112) 6 = .ok (.lconst 0, 1) := by decide +kernel
theorem D112_7 : decode (byt 112) 7 = .ok (.lreturn, 1) := by decide +kernel
theorem D113_0 : decode (byt 113) 0 = .ok (.iload_n 2, 1) := by decide +kernel
theorem D113_1 : decode (byt 113) 1 = .ok (.ifCond .eq 16, 3) := by decide +kernel
theorem D113_4 : decode (byt 113) 4 = .ok (.iload_n 2, 1) := by decide +kernel
theorem D113_5 : decode (byt 113) 5 = .ok (.iload_n 2, 1) := by decide +kernel
theorem D113_6 : decode (byt 113) 6 = .ok (.bipush 12, 2) := by decide +kernel
theorem D113_8 : decode (byt 113) 8 = .ok (.ishr, 1) := by decide +kernel
theorem D113_9 : decode (byt 113) 9 = .ok (.iand, 1) := by decide +kernel
theorem D113_10 : decode (byt 113) 10 = .ok (.sipush 4095, 3) := by decide +kernel
theorem D113_13 : decode (byt 113) 13 = .ok (.iand, 1) := by decide +kernel
theorem D113_14 : decode (byt 113) 14 = .ok (.ifCond .eq 10, 3) := by decide +kernel
theorem D113_17 : decode (byt 113) 17 = .ok (.aload_n 0, 1) := by decide +kernel
theorem D113_18 : decode (byt 113) 18 = .ok (.bipush (-7), 2) := by decide +kernel
theorem D113_20 : decode (byt 113) 20 = .ok (.invokevirtual 59, 3) := by decide +kernel
theorem D113_23 : decode (byt 113) 23 = .ok (.ireturn, 1) := by decide +kernel
theorem D113_24 : decode (byt 113) 24 = .ok (.aload_n 1, 1) := by decide +kernel
theorem D113_25 : decode (byt 113) 25 = .ok (.getfield 84, 3) := by decide +kernel
theorem D113_28 : decode (byt 113) 28 = .ok (.bipush 40, 2) := by decide +kernel
theorem D113_30 : decode (byt 113) 30 = .ok (.if_icmp .lt 10, 3) := by decide +kernel
theorem D113_33 : decode (byt 113) 33 = .ok (.aload_n 0, 1) := by decide +kernel
theorem D113_34 : decode (byt 113) 34 = .ok (.bipush (-8), 2) := by decide +kernel
theorem D113_36 : decode (byt 113) 36 = .ok (.invokevirtual 59, 3) := by decide +kernel
theorem D113_39 : decode (byt 113) 39 = .ok (.ireturn, 1) := by decide +kernel
theorem D113_40 : decode (byt 113) 40 = .ok (.aload_n 1, 1) := by decide +kernel
theorem D113_41 : decode (byt 113) 41 = .ok (.iload_n 2, 1) := by decide +kernel
theorem D113_42 : decode (byt 113) 42 = .ok (.invokevirtual 233, 3) := by decide +kernel
theorem D113_45 : decode (byt 113) 45 = .ok (.aload_n 1, 1) := by decide +kernel
theorem D113_46 : decode (byt 113) 46 = .ok (.getfield 84, 3) := by decide +kernel
theorem D113_49 : decode (byt 113) 49 = .ok (.iconst 1, 1) := by decide +kernel
theorem D113_50 : decode (byt 113) 50 = .ok (.isub, 1) := by decide +kernel
theorem D113_51 : decode (byt 113) 51 = .ok (.ireturn, 1) := by decide +kernel
theorem D114_0 : decode (byt 114) 0 = .ok (.aload_n 0, 1) := by decide +kernel
theorem D114_1 : decode (byt 114) 1 = .ok (.getfield 44, 3) := by decide +kernel
theorem D114_4 : decode (byt 114) 4 = .ok (.aload_n 0, 1) := by decide +kernel
theorem D114_5 : decode (byt 114) 5 = .ok (.getfield 37, 3) := by decide +kernel
theorem D114_8 : decode (byt 114) 8 = .ok (.arraylength, 1) := by decide +kernel
theorem D114_9 : decode (byt 114) 9 = .ok (.if_icmp .ge 23, 3) := by decide +kernel
theorem D114_12 : decode (byt 114) 12 = .ok (.aload_n 0, 1) := by decide +kernel
theorem D114_13 : decode (byt 114) 13 = .ok (.getfield 37, 3) := by decide +kernel
theorem D114_16 : decode (byt 114) 16 = .ok (.aload_n 0, 1) := by decide +kernel
theorem D114_17 : decode (byt 114) 17 = .ok (.getfield 44, 3) := by decide +kernel
theorem D114_20 : decode (byt 114) 20 = .ok (.iload_n 1, 1) := by decide +kernel
theorem D114_21 : decode (byt 114) 21 = .ok (.iastore, 1) := by decide +kernel
theorem D114_22 : decode (byt 114) 22 = .ok (.aload_n 0, 1) := by decide +kernel
theorem D114_23 : decode (byt 114) 23 = .ok (.dup, 1) := by decide +kernel
theorem D114_24 : decode (byt 114) 24 = .ok (.getfield 44, 3) := by decide +kernel
theorem D114_27 : decode (byt 114) 27 = .ok (.iconst 1, 1) := by decide +kernel
theorem D114_28 : decode (byt 114) 28 = .ok (.iadd, 1) := by decide +kernel
theorem D114_29 : decode (byt 114) 29 = .ok (.putfield 44, 3) := by decide +kernel
theorem D114_32 : decode (byt 114) 32 = .ok (.return_, 1) := by decide +kernel
theorem D115_0 : decode (byt 115) 0 = .ok (.lconst 0, 1) := by decide +kernel
theorem D115_1 : decode (byt 115) 1 = .ok (.lstore_n 2, 1) := by decide +kernel
theorem D115_2 : decode (byt 115) 2 = .ok (.iconst 0, 1) := by decide +kernel
theorem D115_3 : decode (byt 115) 3 = .ok (.istore 4, 2) := by decide +kernel
theorem D115_5 : decode (byt 115) 5 = .ok (.iload 4, 2) := by decide +kernel
theorem D115_7 : decode (byt 115) 7 = .ok (.aload_n 0, 1) := by decide +kernel
theorem D115_8 : decode (byt 115) 8 = .ok (.getfield 26, 3) := by decide +kernel
theorem D115_11 : decode (byt 115) 11 = .ok (.arraylength, 1) := by decide +kernel
theorem D115_12 : decode (byt 115) 12 = .ok (.if_icmp .ge 37, 3) := by decide +kernel
theorem D115_15 : decode (byt 115) 15 = .ok (.iload 4, 2) := by decide +kernel
theorem D115_17 : decode (byt 115) 17 = .ok (.aload_n 1, 1) := by decide +kernel
theorem D115_18 : decode (byt 115) 18 = .ok (.getfield 245, 3) := by decide +kernel
theorem D115_21 : decode (byt 115) 21 = .ok (.if_icmp .ge 28, 3) := by decide +kernel
theorem D115_24 : decode (byt 115) 24 = .ok (.aload_n 1, 1) := by decide +kernel
theorem D115_25 : decode (byt 115) 25 = .ok (.iload 4, 2) := by decide +kernel
theorem D115_27 : decode (byt 115) 27 = .ok (.invokevirtual 182, 3) := by decide +kernel
theorem D115_30 : decode (byt 115) 30 = .ok (.ifCond .eq 13, 3) := by decide +kernel
theorem D115_33 : decode (byt 115) 33 = .ok (.lload_n 2, 1) := by decide +kernel
theorem D115_34 : decode (byt 115) 34 = .ok (.aload_n 0, 1) := by decide +kernel
theorem D115_35 : decode (byt 115) 35 = .ok (.getfield 26, 3) := by decide +kernel
theorem D115_38 : decode (byt 115) 38 = .ok (.iload 4, 2) := by decide +kernel
theorem D115_40 : decode (byt 115) 40 = .ok (.laload, 1) := by decide +kernel
theorem D115_41 : decode (byt 115) 41 = .ok (.ladd, 1) := by decide +kernel
theorem D115_42 : decode (byt 115) 42 = .ok (.lstore_n 2, 1) := by decide +kernel
theorem D115_43 : decode (byt 115) 43 = .ok (.iinc 4 1, 3) := by decide +kernel
theorem D115_46 : decode (byt 115) 46 = .ok (.goto (-41), 3) := by decide +kernel
theorem D115_49 : decode (byt 115) 49 = .ok (.lload_n 2, 1) := by decide +kernel
theorem D115_50 : decode (byt 115) 50 = .ok (.lreturn, 1) := by decide +kernel
theorem D116_0 : decode (byt 116) 0 = .ok (.iconst (-1), 1) := by decide +kernel
theorem D116_1 : decode (byt 116) 1 = .ok (.istore_n 3, 1) := by decide +kernel
theorem D116_2 : decode (byt 116) 2 = .ok (.lconst 0, 1) := by decide +kernel
theorem D116_3 : decode (byt 116) 3 = .ok (.lstore 4, 2) := by decide +kernel
theorem D116_5 : decode (byt 116) 5 = .ok (.iconst 0, 1) := by decide +kernel
theorem D116_6 : decode (byt 116) 6 = .ok (.istore 6, 2) := by decide +kernel
theorem D116_8 : decode (byt 116) 8 = .ok (.iload 6, 2) := by decide +kernel
theorem D116_10 : decode (byt 116) 10 = .ok (.aload_n 0, 1) := by decide +kernel
theorem D116_11 : decode (byt 116) 11 = .ok (.getfield 26, 3) := by decide +kernel
theorem D116_14 : decode (byt 116) 14 = .ok (.arraylength, 1) := by decide +kernel
theorem D116_15 : decode (byt 116) 15 = .ok (.if_icmp .ge 88, 3) := by decide +kernel
theorem D116_18 : decode (byt 116) 18 = .ok (.iload 6, 2) := by decide +kernel
theorem D116_20 : decode (byt 116) 20 = .ok (.aload_n 1, 1) := by decide +kernel
theorem D116_21 : decode (byt 116) 21 = .ok (.getfield 245, 3) := by decide +kernel
theorem D116_24 : decode (byt 116) 24 = .ok (.if_icmp .ge 79, 3) := by decide +kernel
theorem D116_27 : decode (byt 116) 27 = .ok (.aload_n 0, 1) := by decide +kernel
theorem D116_28 : decode (byt 116) 28 = .ok (.getfield 26, 3) := by decide +kernel
theorem D116_31 : decode (byt 116) 31 = .ok (.iload 6, 2) := by decide +kernel
theorem D116_33 : decode (byt 116) 33 = .ok (.laload, 1) := by decide +kernel
theorem D116_34 : decode (byt 116) 34 = .ok (.lstore 7, 2) := by decide +kernel
theorem D116_36 : decode (byt 116) 36 = .ok (.iload_n 2, 1) := by decide +kernel
theorem D116_37 : decode (byt 116) 37 = .ok (.ifCond .eq 19, 3) := by decide +kernel
theorem D116_40 : decode (byt 116) 40 = .ok (.lload 7, 2) := by decide +kernel
theorem D116_42 : decode (byt 116) 42 = .ok (.lload 4, 2) := by decide +kernel
theorem D116_44 : decode (byt 116) 44 = .ok (.lcmp, 1) := by decide +kernel
theorem D116_45 : decode (byt 116) 45 = .ok (.ifCond .ge 7, 3) := by decide +kernel
theorem D116_48 : decode (byt 116) 48 = .ok (.iconst 1, 1) := by decide +kernel
theorem D116_49 : decode (byt 116) 49 = .ok (.goto 20, 3) := by decide +kernel
theorem D116_52 : decode (byt 116) 52 = .ok (.iconst 0, 1) := by decide +kernel
theorem D116_53 : decode (byt 116) 53 = .ok (.goto 16, 3) := by decide +kernel
theorem D116_56 : decode (byt 116) 56 = .ok (.lload 7, 2) := by decide +kernel
theorem D116_58 : decode (byt 116) 58 = .ok (.lload 4, 2) := by decide +kernel
theorem D116_60 : decode (byt 116) 60 = .ok (.lcmp, 1) := by decide +kernel
theorem D116_61 : decode (byt 116) 61 = .ok (.ifCond .le 7, 3) := by decide +kernel
theorem D116_64 : decode (byt 116) 64 = .ok (.iconst 1, 1) := by decide +kernel
theorem D116_65 : decode (byt 116) 65 = .ok (.goto 4, 3) := by decide +kernel
theorem D116_68 : decode (byt 116) 68 = .ok (.iconst 0, 1) := by decide +kernel
theorem D116_69 : decode (byt 116) 69 = .ok (.istore 9, 2) := by decide +kernel
theorem D116_71 : decode (byt 116) 71 = .ok (.aload_n 1, 1) := by decide +kernel
theorem D116_72 : decode (byt 116) 72 = .ok (.iload 6, 2) := by decide +kernel
theorem D116_74 : decode (byt 116) 74 = .ok (.invokevirtual 182, 3) := by decide +kernel
theorem D116_77 : decode (byt 116) 77 = .ok (.ifCond .eq 20, 3) := by decide +kernel
theorem D116_80 : decode (byt 116) 80 = .ok (.iload_n 3, 1) := by decide +kernel
theorem D116_81 : decode (byt 116) 81 = .ok (.iconst (-1), 1) := by decide +kernel
theorem D116_82 : decode (byt 116) 82 = .ok (.if_icmp .eq 8, 3) := by decide +kernel
theorem D116_85 : decode (byt 116) 85 = .ok (.iload 9, 2) := by decide +kernel
theorem D116_87 : decode (byt 116) 87 = .ok (.ifCond .eq 10, 3) := by decide +kernel
theorem D116_90 : decode (byt 116) 90 = .ok (.iload 6, 2) := by decide +kernel
theorem D116_92 : decode (byt 116) 92 = .ok (.istore_n 3, 1) := by decide +kernel
theorem D116_93 : decode (byt 116) 93 = .ok (.lload 7, 2) := by decide +kernel
theorem D116_95 : decode (byt 116) 95 = .ok (.lstore 4, 2) := by decide +kernel
theorem D116_97 : decode (byt 116) 97 = .ok (.iinc 6 1, 3) := by decide +kernel
theorem D116_100 : decode (byt 116) 100 = .ok (.goto (-92), 3) := by decide +kernel
theorem D116_103 : decode (byt 116) 103 = .ok (.iload_n 3, 1) := by decide +kernel
theorem D116_104 : decode (byt 116) 104 = .ok (.ireturn, 1) := by decide +kernel
theorem D117_0 : decode (byt 117) 0 = .ok (.lload_n 0, 1) := by decide +kernel
theorem D117_1 : decode (byt 117) 1 = .ok (.lstore 4, 2) := by decide +kernel
theorem D117_3 : decode (byt 117) 3 = .ok (.lload_n 2, 1) := by decide +kernel
theorem D117_4 : decode (byt 117) 4 = .ok (.lstore 6, 2) := by decide +kernel
theorem D117_6 : decode (byt 117) 6 = .ok (.iconst 0, 1) := by decide +kernel
theorem D117_7 : decode (byt 117) 7 = .ok (.istore 8, 2) := by decide +kernel
theorem D117_9 : decode (byt 117) 9 = .ok (.iload 8, 2) := by decide +kernel
theorem D117_11 : decode (byt 117) 11 = .ok (.sipush 200, 3) := by decide +kernel
theorem D117_14 : decode (byt 117) 14 = .ok (.if_icmp .ge 31, 3) := by decide +kernel
theorem D117_17 : decode (byt 117) 17 = .ok (.lload 6, 2) := by decide +kernel
theorem D117_19 : decode (byt 117) 19 = .ok (.lconst 0, 1) := by decide +kernel
theorem D117_20 : decode (byt 117) 20 = .ok (.lcmp, 1) := by decide +kernel
theorem D117_21 : decode (byt 117) 21 = .ok (.ifCond .eq 24, 3) := by decide +kernel
theorem D117_24 : decode (byt 117) 24 = .ok (.lload 4, 2) := by decide +kernel
theorem D117_26 : decode (byt 117) 26 = .ok (.lload 6, 2) := by decide +kernel
theorem D117_28 : decode (byt 117) 28 = .ok (.lrem, 1) := by decide +kernel
theorem D117_29 : decode (byt 117) 29 = .ok (.lstore 9, 2) := by decide +kernel
theorem D117_31 : decode (byt 117) 31 = .ok (.lload 6, 2) := by decide +kernel
theorem D117_33 : decode (byt 117) 33 = .ok (.lstore 4, 2) := by decide +kernel
theorem D117_35 : decode (byt 117) 35 = .ok (.lload 9, 2) := by decide +kernel
theorem D117_37 : decode (byt 117) 37 = .ok (.lstore 6, 2) := by decide +kernel
theorem D117_39 : decode (byt 117) 39 = .ok (.iinc 8 1, 3) := by decide +kernel
theorem D117_42 : decode (byt 117) 42 = .ok (.goto (-33), 3) := by decide +kernel
theorem D117_45 : decode (byt 117) 45 = .ok (.lload 4, 2) := by decide +kernel
theorem D117_47 : decode (byt 117) 47 = .ok (.lreturn, 1) := by decide +kernel
theorem D118_0 : decode (byt 118) 0 = .ok (.iload_n 0, 1) := by decide +kernel
theorem D118_1 : decode (byt 118) 1 = .ok (.ifCond .le 9, 3) := by decide +kernel
theorem D118_4 : decode (byt 118) 4 = .ok (.iload_n 0, 1) := by decide +kernel
theorem D118_5 : decode (byt 118) 5 = .ok (.iconst 1, 1) := by decide +kernel
theorem D118_6 : decode (byt 118) 6 = .ok (.isub, 1) := by decide +kernel
theorem D118_7 : decode (byt 118) 7 = .ok (.goto 7, 3) := by decide +kernel
theorem D118_10 : decode (byt 118) 10 = .ok (.bipush 11, 2) := by decide +kernel
theorem D118_12 : decode (byt 118) 12 = .ok (.iload_n 0, 1) := by decide +kernel
theorem D118_13 : decode (byt 118) 13 = .ok (.isub, 1) := by decide +kernel
theorem D118_14 : decode (byt 118) 14 = .ok (.ireturn, 1) := by decide +kernel
theorem D119_0 : decode (byt 119) 0 = .ok (.iload_n 0, 1) := by decide +kernel
theorem D119_1 : decode (byt 119) 1 = .ok (.ifCond .ne 7, 3) := by decide +kernel
theorem D119_4 : decode (byt 119) 4 = .ok (.iconst 0, 1) := by decide +kernel
theorem D119_5 : decode (byt 119) 5 = .ok (.goto 9, 3) := by decide +kernel
theorem D119_8 : decode (byt 119) 8 = .ok (.iconst 1, 1) := by decide +kernel
theorem D119_9 : decode (byt 119) 9 = .ok (.iload_n 0, 1) := by decide +kernel
theorem D119_10 : decode (byt 119) 10 = .ok (.invokestatic 248, 3) := by decide +kernel
theorem D119_13 : decode (byt 119) 13 = .ok (.ishl, 1) := by decide +kernel
theorem D119_14 : decode (byt 119) 14 = .ok (.ireturn, 1) := by decide +kernel
theorem D120_0 : decode (byt 120) 0 = .ok (.iload_n 0, 1) := by decide +kernel
theorem D120_1 : decode (byt 120) 1 = .ok (.sipush 4095, 3) := by decide +kernel
theorem D120_4 : decode (byt 120) 4 = .ok (.if_icmp .gt 10, 3) := by decide +kernel
theorem D120_7 : decode (byt 120) 7 = .ok (.iload_n 0, 1) := by decide +kernel
theorem D120_8 : decode (byt 120) 8 = .ok (.bipush 12, 2) := by decide +kernel
theorem D120_10 : decode (byt 120) 10 = .ok (.ishl, 1) := by decide +kernel
theorem D120_11 : decode (byt 120) 11 = .ok (.goto 7, 3) := by decide +kernel
theorem D120_14 : decode (byt 120) 14 = .ok (.iload_n 0, 1) := by decide +kernel
theorem D120_15 : decode (byt 120) 15 = .ok (.bipush 12, 2) := by decide +kernel
theorem D120_17 : decode (byt 120) 17 = .ok (.ishr, 1) := by decide +kernel
theorem D120_18 : decode (byt 120) 18 = .ok (.ireturn, 1) := by decide +kernel
theorem D121_0 : decode (byt 121) 0 = .ok (.iload_n 0, 1) := by decide +kernel
theorem D121_1 : decode (byt 121) 1 = .ok (.iload_n 0, 1) := by decide +kernel
theorem D121_2 : decode (byt 121) 2 = .ok (.bipush 12, 2) := by decide +kernel
theorem D121_4 : decode (byt 121) 4 = .ok (.ishr, 1) := by decide +kernel
theorem D121_5 : decode (byt 121) 5 = .ok (.ior, 1) := by decide +kernel
theorem D121_6 : decode (byt 121) 6 = .ok (.sipush 4095, 3) := by decide +kernel
theorem D121_9 : decode (byt 121) 9 = .ok (.iand, 1) := by decide +kernel
theorem D121_10 : decode (byt 121) 10 = .ok (.ireturn, 1) := by decide +kernel
theorem D122_0 : decode (byt 122) 0 = .ok (.iload_n 1, 1) := by decide +kernel
theorem D122_1 : decode (byt 122) 1 = .ok (.iload_n 0, 1) := by decide +kernel
theorem D122_2 : decode (byt 122) 2 = .ok (.invokestatic 251, 3) := by decide +kernel
theorem D122_5 : decode (byt 122) 5 = .ok (.isub, 1) := by decide +kernel
theorem D122_6 : decode (byt 122) 6 = .ok (.istore_n 3, 1) := by decide +kernel
theorem D122_7 : decode (byt 122) 7 = .ok (.lconst 0, 1) := by decide +kernel
theorem D122_8 : decode (byt 122) 8 = .ok (.lstore 4, 2) := by decide +kernel
theorem D122_10 : decode (byt 122) 10 = .ok (.iload_n 3, 1) := by decide +kernel
theorem D122_11 : decode (byt 122) 11 = .ok (.ifCond .lt 21, 3) := by decide +kernel
theorem D122_14 : decode (byt 122) 14 = .ok (.iload_n 3, 1) := by decide +kernel
theorem D122_15 : decode (byt 122) 15 = .ok (.getstatic 256, 3) := by decide +kernel
theorem D122_18 : decode (byt 122) 18 = .ok (.arraylength, 1) := by decide +kernel
theorem D122_19 : decode (byt 122) 19 = .ok (.if_icmp .ge 13, 3) := by decide +kernel
theorem D122_22 : decode (byt 122) 22 = .ok (.getstatic 256, 3) := by decide +kernel
theorem D122_25 : decode (byt 122) 25 = .ok (.iload_n 3, 1) := by decide +kernel
theorem D122_26 : decode (byt 122) 26 = .ok (.laload, 1) := by decide +kernel
theorem D122_27 : decode (byt 122) 27 = .ok (.lstore 4, 2) := by decide +kernel
theorem D122_29 : decode (byt 122) 29 = .ok (.goto 21, 3) := by decide +kernel
theorem D122_32 : decode (byt 122) 32 = .ok (.iload_n 2, 1) := by decide +kernel
theorem D122_33 : decode (byt 122) 33 = .ok (.iload_n 3, 1) := by decide +kernel
theorem D122_34 : decode (byt 122) 34 = .ok (.getstatic 256, 3) := by decide +kernel
theorem D122_37 : decode (byt 122) 37 = .ok (.arraylength, 1) := by decide +kernel
theorem D122_38 : decode (byt 122) 38 = .ok (.isub, 1) := by decide +kernel
theorem D122_39 : decode (byt 122) 39 = .ok (.ishr, 1) := by decide +kernel
theorem D122_40 : decode (byt 122) 40 = .ok (.iconst 1, 1) := by decide +kernel
theorem D122_41 : decode (byt 122) 41 = .ok (.iand, 1) := by decide +kernel
theorem D122_42 : decode (byt 122) 42 = .ok (.ifCond .eq 8, 3) := by decide +kernel
theorem D122_45 : decode (byt 122) 45 = .ok (.ldc2_w 259, 3) := by decide +kernel
theorem D122_48 : decode (byt 122) 48 = .ok (.lstore 4, 2) := by decide +kernel
theorem D122_50 : decode (byt 122) 50 = .ok (.iload_n 0, 1) := by decide +kernel
theorem D122_51 : decode (byt 122) 51 = .ok (.ifCond .le 8, 3) := by decide +kernel
theorem D122_54 : decode (byt 122) 54 = .ok (.lload 4, 2) := by decide +kernel
theorem D122_56 : decode (byt 122) 56 = .ok (.goto 9, 3) := by decide +kernel
theorem D122_59 : decode (byt 122) 59 = .ok (.lload 4, 2) := by decide +kernel
theorem D122_61 : decode (byt 122) 61 = .ok (.ldc2_w 259, 3) := by decide +kernel
theorem D122_64 : decode (byt 122) 64 = .ok (.lxor, 1) := by decide +kernel
theorem D122_65 : decode (byt 122) 65 = .ok (.lreturn, 1) := by decide +kernel
theorem D203_0 : decode (byt 203) 0 = .ok (.iload_n 0, 1) := by decide +kernel
theorem D203_1 : decode (byt 203) 1 = .ok (.iload_n 0, 1) := by decide +kernel
theorem D203_2 : decode (byt 203) 2 = .ok (.iconst 1, 1) := by decide +kernel
theorem D203_3 : decode (byt 203) 3 = .ok (.iushr, 1) := by decide +kernel
theorem D203_4 : decode (byt 203) 4 = .ok (.ldc_w 265, 3) := by decide +kernel
theorem D203_7 : decode (byt 203) 7 = .ok (.iand, 1) := by decide +kernel
theorem D203_8 : decode (byt 203) 8 = .ok (.isub, 1) := by decide +kernel
theorem D203_9 : decode (byt 203) 9 = .ok (.istore_n 0, 1) := by decide +kernel
theorem D203_10 : decode (byt 203) 10 = .ok (.iload_n 0, 1) := by decide +kernel
theorem D203_11 : decode (byt 203) 11 = .ok (.ldc_w 266, 3) := by decide +kernel
theorem D203_14 : decode (byt 203) 14 = .ok (.iand, 1) := by decide +kernel
theorem D203_15 : decode (byt 203) 15 = .ok (.iload_n 0, 1) := by decide +kernel
theorem D203_16 : decode (byt 203) 16 = .ok (.iconst 2, 1) := by decide +kernel
theorem D203_17 : decode (byt 203) 17 = .ok (.iushr, 1) := by decide +kernel
theorem D203_18 : decode (byt 203) 18 = .ok (.ldc_w 266, 3) := by decide +kernel
theorem D203_21 : decode (byt 203) 21 = .ok (.iand, 1) := by decide +kernel
theorem D203_22 : decode (byt 203) 22 = .ok (.iadd, 1) := by decide +kernel
theorem D203_23 : decode (byt 203) 23 = .ok (.istore_n 0, 1) := by decide +kernel
theorem D203_24 : decode (byt 203) 24 = .ok (.iload_n 0, 1) := by decide +kernel
theorem D203_25 : decode (byt 203) 25 = .ok (.iload_n 0, 1) := by decide +kernel
theorem D203_26 : decode (byt 203) 26 = .ok (.iconst 4, 1) := by decide +kernel
theorem D203_27 : decode (byt 203) 27 = .ok (.iushr, 1) := by decide +kernel
theorem D203_28 : decode (byt 203) 28 = .ok (.iadd, 1) := by decide +kernel
theorem D203_29 : decode (byt 203) 29 = .ok (.ldc_w 267, 3) := by decide +kernel
theorem D203_32 : decode (byt 203) 32 = .ok (.iand, 1) := by decide +kernel
theorem D203_33 : decode (byt 203) 33 = .ok (.istore_n 0, 1) := by decide +kernel
theorem D203_34 : decode (byt 203) 34 = .ok (.iload_n 0, 1) := by decide +kernel
theorem D203_35 : decode (byt 203) 35 = .ok (.iload_n 0, 1) := by decide +kernel
theorem D203_36 : decode (byt 203) 36 = .ok (.bipush 8, 2) := by decide +kernel
theorem D203_38 : decode (byt 203) 38 = .ok (.iushr, 1) := by decide +kernel
theorem D203_39 : decode (byt 203) 39 = .ok (.iadd, 1) := by decide +kernel
theorem D203_40 : decode (byt 203) 40 = .ok (.istore_n 0, 1) := by decide +kernel
theorem D203_41 : decode (byt 203) 41 = .ok (.iload_n 0, 1) := by decide +kernel
theorem D203_42 : decode (byt 203) 42 = .ok (.iload_n 0, 1) := by decide +kernel
theorem D203_43 : decode (byt 203) 43 = .ok (.bipush 16, 2) := by decide +kernel
theorem D203_45 : decode (byt 203) 45 = .ok (.iushr, 1) := by decide +kernel
theorem D203_46 : decode (byt 203) 46 = .ok (.iadd, 1) := by decide +kernel
theorem D203_47 : decode (byt 203) 47 = .ok (.istore_n 0, 1) := by decide +kernel
theorem D203_48 : decode (byt 203) 48 = .ok (.iload_n 0, 1) := by decide +kernel
theorem D203_49 : decode (byt 203) 49 = .ok (.bipush 63, 2) := by decide +kernel
theorem D203_51 : decode (byt 203) 51 = .ok (.iand, 1) := by decide +kernel
theorem D203_52 : decode (byt 203) 52 = .ok (.ireturn, 1) := by decide +kernel
theorem D204_0 : decode (byt 204) 0 = .ok (.lload_n 0, 1) := by decide +kernel
theorem D204_1 : decode (byt 204) 1 = .ok (.lload_n 0, 1) := by decide +kernel
theorem D204_2 : decode (byt 204) 2 = .ok (.iconst 1, 1) := by decide +kernel
theorem D204_3 : decode (byt 204) 3 = .ok (.lushr, 1) := by decide +kernel
theorem D204_4 : decode (byt 204) 4 = .ok (.ldc2_w 314, 3) := by decide +kernel
theorem D204_7 : decode (byt 204) 7 = .ok (.land, 1) := by decide +kernel
theorem D204_8 : decode (byt 204) 8 = .ok (.lsub, 1) := by decide +kernel
theorem D204_9 : decode (byt 204) 9 = .ok (.lstore_n 0, 1) := by decide +kernel
theorem D204_10 : decode (byt 204) 10 = .ok (.lload_n 0, 1) := by decide +kernel
theorem D204_11 : decode (byt 204) 11 = .ok (.ldc2_w 316, 3) := by decide +kernel
theorem D204_14 : decode (byt 204) 14 = .ok (.land, 1) := by decide +kernel
theorem D204_15 : decode (byt 204) 15 = .ok (.lload_n 0, 1) := by decide +kernel
theorem D204_16 : decode (byt 204) 16 = .ok (.iconst 2, 1) := by decide +kernel
theorem D204_17 : decode (byt 204) 17 = .ok (.lushr, 1) := by decide +kernel
theorem D204_18 : decode (byt 204) 18 = .ok (.ldc2_w 316, 3) := by decide +kernel
theorem D204_21 : decode (byt 204) 21 = .ok (.land, 1) := by decide +kernel
theorem D204_22 : decode (byt 204) 22 = .ok (.ladd, 1) := by decide +kernel
theorem D204_23 : decode (byt 204) 23 = .ok (.lstore_n 0, 1) := by decide +kernel
theorem D204_24 : decode (byt 204) 24 = .ok (.lload_n 0, 1) := by decide +kernel
theorem D204_25 : decode (byt 204) 25 = .ok (.lload_n 0, 1) := by decide +kernel
theorem D204_26 : decode (byt 204) 26 = .ok (.iconst 4, 1) := by decide +kernel
theorem D204_27 : decode (byt 204) 27 = .ok (.lushr, 1) := by decide +kernel
theorem D204_28 : decode (byt 204) 28 = .ok (.ladd, 1) := by decide +kernel
theorem D204_29 : decode (byt 204) 29 = .ok (.ldc2_w 318, 3) := by decide +kernel
theorem D204_32 : decode (byt 204) 32 = .ok (.land, 1) := by decide +kernel
theorem D204_33 : decode (byt 204) 33 = .ok (.lstore_n 0, 1) := by decide +kernel
theorem D204_34 : decode (byt 204) 34 = .ok (.lload_n 0, 1) := by decide +kernel
theorem D204_35 : decode (byt 204) 35 = .ok (.lload_n 0, 1) := by decide +kernel
theorem D204_36 : decode (byt 204) 36 = .ok (.bipush 8, 2) := by decide +kernel
theorem D204_38 : decode (byt 204) 38 = .ok (.lushr, 1) := by decide +kernel
theorem D204_39 : decode (byt 204) 39 = .ok (.ladd, 1) := by decide +kernel
theorem D204_40 : decode (byt 204) 40 = .ok (.lstore_n 0, 1) := by decide +kernel
theorem D204_41 : decode (byt 204) 41 = .ok (.lload_n 0, 1) := by decide +kernel
theorem D204_42 : decode (byt 204) 42 = .ok (.lload_n 0, 1) := by decide +kernel
theorem D204_43 : decode (byt 204) 43 = .ok (.bipush 16, 2) := by decide +kernel
theorem D204_45 : decode (byt 204) 45 = .ok (.lushr, 1) := by decide +kernel
theorem D204_46 : decode (byt 204) 46 = .ok (.ladd, 1) := by decide +kernel
theorem D204_47 : decode (byt 204) 47 = .ok (.lstore_n 0, 1) := by decide +kernel
theorem D204_48 : decode (byt 204) 48 = .ok (.lload_n 0, 1) := by decide +kernel
theorem D204_49 : decode (byt 204) 49 = .ok (.lload_n 0, 1) := by decide +kernel
theorem D204_50 : decode (byt 204) 50 = .ok (.bipush 32, 2) := by decide +kernel
theorem D204_52 : decode (byt 204) 52 = .ok (.lushr, 1) := by decide +kernel
theorem D204_53 : decode (byt 204) 53 = .ok (.ladd, 1) := by decide +kernel
theorem D204_54 : decode (byt 204) 54 = .ok (.lstore_n 0, 1) := by decide +kernel
theorem D204_55 : decode (byt 204) 55 = .ok (.lload_n 0, 1) := by decide +kernel
theorem D204_56 : decode (byt 204) 56 = .ok (.l2i, 1) := by decide +kernel
theorem D204_57 : decode (byt 204) 57 = .ok (.bipush 127, 2) := by decide +kernel
theorem D204_59 : decode (byt 204) 59 = .ok (.iand, 1) := by decide +kernel
theorem D204_60 : decode (byt 204) 60 = .ok (.ireturn, 1) := by decide +kernel
theorem D205_0 : decode (byt 205) 0 = .ok (.iload_n 0, 1) := by decide +kernel
theorem D205_1 : decode (byt 205) 1 = .ok (.ifCond .ge 8, 3) := by decide +kernel
theorem D205_4 : decode (byt 205) 4 = .ok (.iload_n 0, 1) := by decide +kernel
theorem D205_5 : decode (byt 205) 5 = .ok (.ineg, 1) := by decide +kernel
theorem D205_6 : decode (byt 205) 6 = .ok (.goto 4, 3) := by decide +kernel
theorem D205_9 : decode (byt 205) 9 = .ok (.iload_n 0, 1) := by decide +kernel
theorem D205_10 : decode (byt 205) 10 = .ok (.ireturn, 1) := by decide +kernel
theorem D206_0 : decode (byt 206) 0 = .ok (.iload_n 0, 1) := by decide +kernel
theorem D206_1 : decode (byt 206) 1 = .ok (.iload_n 1, 1) := by decide +kernel
theorem D206_2 : decode (byt 206) 2 = .ok (.if_icmp .lt 7, 3) := by decide +kernel
theorem D206_5 : decode (byt 206) 5 = .ok (.iload_n 0, 1) := by decide +kernel
theorem D206_6 : decode (byt 206) 6 = .ok (.goto 4, 3) := by decide +kernel
theorem D206_9 : decode (byt 206) 9 = .ok (.iload_n 1, 1) := by decide +kernel
theorem D206_10 : decode (byt 206) 10 = .ok (.ireturn, 1) := by decide +kernel
theorem D207_0 : decode (byt 207) 0 = .ok (.iload_n 0, 1) := by decide +kernel
theorem D207_1 : decode (byt 207) 1 = .ok (.iload_n 1, 1) := by decide +kernel
theorem D207_2 : decode (byt 207) 2 = .ok (.if_icmp .gt 7, 3) := by decide +kernel
theorem D207_5 : decode (byt 207) 5 = .ok (.iload_n 0, 1) := by decide +kernel
theorem D207_6 : decode (byt 207) 6 = .ok (.goto 4, 3) := by decide +kernel
theorem D207_9 : decode (byt 207) 9 = .ok (.iload_n 1, 1) := by decide +kernel
theorem D207_10 : decode (byt 207) 10 = .ok (.ireturn, 1) := by decide +kernel
end
section
theorem D123_0 : decode (byt 123) 0 = .ok (.aload_n 0, 1) := by decide +kernel
theorem D123_1 : decode (byt 123) 1 = .ok (.invokespecial 1, 3) := by decide +kernel
theorem D123_4 : decode (byt 123) 4 = .ok (.aload_n 0, 1) := by decide +kernel
theorem D123_5 : decode (byt 123) 5 = .ok (.iconst 2, 1) := by decide +kernel
theorem D123_6 : decode (byt 123) 6 = .ok (.newarray .int, 2) := by decide +kernel
theorem D123_8 : decode (byt 123) 8 = .ok (.dup, 1) := by decide +kernel
theorem D123_9 : decode (byt 123) 9 = .ok (.iconst 0, 1) := by decide +kernel
theorem D123_10 : decode (byt 123) 10 = .ok (.bipush 8, 2) := by decide +kernel
theorem D123_12 : decode (byt 123) 12 = .ok (.iastore, 1) := by decide +kernel
theorem D123_13 : decode (byt 123) 13 = .ok (.dup, 1) := by decide +kernel
theorem D123_14 : decode (byt 123) 14 = .ok (.iconst 1, 1) := by decide +kernel
theorem D123_15 : decode (byt 123) 15 = .ok (.bipush 8, 2) := by decide +kernel
theorem D123_17 : decode (byt 123) 17 = .ok (.iastore, 1) := by decide +kernel
theorem D123_18 : decode (byt 123) 18 = .ok (.putfield 7, 3) := by decide +kernel
theorem D123_21 : decode (byt 123) 21 = .ok (.aload_n 0, 1) := by decide +kernel
theorem D123_22 : decode (byt 123) 22 = .ok (.bipush 80, 2) := by decide +kernel
theorem D123_24 : decode (byt 123) 24 = .ok (.newarray .int, 2) := by decide +kernel
theorem D123_26 : decode (byt 123) 26 = .ok (.putfield 13, 3) := by decide +kernel
theorem D123_29 : decode (byt 123) 29 = .ok (.aload_n 0, 1) := by decide +kernel
theorem D123_30 : decode (byt 123) 30 = .ok (.iconst 2, 1) := by decide +kernel
theorem D123_31 : decode (byt 123) 31 = .ok (.newarray .int, 2) := by decide +kernel
theorem D123_33 : decode (byt 123) 33 = .ok (.putfield 16, 3) := by decide +kernel
theorem D123_36 : decode (byt 123) 36 = .ok (.aload_n 0, 1) := by decide +kernel
theorem D123_37 : decode (byt 123) 37 = .ok (.iconst 2, 1) := by decide +kernel
theorem D123_38 : decode (byt 123) 38 = .ok (.newarray .int, 2) := by decide +kernel
theorem D123_40 : decode (byt 123) 40 = .ok (.putfield 19, 3) := by decide +kernel
theorem D123_43 : decode (byt 123) 43 = .ok (.aload_n 0, 1) := by decide +kernel
theorem D123_44 : decode (byt 123) 44 = .ok (.iconst 2, 1) := by decide +kernel
theorem D123_45 : decode (byt 123) 45 = .ok (.newarray .int, 2) := by decide +kernel
theorem D123_47 : decode (byt 123) 47 = .ok (.putfield 22, 3) := by decide +kernel
theorem D123_50 : decode (byt 123) 50 = .ok (.aload_n 0, 1) := by decide +kernel
theorem D123_51 : decode (byt 123) 51 = .ok (.iconst 2, 1) := by decide +kernel
theorem D123_52 : decode (byt 123) 52 = .ok (.newarray .int, 2) := by decide +kernel
theorem D123_54 : decode (byt 123) 54 = .ok (.putfield 25, 3) := by decide +kernel
theorem D123_57 : decode (byt 123) 57 = .ok (.aload_n 0, 1) := by decide +kernel
theorem D123_58 : decode (byt 123) 58 = .ok (.bipush 48, 2) := by decide +kernel
theorem D123_60 : decode (byt 123) 60 = .ok (.newarray .int, 2) := by decide +kernel
theorem D123_62 : decode (byt 123) 62 = .ok (.putfield 28, 3) := by decide +kernel
theorem D123_65 : decode (byt 123) 65 = .ok (.aload_n 0, 1) := by decide +kernel
theorem D123_66 : decode (byt 123) 66 = .ok (.bipush 10, 2) := by decide +kernel
theorem D123_68 : decode (byt 123) 68 = .ok (.newarray .int, 2) := by decide +kernel
theorem D123_70 : decode (byt 123) 70 = .ok (.putfield 31, 3) := by decide +kernel
theorem D123_73 : decode (byt 123) 73 = .ok (.aload_n 0, 1) := by decide +kernel
theorem D123_74 : decode (byt 123) 74 = .ok (.iconst 2, 1) := by decide +kernel
theorem D123_75 : decode (byt 123) 75 = .ok (.newarray .int, 2) := by decide +kernel
theorem D123_77 : decode (byt 123) 77 = .ok (.putfield 34, 3) := by decide +kernel
theorem D123_80 : decode (byt 123) 80 = .ok (.aload_n 0, 1) := by decide +kernel
theorem D123_81 : decode (byt 123) 81 = .ok (.iconst 2, 1) := by decide +kernel
theorem D123_82 : decode (byt 123) 82 = .ok (.newarray .int, 2) := by decide +kernel
theorem D123_84 : decode (byt 123) 84 = .ok (.putfield 37, 3) := by decide +kernel
theorem D123_87 : decode (byt 123) 87 = .ok (.aload_n 0, 1) := by decide +kernel
theorem D123_88 : decode (byt 123) 88 = .ok (.iconst 2, 1) := by decide +kernel
theorem D123_89 : decode (byt 123) 89 = .ok (.newarray .int, 2) := by decide +kernel
theorem D123_91 : decode (byt 123) 91 = .ok (.putfield 40, 3) := by decide +kernel
theorem D123_94 : decode (byt 123) 94 = .ok (.aload_n 0, 1) := by decide +kernel
theorem D123_95 : decode (byt 123) 95 = .ok (.sipush 3000, 3) := by decide +kernel
theorem D123_98 : decode (byt 123) 98 = .ok (.newarray .int, 2) := by decide +kernel
theorem D123_100 : decode (byt 123) 100 = .ok (.putfield 43, 3) := by decide +kernel
theorem D123_103 : decode (byt 123) 103 = .ok (.aload_n 0, 1) := by decide +kernel
theorem D123_104 : decode (byt 123) 104 = .ok (.sipush 3000, 3) := by decide +kernel
theorem D123_107 : decode (byt 123) 107 = .ok (.newarray .int, 2) := by decide +kernel
theorem D123_109 : decode (byt 123) 109 = .ok (.putfield 46, 3) := by decide +kernel
theorem D123_112 : decode (byt 123) 112 = .ok (.aload_n 0, 1) := by decide +kernel
theorem D123_113 : decode (byt 123) 113 = .ok (.sipush 3000, 3) := by decide +kernel
theorem D123_116 : decode (byt 123) 116 = .ok (.newarray .int, 2) := by decide +kernel
theorem D123_118 : decode (byt 123) 118 = .ok (.putfield 49, 3) := by decide +kernel
theorem D123_121 : decode (byt 123) 121 = .ok (.aload_n 0, 1) := by decide +kernel
theorem D123_122 : decode (byt 123) 122 = .ok (.sipush 3000, 3) := by decide +kernel
theorem D123_125 : decode (byt 123) 125 = .ok (.newarray .int, 2) := by decide +kernel
theorem D123_127 : decode (byt 123) 127 = .ok (.putfield 52, 3) := by decide +kernel
theorem D123_130 : decode (byt 123) 130 = .ok (.aload_n 0, 1) := by decide +kernel
theorem D123_131 : decode (byt 123) 131 = .ok (.ldc 55, 2) := by decide +kernel
theorem D123_133 : decode (byt 123) 133 = .ok (.newarray .int, 2) := by decide +kernel
theorem D123_135 : decode (byt 123) 135 = .ok (.putfield 56, 3) := by decide +kernel
theorem D123_138 : decode (byt 123) 138 = .ok (.aload_n 0, 1) := by decide +kernel
theorem D123_139 : decode (byt 123) 139 = .ok (.iconst 2, 1) := by decide +kernel
theorem D123_140 : decode (byt 123) 140 = .ok (.newarray .int, 2) := by decide +kernel
theorem D123_142 : decode (byt 123) 142 = .ok (.putfield 59, 3) := by decide +kernel
theorem D123_145 : decode (byt 123) 145 = .ok (.aload_n 0, 1) := by decide +kernel
theorem D123_146 : decode (byt 123) 146 = .ok (.bipush 24, 2) := by decide +kernel
theorem D123_148 : decode (byt 123) 148 = .ok (.newarray .int, 2) := by decide +kernel
theorem D123_150 : decode (byt 123) 150 = .ok (.putfield 62, 3) := by decide +kernel
theorem D123_153 : decode (byt 123) 153 = .ok (.aload_n 0, 1) := by decide +kernel
theorem D123_154 : decode (byt 123) 154 = .ok (.sipush 560, 3) := by decide +kernel
theorem D123_157 : decode (byt 123) 157 = .ok (.newarray .int, 2) := by decide +kernel
theorem D123_159 : decode (byt 123) 159 = .ok (.putfield 65, 3) := by decide +kernel
theorem D123_162 : decode (byt 123) 162 = .ok (.aload_n 0, 1) := by decide +kernel
theorem D123_163 : decode (byt 123) 163 = .ok (.bipush 14, 2) := by decide +kernel
theorem D123_165 : decode (byt 123) 165 = .ok (.newarray .int, 2) := by decide +kernel
theorem D123_167 : decode (byt 123) 167 = .ok (.putfield 68, 3) := by decide +kernel
theorem D123_170 : decode (byt 123) 170 = .ok (.aload_n 0, 1) := by decide +kernel
theorem D123_171 : decode (byt 123) 171 = .ok (.sipush 168, 3) := by decide +kernel
theorem D123_174 : decode (byt 123) 174 = .ok (.newarray .int, 2) := by decide +kernel
theorem D123_176 : decode (byt 123) 176 = .ok (.putfield 71, 3) := by decide +kernel
theorem D123_179 : decode (byt 123) 179 = .ok (.aload_n 0, 1) := by decide +kernel
theorem D123_180 : decode (byt 123) 180 = .ok (.bipush 14, 2) := by decide +kernel
theorem D123_182 : decode (byt 123) 182 = .ok (.newarray .int, 2) := by decide +kernel
theorem D123_184 : decode (byt 123) 184 = .ok (.putfield 74, 3) := by decide +kernel
theorem D123_187 : decode (byt 123) 187 = .ok (.aload_n 0, 1) := by decide +kernel
theorem D123_188 : decode (byt 123) 188 = .ok (.sipush 560, 3) := by decide +kernel
theorem D123_191 : decode (byt 123) 191 = .ok (.newarray .int, 2) := by decide +kernel
theorem D123_193 : decode (byt 123) 193 = .ok (.putfield 77, 3) := by decide +kernel
theorem D123_196 : decode (byt 123) 196 = .ok (.aload_n 0, 1) := by decide +kernel
theorem D123_197 : decode (byt 123) 197 = .ok (.bipush 14, 2) := by decide +kernel
theorem D123_199 : decode (byt 123) 199 = .ok (.newarray .int, 2) := by decide +kernel
theorem D123_201 : decode (byt 123) 201 = .ok (.putfield 80, 3) := by decide +kernel
theorem D123_204 : decode (byt 123) 204 = .ok (.aload_n 0, 1) := by decide +kernel
theorem D123_205 : decode (byt 123) 205 = .ok (.bipush 14, 2) := by decide +kernel
theorem D123_207 : decode (byt 123) 207 = .ok (.newarray .int, 2) := by decide +kernel
theorem D123_209 : decode (byt 123) 209 = .ok (.putfield 83, 3) := by decide +kernel
theorem D123_212 : decode (byt 123) 212 = .ok (.aload_n 0, 1) := by decide +kernel
theorem D123_213 : decode (byt 123) 213 = .ok (.sipush 168, 3) := by decide +kernel
theorem D123_216 : decode (byt 123) 216 = .ok (.newarray .int, 2) := by decide +kernel
theorem D123_218 : decode (byt 123) 218 = .ok (.putfield 86, 3) := by decide +kernel
theorem D123_221 : decode (byt 123) 221 = .ok (.aload_n 0, 1) := by decide +kernel
theorem D123_222 : decode (byt 123) 222 = .ok (.sipush 560, 3) := by decide +kernel
theorem D123_225 : decode (byt 123) 225 = .ok (.newarray .int, 2) := by decide +kernel
theorem D123_227 : decode (byt 123) 227 = .ok (.putfield 89, 3) := by decide +kernel
theorem D123_230 : decode (byt 123) 230 = .ok (.aload_n 0, 1) := by decide +kernel
theorem D123_231 : decode (byt 123) 231 = .ok (.bipush 14, 2) := by decide +kernel
theorem D123_233 : decode (byt 123) 233 = .ok (.newarray .int, 2) := by decide +kernel
theorem D123_235 : decode (byt 123) 235 = .ok (.putfield 92, 3) := by decide +kernel
theorem D123_238 : decode (byt 123) 238 = .ok (.aload_n 0, 1) := by decide +kernel
theorem D123_239 : decode (byt 123) 239 = .ok (.bipush 14, 2) := by decide +kernel
theorem D123_241 : decode (byt 123) 241 = .ok (.newarray .int, 2) := by decide +kernel
theorem D123_243 : decode (byt 123) 243 = .ok (.putfield 95, 3) := by decide +kernel
theorem D123_246 : decode (byt 123) 246 = .ok (.aload_n 0, 1) := by decide +kernel
theorem D123_247 : decode (byt 123) 247 = .ok (.bipush 14, 2) := by decide +kernel
theorem D123_249 : decode (byt 123) 249 = .ok (.newarray .int, 2) := by decide +kernel
theorem D123_251 : decode (byt 123) 251 = .ok (.putfield 98, 3) := by decide +kernel
theorem D123_254 : decode (byt 123) 254 = .ok (.aload_n 0, 1) := by decide +kernel
theorem D123_255 : decode (byt 123) 255 = .ok (.bipush 14, 2) := by decide +kernel
theorem D123_257 : decode (byt 123) 257 = .ok (.newarray .int, 2) := by decide +kernel
theorem D123_259 : decode (byt 123) 259 = .ok (.putfield 101, 3) := by decide +kernel
theorem D123_262 : decode (byt 123) 262 = .ok (.aload_n 0, 1) := by decide +kernel
theorem D123_263 : decode (byt 123) 263 = .ok (.sipush 4200, 3) := by decide +kernel
theorem D123_266 : decode (byt 123) 266 = .ok (.newarray .int, 2) := by decide +kernel
theorem D123_268 : decode (byt 123) 268 = .ok (.putfield 104, 3) := by decide +kernel
theorem D123_271 : decode (byt 123) 271 = .ok (.aload_n 0, 1) := by decide +kernel
theorem D123_272 : decode (byt 123) 272 = .ok (.sipush 4200, 3) := by decide +kernel
theorem D123_275 : decode (byt 123) 275 = .ok (.newarray .int, 2) := by decide +kernel
theorem D123_277 : decode (byt 123) 277 = .ok (.putfield 107, 3) := by decide +kernel
theorem D123_280 : decode (byt 123) 280 = .ok (.aload_n 0, 1) := by decide +kernel
theorem D123_281 : decode (byt 123) 281 = .ok (.sipush 4200, 3) := by decide +kernel
theorem D123_284 : decode (byt 123) 284 = .ok (.newarray .int, 2) := by decide +kernel
theorem D123_286 : decode (byt 123) 286 = .ok (.putfield 110, 3) := by decide +kernel
theorem D123_289 : decode (byt 123) 289 = .ok (.aload_n 0, 1) := by decide +kernel
theorem D123_290 : decode (byt 123) 290 = .ok (.ldc 113, 2) := by decide +kernel
theorem D123_292 : decode (byt 123) 292 = .ok (.newarray .int, 2) := by decide +kernel
theorem D123_294 : decode (byt 123) 294 = .ok (.putfield 114, 3) := by decide +kernel
theorem D123_297 : decode (byt 123) 297 = .ok (.aload_n 0, 1) := by decide +kernel
theorem D123_298 : decode (byt 123) 298 = .ok (.sipush 1500, 3) := by decide +kernel
theorem D123_301 : decode (byt 123) 301 = .ok (.newarray .int, 2) := by decide +kernel
theorem D123_303 : decode (byt 123) 303 = .ok (.putfield 117, 3) := by decide +kernel
theorem D123_306 : decode (byt 123) 306 = .ok (.aload_n 0, 1) := by decide +kernel
theorem D123_307 : decode (byt 123) 307 = .ok (.sipush 8192, 3) := by decide +kernel
theorem D123_310 : decode (byt 123) 310 = .ok (.newarray .boolean, 2) := by decide +kernel
theorem D123_312 : decode (byt 123) 312 = .ok (.putfield 120, 3) := by decide +kernel
theorem D123_315 : decode (byt 123) 315 = .ok (.aload_n 0, 1) := by decide +kernel
theorem D123_316 : decode (byt 123) 316 = .ok (.sipush 1500, 3) := by decide +kernel
theorem D123_319 : decode (byt 123) 319 = .ok (.newarray .boolean, 2) := by decide +kernel
theorem D123_321 : decode (byt 123) 321 = .ok (.putfield 124, 3) := by decide +kernel
theorem D123_324 : decode (byt 123) 324 = .ok (.aload_n 0, 1) := by decide +kernel
theorem D123_325 : decode (byt 123) 325 = .ok (.iconst 2, 1) := by decide +kernel
theorem D123_326 : decode (byt 123) 326 = .ok (.newarray .boolean, 2) := by decide +kernel
theorem D123_328 : decode (byt 123) 328 = .ok (.putfield 127, 3) := by decide +kernel
theorem D123_331 : decode (byt 123) 331 = .ok (.aload_n 0, 1) := by decide +kernel
theorem D123_332 : decode (byt 123) 332 = .ok (.iconst (-1), 1) := by decide +kernel
theorem D123_333 : decode (byt 123) 333 = .ok (.putfield 130, 3) := by decide +kernel
theorem D123_336 : decode (byt 123) 336 = .ok (.aload_n 0, 1) := by decide +kernel
theorem D123_337 : decode (byt 123) 337 = .ok (.sipush 4096, 3) := by decide +kernel
theorem D123_340 : decode (byt 123) 340 = .ok (.newarray .boolean, 2) := by decide +kernel
theorem D123_342 : decode (byt 123) 342 = .ok (.putfield 134, 3) := by decide +kernel
theorem D123_345 : decode (byt 123) 345 = .ok (.aload_n 0, 1) := by decide +kernel
theorem D123_346 : decode (byt 123) 346 = .ok (.iconst 5, 1) := by decide +kernel
theorem D123_347 : decode (byt 123) 347 = .ok (.newarray .int, 2) := by decide +kernel
theorem D123_349 : decode (byt 123) 349 = .ok (.putfield 137, 3) := by decide +kernel
theorem D123_352 : decode (byt 123) 352 = .ok (.aload_n 0, 1) := by decide +kernel
theorem D123_353 : decode (byt 123) 353 = .ok (.iconst 5, 1) := by decide +kernel
theorem D123_354 : decode (byt 123) 354 = .ok (.newarray .int, 2) := by decide +kernel
theorem D123_356 : decode (byt 123) 356 = .ok (.putfield 140, 3) := by decide +kernel
theorem D123_359 : decode (byt 123) 359 = .ok (.aload_n 0, 1) := by decide +kernel
theorem D123_360 : decode (byt 123) 360 = .ok (.iconst (-1), 1) := by decide +kernel
theorem D123_361 : decode (byt 123) 361 = .ok (.putfield 143, 3) := by decide +kernel
theorem D123_364 : decode (byt 123) 364 = .ok (.iconst 0, 1) := by decide +kernel
theorem D123_365 : decode (byt 123) 365 = .ok (.istore_n 1, 1) := by decide +kernel
theorem D123_366 : decode (byt 123) 366 = .ok (.iload_n 1, 1) := by decide +kernel
theorem D123_367 : decode (byt 123) 367 = .ok (.bipush 48, 2) := by decide +kernel
theorem D123_369 : decode (byt 123) 369 = .ok (.if_icmp .ge 16, 3) := by decide +kernel
theorem D123_372 : decode (byt 123) 372 = .ok (.aload_n 0, 1) := by decide +kernel
theorem D123_373 : decode (byt 123) 373 = .ok (.getfield 28, 3) := by decide +kernel
theorem D123_376 : decode (byt 123) 376 = .ok (.iload_n 1, 1) := by decide +kernel
theorem D123_377 : decode (byt 123) 377 = .ok (.iconst 1, 1) := by decide +kernel
theorem D123_378 : decode (byt 123) 378 = .ok (.iastore, 1) := by decide +kernel
theorem D123_379 : decode (byt 123) 379 = .ok (.iinc 1 1, 3) := by decide +kernel
theorem D123_382 : decode (byt 123) 382 = .ok (.goto (-16), 3) := by decide +kernel
theorem D123_385 : decode (byt 123) 385 = .ok (.return_, 1) := by decide +kernel
theorem D124_0 : decode (byt 124) 0 = .ok (.lload_n 0, 1) := by decide +kernel
theorem D124_1 : decode (byt 124) 1 = .ok (.lload_n 2, 1) := by decide +kernel
theorem D124_2 : decode (byt 124) 2 = .ok (.lcmp, 1) := by decide +kernel
theorem D124_3 : decode (byt 124) 3 = .ok (.ifCond .lt 14, 3) := by decide +kernel
theorem D124_6 : decode (byt 124) 6 = .ok (.lload_n 0, 1) := by decide +kernel
theorem D124_7 : decode (byt 124) 7 = .ok (.lload 4, 2) := by decide +kernel
theorem D124_9 : decode (byt 124) 9 = .ok (.lcmp, 1) := by decide +kernel
theorem D124_10 : decode (byt 124) 10 = .ok (.ifCond .gt 7, 3) := by decide +kernel
theorem D124_13 : decode (byt 124) 13 = .ok (.iconst 1, 1) := by decide +kernel
theorem D124_14 : decode (byt 124) 14 = .ok (.goto 4, 3) := by decide +kernel
theorem D124_17 : decode (byt 124) 17 = .ok (.iconst 0, 1) := by decide +kernel
theorem D124_18 : decode (byt 124) 18 = .ok (.ireturn, 1) := by decide +kernel
theorem D125_0 : decode (byt 125) 0 = .ok (.aload_n 0, 1) := by decide +kernel
theorem D125_1 : decode (byt 125) 1 = .ok (.getfield 31, 3) := by decide +kernel
theorem D125_4 : decode (byt 125) 4 = .ok (.iload_n 1, 1) := by decide +kernel
theorem D125_5 : decode (byt 125) 5 = .ok (.ineg, 1) := by decide +kernel
theorem D125_6 : decode (byt 125) 6 = .ok (.dup2, 1) := by decide +kernel
theorem D125_7 : decode (byt 125) 7 = .ok (.iaload, 1) := by decide +kernel
theorem D125_8 : decode (byt 125) 8 = .ok (.iconst 1, 1) := by decide +kernel
theorem D125_9 : decode (byt 125) 9 = .ok (.iadd, 1) := by decide +kernel
theorem D125_10 : decode (byt 125) 10 = .ok (.iastore, 1) := by decide +kernel
theorem D125_11 : decode (byt 125) 11 = .ok (.iload_n 1, 1) := by decide +kernel
theorem D125_12 : decode (byt 125) 12 = .ok (.ireturn, 1) := by decide +kernel
theorem D126_0 : decode (byt 126) 0 = .ok (.iload_n 0, 1) := by decide +kernel
theorem D126_1 : decode (byt 126) 1 = .ok (.ifCond .eq 8, 3) := by decide +kernel
theorem D126_4 : decode (byt 126) 4 = .ok (.iload_n 0, 1) := by decide +kernel
theorem D126_5 : decode (byt 126) 5 = .ok (.iconst 1, 1) := by decide +kernel
theorem D126_6 : decode (byt 126) 6 = .ok (.if_icmp .ne 7, 3) := by decide +kernel
theorem D126_9 : decode (byt 126) 9 = .ok (.iconst 1, 1) := by decide +kernel
theorem D126_10 : decode (byt 126) 10 = .ok (.goto 4, 3) := by decide +kernel
theorem D126_13 : decode (byt 126) 13 = .ok (.iconst 0, 1) := by decide +kernel
theorem D126_14 : decode (byt 126) 14 = .ok (.ireturn, 1) := by decide +kernel
theorem D127_0 : decode (byt 127) 0 = .ok (.iload_n 2, 1) := by decide +kernel
theorem D127_1 : decode (byt 127) 1 = .ok (.ifCond .eq 30, 3) := by decide +kernel
theorem D127_4 : decode (byt 127) 4 = .ok (.iload_n 2, 1) := by decide +kernel
theorem D127_5 : decode (byt 127) 5 = .ok (.i2l, 1) := by decide +kernel
theorem D127_6 : decode (byt 127) 6 = .ok (.aload_n 0, 1) := by decide +kernel
theorem D127_7 : decode (byt 127) 7 = .ok (.getfield 7, 3) := by decide +kernel
theorem D127_10 : decode (byt 127) 10 = .ok (.iload_n 1, 1) := by decide +kernel
theorem D127_11 : decode (byt 127) 11 = .ok (.iaload, 1) := by decide +kernel
theorem D127_12 : decode (byt 127) 12 = .ok (.ineg, 1) := by decide +kernel
theorem D127_13 : decode (byt 127) 13 = .ok (.i2l, 1) := by decide +kernel
theorem D127_14 : decode (byt 127) 14 = .ok (.aload_n 0, 1) := by decide +kernel
theorem D127_15 : decode (byt 127) 15 = .ok (.getfield 7, 3) := by decide +kernel
theorem D127_18 : decode (byt 127) 18 = .ok (.iload_n 1, 1) := by decide +kernel
theorem D127_19 : decode (byt 127) 19 = .ok (.iaload, 1) := by decide +kernel
theorem D127_20 : decode (byt 127) 20 = .ok (.i2l, 1) := by decide +kernel
theorem D127_21 : decode (byt 127) 21 = .ok (.invokestatic 146, 3) := by decide +kernel
theorem D127_24 : decode (byt 127) 24 = .ok (.ifCond .eq 7, 3) := by decide +kernel
theorem D127_27 : decode (byt 127) 27 = .ok (.iconst 1, 1) := by decide +kernel
theorem D127_28 : decode (byt 127) 28 = .ok (.goto 4, 3) := by decide +kernel
theorem D127_31 : decode (byt 127) 31 = .ok (.iconst 0, 1) := by decide +kernel
theorem D127_32 : decode (byt 127) 32 = .ok (.ireturn, 1) := by decide +kernel
theorem D128_0 : decode (byt 128) 0 = .ok (.iload_n 0, 1) := by decide +kernel
theorem D128_1 : decode (byt 128) 1 = .ok (.ifCond .le 11, 3) := by decide +kernel
theorem D128_4 : decode (byt 128) 4 = .ok (.iconst 1, 1) := by decide +kernel
theorem D128_5 : decode (byt 128) 5 = .ok (.iload_n 0, 1) := by decide +kernel
theorem D128_6 : decode (byt 128) 6 = .ok (.iconst 1, 1) := by decide +kernel
theorem D128_7 : decode (byt 128) 7 = .ok (.isub, 1) := by decide +kernel
theorem D128_8 : decode (byt 128) 8 = .ok (.ishl, 1) := by decide +kernel
theorem D128_9 : decode (byt 128) 9 = .ok (.goto 9, 3) := by decide +kernel
theorem D128_12 : decode (byt 128) 12 = .ok (.iconst 1, 1) := by decide +kernel
theorem D128_13 : decode (byt 128) 13 = .ok (.bipush 11, 2) := by decide +kernel
theorem D128_15 : decode (byt 128) 15 = .ok (.iload_n 0, 1) := by decide +kernel
theorem D128_16 : decode (byt 128) 16 = .ok (.isub, 1) := by decide +kernel
theorem D128_17 : decode (byt 128) 17 = .ok (.ishl, 1) := by decide +kernel
theorem D128_18 : decode (byt 128) 18 = .ok (.ireturn, 1) := by decide +kernel
theorem D129_0 : decode (byt 129) 0 = .ok (.iconst 0, 1) := by decide +kernel
theorem D129_1 : decode (byt 129) 1 = .ok (.istore_n 1, 1) := by decide +kernel
theorem D129_2 : decode (byt 129) 2 = .ok (.iconst 0, 1) := by decide +kernel
theorem D129_3 : decode (byt 129) 3 = .ok (.istore_n 2, 1) := by decide +kernel
theorem D129_4 : decode (byt 129) 4 = .ok (.iload_n 2, 1) := by decide +kernel
theorem D129_5 : decode (byt 129) 5 = .ok (.bipush 24, 2) := by decide +kernel
theorem D129_7 : decode (byt 129) 7 = .ok (.if_icmp .ge 17, 3) := by decide +kernel
theorem D129_10 : decode (byt 129) 10 = .ok (.iload_n 1, 1) := by decide +kernel
theorem D129_11 : decode (byt 129) 11 = .ok (.iload_n 0, 1) := by decide +kernel
theorem D129_12 : decode (byt 129) 12 = .ok (.iload_n 2, 1) := by decide +kernel
theorem D129_13 : decode (byt 129) 13 = .ok (.ishr, 1) := by decide +kernel
theorem D129_14 : decode (byt 129) 14 = .ok (.iconst 1, 1) := by decide +kernel
theorem D129_15 : decode (byt 129) 15 = .ok (.iand, 1) := by decide +kernel
theorem D129_16 : decode (byt 129) 16 = .ok (.iadd, 1) := by decide +kernel
theorem D129_17 : decode (byt 129) 17 = .ok (.istore_n 1, 1) := by decide +kernel
theorem D129_18 : decode (byt 129) 18 = .ok (.iinc 2 1, 3) := by decide +kernel
theorem D129_21 : decode (byt 129) 21 = .ok (.goto (-17), 3) := by decide +kernel
theorem D129_24 : decode (byt 129) 24 = .ok (.iload_n 1, 1) := by decide +kernel
theorem D129_25 : decode (byt 129) 25 = .ok (.ireturn, 1) := by decide +kernel
theorem D130_0 : decode (byt 130) 0 = .ok (.iload_n 0, 1) := by decide +kernel
theorem D130_1 : decode (byt 130) 1 = .ok (.bipush 12, 2) := by decide +kernel
theorem D130_3 : decode (byt 130) 3 = .ok (.ishr, 1) := by decide +kernel
theorem D130_4 : decode (byt 130) 4 = .ok (.sipush 4095, 3) := by decide +kernel
theorem D130_7 : decode (byt 130) 7 = .ok (.iand, 1) := by decide +kernel
theorem D130_8 : decode (byt 130) 8 = .ok (.iload_n 0, 1) := by decide +kernel
theorem D130_9 : decode (byt 130) 9 = .ok (.sipush 4095, 3) := by decide +kernel
theorem D130_12 : decode (byt 130) 12 = .ok (.iand, 1) := by decide +kernel
theorem D130_13 : decode (byt 130) 13 = .ok (.bipush 12, 2) := by decide +kernel
theorem D130_15 : decode (byt 130) 15 = .ok (.ishl, 1) := by decide +kernel
theorem D130_16 : decode (byt 130) 16 = .ok (.ior, 1) := by decide +kernel
theorem D130_17 : decode (byt 130) 17 = .ok (.ireturn, 1) := by decide +kernel
theorem D131_0 : decode (byt 131) 0 = .ok (.iload_n 0, 1) := by decide +kernel
theorem D131_1 : decode (byt 131) 1 = .ok (.iload_n 0, 1) := by decide +kernel
theorem D131_2 : decode (byt 131) 2 = .ok (.bipush 12, 2) := by decide +kernel
theorem D131_4 : decode (byt 131) 4 = .ok (.ishr, 1) := by decide +kernel
theorem D131_5 : decode (byt 131) 5 = .ok (.ior, 1) := by decide +kernel
theorem D131_6 : decode (byt 131) 6 = .ok (.sipush 4095, 3) := by decide +kernel
theorem D131_9 : decode (byt 131) 9 = .ok (.iand, 1) := by decide +kernel
theorem D131_10 : decode (byt 131) 10 = .ok (.ireturn, 1) := by decide +kernel
theorem D132_0 : decode (byt 132) 0 = .ok (.iload_n 1, 1) := by decide +kernel
theorem D132_1 : decode (byt 132) 1 = .ok (.invokestatic 150, 3) := by decide +kernel
theorem D132_4 : decode (byt 132) 4 = .ok (.ifCond .ne 10, 3) := by decide +kernel
theorem D132_7 : decode (byt 132) 7 = .ok (.aload_n 0, 1) := by decide +kernel
theorem D132_8 : decode (byt 132) 8 = .ok (.bipush (-3), 2) := by decide +kernel
theorem D132_10 : decode (byt 132) 10 = .ok (.invokevirtual 154, 3) := by decide +kernel
theorem D132_13 : decode (byt 132) 13 = .ok (.ireturn, 1) := by decide +kernel
theorem D132_14 : decode (byt 132) 14 = .ok (.iload_n 2, 1) := by decide +kernel
theorem D132_15 : decode (byt 132) 15 = .ok (.i2l, 1) := by decide +kernel
theorem D132_16 : decode (byt 132) 16 = .ok (.lconst 1, 1) := by decide +kernel
theorem D132_17 : decode (byt 132) 17 = .ok (.ldc2_w 158, 3) := by decide +kernel
theorem D132_20 : decode (byt 132) 20 = .ok (.invokestatic 146, 3) := by decide +kernel
theorem D132_23 : decode (byt 132) 23 = .ok (.ifCond .ne 10, 3) := by decide +kernel
theorem D132_26 : decode (byt 132) 26 = .ok (.aload_n 0, 1) := by decide +kernel
theorem D132_27 : decode (byt 132) 27 = .ok (.bipush (-7), 2) := by decide +kernel
theorem D132_29 : decode (byt 132) 29 = .ok (.invokevirtual 154, 3) := by decide +kernel
theorem D132_32 : decode (byt 132) 32 = .ok (.ireturn, 1) := by decide +kernel
theorem D132_33 : decode (byt 132) 33 = .ok (.aload_n 0, 1) := by decide +kernel
theorem D132_34 : decode (byt 132) 34 = .ok (.getfield 7, 3) := by decide +kernel
theorem D132_37 : decode (byt 132) 37 = .ok (.iload_n 1, 1) := by decide +kernel
theorem D132_38 : decode (byt 132) 38 = .ok (.iaload, 1) := by decide +kernel
theorem D132_39 : decode (byt 132) 39 = .ok (.istore_n 3, 1) := by decide +kernel
theorem D132_40 : decode (byt 132) 40 = .ok (.aload_n 0, 1) := by decide +kernel
theorem D132_41 : decode (byt 132) 41 = .ok (.getfield 7, 3) := by decide +kernel
theorem D132_44 : decode (byt 132) 44 = .ok (.iload_n 1, 1) := by decide +kernel
theorem D132_45 : decode (byt 132) 45 = .ok (.iload_n 2, 1) := by decide +kernel
theorem D132_46 : decode (byt 132) 46 = .ok (.iastore, 1) := by decide +kernel
theorem D132_47 : decode (byt 132) 47 = .ok (.aload_n 0, 1) := by decide +kernel
theorem D132_48 : decode (byt 132) 48 = .ok (.getfield 16, 3) := by decide +kernel
theorem D132_51 : decode (byt 132) 51 = .ok (.iload_n 1, 1) := by decide +kernel
theorem D132_52 : decode (byt 132) 52 = .ok (.iconst 0, 1) := by decide +kernel
theorem D132_53 : decode (byt 132) 53 = .ok (.iastore, 1) := by decide +kernel
theorem D132_54 : decode (byt 132) 54 = .ok (.aload_n 0, 1) := by decide +kernel
theorem D132_55 : decode (byt 132) 55 = .ok (.getfield 19, 3) := by decide +kernel
theorem D132_58 : decode (byt 132) 58 = .ok (.iload_n 1, 1) := by decide +kernel
theorem D132_59 : decode (byt 132) 59 = .ok (.iconst 0, 1) := by decide +kernel
theorem D132_60 : decode (byt 132) 60 = .ok (.iastore, 1) := by decide +kernel
theorem D132_61 : decode (byt 132) 61 = .ok (.aload_n 0, 1) := by decide +kernel
theorem D132_62 : decode (byt 132) 62 = .ok (.getfield 22, 3) := by decide +kernel
theorem D132_65 : decode (byt 132) 65 = .ok (.iload_n 1, 1) := by decide +kernel
theorem D132_66 : decode (byt 132) 66 = .ok (.iconst 0, 1) := by decide +kernel
theorem D132_67 : decode (byt 132) 67 = .ok (.iastore, 1) := by decide +kernel
theorem D132_68 : decode (byt 132) 68 = .ok (.aload_n 0, 1) := by decide +kernel
theorem D132_69 : decode (byt 132) 69 = .ok (.getfield 25, 3) := by decide +kernel
theorem D132_72 : decode (byt 132) 72 = .ok (.iload_n 1, 1) := by decide +kernel
theorem D132_73 : decode (byt 132) 73 = .ok (.iconst 0, 1) := by decide +kernel
theorem D132_74 : decode (byt 132) 74 = .ok (.iastore, 1) := by decide +kernel
theorem D132_75 : decode (byt 132) 75 = .ok (.iconst 0, 1) := by decide +kernel
theorem D132_76 : decode (byt 132) 76 = .ok (.istore 4, 2) := by decide +kernel
theorem D132_78 : decode (byt 132) 78 = .ok (.iload 4, 2) := by decide +kernel
theorem D132_80 : decode (byt 132) 80 = .ok (.bipush 24, 2) := by decide +kernel
theorem D132_82 : decode (byt 132) 82 = .ok (.if_icmp .ge 22, 3) := by decide +kernel
theorem D132_85 : decode (byt 132) 85 = .ok (.aload_n 0, 1) := by decide +kernel
theorem D132_86 : decode (byt 132) 86 = .ok (.getfield 28, 3) := by decide +kernel
theorem D132_89 : decode (byt 132) 89 = .ok (.bipush 24, 2) := by decide +kernel
theorem D132_91 : decode (byt 132) 91 = .ok (.iload_n 1, 1) := by decide +kernel
theorem D132_92 : decode (byt 132) 92 = .ok (.imul, 1) := by decide +kernel
theorem D132_93 : decode (byt 132) 93 = .ok (.iload 4, 2) := by decide +kernel
theorem D132_95 : decode (byt 132) 95 = .ok (.iadd, 1) := by decide +kernel
theorem D132_96 : decode (byt 132) 96 = .ok (.iconst 1, 1) := by decide +kernel
theorem D132_97 : decode (byt 132) 97 = .ok (.iastore, 1) := by decide +kernel
theorem D132_98 : decode (byt 132) 98 = .ok (.iinc 4 1, 3) := by decide +kernel
theorem D132_101 : decode (byt 132) 101 = .ok (.goto (-23), 3) := by decide +kernel
theorem D132_104 : decode (byt 132) 104 = .ok (.aload_n 0, 1) := by decide +kernel
theorem D132_105 : decode (byt 132) 105 = .ok (.getfield 34, 3) := by decide +kernel
theorem D132_108 : decode (byt 132) 108 = .ok (.iload_n 1, 1) := by decide +kernel
theorem D132_109 : decode (byt 132) 109 = .ok (.iconst 0, 1) := by decide +kernel
theorem D132_110 : decode (byt 132) 110 = .ok (.iastore, 1) := by decide +kernel
theorem D132_111 : decode (byt 132) 111 = .ok (.iload_n 3, 1) := by decide +kernel
theorem D132_112 : decode (byt 132) 112 = .ok (.ireturn, 1) := by decide +kernel
theorem D133_0 : decode (byt 133) 0 = .ok (.iload_n 2, 1) := by decide +kernel
theorem D133_1 : decode (byt 133) 1 = .ok (.ifCond .eq 12, 3) := by decide +kernel
theorem D133_4 : decode (byt 133) 4 = .ok (.iload_n 2, 1) := by decide +kernel
theorem D133_5 : decode (byt 133) 5 = .ok (.iload_n 2, 1) := by decide +kernel
theorem D133_6 : decode (byt 133) 6 = .ok (.invokestatic 160, 3) := by decide +kernel
theorem D133_9 : decode (byt 133) 9 = .ok (.iand, 1) := by decide +kernel
theorem D133_10 : decode (byt 133) 10 = .ok (.ifCond .eq 10, 3) := by decide +kernel
theorem D133_13 : decode (byt 133) 13 = .ok (.aload_n 0, 1) := by decide +kernel
theorem D133_14 : decode (byt 133) 14 = .ok (.bipush (-7), 2) := by decide +kernel
theorem D133_16 : decode (byt 133) 16 = .ok (.invokevirtual 154, 3) := by decide +kernel
theorem D133_19 : decode (byt 133) 19 = .ok (.ireturn, 1) := by decide +kernel
theorem D133_20 : decode (byt 133) 20 = .ok (.aload_n 0, 1) := by decide +kernel
theorem D133_21 : decode (byt 133) 21 = .ok (.getfield 16, 3) := by decide +kernel
theorem D133_24 : decode (byt 133) 24 = .ok (.iload_n 1, 1) := by decide +kernel
theorem D133_25 : decode (byt 133) 25 = .ok (.iaload, 1) := by decide +kernel
theorem D133_26 : decode (byt 133) 26 = .ok (.bipush 40, 2) := by decide +kernel
theorem D133_28 : decode (byt 133) 28 = .ok (.if_icmp .ne 10, 3) := by decide +kernel
theorem D133_31 : decode (byt 133) 31 = .ok (.aload_n 0, 1) := by decide +kernel
theorem D133_32 : decode (byt 133) 32 = .ok (.bipush (-8), 2) := by decide +kernel
theorem D133_34 : decode (byt 133) 34 = .ok (.invokevirtual 154, 3) := by decide +kernel
theorem D133_37 : decode (byt 133) 37 = .ok (.ireturn, 1) := by decide +kernel
theorem D133_38 : decode (byt 133) 38 = .ok (.aload_n 0, 1) := by decide +kernel
theorem D133_39 : decode (byt 133) 39 = .ok (.getfield 13, 3) := by decide +kernel
theorem D133_42 : decode (byt 133) 42 = .ok (.bipush 40, 2) := by decide +kernel
theorem D133_44 : decode (byt 133) 44 = .ok (.iload_n 1, 1) := by decide +kernel
theorem D133_45 : decode (byt 133) 45 = .ok (.imul, 1) := by decide +kernel
theorem D133_46 : decode (byt 133) 46 = .ok (.aload_n 0, 1) := by decide +kernel
theorem D133_47 : decode (byt 133) 47 = .ok (.getfield 16, 3) := by decide +kernel
theorem D133_50 : decode (byt 133) 50 = .ok (.iload_n 1, 1) := by decide +kernel
theorem D133_51 : decode (byt 133) 51 = .ok (.iaload, 1) := by decide +kernel
theorem D133_52 : decode (byt 133) 52 = .ok (.iadd, 1) := by decide +kernel
theorem D133_53 : decode (byt 133) 53 = .ok (.iload_n 2, 1) := by decide +kernel
theorem D133_54 : decode (byt 133) 54 = .ok (.iastore, 1) := by decide +kernel
theorem D133_55 : decode (byt 133) 55 = .ok (.aload_n 0, 1) := by decide +kernel
theorem D133_56 : decode (byt 133) 56 = .ok (.getfield 16, 3) := by decide +kernel
theorem D133_59 : decode (byt 133) 59 = .ok (.iload_n 1, 1) := by decide +kernel
theorem D133_60 : decode (byt 133) 60 = .ok (.dup2, 1) := by decide +kernel
theorem D133_61 : decode (byt 133) 61 = .ok (.iaload, 1) := by decide +kernel
theorem D133_62 : decode (byt 133) 62 = .ok (.iconst 1, 1) := by decide +kernel
theorem D133_63 : decode (byt 133) 63 = .ok (.iadd, 1) := by decide +kernel
theorem D133_64 : decode (byt 133) 64 = .ok (.iastore, 1) := by decide +kernel
theorem D133_65 : decode (byt 133) 65 = .ok (.aload_n 0, 1) := by decide +kernel
theorem D133_66 : decode (byt 133) 66 = .ok (.getfield 34, 3) := by decide +kernel
theorem D133_69 : decode (byt 133) 69 = .ok (.iload_n 1, 1) := by decide +kernel
theorem D133_70 : decode (byt 133) 70 = .ok (.iconst 0, 1) := by decide +kernel
theorem D133_71 : decode (byt 133) 71 = .ok (.iastore, 1) := by decide +kernel
theorem D133_72 : decode (byt 133) 72 = .ok (.aload_n 0, 1) := by decide +kernel
theorem D133_73 : decode (byt 133) 73 = .ok (.getfield 16, 3) := by decide +kernel
theorem D133_76 : decode (byt 133) 76 = .ok (.iload_n 1, 1) := by decide +kernel
theorem D133_77 : decode (byt 133) 77 = .ok (.iaload, 1) := by decide +kernel
theorem D133_78 : decode (byt 133) 78 = .ok (.iconst 1, 1) := by decide +kernel
theorem D133_79 : decode (byt 133) 79 = .ok (.isub, 1) := by decide +kernel
theorem D133_80 : decode (byt 133) 80 = .ok (.ireturn, 1) := by decide +kernel
theorem D134_0 : decode (byt 134) 0 = .ok (.iload_n 2, 1) := by decide +kernel
theorem D134_1 : decode (byt 134) 1 = .ok (.ifCond .eq 12, 3) := by decide +kernel
theorem D134_4 : decode (byt 134) 4 = .ok (.aload_n 0, 1) := by decide +kernel
theorem D134_5 : decode (byt 134) 5 = .ok (.iload_n 1, 1) := by decide +kernel
theorem D134_6 : decode (byt 134) 6 = .ok (.iload_n 2, 1) := by decide +kernel
theorem D134_7 : decode (byt 134) 7 = .ok (.invokevirtual 163, 3) := by decide +kernel
theorem D134_10 : decode (byt 134) 10 = .ok (.ifCond .eq 7, 3) := by decide +kernel
theorem D134_13 : decode (byt 134) 13 = .ok (.iconst 1, 1) := by decide +kernel
theorem D134_14 : decode (byt 134) 14 = .ok (.goto 4, 3) := by decide +kernel
theorem D134_17 : decode (byt 134) 17 = .ok (.iconst 0, 1) := by decide +kernel
theorem D134_18 : decode (byt 134) 18 = .ok (.ireturn, 1) := by decide +kernel
theorem D135_0 : decode (byt 135) 0 = .ok (.iload_n 1, 1) := by decide +kernel
theorem D135_1 : decode (byt 135) 1 = .ok (.invokestatic 150, 3) := by decide +kernel
theorem D135_4 : decode (byt 135) 4 = .ok (.ifCond .eq 41, 3) := by decide +kernel
theorem D135_7 : decode (byt 135) 7 = .ok (.aload_n 0, 1) := by decide +kernel
theorem D135_8 : decode (byt 135) 8 = .ok (.iload_n 1, 1) := by decide +kernel
theorem D135_9 : decode (byt 135) 9 = .ok (.iload_n 2, 1) := by decide +kernel
theorem D135_10 : decode (byt 135) 10 = .ok (.invokevirtual 167, 3) := by decide +kernel
theorem D135_13 : decode (byt 135) 13 = .ok (.ifCond .eq 32, 3) := by decide +kernel
theorem D135_16 : decode (byt 135) 16 = .ok (.aload_n 0, 1) := by decide +kernel
theorem D135_17 : decode (byt 135) 17 = .ok (.iload_n 1, 1) := by decide +kernel
theorem D135_18 : decode (byt 135) 18 = .ok (.iload_n 3, 1) := by decide +kernel
theorem D135_19 : decode (byt 135) 19 = .ok (.invokevirtual 167, 3) := by decide +kernel
theorem D135_22 : decode (byt 135) 22 = .ok (.ifCond .eq 23, 3) := by decide +kernel
theorem D135_25 : decode (byt 135) 25 = .ok (.aload_n 0, 1) := by decide +kernel
theorem D135_26 : decode (byt 135) 26 = .ok (.iload_n 1, 1) := by decide +kernel
theorem D135_27 : decode (byt 135) 27 = .ok (.iload 4, 2) := by decide +kernel
theorem D135_29 : decode (byt 135) 29 = .ok (.invokevirtual 167, 3) := by decide +kernel
theorem D135_32 : decode (byt 135) 32 = .ok (.ifCond .eq 13, 3) := by decide +kernel
theorem D135_35 : decode (byt 135) 35 = .ok (.aload_n 0, 1) := by decide +kernel
theorem D135_36 : decode (byt 135) 36 = .ok (.iload_n 1, 1) := by decide +kernel
theorem D135_37 : decode (byt 135) 37 = .ok (.iload 5, 2) := by decide +kernel
theorem D135_39 : decode (byt 135) 39 = .ok (.invokevirtual 167, 3) := by decide +kernel
theorem D135_42 : decode (byt 135) 42 = .ok (.ifCond .ne 10, 3) := by decide +kernel
theorem D135_45 : decode (byt 135) 45 = .ok (.aload_n 0, 1) := by decide +kernel
theorem D135_46 : decode (byt 135) 46 = .ok (.bipush (-3), 2) := by decide +kernel
theorem D135_48 : decode (byt 135) 48 = .ok (.invokevirtual 154, 3) := by decide +kernel
theorem D135_51 : decode (byt 135) 51 = .ok (.ireturn, 1) := by decide +kernel
theorem D135_52 : decode (byt 135) 52 = .ok (.iconst 0, 1) := by decide +kernel
theorem D135_53 : decode (byt 135) 53 = .ok (.istore 6, 2) := by decide +kernel
theorem D135_55 : decode (byt 135) 55 = .ok (.iload_n 2, 1) := by decide +kernel
theorem D135_56 : decode (byt 135) 56 = .ok (.ifCond .eq 12, 3) := by decide +kernel
theorem D135_59 : decode (byt 135) 59 = .ok (.iload 6, 2) := by decide +kernel
theorem D135_61 : decode (byt 135) 61 = .ok (.iload_n 2, 1) := by decide +kernel
theorem D135_62 : decode (byt 135) 62 = .ok (.invokestatic 170, 3) := by decide +kernel
theorem D135_65 : decode (byt 135) 65 = .ok (.ior, 1) := by decide +kernel
theorem D135_66 : decode (byt 135) 66 = .ok (.istore 6, 2) := by decide +kernel
theorem D135_68 : decode (byt 135) 68 = .ok (.iload_n 3, 1) := by decide +kernel
theorem D135_69 : decode (byt 135) 69 = .ok (.ifCond .eq 12, 3) := by decide +kernel
theorem D135_72 : decode (byt 135) 72 = .ok (.iload 6, 2) := by decide +kernel
theorem D135_74 : decode (byt 135) 74 = .ok (.iload_n 3, 1) := by decide +kernel
theorem D135_75 : decode (byt 135) 75 = .ok (.invokestatic 170, 3) := by decide +kernel
theorem D135_78 : decode (byt 135) 78 = .ok (.ior, 1) := by decide +kernel
theorem D135_79 : decode (byt 135) 79 = .ok (.istore 6, 2) := by decide +kernel
theorem D135_81 : decode (byt 135) 81 = .ok (.iload 4, 2) := by decide +kernel
theorem D135_83 : decode (byt 135) 83 = .ok (.ifCond .eq 13, 3) := by decide +kernel
theorem D135_86 : decode (byt 135) 86 = .ok (.iload 6, 2) := by decide +kernel
theorem D135_88 : decode (byt 135) 88 = .ok (.iload 4, 2) := by decide +kernel
theorem D135_90 : decode (byt 135) 90 = .ok (.invokestatic 170, 3) := by decide +kernel
theorem D135_93 : decode (byt 135) 93 = .ok (.ior, 1) := by decide +kernel
theorem D135_94 : decode (byt 135) 94 = .ok (.istore 6, 2) := by decide +kernel
theorem D135_96 : decode (byt 135) 96 = .ok (.iload 5, 2) := by decide +kernel
theorem D135_98 : decode (byt 135) 98 = .ok (.ifCond .eq 13, 3) := by decide +kernel
theorem D135_101 : decode (byt 135) 101 = .ok (.iload 6, 2) := by decide +kernel
theorem D135_103 : decode (byt 135) 103 = .ok (.iload 5, 2) := by decide +kernel
theorem D135_105 : decode (byt 135) 105 = .ok (.invokestatic 170, 3) := by decide +kernel
theorem D135_108 : decode (byt 135) 108 = .ok (.ior, 1) := by decide +kernel
theorem D135_109 : decode (byt 135) 109 = .ok (.istore 6, 2) := by decide +kernel
theorem D135_111 : decode (byt 135) 111 = .ok (.aload_n 0, 1) := by decide +kernel
theorem D135_112 : decode (byt 135) 112 = .ok (.iload_n 1, 1) := by decide +kernel
theorem D135_113 : decode (byt 135) 113 = .ok (.iload 6, 2) := by decide +kernel
theorem D135_115 : decode (byt 135) 115 = .ok (.invokevirtual 173, 3) := by decide +kernel
theorem D135_118 : decode (byt 135) 118 = .ok (.ireturn, 1) := by decide +kernel
theorem D136_0 : decode (byt 136) 0 = .ok (.iload_n 1, 1) := by decide +kernel
theorem D136_1 : decode (byt 136) 1 = .ok (.invokestatic 150, 3) := by decide +kernel
theorem D136_4 : decode (byt 136) 4 = .ok (.ifCond .eq 12, 3) := by decide +kernel
theorem D136_7 : decode (byt 136) 7 = .ok (.aload_n 0, 1) := by decide +kernel
theorem D136_8 : decode (byt 136) 8 = .ok (.iload_n 1, 1) := by decide +kernel
theorem D136_9 : decode (byt 136) 9 = .ok (.iload_n 2, 1) := by decide +kernel
theorem D136_10 : decode (byt 136) 10 = .ok (.invokevirtual 163, 3) := by decide +kernel
theorem D136_13 : decode (byt 136) 13 = .ok (.ifCond .ne 10, 3) := by decide +kernel
theorem D136_16 : decode (byt 136) 16 = .ok (.aload_n 0, 1) := by decide +kernel
theorem D136_17 : decode (byt 136) 17 = .ok (.bipush (-3), 2) := by decide +kernel
theorem D136_19 : decode (byt 136) 19 = .ok (.invokevirtual 154, 3) := by decide +kernel
theorem D136_22 : decode (byt 136) 22 = .ok (.ireturn, 1) := by decide +kernel
theorem D136_23 : decode (byt 136) 23 = .ok (.aload_n 0, 1) := by decide +kernel
theorem D136_24 : decode (byt 136) 24 = .ok (.getfield 16, 3) := by decide +kernel
theorem D136_27 : decode (byt 136) 27 = .ok (.iload_n 1, 1) := by decide +kernel
theorem D136_28 : decode (byt 136) 28 = .ok (.iaload, 1) := by decide +kernel
theorem D136_29 : decode (byt 136) 29 = .ok (.ifCond .ne 10, 3) := by decide +kernel
theorem D136_32 : decode (byt 136) 32 = .ok (.aload_n 0, 1) := by decide +kernel
theorem D136_33 : decode (byt 136) 33 = .ok (.bipush (-2), 2) := by decide +kernel
theorem D136_35 : decode (byt 136) 35 = .ok (.invokevirtual 154, 3) := by decide +kernel
theorem D136_38 : decode (byt 136) 38 = .ok (.ireturn, 1) := by decide +kernel
theorem D136_39 : decode (byt 136) 39 = .ok (.bipush 40, 2) := by decide +kernel
theorem D136_41 : decode (byt 136) 41 = .ok (.iload_n 1, 1) := by decide +kernel
theorem D136_42 : decode (byt 136) 42 = .ok (.imul, 1) := by decide +kernel
theorem D136_43 : decode (byt 136) 43 = .ok (.aload_n 0, 1) := by decide +kernel
theorem D136_44 : decode (byt 136) 44 = .ok (.getfield 16, 3) := by decide +kernel
theorem D136_47 : decode (byt 136) 47 = .ok (.iload_n 1, 1) := by decide +kernel
theorem D136_48 : decode (byt 136) 48 = .ok (.iaload, 1) := by decide +kernel
theorem D136_49 : decode (byt 136) 49 = .ok (.iadd, 1) := by decide +kernel
theorem D136_50 : decode (byt 136) 50 = .ok (.iconst 1, 1) := by decide +kernel
theorem D136_51 : decode (byt 136) 51 = .ok (.isub, 1) := by decide +kernel
theorem D136_52 : decode (byt 136) 52 = .ok (.istore_n 3, 1) := by decide +kernel
theorem D136_53 : decode (byt 136) 53 = .ok (.aload_n 0, 1) := by decide +kernel
theorem D136_54 : decode (byt 136) 54 = .ok (.getfield 13, 3) := by decide +kernel
theorem D136_57 : decode (byt 136) 57 = .ok (.iload_n 3, 1) := by decide +kernel
theorem D136_58 : decode (byt 136) 58 = .ok (.iaload, 1) := by decide +kernel
theorem D136_59 : decode (byt 136) 59 = .ok (.iload_n 2, 1) := by decide +kernel
theorem D136_60 : decode (byt 136) 60 = .ok (.invokestatic 170, 3) := by decide +kernel
theorem D136_63 : decode (byt 136) 63 = .ok (.iload_n 2, 1) := by decide +kernel
theorem D136_64 : decode (byt 136) 64 = .ok (.ineg, 1) := by decide +kernel
theorem D136_65 : decode (byt 136) 65 = .ok (.invokestatic 170, 3) := by decide +kernel
theorem D136_68 : decode (byt 136) 68 = .ok (.ior, 1) := by decide +kernel
theorem D136_69 : decode (byt 136) 69 = .ok (.iand, 1) := by decide +kernel
theorem D136_70 : decode (byt 136) 70 = .ok (.ifCond .eq 10, 3) := by decide +kernel
theorem D136_73 : decode (byt 136) 73 = .ok (.aload_n 0, 1) := by decide +kernel
theorem D136_74 : decode (byt 136) 74 = .ok (.bipush (-7), 2) := by decide +kernel
theorem D136_76 : decode (byt 136) 76 = .ok (.invokevirtual 154, 3) := by decide +kernel
theorem D136_79 : decode (byt 136) 79 = .ok (.ireturn, 1) := by decide +kernel
theorem D136_80 : decode (byt 136) 80 = .ok (.aload_n 0, 1) := by decide +kernel
theorem D136_81 : decode (byt 136) 81 = .ok (.getfield 13, 3) := by decide +kernel
theorem D136_84 : decode (byt 136) 84 = .ok (.iload_n 3, 1) := by decide +kernel
theorem D136_85 : decode (byt 136) 85 = .ok (.iaload, 1) := by decide +kernel
theorem D136_86 : decode (byt 136) 86 = .ok (.invokestatic 177, 3) := by decide +kernel
theorem D136_89 : decode (byt 136) 89 = .ok (.iconst 5, 1) := by decide +kernel
theorem D136_90 : decode (byt 136) 90 = .ok (.if_icmp .ne 10, 3) := by decide +kernel
theorem D136_93 : decode (byt 136) 93 = .ok (.aload_n 0, 1) := by decide +kernel
theorem D136_94 : decode (byt 136) 94 = .ok (.bipush (-8), 2) := by decide +kernel
theorem D136_96 : decode (byt 136) 96 = .ok (.invokevirtual 154, 3) := by decide +kernel
theorem D136_99 : decode (byt 136) 99 = .ok (.ireturn, 1) := by decide +kernel
theorem D136_100 : decode (byt 136) 100 = .ok (.aload_n 0, 1) := by decide +kernel
theorem D136_101 : decode (byt 136) 101 = .ok (.getfield 13, 3) := by decide +kernel
theorem D136_104 : decode (byt 136) 104 = .ok (.iload_n 3, 1) := by decide +kernel
theorem D136_105 : decode (byt 136) 105 = .ok (.dup2, 1) := by decide +kernel
theorem D136_106 : decode (byt 136) 106 = .ok (.iaload, 1) := by decide +kernel
theorem D136_107 : decode (byt 136) 107 = .ok (.iload_n 2, 1) := by decide +kernel
theorem D136_108 : decode (byt 136) 108 = .ok (.invokestatic 170, 3) := by decide +kernel
theorem D136_111 : decode (byt 136) 111 = .ok (.ior, 1) := by decide +kernel
theorem D136_112 : decode (byt 136) 112 = .ok (.iastore, 1) := by decide +kernel
theorem D136_113 : decode (byt 136) 113 = .ok (.aload_n 0, 1) := by decide +kernel
theorem D136_114 : decode (byt 136) 114 = .ok (.getfield 34, 3) := by decide +kernel
theorem D136_117 : decode (byt 136) 117 = .ok (.iload_n 1, 1) := by decide +kernel
theorem D136_118 : decode (byt 136) 118 = .ok (.iconst 0, 1) := by decide +kernel
theorem D136_119 : decode (byt 136) 119 = .ok (.iastore, 1) := by decide +kernel
theorem D136_120 : decode (byt 136) 120 = .ok (.aload_n 0, 1) := by decide +kernel
theorem D136_121 : decode (byt 136) 121 = .ok (.getfield 13, 3) := by decide +kernel
theorem D136_124 : decode (byt 136) 124 = .ok (.iload_n 3, 1) := by decide +kernel
theorem D136_125 : decode (byt 136) 125 = .ok (.iaload, 1) := by decide +kernel
theorem D136_126 : decode (byt 136) 126 = .ok (.invokestatic 177, 3) := by decide +kernel
theorem D136_129 : decode (byt 136) 129 = .ok (.ireturn, 1) := by decide +kernel
theorem D137_0 : decode (byt 137) 0 = .ok (.iload_n 1, 1) := by decide +kernel
theorem D137_1 : decode (byt 137) 1 = .ok (.invokestatic 150, 3) := by decide +kernel
theorem D137_4 : decode (byt 137) 4 = .ok (.ifCond .ne 10, 3) := by decide +kernel
theorem D137_7 : decode (byt 137) 7 = .ok (.aload_n 0, 1) := by decide +kernel
theorem D137_8 : decode (byt 137) 8 = .ok (.bipush (-3), 2) := by decide +kernel
theorem D137_10 : decode (byt 137) 10 = .ok (.invokevirtual 154, 3) := by decide +kernel
theorem D137_13 : decode (byt 137) 13 = .ok (.ireturn, 1) := by decide +kernel
theorem D137_14 : decode (byt 137) 14 = .ok (.aload_n 0, 1) := by decide +kernel
theorem D137_15 : decode (byt 137) 15 = .ok (.getfield 16, 3) := by decide +kernel
theorem D137_18 : decode (byt 137) 18 = .ok (.iload_n 1, 1) := by decide +kernel
theorem D137_19 : decode (byt 137) 19 = .ok (.iaload, 1) := by decide +kernel
theorem D137_20 : decode (byt 137) 20 = .ok (.ifCond .ne 10, 3) := by decide +kernel
theorem D137_23 : decode (byt 137) 23 = .ok (.aload_n 0, 1) := by decide +kernel
theorem D137_24 : decode (byt 137) 24 = .ok (.bipush (-2), 2) := by decide +kernel
theorem D137_26 : decode (byt 137) 26 = .ok (.invokevirtual 154, 3) := by decide +kernel
theorem D137_29 : decode (byt 137) 29 = .ok (.ireturn, 1) := by decide +kernel
theorem D137_30 : decode (byt 137) 30 = .ok (.aload_n 0, 1) := by decide +kernel
theorem D137_31 : decode (byt 137) 31 = .ok (.getfield 16, 3) := by decide +kernel
theorem D137_34 : decode (byt 137) 34 = .ok (.iload_n 1, 1) := by decide +kernel
theorem D137_35 : decode (byt 137) 35 = .ok (.dup2, 1) := by decide +kernel
theorem D137_36 : decode (byt 137) 36 = .ok (.iaload, 1) := by decide +kernel
theorem D137_37 : decode (byt 137) 37 = .ok (.iconst 1, 1) := by decide +kernel
theorem D137_38 : decode (byt 137) 38 = .ok (.isub, 1) := by decide +kernel
theorem D137_39 : decode (byt 137) 39 = .ok (.iastore, 1) := by decide +kernel
theorem D137_40 : decode (byt 137) 40 = .ok (.aload_n 0, 1) := by decide +kernel
theorem D137_41 : decode (byt 137) 41 = .ok (.getfield 34, 3) := by decide +kernel
theorem D137_44 : decode (byt 137) 44 = .ok (.iload_n 1, 1) := by decide +kernel
theorem D137_45 : decode (byt 137) 45 = .ok (.iconst 0, 1) := by decide +kernel
theorem D137_46 : decode (byt 137) 46 = .ok (.iastore, 1) := by decide +kernel
theorem D137_47 : decode (byt 137) 47 = .ok (.aload_n 0, 1) := by decide +kernel
theorem D137_48 : decode (byt 137) 48 = .ok (.getfield 16, 3) := by decide +kernel
theorem D137_51 : decode (byt 137) 51 = .ok (.iload_n 1, 1) := by decide +kernel
theorem D137_52 : decode (byt 137) 52 = .ok (.iaload, 1) := by decide +kernel
theorem D137_53 : decode (byt 137) 53 = .ok (.ireturn, 1) := by decide +kernel
theorem D138_0 : decode (byt 138) 0 = .ok (.iload_n 1, 1) := by decide +kernel
theorem D138_1 : decode (byt 138) 1 = .ok (.invokestatic 150, 3) := by decide +kernel
theorem D138_4 : decode (byt 138) 4 = .ok (.ifCond .eq 23, 3) := by decide +kernel
theorem D138_7 : decode (byt 138) 7 = .ok (.iload_n 2, 1) := by decide +kernel
theorem D138_8 : decode (byt 138) 8 = .ok (.i2l, 1) := by decide +kernel
theorem D138_9 : decode (byt 138) 9 = .ok (.lconst 1, 1) := by decide +kernel
theorem D138_10 : decode (byt 138) 10 = .ok (.aload_n 0, 1) := by decide +kernel
theorem D138_11 : decode (byt 138) 11 = .ok (.getfield 7, 3) := by decide +kernel
theorem D138_14 : decode (byt 138) 14 = .ok (.iload_n 1, 1) := by decide +kernel
theorem D138_15 : decode (byt 138) 15 = .ok (.iaload, 1) := by decide +kernel
theorem D138_16 : decode (byt 138) 16 = .ok (.i2l, 1) := by decide +kernel
theorem D138_17 : decode (byt 138) 17 = .ok (.invokestatic 146, 3) := by decide +kernel
theorem D138_20 : decode (byt 138) 20 = .ok (.ifCond .eq 7, 3) := by decide +kernel
theorem D138_23 : decode (byt 138) 23 = .ok (.iconst 1, 1) := by decide +kernel
theorem D138_24 : decode (byt 138) 24 = .ok (.goto 4, 3) := by decide +kernel
theorem D138_27 : decode (byt 138) 27 = .ok (.iconst 0, 1) := by decide +kernel
theorem D138_28 : decode (byt 138) 28 = .ok (.ireturn, 1) := by decide +kernel
theorem D139_0 : decode (byt 139) 0 = .ok (.aload_n 0, 1) := by decide +kernel
theorem D139_1 : decode (byt 139) 1 = .ok (.iload_n 1, 1) := by decide +kernel
theorem D139_2 : decode (byt 139) 2 = .ok (.iload_n 2, 1) := by decide +kernel
theorem D139_3 : decode (byt 139) 3 = .ok (.invokevirtual 180, 3) := by decide +kernel
theorem D139_6 : decode (byt 139) 6 = .ok (.ifCond .ne 10, 3) := by decide +kernel
theorem D139_9 : decode (byt 139) 9 = .ok (.aload_n 0, 1) := by decide +kernel
theorem D139_10 : decode (byt 139) 10 = .ok (.bipush (-3), 2) := by decide +kernel
theorem D139_12 : decode (byt 139) 12 = .ok (.invokevirtual 154, 3) := by decide +kernel
theorem D139_15 : decode (byt 139) 15 = .ok (.ireturn, 1) := by decide +kernel
theorem D139_16 : decode (byt 139) 16 = .ok (.iconst 1, 1) := by decide +kernel
theorem D139_17 : decode (byt 139) 17 = .ok (.iload_n 2, 1) := by decide +kernel
theorem D139_18 : decode (byt 139) 18 = .ok (.iconst 1, 1) := by decide +kernel
theorem D139_19 : decode (byt 139) 19 = .ok (.isub, 1) := by decide +kernel
theorem D139_20 : decode (byt 139) 20 = .ok (.ishl, 1) := by decide +kernel
theorem D139_21 : decode (byt 139) 21 = .ok (.istore 4, 2) := by decide +kernel
theorem D139_23 : decode (byt 139) 23 = .ok (.aload_n 0, 1) := by decide +kernel
theorem D139_24 : decode (byt 139) 24 = .ok (.getfield 19, 3) := by decide +kernel
theorem D139_27 : decode (byt 139) 27 = .ok (.iload_n 1, 1) := by decide +kernel
theorem D139_28 : decode (byt 139) 28 = .ok (.iaload, 1) := by decide +kernel
theorem D139_29 : decode (byt 139) 29 = .ok (.iload 4, 2) := by decide +kernel
theorem D139_31 : decode (byt 139) 31 = .ok (.iand, 1) := by decide +kernel
theorem D139_32 : decode (byt 139) 32 = .ok (.ifCond .eq 7, 3) := by decide +kernel
theorem D139_35 : decode (byt 139) 35 = .ok (.iconst 1, 1) := by decide +kernel
theorem D139_36 : decode (byt 139) 36 = .ok (.goto 4, 3) := by decide +kernel
theorem D139_39 : decode (byt 139) 39 = .ok (.iconst 0, 1) := by decide +kernel
theorem D139_40 : decode (byt 139) 40 = .ok (.istore 5, 2) := by decide +kernel
theorem D139_42 : decode (byt 139) 42 = .ok (.iload_n 3, 1) := by decide +kernel
theorem D139_43 : decode (byt 139) 43 = .ok (.ifCond .eq 17, 3) := by decide +kernel
theorem D139_46 : decode (byt 139) 46 = .ok (.aload_n 0, 1) := by decide +kernel
theorem D139_47 : decode (byt 139) 47 = .ok (.getfield 19, 3) := by decide +kernel
theorem D139_50 : decode (byt 139) 50 = .ok (.iload_n 1, 1) := by decide +kernel
theorem D139_51 : decode (byt 139) 51 = .ok (.dup2, 1) := by decide +kernel
theorem D139_52 : decode (byt 139) 52 = .ok (.iaload, 1) := by decide +kernel
theorem D139_53 : decode (byt 139) 53 = .ok (.iload 4, 2) := by decide +kernel
theorem D139_55 : decode (byt 139) 55 = .ok (.ior, 1) := by decide +kernel
theorem D139_56 : decode (byt 139) 56 = .ok (.iastore, 1) := by decide +kernel
theorem D139_57 : decode (byt 139) 57 = .ok (.goto 16, 3) := by decide +kernel
theorem D139_60 : decode (byt 139) 60 = .ok (.aload_n 0, 1) := by decide +kernel
theorem D139_61 : decode (byt 139) 61 = .ok (.getfield 19, 3) := by decide +kernel
theorem D139_64 : decode (byt 139) 64 = .ok (.iload_n 1, 1) := by decide +kernel
theorem D139_65 : decode (byt 139) 65 = .ok (.dup2, 1) := by decide +kernel
theorem D139_66 : decode (byt 139) 66 = .ok (.iaload, 1) := by decide +kernel
theorem D139_67 : decode (byt 139) 67 = .ok (.iload 4, 2) := by decide +kernel
theorem D139_69 : decode (byt 139) 69 = .ok (.iconst (-1), 1) := by decide +kernel
theorem D139_70 : decode (byt 139) 70 = .ok (.ixor, 1) := by decide +kernel
theorem D139_71 : decode (byt 139) 71 = .ok (.iand, 1) := by decide +kernel
theorem D139_72 : decode (byt 139) 72 = .ok (.iastore, 1) := by decide +kernel
theorem D139_73 : decode (byt 139) 73 = .ok (.iload 5, 2) := by decide +kernel
theorem D139_75 : decode (byt 139) 75 = .ok (.iload_n 3, 1) := by decide +kernel
theorem D139_76 : decode (byt 139) 76 = .ok (.if_icmp .eq 10, 3) := by decide +kernel
theorem D139_79 : decode (byt 139) 79 = .ok (.aload_n 0, 1) := by decide +kernel
theorem D139_80 : decode (byt 139) 80 = .ok (.getfield 34, 3) := by decide +kernel
theorem D139_83 : decode (byt 139) 83 = .ok (.iload_n 1, 1) := by decide +kernel
theorem D139_84 : decode (byt 139) 84 = .ok (.iconst 0, 1) := by decide +kernel
theorem D139_85 : decode (byt 139) 85 = .ok (.iastore, 1) := by decide +kernel
theorem D139_86 : decode (byt 139) 86 = .ok (.iload 5, 2) := by decide +kernel
theorem D139_88 : decode (byt 139) 88 = .ok (.ifCond .eq 7, 3) := by decide +kernel
theorem D139_91 : decode (byt 139) 91 = .ok (.iconst 1, 1) := by decide +kernel
theorem D139_92 : decode (byt 139) 92 = .ok (.goto 4, 3) := by decide +kernel
theorem D139_95 : decode (byt 139) 95 = .ok (.iconst 0, 1) := by decide +kernel
theorem D139_96 : decode (byt 139) 96 = .ok (.ireturn, 1) := by decide +kernel
theorem D140_0 : decode (byt 140) 0 = .ok (.iload_n 1, 1) := by decide +kernel
theorem D140_1 : decode (byt 140) 1 = .ok (.invokestatic 150, 3) := by decide +kernel
theorem D140_4 : decode (byt 140) 4 = .ok (.ifCond .eq 12, 3) := by decide +kernel
theorem D140_7 : decode (byt 140) 7 = .ok (.aload_n 0, 1) := by decide +kernel
theorem D140_8 : decode (byt 140) 8 = .ok (.iload_n 1, 1) := by decide +kernel
theorem D140_9 : decode (byt 140) 9 = .ok (.iload_n 2, 1) := by decide +kernel
theorem D140_10 : decode (byt 140) 10 = .ok (.invokevirtual 163, 3) := by decide +kernel
theorem D140_13 : decode (byt 140) 13 = .ok (.ifCond .ne 10, 3) := by decide +kernel
theorem D140_16 : decode (byt 140) 16 = .ok (.aload_n 0, 1) := by decide +kernel
theorem D140_17 : decode (byt 140) 17 = .ok (.bipush (-3), 2) := by decide +kernel
theorem D140_19 : decode (byt 140) 19 = .ok (.invokevirtual 154, 3) := by decide +kernel
theorem D140_22 : decode (byt 140) 22 = .ok (.ireturn, 1) := by decide +kernel
theorem D140_23 : decode (byt 140) 23 = .ok (.iload_n 2, 1) := by decide +kernel
theorem D140_24 : decode (byt 140) 24 = .ok (.invokestatic 170, 3) := by decide +kernel
theorem D140_27 : decode (byt 140) 27 = .ok (.invokestatic 183, 3) := by decide +kernel
theorem D140_30 : decode (byt 140) 30 = .ok (.istore_n 3, 1) := by decide +kernel
theorem D140_31 : decode (byt 140) 31 = .ok (.iload_n 2, 1) := by decide +kernel
theorem D140_32 : decode (byt 140) 32 = .ok (.ifCond .le 12, 3) := by decide +kernel
theorem D140_35 : decode (byt 140) 35 = .ok (.aload_n 0, 1) := by decide +kernel
theorem D140_36 : decode (byt 140) 36 = .ok (.getfield 22, 3) := by decide +kernel
theorem D140_39 : decode (byt 140) 39 = .ok (.iload_n 1, 1) := by decide +kernel
theorem D140_40 : decode (byt 140) 40 = .ok (.iaload, 1) := by decide +kernel
theorem D140_41 : decode (byt 140) 41 = .ok (.goto 9, 3) := by decide +kernel
theorem D140_44 : decode (byt 140) 44 = .ok (.aload_n 0, 1) := by decide +kernel
theorem D140_45 : decode (byt 140) 45 = .ok (.getfield 25, 3) := by decide +kernel
theorem D140_48 : decode (byt 140) 48 = .ok (.iload_n 1, 1) := by decide +kernel
theorem D140_49 : decode (byt 140) 49 = .ok (.iaload, 1) := by decide +kernel
theorem D140_50 : decode (byt 140) 50 = .ok (.iload_n 3, 1) := by decide +kernel
theorem D140_51 : decode (byt 140) 51 = .ok (.iand, 1) := by decide +kernel
theorem D140_52 : decode (byt 140) 52 = .ok (.ifCond .eq 7, 3) := by decide +kernel
theorem D140_55 : decode (byt 140) 55 = .ok (.iconst 1, 1) := by decide +kernel
theorem D140_56 : decode (byt 140) 56 = .ok (.goto 4, 3) := by decide +kernel
theorem D140_59 : decode (byt 140) 59 = .ok (.iconst 0, 1) := by decide +kernel
theorem D140_60 : decode (byt 140) 60 = .ok (.istore 4, 2) := by decide +kernel
theorem D140_62 : decode (byt 140) 62 = .ok (.iload_n 2, 1) := by decide +kernel
theorem D140_63 : decode (byt 140) 63 = .ok (.ifCond .le 12, 3) := by decide +kernel
theorem D140_66 : decode (byt 140) 66 = .ok (.aload_n 0, 1) := by decide +kernel
theorem D140_67 : decode (byt 140) 67 = .ok (.getfield 25, 3) := by decide +kernel
theorem D140_70 : decode (byt 140) 70 = .ok (.iload_n 1, 1) := by decide +kernel
theorem D140_71 : decode (byt 140) 71 = .ok (.iaload, 1) := by decide +kernel
theorem D140_72 : decode (byt 140) 72 = .ok (.goto 9, 3) := by decide +kernel
theorem D140_75 : decode (byt 140) 75 = .ok (.aload_n 0, 1) := by decide +kernel
theorem D140_76 : decode (byt 140) 76 = .ok (.getfield 22, 3) := by decide +kernel
theorem D140_79 : decode (byt 140) 79 = .ok (.iload_n 1, 1) := by decide +kernel
theorem D140_80 : decode (byt 140) 80 = .ok (.iaload, 1) := by decide +kernel
theorem D140_81 : decode (byt 140) 81 = .ok (.iload_n 3, 1) := by decide +kernel
theorem D140_82 : decode (byt 140) 82 = .ok (.iand, 1) := by decide +kernel
theorem D140_83 : decode (byt 140) 83 = .ok (.ifCond .eq 7, 3) := by decide +kernel
theorem D140_86 : decode (byt 140) 86 = .ok (.iconst 1, 1) := by decide +kernel
theorem D140_87 : decode (byt 140) 87 = .ok (.goto 4, 3) := by decide +kernel
theorem D140_90 : decode (byt 140) 90 = .ok (.iconst 0, 1) := by decide +kernel
theorem D140_91 : decode (byt 140) 91 = .ok (.istore 5, 2) := by decide +kernel
theorem D140_93 : decode (byt 140) 93 = .ok (.aload_n 0, 1) := by decide +kernel
theorem D140_94 : decode (byt 140) 94 = .ok (.getfield 22, 3) := by decide +kernel
theorem D140_97 : decode (byt 140) 97 = .ok (.iload_n 1, 1) := by decide +kernel
theorem D140_98 : decode (byt 140) 98 = .ok (.iload_n 2, 1) := by decide +kernel
theorem D140_99 : decode (byt 140) 99 = .ok (.ifCond .le 14, 3) := by decide +kernel
theorem D140_102 : decode (byt 140) 102 = .ok (.aload_n 0, 1) := by decide +kernel
theorem D140_103 : decode (byt 140) 103 = .ok (.getfield 22, 3) := by decide +kernel
theorem D140_106 : decode (byt 140) 106 = .ok (.iload_n 1, 1) := by decide +kernel
theorem D140_107 : decode (byt 140) 107 = .ok (.iaload, 1) := by decide +kernel
theorem D140_108 : decode (byt 140) 108 = .ok (.iload_n 3, 1) := by decide +kernel
theorem D140_109 : decode (byt 140) 109 = .ok (.ior, 1) := by decide +kernel
theorem D140_110 : decode (byt 140) 110 = .ok (.goto 13, 3) := by decide +kernel
theorem D140_113 : decode (byt 140) 113 = .ok (.aload_n 0, 1) := by decide +kernel
theorem D140_114 : decode (byt 140) 114 = .ok (.getfield 22, 3) := by decide +kernel
theorem D140_117 : decode (byt 140) 117 = .ok (.iload_n 1, 1) := by decide +kernel
theorem D140_118 : decode (byt 140) 118 = .ok (.iaload, 1) := by decide +kernel
theorem D140_119 : decode (byt 140) 119 = .ok (.iload_n 3, 1) := by decide +kernel
theorem D140_120 : decode (byt 140) 120 = .ok (.iconst (-1), 1) := by decide +kernel
theorem D140_121 : decode (byt 140) 121 = .ok (.ixor, 1) := by decide +kernel
theorem D140_122 : decode (byt 140) 122 = .ok (.iand, 1) := by decide +kernel
theorem D140_123 : decode (byt 140) 123 = .ok (.iastore, 1) := by decide +kernel
theorem D140_124 : decode (byt 140) 124 = .ok (.aload_n 0, 1) := by decide +kernel
theorem D140_125 : decode (byt 140) 125 = .ok (.getfield 25, 3) := by decide +kernel
theorem D140_128 : decode (byt 140) 128 = .ok (.iload_n 1, 1) := by decide +kernel
theorem D140_129 : decode (byt 140) 129 = .ok (.iload_n 2, 1) := by decide +kernel
theorem D140_130 : decode (byt 140) 130 = .ok (.ifCond .le 16, 3) := by decide +kernel
theorem D140_133 : decode (byt 140) 133 = .ok (.aload_n 0, 1) := by decide +kernel
theorem D140_134 : decode (byt 140) 134 = .ok (.getfield 25, 3) := by decide +kernel
theorem D140_137 : decode (byt 140) 137 = .ok (.iload_n 1, 1) := by decide +kernel
theorem D140_138 : decode (byt 140) 138 = .ok (.iaload, 1) := by decide +kernel
theorem D140_139 : decode (byt 140) 139 = .ok (.iload_n 3, 1) := by decide +kernel
theorem D140_140 : decode (byt 140) 140 = .ok (.iconst (-1), 1) := by decide +kernel
theorem D140_141 : decode (byt 140) 141 = .ok (.ixor, 1) := by decide +kernel
theorem D140_142 : decode (byt 140) 142 = .ok (.iand, 1) := by decide +kernel
theorem D140_143 : decode (byt 140) 143 = .ok (.goto 11, 3) := by decide +kernel
theorem D140_146 : decode (byt 140) 146 = .ok (.aload_n 0, 1) := by decide +kernel
theorem D140_147 : decode (byt 140) 147 = .ok (.getfield 25, 3) := by decide +kernel
theorem D140_150 : decode (byt 140) 150 = .ok (.iload_n 1, 1) := by decide +kernel
theorem D140_151 : decode (byt 140) 151 = .ok (.iaload, 1) := by decide +kernel
theorem D140_152 : decode (byt 140) 152 = .ok (.iload_n 3, 1) := by decide +kernel
theorem D140_153 : decode (byt 140) 153 = .ok (.ior, 1) := by decide +kernel
theorem D140_154 : decode (byt 140) 154 = .ok (.iastore, 1) := by decide +kernel
theorem D140_155 : decode (byt 140) 155 = .ok (.iload 4, 2) := by decide +kernel
theorem D140_157 : decode (byt 140) 157 = .ok (.ifCond .eq 7, 3) := by decide +kernel
theorem D140_160 : decode (byt 140) 160 = .ok (.iconst 0, 1) := by decide +kernel
theorem D140_161 : decode (byt 140) 161 = .ok (.goto 13, 3) := by decide +kernel
theorem D140_164 : decode (byt 140) 164 = .ok (.iload 5, 2) := by decide +kernel
theorem D140_166 : decode (byt 140) 166 = .ok (.ifCond .eq 7, 3) := by decide +kernel
theorem D140_169 : decode (byt 140) 169 = .ok (.iconst 2, 1) := by decide +kernel
theorem D140_170 : decode (byt 140) 170 = .ok (.goto 4, 3) := by decide +kernel
theorem D140_173 : decode (byt 140) 173 = .ok (.iconst 1, 1) := by decide +kernel
theorem D140_174 : decode (byt 140) 174 = .ok (.ireturn, 1) := by decide +kernel
theorem D141_0 : decode (byt 141) 0 = .ok (.aload_n 0, 1) := by decide +kernel
theorem D141_1 : decode (byt 141) 1 = .ok (.iload_n 1, 1) := by decide +kernel
theorem D141_2 : decode (byt 141) 2 = .ok (.iload_n 2, 1) := by decide +kernel
theorem D141_3 : decode (byt 141) 3 = .ok (.invokevirtual 180, 3) := by decide +kernel
theorem D141_6 : decode (byt 141) 6 = .ok (.ifCond .ne 10, 3) := by decide +kernel
theorem D141_9 : decode (byt 141) 9 = .ok (.aload_n 0, 1) := by decide +kernel
theorem D141_10 : decode (byt 141) 10 = .ok (.bipush (-3), 2) := by decide +kernel
theorem D141_12 : decode (byt 141) 12 = .ok (.invokevirtual 154, 3) := by decide +kernel
theorem D141_15 : decode (byt 141) 15 = .ok (.ireturn, 1) := by decide +kernel
theorem D141_16 : decode (byt 141) 16 = .ok (.iconst 1, 1) := by decide +kernel
theorem D141_17 : decode (byt 141) 17 = .ok (.iload_n 2, 1) := by decide +kernel
theorem D141_18 : decode (byt 141) 18 = .ok (.iconst 1, 1) := by decide +kernel
theorem D141_19 : decode (byt 141) 19 = .ok (.isub, 1) := by decide +kernel
theorem D141_20 : decode (byt 141) 20 = .ok (.ishl, 1) := by decide +kernel
theorem D141_21 : decode (byt 141) 21 = .ok (.istore_n 3, 1) := by decide +kernel
theorem D141_22 : decode (byt 141) 22 = .ok (.aload_n 0, 1) := by decide +kernel
theorem D141_23 : decode (byt 141) 23 = .ok (.getfield 22, 3) := by decide +kernel
theorem D141_26 : decode (byt 141) 26 = .ok (.iload_n 1, 1) := by decide +kernel
theorem D141_27 : decode (byt 141) 27 = .ok (.iaload, 1) := by decide +kernel
theorem D141_28 : decode (byt 141) 28 = .ok (.aload_n 0, 1) := by decide +kernel
theorem D141_29 : decode (byt 141) 29 = .ok (.getfield 25, 3) := by decide +kernel
theorem D141_32 : decode (byt 141) 32 = .ok (.iload_n 1, 1) := by decide +kernel
theorem D141_33 : decode (byt 141) 33 = .ok (.iaload, 1) := by decide +kernel
theorem D141_34 : decode (byt 141) 34 = .ok (.ior, 1) := by decide +kernel
theorem D141_35 : decode (byt 141) 35 = .ok (.iload_n 3, 1) := by decide +kernel
theorem D141_36 : decode (byt 141) 36 = .ok (.iand, 1) := by decide +kernel
theorem D141_37 : decode (byt 141) 37 = .ok (.ifCond .eq 7, 3) := by decide +kernel
theorem D141_40 : decode (byt 141) 40 = .ok (.iconst 1, 1) := by decide +kernel
theorem D141_41 : decode (byt 141) 41 = .ok (.goto 4, 3) := by decide +kernel
theorem D141_44 : decode (byt 141) 44 = .ok (.iconst 0, 1) := by decide +kernel
theorem D141_45 : decode (byt 141) 45 = .ok (.istore 4, 2) := by decide +kernel
theorem D141_47 : decode (byt 141) 47 = .ok (.aload_n 0, 1) := by decide +kernel
theorem D141_48 : decode (byt 141) 48 = .ok (.getfield 22, 3) := by decide +kernel
theorem D141_51 : decode (byt 141) 51 = .ok (.iload_n 1, 1) := by decide +kernel
theorem D141_52 : decode (byt 141) 52 = .ok (.dup2, 1) := by decide +kernel
theorem D141_53 : decode (byt 141) 53 = .ok (.iaload, 1) := by decide +kernel
theorem D141_54 : decode (byt 141) 54 = .ok (.iload_n 3, 1) := by decide +kernel
theorem D141_55 : decode (byt 141) 55 = .ok (.iconst (-1), 1) := by decide +kernel
theorem D141_56 : decode (byt 141) 56 = .ok (.ixor, 1) := by decide +kernel
theorem D141_57 : decode (byt 141) 57 = .ok (.iand, 1) := by decide +kernel
theorem D141_58 : decode (byt 141) 58 = .ok (.iastore, 1) := by decide +kernel
theorem D141_59 : decode (byt 141) 59 = .ok (.aload_n 0, 1) := by decide +kernel
theorem D141_60 : decode (byt 141) 60 = .ok (.getfield 25, 3) := by decide +kernel
theorem D141_63 : decode (byt 141) 63 = .ok (.iload_n 1, 1) := by decide +kernel
theorem D141_64 : decode (byt 141) 64 = .ok (.dup2, 1) := by decide +kernel
theorem D141_65 : decode (byt 141) 65 = .ok (.iaload, 1) := by decide +kernel
theorem D141_66 : decode (byt 141) 66 = .ok (.iload_n 3, 1) := by decide +kernel
theorem D141_67 : decode (byt 141) 67 = .ok (.iconst (-1), 1) := by decide +kernel
theorem D141_68 : decode (byt 141) 68 = .ok (.ixor, 1) := by decide +kernel
theorem D141_69 : decode (byt 141) 69 = .ok (.iand, 1) := by decide +kernel
theorem D141_70 : decode (byt 141) 70 = .ok (.iastore, 1) := by decide +kernel
theorem D141_71 : decode (byt 141) 71 = .ok (.iload 4, 2) := by decide +kernel
theorem D141_73 : decode (byt 141) 73 = .ok (.ireturn, 1) := by decide +kernel
theorem D142_0 : decode (byt 142) 0 = .ok (.bipush 24, 2) := by decide +kernel
theorem D142_2 : decode (byt 142) 2 = .ok (.iload_n 0, 1) := by decide +kernel
theorem D142_3 : decode (byt 142) 3 = .ok (.imul, 1) := by decide +kernel
theorem D142_4 : decode (byt 142) 4 = .ok (.iload_n 1, 1) := by decide +kernel
theorem D142_5 : decode (byt 142) 5 = .ok (.ifCond .le 9, 3) := by decide +kernel
theorem D142_8 : decode (byt 142) 8 = .ok (.iload_n 1, 1) := by decide +kernel
theorem D142_9 : decode (byt 142) 9 = .ok (.iconst 1, 1) := by decide +kernel
theorem D142_10 : decode (byt 142) 10 = .ok (.isub, 1) := by decide +kernel
theorem D142_11 : decode (byt 142) 11 = .ok (.goto 7, 3) := by decide +kernel
theorem D142_14 : decode (byt 142) 14 = .ok (.bipush 11, 2) := by decide +kernel
theorem D142_16 : decode (byt 142) 16 = .ok (.iload_n 1, 1) := by decide +kernel
theorem D142_17 : decode (byt 142) 17 = .ok (.isub, 1) := by decide +kernel
theorem D142_18 : decode (byt 142) 18 = .ok (.iadd, 1) := by decide +kernel
theorem D142_19 : decode (byt 142) 19 = .ok (.ireturn, 1) := by decide +kernel
theorem D143_0 : decode (byt 143) 0 = .ok (.iload_n 1, 1) := by decide +kernel
theorem D143_1 : decode (byt 143) 1 = .ok (.invokestatic 150, 3) := by decide +kernel
theorem D143_4 : decode (byt 143) 4 = .ok (.ifCond .eq 12, 3) := by decide +kernel
theorem D143_7 : decode (byt 143) 7 = .ok (.aload_n 0, 1) := by decide +kernel
theorem D143_8 : decode (byt 143) 8 = .ok (.iload_n 1, 1) := by decide +kernel
theorem D143_9 : decode (byt 143) 9 = .ok (.iload_n 2, 1) := by decide +kernel
theorem D143_10 : decode (byt 143) 10 = .ok (.invokevirtual 163, 3) := by decide +kernel
theorem D143_13 : decode (byt 143) 13 = .ok (.ifCond .ne 10, 3) := by decide +kernel
theorem D143_16 : decode (byt 143) 16 = .ok (.aload_n 0, 1) := by decide +kernel
theorem D143_17 : decode (byt 143) 17 = .ok (.bipush (-3), 2) := by decide +kernel
theorem D143_19 : decode (byt 143) 19 = .ok (.invokevirtual 154, 3) := by decide +kernel
theorem D143_22 : decode (byt 143) 22 = .ok (.ireturn, 1) := by decide +kernel
theorem D143_23 : decode (byt 143) 23 = .ok (.iload_n 3, 1) := by decide +kernel
theorem D143_24 : decode (byt 143) 24 = .ok (.i2l, 1) := by decide +kernel
theorem D143_25 : decode (byt 143) 25 = .ok (.lconst 0, 1) := by decide +kernel
theorem D143_26 : decode (byt 143) 26 = .ok (.ldc2_w 186, 3) := by decide +kernel
theorem D143_29 : decode (byt 143) 29 = .ok (.invokestatic 146, 3) := by decide +kernel
theorem D143_32 : decode (byt 143) 32 = .ok (.ifCond .ne 10, 3) := by decide +kernel
theorem D143_35 : decode (byt 143) 35 = .ok (.aload_n 0, 1) := by decide +kernel
theorem D143_36 : decode (byt 143) 36 = .ok (.bipush (-7), 2) := by decide +kernel
theorem D143_38 : decode (byt 143) 38 = .ok (.invokevirtual 154, 3) := by decide +kernel
theorem D143_41 : decode (byt 143) 41 = .ok (.ireturn, 1) := by decide +kernel
theorem D143_42 : decode (byt 143) 42 = .ok (.aload_n 0, 1) := by decide +kernel
theorem D143_43 : decode (byt 143) 43 = .ok (.getfield 28, 3) := by decide +kernel
theorem D143_46 : decode (byt 143) 46 = .ok (.iload_n 1, 1) := by decide +kernel
theorem D143_47 : decode (byt 143) 47 = .ok (.iload_n 2, 1) := by decide +kernel
theorem D143_48 : decode (byt 143) 48 = .ok (.invokestatic 188, 3) := by decide +kernel
theorem D143_51 : decode (byt 143) 51 = .ok (.iaload, 1) := by decide +kernel
theorem D143_52 : decode (byt 143) 52 = .ok (.istore 4, 2) := by decide +kernel
theorem D143_54 : decode (byt 143) 54 = .ok (.aload_n 0, 1) := by decide +kernel
theorem D143_55 : decode (byt 143) 55 = .ok (.getfield 28, 3) := by decide +kernel
theorem D143_58 : decode (byt 143) 58 = .ok (.iload_n 1, 1) := by decide +kernel
theorem D143_59 : decode (byt 143) 59 = .ok (.iload_n 2, 1) := by decide +kernel
theorem D143_60 : decode (byt 143) 60 = .ok (.invokestatic 188, 3) := by decide +kernel
theorem D143_63 : decode (byt 143) 63 = .ok (.iload_n 3, 1) := by decide +kernel
theorem D143_64 : decode (byt 143) 64 = .ok (.iastore, 1) := by decide +kernel
theorem D143_65 : decode (byt 143) 65 = .ok (.iload 4, 2) := by decide +kernel
theorem D143_67 : decode (byt 143) 67 = .ok (.ireturn, 1) := by decide +kernel
theorem D144_0 : decode (byt 144) 0 = .ok (.iload_n 1, 1) := by decide +kernel
theorem D144_1 : decode (byt 144) 1 = .ok (.invokestatic 150, 3) := by decide +kernel
theorem D144_4 : decode (byt 144) 4 = .ok (.ifCond .ne 10, 3) := by decide +kernel
theorem D144_7 : decode (byt 144) 7 = .ok (.aload_n 0, 1) := by decide +kernel
theorem D144_8 : decode (byt 144) 8 = .ok (.bipush (-3), 2) := by decide +kernel
theorem D144_10 : decode (byt 144) 10 = .ok (.invokevirtual 154, 3) := by decide +kernel
theorem D144_13 : decode (byt 144) 13 = .ok (.ireturn, 1) := by decide +kernel
theorem D144_14 : decode (byt 144) 14 = .ok (.iload_n 2, 1) := by decide +kernel
theorem D144_15 : decode (byt 144) 15 = .ok (.tableswitch 105 0 5 #[37, 44, 51, 58, 78, 88], 37) := by decide +kernel
theorem D144_52 : decode (byt 144) 52 = .ok (.aload_n 0, 1) := by decide +kernel
theorem D144_53 : decode (byt 144) 53 = .ok (.getfield 7, 3) := by decide +kernel
theorem D144_56 : decode (byt 144) 56 = .ok (.iload_n 1, 1) := by decide +kernel
theorem D144_57 : decode (byt 144) 57 = .ok (.iaload, 1) := by decide +kernel
theorem D144_58 : decode (byt 144) 58 = .ok (.ireturn, 1) := by decide +kernel
theorem D144_59 : decode (byt 144) 59 = .ok (.aload_n 0, 1) := by decide +kernel
theorem D144_60 : decode (byt 144) 60 = .ok (.getfield 16, 3) := by decide +kernel
theorem D144_63 : decode (byt 144) 63 = .ok (.iload_n 1, 1) := by decide +kernel
theorem D144_64 : decode (byt 144) 64 = .ok (.iaload, 1) := by decide +kernel
theorem D144_65 : decode (byt 144) 65 = .ok (.ireturn, 1) := by decide +kernel
theorem D144_66 : decode (byt 144) 66 = .ok (.aload_n 0, 1) := by decide +kernel
theorem D144_67 : decode (byt 144) 67 = .ok (.getfield 34, 3) := by decide +kernel
theorem D144_70 : decode (byt 144) 70 = .ok (.iload_n 1, 1) := by decide +kernel
theorem D144_71 : decode (byt 144) 71 = .ok (.iaload, 1) := by decide +kernel
theorem D144_72 : decode (byt 144) 72 = .ok (.ireturn, 1) := by decide +kernel
theorem D144_73 : decode (byt 144) 73 = .ok (.aload_n 0, 1) := by decide +kernel
theorem D144_74 : decode (byt 144) 74 = .ok (.getfield 34, 3) := by decide +kernel
theorem D144_77 : decode (byt 144) 77 = .ok (.iload_n 1, 1) := by decide +kernel
theorem D144_78 : decode (byt 144) 78 = .ok (.iaload, 1) := by decide +kernel
theorem D144_79 : decode (byt 144) 79 = .ok (.ifCond .le 12, 3) := by decide +kernel
theorem D144_82 : decode (byt 144) 82 = .ok (.aload_n 0, 1) := by decide +kernel
theorem D144_83 : decode (byt 144) 83 = .ok (.getfield 40, 3) := by decide +kernel
theorem D144_86 : decode (byt 144) 86 = .ok (.iload_n 1, 1) := by decide +kernel
theorem D144_87 : decode (byt 144) 87 = .ok (.iaload, 1) := by decide +kernel
theorem D144_88 : decode (byt 144) 88 = .ok (.goto 4, 3) := by decide +kernel
theorem D144_91 : decode (byt 144) 91 = .ok (.iconst 0, 1) := by decide +kernel
theorem D144_92 : decode (byt 144) 92 = .ok (.ireturn, 1) := by decide +kernel
theorem D144_93 : decode (byt 144) 93 = .ok (.aload_n 0, 1) := by decide +kernel
theorem D144_94 : decode (byt 144) 94 = .ok (.getfield 19, 3) := by decide +kernel
theorem D144_97 : decode (byt 144) 97 = .ok (.iload_n 1, 1) := by decide +kernel
theorem D144_98 : decode (byt 144) 98 = .ok (.iaload, 1) := by decide +kernel
theorem D144_99 : decode (byt 144) 99 = .ok (.invokestatic 177, 3) := by decide +kernel
theorem D144_102 : decode (byt 144) 102 = .ok (.ireturn, 1) := by decide +kernel
theorem D144_103 : decode (byt 144) 103 = .ok (.aload_n 0, 1) := by decide +kernel
theorem D144_104 : decode (byt 144) 104 = .ok (.getfield 22, 3) := by decide +kernel
theorem D144_107 : decode (byt 144) 107 = .ok (.iload_n 1, 1) := by decide +kernel
theorem D144_108 : decode (byt 144) 108 = .ok (.iaload, 1) := by decide +kernel
theorem D144_109 : decode (byt 144) 109 = .ok (.aload_n 0, 1) := by decide +kernel
theorem D144_110 : decode (byt 144) 110 = .ok (.getfield 25, 3) := by decide +kernel
theorem D144_113 : decode (byt 144) 113 = .ok (.iload_n 1, 1) := by decide +kernel
theorem D144_114 : decode (byt 144) 114 = .ok (.iaload, 1) := by decide +kernel
theorem D144_115 : decode (byt 144) 115 = .ok (.ior, 1) := by decide +kernel
theorem D144_116 : decode (byt 144) 116 = .ok (.invokestatic 177, 3) := by decide +kernel
theorem D144_119 : decode (byt 144) 119 = .ok (.ireturn, 1) := by decide +kernel
theorem D144_120 : decode (byt 144) 120 = .ok (.aload_n 0, 1) := by decide +kernel
theorem D144_121 : decode (byt 144) 121 = .ok (.bipush (-7), 2) := by decide +kernel
theorem D144_123 : decode (byt 144) 123 = .ok (.invokevirtual 154, 3) := by decide +kernel
theorem D144_126 : decode (byt 144) 126 = .ok (.ireturn, 1) := by decide +kernel
theorem D145_0 : decode (byt 145) 0 = .ok (.aload_n 0, 1) := by decide +kernel
theorem D145_1 : decode (byt 145) 1 = .ok (.getfield 34, 3) := by decide +kernel
theorem D145_4 : decode (byt 145) 4 = .ok (.iload_n 1, 1) := by decide +kernel
theorem D145_5 : decode (byt 145) 5 = .ok (.iaload, 1) := by decide +kernel
theorem D145_6 : decode (byt 145) 6 = .ok (.sipush 1500, 3) := by decide +kernel
theorem D145_9 : decode (byt 145) 9 = .ok (.if_icmp .ne 10, 3) := by decide +kernel
theorem D145_12 : decode (byt 145) 12 = .ok (.aload_n 0, 1) := by decide +kernel
theorem D145_13 : decode (byt 145) 13 = .ok (.iconst 1, 1) := by decide +kernel
theorem D145_14 : decode (byt 145) 14 = .ok (.putfield 191, 3) := by decide +kernel
theorem D145_17 : decode (byt 145) 17 = .ok (.iconst 1, 1) := by decide +kernel
theorem D145_18 : decode (byt 145) 18 = .ok (.ireturn, 1) := by decide +kernel
theorem D145_19 : decode (byt 145) 19 = .ok (.sipush 1500, 3) := by decide +kernel
theorem D145_22 : decode (byt 145) 22 = .ok (.iload_n 1, 1) := by decide +kernel
theorem D145_23 : decode (byt 145) 23 = .ok (.imul, 1) := by decide +kernel
theorem D145_24 : decode (byt 145) 24 = .ok (.aload_n 0, 1) := by decide +kernel
theorem D145_25 : decode (byt 145) 25 = .ok (.getfield 34, 3) := by decide +kernel
theorem D145_28 : decode (byt 145) 28 = .ok (.iload_n 1, 1) := by decide +kernel
theorem D145_29 : decode (byt 145) 29 = .ok (.iaload, 1) := by decide +kernel
theorem D145_30 : decode (byt 145) 30 = .ok (.iadd, 1) := by decide +kernel
theorem D145_31 : decode (byt 145) 31 = .ok (.istore 4, 2) := by decide +kernel
theorem D145_33 : decode (byt 145) 33 = .ok (.aload_n 0, 1) := by decide +kernel
theorem D145_34 : decode (byt 145) 34 = .ok (.getfield 43, 3) := by decide +kernel
theorem D145_37 : decode (byt 145) 37 = .ok (.iload 4, 2) := by decide +kernel
theorem D145_39 : decode (byt 145) 39 = .ok (.iload_n 2, 1) := by decide +kernel
theorem D145_40 : decode (byt 145) 40 = .ok (.iastore, 1) := by decide +kernel
theorem D145_41 : decode (byt 145) 41 = .ok (.aload_n 0, 1) := by decide +kernel
theorem D145_42 : decode (byt 145) 42 = .ok (.getfield 46, 3) := by decide +kernel
theorem D145_45 : decode (byt 145) 45 = .ok (.iload 4, 2) := by decide +kernel
theorem D145_47 : decode (byt 145) 47 = .ok (.iload_n 3, 1) := by decide +kernel
theorem D145_48 : decode (byt 145) 48 = .ok (.iastore, 1) := by decide +kernel
theorem D145_49 : decode (byt 145) 49 = .ok (.aload_n 0, 1) := by decide +kernel
theorem D145_50 : decode (byt 145) 50 = .ok (.getfield 49, 3) := by decide +kernel
theorem D145_53 : decode (byt 145) 53 = .ok (.iload 4, 2) := by decide +kernel
theorem D145_55 : decode (byt 145) 55 = .ok (.ldc 195, 2) := by decide +kernel
theorem D145_57 : decode (byt 145) 57 = .ok (.iload_n 1, 1) := by decide +kernel
theorem D145_58 : decode (byt 145) 58 = .ok (.imul, 1) := by decide +kernel
theorem D145_59 : decode (byt 145) 59 = .ok (.aload_n 0, 1) := by decide +kernel
theorem D145_60 : decode (byt 145) 60 = .ok (.getfield 59, 3) := by decide +kernel
theorem D145_63 : decode (byt 145) 63 = .ok (.iload_n 1, 1) := by decide +kernel
theorem D145_64 : decode (byt 145) 64 = .ok (.iaload, 1) := by decide +kernel
theorem D145_65 : decode (byt 145) 65 = .ok (.iadd, 1) := by decide +kernel
theorem D145_66 : decode (byt 145) 66 = .ok (.iastore, 1) := by decide +kernel
theorem D145_67 : decode (byt 145) 67 = .ok (.aload_n 0, 1) := by decide +kernel
theorem D145_68 : decode (byt 145) 68 = .ok (.getfield 52, 3) := by decide +kernel
theorem D145_71 : decode (byt 145) 71 = .ok (.iload 4, 2) := by decide +kernel
theorem D145_73 : decode (byt 145) 73 = .ok (.iconst 0, 1) := by decide +kernel
theorem D145_74 : decode (byt 145) 74 = .ok (.iastore, 1) := by decide +kernel
theorem D145_75 : decode (byt 145) 75 = .ok (.aload_n 0, 1) := by decide +kernel
theorem D145_76 : decode (byt 145) 76 = .ok (.getfield 34, 3) := by decide +kernel
theorem D145_79 : decode (byt 145) 79 = .ok (.iload_n 1, 1) := by decide +kernel
theorem D145_80 : decode (byt 145) 80 = .ok (.dup2, 1) := by decide +kernel
theorem D145_81 : decode (byt 145) 81 = .ok (.iaload, 1) := by decide +kernel
theorem D145_82 : decode (byt 145) 82 = .ok (.iconst 1, 1) := by decide +kernel
theorem D145_83 : decode (byt 145) 83 = .ok (.iadd, 1) := by decide +kernel
theorem D145_84 : decode (byt 145) 84 = .ok (.iastore, 1) := by decide +kernel
theorem D145_85 : decode (byt 145) 85 = .ok (.aload_n 0, 1) := by decide +kernel
theorem D145_86 : decode (byt 145) 86 = .ok (.getfield 34, 3) := by decide +kernel
theorem D145_89 : decode (byt 145) 89 = .ok (.iload_n 1, 1) := by decide +kernel
theorem D145_90 : decode (byt 145) 90 = .ok (.iaload, 1) := by decide +kernel
theorem D145_91 : decode (byt 145) 91 = .ok (.iconst 1, 1) := by decide +kernel
theorem D145_92 : decode (byt 145) 92 = .ok (.isub, 1) := by decide +kernel
theorem D145_93 : decode (byt 145) 93 = .ok (.ireturn, 1) := by decide +kernel
theorem D146_0 : decode (byt 146) 0 = .ok (.sipush 1500, 3) := by decide +kernel
theorem D146_3 : decode (byt 146) 3 = .ok (.iload_n 1, 1) := by decide +kernel
theorem D146_4 : decode (byt 146) 4 = .ok (.imul, 1) := by decide +kernel
theorem D146_5 : decode (byt 146) 5 = .ok (.iload_n 2, 1) := by decide +kernel
theorem D146_6 : decode (byt 146) 6 = .ok (.iadd, 1) := by decide +kernel
theorem D146_7 : decode (byt 146) 7 = .ok (.istore 4, 2) := by decide +kernel
theorem D146_9 : decode (byt 146) 9 = .ok (.aload_n 0, 1) := by decide +kernel
theorem D146_10 : decode (byt 146) 10 = .ok (.getfield 56, 3) := by decide +kernel
theorem D146_13 : decode (byt 146) 13 = .ok (.aload_n 0, 1) := by decide +kernel
theorem D146_14 : decode (byt 146) 14 = .ok (.getfield 49, 3) := by decide +kernel
theorem D146_17 : decode (byt 146) 17 = .ok (.iload 4, 2) := by decide +kernel
theorem D146_19 : decode (byt 146) 19 = .ok (.iaload, 1) := by decide +kernel
theorem D146_20 : decode (byt 146) 20 = .ok (.aload_n 0, 1) := by decide +kernel
theorem D146_21 : decode (byt 146) 21 = .ok (.getfield 52, 3) := by decide +kernel
theorem D146_24 : decode (byt 146) 24 = .ok (.iload 4, 2) := by decide +kernel
theorem D146_26 : decode (byt 146) 26 = .ok (.iaload, 1) := by decide +kernel
theorem D146_27 : decode (byt 146) 27 = .ok (.iadd, 1) := by decide +kernel
theorem D146_28 : decode (byt 146) 28 = .ok (.iload_n 3, 1) := by decide +kernel
theorem D146_29 : decode (byt 146) 29 = .ok (.iastore, 1) := by decide +kernel
theorem D146_30 : decode (byt 146) 30 = .ok (.aload_n 0, 1) := by decide +kernel
theorem D146_31 : decode (byt 146) 31 = .ok (.getfield 52, 3) := by decide +kernel
theorem D146_34 : decode (byt 146) 34 = .ok (.iload 4, 2) := by decide +kernel
theorem D146_36 : decode (byt 146) 36 = .ok (.dup2, 1) := by decide +kernel
theorem D146_37 : decode (byt 146) 37 = .ok (.iaload, 1) := by decide +kernel
theorem D146_38 : decode (byt 146) 38 = .ok (.iconst 1, 1) := by decide +kernel
theorem D146_39 : decode (byt 146) 39 = .ok (.iadd, 1) := by decide +kernel
theorem D146_40 : decode (byt 146) 40 = .ok (.iastore, 1) := by decide +kernel
theorem D146_41 : decode (byt 146) 41 = .ok (.aload_n 0, 1) := by decide +kernel
theorem D146_42 : decode (byt 146) 42 = .ok (.getfield 59, 3) := by decide +kernel
theorem D146_45 : decode (byt 146) 45 = .ok (.iload_n 1, 1) := by decide +kernel
theorem D146_46 : decode (byt 146) 46 = .ok (.dup2, 1) := by decide +kernel
theorem D146_47 : decode (byt 146) 47 = .ok (.iaload, 1) := by decide +kernel
theorem D146_48 : decode (byt 146) 48 = .ok (.iconst 1, 1) := by decide +kernel
theorem D146_49 : decode (byt 146) 49 = .ok (.iadd, 1) := by decide +kernel
theorem D146_50 : decode (byt 146) 50 = .ok (.iastore, 1) := by decide +kernel
theorem D146_51 : decode (byt 146) 51 = .ok (.return_, 1) := by decide +kernel
theorem D147_0 : decode (byt 147) 0 = .ok (.bipush 40, 2) := by decide +kernel
theorem D147_2 : decode (byt 147) 2 = .ok (.iload_n 1, 1) := by decide +kernel
theorem D147_3 : decode (byt 147) 3 = .ok (.imul, 1) := by decide +kernel
theorem D147_4 : decode (byt 147) 4 = .ok (.istore_n 3, 1) := by decide +kernel
theorem D147_5 : decode (byt 147) 5 = .ok (.iload_n 3, 1) := by decide +kernel
theorem D147_6 : decode (byt 147) 6 = .ok (.bipush 40, 2) := by decide +kernel
theorem D147_8 : decode (byt 147) 8 = .ok (.iload_n 1, 1) := by decide +kernel
theorem D147_9 : decode (byt 147) 9 = .ok (.imul, 1) := by decide +kernel
theorem D147_10 : decode (byt 147) 10 = .ok (.aload_n 0, 1) := by decide +kernel
theorem D147_11 : decode (byt 147) 11 = .ok (.getfield 68, 3) := by decide +kernel
theorem D147_14 : decode (byt 147) 14 = .ok (.iload_n 1, 1) := by decide +kernel
theorem D147_15 : decode (byt 147) 15 = .ok (.iaload, 1) := by decide +kernel
theorem D147_16 : decode (byt 147) 16 = .ok (.iadd, 1) := by decide +kernel
theorem D147_17 : decode (byt 147) 17 = .ok (.if_icmp .ge 20, 3) := by decide +kernel
theorem D147_20 : decode (byt 147) 20 = .ok (.aload_n 0, 1) := by decide +kernel
theorem D147_21 : decode (byt 147) 21 = .ok (.getfield 65, 3) := by decide +kernel
theorem D147_24 : decode (byt 147) 24 = .ok (.iload_n 3, 1) := by decide +kernel
theorem D147_25 : decode (byt 147) 25 = .ok (.iaload, 1) := by decide +kernel
theorem D147_26 : decode (byt 147) 26 = .ok (.iload_n 2, 1) := by decide +kernel
theorem D147_27 : decode (byt 147) 27 = .ok (.if_icmp .ne 4, 3) := by decide +kernel
theorem D147_30 : decode (byt 147) 30 = .ok (.return_, 1) := by decide +kernel
theorem D147_31 : decode (byt 147) 31 = .ok (.iinc 3 1, 3) := by decide +kernel
theorem D147_34 : decode (byt 147) 34 = .ok (.goto (-29), 3) := by decide +kernel
theorem D147_37 : decode (byt 147) 37 = .ok (.aload_n 0, 1) := by decide +kernel
theorem D147_38 : decode (byt 147) 38 = .ok (.getfield 65, 3) := by decide +kernel
theorem D147_41 : decode (byt 147) 41 = .ok (.bipush 40, 2) := by decide +kernel
theorem D147_43 : decode (byt 147) 43 = .ok (.iload_n 1, 1) := by decide +kernel
theorem D147_44 : decode (byt 147) 44 = .ok (.imul, 1) := by decide +kernel
theorem D147_45 : decode (byt 147) 45 = .ok (.aload_n 0, 1) := by decide +kernel
theorem D147_46 : decode (byt 147) 46 = .ok (.getfield 68, 3) := by decide +kernel
theorem D147_49 : decode (byt 147) 49 = .ok (.iload_n 1, 1) := by decide +kernel
theorem D147_50 : decode (byt 147) 50 = .ok (.iaload, 1) := by decide +kernel
theorem D147_51 : decode (byt 147) 51 = .ok (.iadd, 1) := by decide +kernel
theorem D147_52 : decode (byt 147) 52 = .ok (.iload_n 2, 1) := by decide +kernel
theorem D147_53 : decode (byt 147) 53 = .ok (.iastore, 1) := by decide +kernel
theorem D147_54 : decode (byt 147) 54 = .ok (.aload_n 0, 1) := by decide +kernel
theorem D147_55 : decode (byt 147) 55 = .ok (.getfield 68, 3) := by decide +kernel
theorem D147_58 : decode (byt 147) 58 = .ok (.iload_n 1, 1) := by decide +kernel
theorem D147_59 : decode (byt 147) 59 = .ok (.dup2, 1) := by decide +kernel
theorem D147_60 : decode (byt 147) 60 = .ok (.iaload, 1) := by decide +kernel
theorem D147_61 : decode (byt 147) 61 = .ok (.iconst 1, 1) := by decide +kernel
theorem D147_62 : decode (byt 147) 62 = .ok (.iadd, 1) := by decide +kernel
theorem D147_63 : decode (byt 147) 63 = .ok (.iastore, 1) := by decide +kernel
theorem D147_64 : decode (byt 147) 64 = .ok (.return_, 1) := by decide +kernel
theorem D148_0 : decode (byt 148) 0 = .ok (.aload_n 0, 1) := by decide +kernel
theorem D148_1 : decode (byt 148) 1 = .ok (.getfield 68, 3) := by decide +kernel
theorem D148_4 : decode (byt 148) 4 = .ok (.iload_n 1, 1) := by decide +kernel
theorem D148_5 : decode (byt 148) 5 = .ok (.iaload, 1) := by decide +kernel
theorem D148_6 : decode (byt 148) 6 = .ok (.istore_n 3, 1) := by decide +kernel
theorem D148_7 : decode (byt 148) 7 = .ok (.aload_n 0, 1) := by decide +kernel
theorem D148_8 : decode (byt 148) 8 = .ok (.getfield 68, 3) := by decide +kernel
theorem D148_11 : decode (byt 148) 11 = .ok (.iload_n 1, 1) := by decide +kernel
theorem D148_12 : decode (byt 148) 12 = .ok (.iconst 0, 1) := by decide +kernel
theorem D148_13 : decode (byt 148) 13 = .ok (.iastore, 1) := by decide +kernel
theorem D148_14 : decode (byt 148) 14 = .ok (.bipush 40, 2) := by decide +kernel
theorem D148_16 : decode (byt 148) 16 = .ok (.iload_n 1, 1) := by decide +kernel
theorem D148_17 : decode (byt 148) 17 = .ok (.imul, 1) := by decide +kernel
theorem D148_18 : decode (byt 148) 18 = .ok (.istore 4, 2) := by decide +kernel
theorem D148_20 : decode (byt 148) 20 = .ok (.iload 4, 2) := by decide +kernel
theorem D148_22 : decode (byt 148) 22 = .ok (.bipush 40, 2) := by decide +kernel
theorem D148_24 : decode (byt 148) 24 = .ok (.iload_n 1, 1) := by decide +kernel
theorem D148_25 : decode (byt 148) 25 = .ok (.imul, 1) := by decide +kernel
theorem D148_26 : decode (byt 148) 26 = .ok (.iload_n 3, 1) := by decide +kernel
theorem D148_27 : decode (byt 148) 27 = .ok (.iadd, 1) := by decide +kernel
theorem D148_28 : decode (byt 148) 28 = .ok (.if_icmp .ge 39, 3) := by decide +kernel
theorem D148_31 : decode (byt 148) 31 = .ok (.aload_n 0, 1) := by decide +kernel
theorem D148_32 : decode (byt 148) 32 = .ok (.getfield 65, 3) := by decide +kernel
theorem D148_35 : decode (byt 148) 35 = .ok (.iload 4, 2) := by decide +kernel
theorem D148_37 : decode (byt 148) 37 = .ok (.iaload, 1) := by decide +kernel
theorem D148_38 : decode (byt 148) 38 = .ok (.istore 5, 2) := by decide +kernel
theorem D148_40 : decode (byt 148) 40 = .ok (.iload 5, 2) := by decide +kernel
theorem D148_42 : decode (byt 148) 42 = .ok (.iload_n 2, 1) := by decide +kernel
theorem D148_43 : decode (byt 148) 43 = .ok (.iand, 1) := by decide +kernel
theorem D148_44 : decode (byt 148) 44 = .ok (.ifCond .ne 17, 3) := by decide +kernel
theorem D148_47 : decode (byt 148) 47 = .ok (.aload_n 0, 1) := by decide +kernel
theorem D148_48 : decode (byt 148) 48 = .ok (.iload_n 1, 1) := by decide +kernel
theorem D148_49 : decode (byt 148) 49 = .ok (.iload 5, 2) := by decide +kernel
theorem D148_51 : decode (byt 148) 51 = .ok (.iload_n 2, 1) := by decide +kernel
theorem D148_52 : decode (byt 148) 52 = .ok (.invokestatic 160, 3) := by decide +kernel
theorem D148_55 : decode (byt 148) 55 = .ok (.iconst (-1), 1) := by decide +kernel
theorem D148_56 : decode (byt 148) 56 = .ok (.ixor, 1) := by decide +kernel
theorem D148_57 : decode (byt 148) 57 = .ok (.iand, 1) := by decide +kernel
theorem D148_58 : decode (byt 148) 58 = .ok (.invokevirtual 196, 3) := by decide +kernel
theorem D148_61 : decode (byt 148) 61 = .ok (.iinc 4 1, 3) := by decide +kernel
theorem D148_64 : decode (byt 148) 64 = .ok (.goto (-44), 3) := by decide +kernel
theorem D148_67 : decode (byt 148) 67 = .ok (.return_, 1) := by decide +kernel
theorem D149_0 : decode (byt 149) 0 = .ok (.bipush 40, 2) := by decide +kernel
theorem D149_2 : decode (byt 149) 2 = .ok (.iload_n 1, 1) := by decide +kernel
theorem D149_3 : decode (byt 149) 3 = .ok (.imul, 1) := by decide +kernel
theorem D149_4 : decode (byt 149) 4 = .ok (.istore_n 3, 1) := by decide +kernel
theorem D149_5 : decode (byt 149) 5 = .ok (.iload_n 3, 1) := by decide +kernel
theorem D149_6 : decode (byt 149) 6 = .ok (.bipush 40, 2) := by decide +kernel
theorem D149_8 : decode (byt 149) 8 = .ok (.iload_n 1, 1) := by decide +kernel
theorem D149_9 : decode (byt 149) 9 = .ok (.imul, 1) := by decide +kernel
theorem D149_10 : decode (byt 149) 10 = .ok (.aload_n 0, 1) := by decide +kernel
theorem D149_11 : decode (byt 149) 11 = .ok (.getfield 68, 3) := by decide +kernel
theorem D149_14 : decode (byt 149) 14 = .ok (.iload_n 1, 1) := by decide +kernel
theorem D149_15 : decode (byt 149) 15 = .ok (.iaload, 1) := by decide +kernel
theorem D149_16 : decode (byt 149) 16 = .ok (.iadd, 1) := by decide +kernel
theorem D149_17 : decode (byt 149) 17 = .ok (.if_icmp .ge 29, 3) := by decide +kernel
theorem D149_20 : decode (byt 149) 20 = .ok (.aload_n 0, 1) := by decide +kernel
theorem D149_21 : decode (byt 149) 21 = .ok (.getfield 65, 3) := by decide +kernel
theorem D149_24 : decode (byt 149) 24 = .ok (.iload_n 3, 1) := by decide +kernel
theorem D149_25 : decode (byt 149) 25 = .ok (.iaload, 1) := by decide +kernel
theorem D149_26 : decode (byt 149) 26 = .ok (.invokestatic 177, 3) := by decide +kernel
theorem D149_29 : decode (byt 149) 29 = .ok (.iload_n 2, 1) := by decide +kernel
theorem D149_30 : decode (byt 149) 30 = .ok (.if_icmp .ne 10, 3) := by decide +kernel
theorem D149_33 : decode (byt 149) 33 = .ok (.aload_n 0, 1) := by decide +kernel
theorem D149_34 : decode (byt 149) 34 = .ok (.getfield 65, 3) := by decide +kernel
theorem D149_37 : decode (byt 149) 37 = .ok (.iload_n 3, 1) := by decide +kernel
theorem D149_38 : decode (byt 149) 38 = .ok (.iaload, 1) := by decide +kernel
theorem D149_39 : decode (byt 149) 39 = .ok (.ireturn, 1) := by decide +kernel
theorem D149_40 : decode (byt 149) 40 = .ok (.iinc 3 1, 3) := by decide +kernel
theorem D149_43 : decode (byt 149) 43 = .ok (.goto (-38), 3) := by decide +kernel
theorem D149_46 : decode (byt 149) 46 = .ok (.iconst (-1), 1) := by decide +kernel
theorem D149_47 : decode (byt 149) 47 = .ok (.ireturn, 1) := by decide +kernel
theorem D150_0 : decode (byt 150) 0 = .ok (.aload_n 0, 1) := by decide +kernel
theorem D150_1 : decode (byt 150) 1 = .ok (.iload_n 1, 1) := by decide +kernel
theorem D150_2 : decode (byt 150) 2 = .ok (.iconst 0, 1) := by decide +kernel
theorem D150_3 : decode (byt 150) 3 = .ok (.invokevirtual 200, 3) := by decide +kernel
theorem D150_6 : decode (byt 150) 6 = .ok (.ifCond .lt 5, 3) := by decide +kernel
theorem D150_9 : decode (byt 150) 9 = .ok (.iconst 0, 1) := by decide +kernel
theorem D150_10 : decode (byt 150) 10 = .ok (.ireturn, 1) := by decide +kernel
theorem D150_11 : decode (byt 150) 11 = .ok (.aload_n 0, 1) := by decide +kernel
theorem D150_12 : decode (byt 150) 12 = .ok (.iload_n 1, 1) := by decide +kernel
theorem D150_13 : decode (byt 150) 13 = .ok (.iconst 1, 1) := by decide +kernel
theorem D150_14 : decode (byt 150) 14 = .ok (.invokevirtual 200, 3) := by decide +kernel
theorem D150_17 : decode (byt 150) 17 = .ok (.istore_n 2, 1) := by decide +kernel
theorem D150_18 : decode (byt 150) 18 = .ok (.iload_n 2, 1) := by decide +kernel
theorem D150_19 : decode (byt 150) 19 = .ok (.ifCond .ge 5, 3) := by decide +kernel
theorem D150_22 : decode (byt 150) 22 = .ok (.iconst 1, 1) := by decide +kernel
theorem D150_23 : decode (byt 150) 23 = .ok (.ireturn, 1) := by decide +kernel
theorem D150_24 : decode (byt 150) 24 = .ok (.aload_n 0, 1) := by decide +kernel
theorem D150_25 : decode (byt 150) 25 = .ok (.getfield 71, 3) := by decide +kernel
theorem D150_28 : decode (byt 150) 28 = .ok (.bipush 12, 2) := by decide +kernel
theorem D150_30 : decode (byt 150) 30 = .ok (.iload_n 1, 1) := by decide +kernel
theorem D150_31 : decode (byt 150) 31 = .ok (.imul, 1) := by decide +kernel
theorem D150_32 : decode (byt 150) 32 = .ok (.aload_n 0, 1) := by decide +kernel
theorem D150_33 : decode (byt 150) 33 = .ok (.getfield 74, 3) := by decide +kernel
theorem D150_36 : decode (byt 150) 36 = .ok (.iload_n 1, 1) := by decide +kernel
theorem D150_37 : decode (byt 150) 37 = .ok (.iaload, 1) := by decide +kernel
theorem D150_38 : decode (byt 150) 38 = .ok (.iadd, 1) := by decide +kernel
theorem D150_39 : decode (byt 150) 39 = .ok (.iload_n 2, 1) := by decide +kernel
theorem D150_40 : decode (byt 150) 40 = .ok (.iastore, 1) := by decide +kernel
theorem D150_41 : decode (byt 150) 41 = .ok (.aload_n 0, 1) := by decide +kernel
theorem D150_42 : decode (byt 150) 42 = .ok (.getfield 74, 3) := by decide +kernel
theorem D150_45 : decode (byt 150) 45 = .ok (.iload_n 1, 1) := by decide +kernel
theorem D150_46 : decode (byt 150) 46 = .ok (.dup2, 1) := by decide +kernel
theorem D150_47 : decode (byt 150) 47 = .ok (.iaload, 1) := by decide +kernel
theorem D150_48 : decode (byt 150) 48 = .ok (.iconst 1, 1) := by decide +kernel
theorem D150_49 : decode (byt 150) 49 = .ok (.iadd, 1) := by decide +kernel
theorem D150_50 : decode (byt 150) 50 = .ok (.iastore, 1) := by decide +kernel
theorem D150_51 : decode (byt 150) 51 = .ok (.aload_n 0, 1) := by decide +kernel
theorem D150_52 : decode (byt 150) 52 = .ok (.iload_n 1, 1) := by decide +kernel
theorem D150_53 : decode (byt 150) 53 = .ok (.iload_n 2, 1) := by decide +kernel
theorem D150_54 : decode (byt 150) 54 = .ok (.invokevirtual 203, 3) := by decide +kernel
theorem D150_57 : decode (byt 150) 57 = .ok (.goto (-57), 3) := by decide +kernel
theorem D151_0 : decode (byt 151) 0 = .ok (.bipush 40, 2) := by decide +kernel
theorem D151_2 : decode (byt 151) 2 = .ok (.iload_n 1, 1) := by decide +kernel
theorem D151_3 : decode (byt 151) 3 = .ok (.imul, 1) := by decide +kernel
theorem D151_4 : decode (byt 151) 4 = .ok (.istore_n 2, 1) := by decide +kernel
theorem D151_5 : decode (byt 151) 5 = .ok (.aload_n 0, 1) := by decide +kernel
theorem D151_6 : decode (byt 151) 6 = .ok (.getfield 80, 3) := by decide +kernel
theorem D151_9 : decode (byt 151) 9 = .ok (.iload_n 1, 1) := by decide +kernel
theorem D151_10 : decode (byt 151) 10 = .ok (.iconst 0, 1) := by decide +kernel
theorem D151_11 : decode (byt 151) 11 = .ok (.iastore, 1) := by decide +kernel
theorem D151_12 : decode (byt 151) 12 = .ok (.iload_n 2, 1) := by decide +kernel
theorem D151_13 : decode (byt 151) 13 = .ok (.istore_n 3, 1) := by decide +kernel
theorem D151_14 : decode (byt 151) 14 = .ok (.iload_n 3, 1) := by decide +kernel
theorem D151_15 : decode (byt 151) 15 = .ok (.iload_n 2, 1) := by decide +kernel
theorem D151_16 : decode (byt 151) 16 = .ok (.aload_n 0, 1) := by decide +kernel
theorem D151_17 : decode (byt 151) 17 = .ok (.getfield 68, 3) := by decide +kernel
theorem D151_20 : decode (byt 151) 20 = .ok (.iload_n 1, 1) := by decide +kernel
theorem D151_21 : decode (byt 151) 21 = .ok (.iaload, 1) := by decide +kernel
theorem D151_22 : decode (byt 151) 22 = .ok (.iadd, 1) := by decide +kernel
theorem D151_23 : decode (byt 151) 23 = .ok (.if_icmp .ge 16, 3) := by decide +kernel
theorem D151_26 : decode (byt 151) 26 = .ok (.aload_n 0, 1) := by decide +kernel
theorem D151_27 : decode (byt 151) 27 = .ok (.getfield 77, 3) := by decide +kernel
theorem D151_30 : decode (byt 151) 30 = .ok (.iload_n 3, 1) := by decide +kernel
theorem D151_31 : decode (byt 151) 31 = .ok (.iconst (-1), 1) := by decide +kernel
theorem D151_32 : decode (byt 151) 32 = .ok (.iastore, 1) := by decide +kernel
theorem D151_33 : decode (byt 151) 33 = .ok (.iinc 3 1, 3) := by decide +kernel
theorem D151_36 : decode (byt 151) 36 = .ok (.goto (-22), 3) := by decide +kernel
theorem D151_39 : decode (byt 151) 39 = .ok (.iload_n 2, 1) := by decide +kernel
theorem D151_40 : decode (byt 151) 40 = .ok (.istore_n 3, 1) := by decide +kernel
theorem D151_41 : decode (byt 151) 41 = .ok (.iload_n 3, 1) := by decide +kernel
theorem D151_42 : decode (byt 151) 42 = .ok (.iload_n 2, 1) := by decide +kernel
theorem D151_43 : decode (byt 151) 43 = .ok (.aload_n 0, 1) := by decide +kernel
theorem D151_44 : decode (byt 151) 44 = .ok (.getfield 68, 3) := by decide +kernel
theorem D151_47 : decode (byt 151) 47 = .ok (.iload_n 1, 1) := by decide +kernel
theorem D151_48 : decode (byt 151) 48 = .ok (.iaload, 1) := by decide +kernel
theorem D151_49 : decode (byt 151) 49 = .ok (.iadd, 1) := by decide +kernel
theorem D151_50 : decode (byt 151) 50 = .ok (.if_icmp .ge 138, 3) := by decide +kernel
theorem D151_53 : decode (byt 151) 53 = .ok (.aload_n 0, 1) := by decide +kernel
theorem D151_54 : decode (byt 151) 54 = .ok (.getfield 77, 3) := by decide +kernel
theorem D151_57 : decode (byt 151) 57 = .ok (.iload_n 3, 1) := by decide +kernel
theorem D151_58 : decode (byt 151) 58 = .ok (.iaload, 1) := by decide +kernel
theorem D151_59 : decode (byt 151) 59 = .ok (.ifCond .lt 6, 3) := by decide +kernel
theorem D151_62 : decode (byt 151) 62 = .ok (.goto 120, 3) := by decide +kernel
theorem D151_65 : decode (byt 151) 65 = .ok (.aload_n 0, 1) := by decide +kernel
theorem D151_66 : decode (byt 151) 66 = .ok (.getfield 65, 3) := by decide +kernel
theorem D151_69 : decode (byt 151) 69 = .ok (.iload_n 3, 1) := by decide +kernel
theorem D151_70 : decode (byt 151) 70 = .ok (.iaload, 1) := by decide +kernel
theorem D151_71 : decode (byt 151) 71 = .ok (.invokestatic 183, 3) := by decide +kernel
theorem D151_74 : decode (byt 151) 74 = .ok (.istore 4, 2) := by decide +kernel
theorem D151_76 : decode (byt 151) 76 = .ok (.iconst 1, 1) := by decide +kernel
theorem D151_77 : decode (byt 151) 77 = .ok (.istore 5, 2) := by decide +kernel
theorem D151_79 : decode (byt 151) 79 = .ok (.iload 5, 2) := by decide +kernel
theorem D151_81 : decode (byt 151) 81 = .ok (.ifCond .eq 91, 3) := by decide +kernel
theorem D151_84 : decode (byt 151) 84 = .ok (.iconst 0, 1) := by decide +kernel
theorem D151_85 : decode (byt 151) 85 = .ok (.istore 5, 2) := by decide +kernel
theorem D151_87 : decode (byt 151) 87 = .ok (.iload_n 3, 1) := by decide +kernel
theorem D151_88 : decode (byt 151) 88 = .ok (.istore 6, 2) := by decide +kernel
theorem D151_90 : decode (byt 151) 90 = .ok (.iload 6, 2) := by decide +kernel
theorem D151_92 : decode (byt 151) 92 = .ok (.iload_n 2, 1) := by decide +kernel
theorem D151_93 : decode (byt 151) 93 = .ok (.aload_n 0, 1) := by decide +kernel
theorem D151_94 : decode (byt 151) 94 = .ok (.getfield 68, 3) := by decide +kernel
theorem D151_97 : decode (byt 151) 97 = .ok (.iload_n 1, 1) := by decide +kernel
theorem D151_98 : decode (byt 151) 98 = .ok (.iaload, 1) := by decide +kernel
theorem D151_99 : decode (byt 151) 99 = .ok (.iadd, 1) := by decide +kernel
theorem D151_100 : decode (byt 151) 100 = .ok (.if_icmp .ge 69, 3) := by decide +kernel
theorem D151_103 : decode (byt 151) 103 = .ok (.aload_n 0, 1) := by decide +kernel
theorem D151_104 : decode (byt 151) 104 = .ok (.getfield 77, 3) := by decide +kernel
theorem D151_107 : decode (byt 151) 107 = .ok (.iload 6, 2) := by decide +kernel
theorem D151_109 : decode (byt 151) 109 = .ok (.iaload, 1) := by decide +kernel
theorem D151_110 : decode (byt 151) 110 = .ok (.ifCond .ge 53, 3) := by decide +kernel
theorem D151_113 : decode (byt 151) 113 = .ok (.aload_n 0, 1) := by decide +kernel
theorem D151_114 : decode (byt 151) 114 = .ok (.getfield 65, 3) := by decide +kernel
theorem D151_117 : decode (byt 151) 117 = .ok (.iload 6, 2) := by decide +kernel
theorem D151_119 : decode (byt 151) 119 = .ok (.iaload, 1) := by decide +kernel
theorem D151_120 : decode (byt 151) 120 = .ok (.invokestatic 183, 3) := by decide +kernel
theorem D151_123 : decode (byt 151) 123 = .ok (.iload 4, 2) := by decide +kernel
theorem D151_125 : decode (byt 151) 125 = .ok (.iand, 1) := by decide +kernel
theorem D151_126 : decode (byt 151) 126 = .ok (.ifCond .ne 6, 3) := by decide +kernel
theorem D151_129 : decode (byt 151) 129 = .ok (.goto 34, 3) := by decide +kernel
theorem D151_132 : decode (byt 151) 132 = .ok (.aload_n 0, 1) := by decide +kernel
theorem D151_133 : decode (byt 151) 133 = .ok (.getfield 77, 3) := by decide +kernel
theorem D151_136 : decode (byt 151) 136 = .ok (.iload 6, 2) := by decide +kernel
theorem D151_138 : decode (byt 151) 138 = .ok (.aload_n 0, 1) := by decide +kernel
theorem D151_139 : decode (byt 151) 139 = .ok (.getfield 80, 3) := by decide +kernel
theorem D151_142 : decode (byt 151) 142 = .ok (.iload_n 1, 1) := by decide +kernel
theorem D151_143 : decode (byt 151) 143 = .ok (.iaload, 1) := by decide +kernel
theorem D151_144 : decode (byt 151) 144 = .ok (.iastore, 1) := by decide +kernel
theorem D151_145 : decode (byt 151) 145 = .ok (.iload 4, 2) := by decide +kernel
theorem D151_147 : decode (byt 151) 147 = .ok (.aload_n 0, 1) := by decide +kernel
theorem D151_148 : decode (byt 151) 148 = .ok (.getfield 65, 3) := by decide +kernel
theorem D151_151 : decode (byt 151) 151 = .ok (.iload 6, 2) := by decide +kernel
theorem D151_153 : decode (byt 151) 153 = .ok (.iaload, 1) := by decide +kernel
theorem D151_154 : decode (byt 151) 154 = .ok (.invokestatic 183, 3) := by decide +kernel
theorem D151_157 : decode (byt 151) 157 = .ok (.ior, 1) := by decide +kernel
theorem D151_158 : decode (byt 151) 158 = .ok (.istore 4, 2) := by decide +kernel
theorem D151_160 : decode (byt 151) 160 = .ok (.iconst 1, 1) := by decide +kernel
theorem D151_161 : decode (byt 151) 161 = .ok (.istore 5, 2) := by decide +kernel
theorem D151_163 : decode (byt 151) 163 = .ok (.iinc 6 1, 3) := by decide +kernel
theorem D151_166 : decode (byt 151) 166 = .ok (.goto (-76), 3) := by decide +kernel
theorem D151_169 : decode (byt 151) 169 = .ok (.goto (-90), 3) := by decide +kernel
theorem D151_172 : decode (byt 151) 172 = .ok (.aload_n 0, 1) := by decide +kernel
theorem D151_173 : decode (byt 151) 173 = .ok (.getfield 80, 3) := by decide +kernel
theorem D151_176 : decode (byt 151) 176 = .ok (.iload_n 1, 1) := by decide +kernel
theorem D151_177 : decode (byt 151) 177 = .ok (.dup2, 1) := by decide +kernel
theorem D151_178 : decode (byt 151) 178 = .ok (.iaload, 1) := by decide +kernel
theorem D151_179 : decode (byt 151) 179 = .ok (.iconst 1, 1) := by decide +kernel
theorem D151_180 : decode (byt 151) 180 = .ok (.iadd, 1) := by decide +kernel
theorem D151_181 : decode (byt 151) 181 = .ok (.iastore, 1) := by decide +kernel
theorem D151_182 : decode (byt 151) 182 = .ok (.iinc 3 1, 3) := by decide +kernel
theorem D151_185 : decode (byt 151) 185 = .ok (.goto (-144), 3) := by decide +kernel
theorem D151_188 : decode (byt 151) 188 = .ok (.return_, 1) := by decide +kernel
theorem D152_0 : decode (byt 152) 0 = .ok (.aload_n 0, 1) := by decide +kernel
theorem D152_1 : decode (byt 152) 1 = .ok (.getfield 206, 3) := by decide +kernel
theorem D152_4 : decode (byt 152) 4 = .ok (.iconst 1, 1) := by decide +kernel
theorem D152_5 : decode (byt 152) 5 = .ok (.isub, 1) := by decide +kernel
theorem D152_6 : decode (byt 152) 6 = .ok (.istore_n 1, 1) := by decide +kernel
theorem D152_7 : decode (byt 152) 7 = .ok (.aload_n 0, 1) := by decide +kernel
theorem D152_8 : decode (byt 152) 8 = .ok (.getfield 74, 3) := by decide +kernel
theorem D152_11 : decode (byt 152) 11 = .ok (.iload_n 1, 1) := by decide +kernel
theorem D152_12 : decode (byt 152) 12 = .ok (.iconst 0, 1) := by decide +kernel
theorem D152_13 : decode (byt 152) 13 = .ok (.iastore, 1) := by decide +kernel
theorem D152_14 : decode (byt 152) 14 = .ok (.aload_n 0, 1) := by decide +kernel
theorem D152_15 : decode (byt 152) 15 = .ok (.iload_n 1, 1) := by decide +kernel
theorem D152_16 : decode (byt 152) 16 = .ok (.invokevirtual 209, 3) := by decide +kernel
theorem D152_19 : decode (byt 152) 19 = .ok (.ifCond .ne 19, 3) := by decide +kernel
theorem D152_22 : decode (byt 152) 22 = .ok (.aload_n 0, 1) := by decide +kernel
theorem D152_23 : decode (byt 152) 23 = .ok (.dup, 1) := by decide +kernel
theorem D152_24 : decode (byt 152) 24 = .ok (.getfield 206, 3) := by decide +kernel
theorem D152_27 : decode (byt 152) 27 = .ok (.iconst 1, 1) := by decide +kernel
theorem D152_28 : decode (byt 152) 28 = .ok (.isub, 1) := by decide +kernel
theorem D152_29 : decode (byt 152) 29 = .ok (.putfield 206, 3) := by decide +kernel
theorem D152_32 : decode (byt 152) 32 = .ok (.aload_n 0, 1) := by decide +kernel
theorem D152_33 : decode (byt 152) 33 = .ok (.iconst 1, 1) := by decide +kernel
theorem D152_34 : decode (byt 152) 34 = .ok (.putfield 212, 3) := by decide +kernel
theorem D152_37 : decode (byt 152) 37 = .ok (.return_, 1) := by decide +kernel
theorem D152_38 : decode (byt 152) 38 = .ok (.aload_n 0, 1) := by decide +kernel
theorem D152_39 : decode (byt 152) 39 = .ok (.iload_n 1, 1) := by decide +kernel
theorem D152_40 : decode (byt 152) 40 = .ok (.invokevirtual 215, 3) := by decide +kernel
theorem D152_43 : decode (byt 152) 43 = .ok (.aload_n 0, 1) := by decide +kernel
theorem D152_44 : decode (byt 152) 44 = .ok (.getfield 83, 3) := by decide +kernel
theorem D152_47 : decode (byt 152) 47 = .ok (.iload_n 1, 1) := by decide +kernel
theorem D152_48 : decode (byt 152) 48 = .ok (.iconst 0, 1) := by decide +kernel
theorem D152_49 : decode (byt 152) 49 = .ok (.iastore, 1) := by decide +kernel
theorem D152_50 : decode (byt 152) 50 = .ok (.aload_n 0, 1) := by decide +kernel
theorem D152_51 : decode (byt 152) 51 = .ok (.getfield 98, 3) := by decide +kernel
theorem D152_54 : decode (byt 152) 54 = .ok (.iload_n 1, 1) := by decide +kernel
theorem D152_55 : decode (byt 152) 55 = .ok (.iconst 0, 1) := by decide +kernel
theorem D152_56 : decode (byt 152) 56 = .ok (.iastore, 1) := by decide +kernel
theorem D152_57 : decode (byt 152) 57 = .ok (.aload_n 0, 1) := by decide +kernel
theorem D152_58 : decode (byt 152) 58 = .ok (.iconst (-1), 1) := by decide +kernel
theorem D152_59 : decode (byt 152) 59 = .ok (.putfield 212, 3) := by decide +kernel
theorem D152_62 : decode (byt 152) 62 = .ok (.return_, 1) := by decide +kernel
theorem D153_0 : decode (byt 153) 0 = .ok (.iconst 0, 1) := by decide +kernel
theorem D153_1 : decode (byt 153) 1 = .ok (.istore_n 2, 1) := by decide +kernel
theorem D153_2 : decode (byt 153) 2 = .ok (.iload_n 2, 1) := by decide +kernel
theorem D153_3 : decode (byt 153) 3 = .ok (.aload_n 0, 1) := by decide +kernel
theorem D153_4 : decode (byt 153) 4 = .ok (.getfield 219, 3) := by decide +kernel
theorem D153_7 : decode (byt 153) 7 = .ok (.if_icmp .ge 100, 3) := by decide +kernel
theorem D153_10 : decode (byt 153) 10 = .ok (.aload_n 0, 1) := by decide +kernel
theorem D153_11 : decode (byt 153) 11 = .ok (.getfield 107, 3) := by decide +kernel
theorem D153_14 : decode (byt 153) 14 = .ok (.iload_n 2, 1) := by decide +kernel
theorem D153_15 : decode (byt 153) 15 = .ok (.iaload, 1) := by decide +kernel
theorem D153_16 : decode (byt 153) 16 = .ok (.aload_n 0, 1) := by decide +kernel
theorem D153_17 : decode (byt 153) 17 = .ok (.getfield 92, 3) := by decide +kernel
theorem D153_20 : decode (byt 153) 20 = .ok (.iload_n 1, 1) := by decide +kernel
theorem D153_21 : decode (byt 153) 21 = .ok (.iaload, 1) := by decide +kernel
theorem D153_22 : decode (byt 153) 22 = .ok (.if_icmp .ne 7, 3) := by decide +kernel
theorem D153_25 : decode (byt 153) 25 = .ok (.iconst 1, 1) := by decide +kernel
theorem D153_26 : decode (byt 153) 26 = .ok (.goto 4, 3) := by decide +kernel
theorem D153_29 : decode (byt 153) 29 = .ok (.iconst 0, 1) := by decide +kernel
theorem D153_30 : decode (byt 153) 30 = .ok (.istore_n 3, 1) := by decide +kernel
theorem D153_31 : decode (byt 153) 31 = .ok (.iconst 0, 1) := by decide +kernel
theorem D153_32 : decode (byt 153) 32 = .ok (.istore 4, 2) := by decide +kernel
theorem D153_34 : decode (byt 153) 34 = .ok (.iload 4, 2) := by decide +kernel
theorem D153_36 : decode (byt 153) 36 = .ok (.aload_n 0, 1) := by decide +kernel
theorem D153_37 : decode (byt 153) 37 = .ok (.getfield 92, 3) := by decide +kernel
theorem D153_40 : decode (byt 153) 40 = .ok (.iload_n 1, 1) := by decide +kernel
theorem D153_41 : decode (byt 153) 41 = .ok (.iaload, 1) := by decide +kernel
theorem D153_42 : decode (byt 153) 42 = .ok (.if_icmp .ge 48, 3) := by decide +kernel
theorem D153_45 : decode (byt 153) 45 = .ok (.iload_n 3, 1) := by decide +kernel
theorem D153_46 : decode (byt 153) 46 = .ok (.ifCond .eq 44, 3) := by decide +kernel
theorem D153_49 : decode (byt 153) 49 = .ok (.aload_n 0, 1) := by decide +kernel
theorem D153_50 : decode (byt 153) 50 = .ok (.getfield 114, 3) := by decide +kernel
theorem D153_53 : decode (byt 153) 53 = .ok (.aload_n 0, 1) := by decide +kernel
theorem D153_54 : decode (byt 153) 54 = .ok (.getfield 104, 3) := by decide +kernel
theorem D153_57 : decode (byt 153) 57 = .ok (.iload_n 2, 1) := by decide +kernel
theorem D153_58 : decode (byt 153) 58 = .ok (.iaload, 1) := by decide +kernel
theorem D153_59 : decode (byt 153) 59 = .ok (.iload 4, 2) := by decide +kernel
theorem D153_61 : decode (byt 153) 61 = .ok (.iadd, 1) := by decide +kernel
theorem D153_62 : decode (byt 153) 62 = .ok (.iaload, 1) := by decide +kernel
theorem D153_63 : decode (byt 153) 63 = .ok (.aload_n 0, 1) := by decide +kernel
theorem D153_64 : decode (byt 153) 64 = .ok (.getfield 89, 3) := by decide +kernel
theorem D153_67 : decode (byt 153) 67 = .ok (.bipush 40, 2) := by decide +kernel
theorem D153_69 : decode (byt 153) 69 = .ok (.iload_n 1, 1) := by decide +kernel
theorem D153_70 : decode (byt 153) 70 = .ok (.imul, 1) := by decide +kernel
theorem D153_71 : decode (byt 153) 71 = .ok (.iload 4, 2) := by decide +kernel
theorem D153_73 : decode (byt 153) 73 = .ok (.iadd, 1) := by decide +kernel
theorem D153_74 : decode (byt 153) 74 = .ok (.iaload, 1) := by decide +kernel
theorem D153_75 : decode (byt 153) 75 = .ok (.if_icmp .ne 7, 3) := by decide +kernel
theorem D153_78 : decode (byt 153) 78 = .ok (.iconst 1, 1) := by decide +kernel
theorem D153_79 : decode (byt 153) 79 = .ok (.goto 4, 3) := by decide +kernel
theorem D153_82 : decode (byt 153) 82 = .ok (.iconst 0, 1) := by decide +kernel
theorem D153_83 : decode (byt 153) 83 = .ok (.istore_n 3, 1) := by decide +kernel
theorem D153_84 : decode (byt 153) 84 = .ok (.iinc 4 1, 3) := by decide +kernel
theorem D153_87 : decode (byt 153) 87 = .ok (.goto (-53), 3) := by decide +kernel
theorem D153_90 : decode (byt 153) 90 = .ok (.iload_n 3, 1) := by decide +kernel
theorem D153_91 : decode (byt 153) 91 = .ok (.ifCond .eq 10, 3) := by decide +kernel
theorem D153_94 : decode (byt 153) 94 = .ok (.aload_n 0, 1) := by decide +kernel
theorem D153_95 : decode (byt 153) 95 = .ok (.getfield 110, 3) := by decide +kernel
theorem D153_98 : decode (byt 153) 98 = .ok (.iload_n 2, 1) := by decide +kernel
theorem D153_99 : decode (byt 153) 99 = .ok (.iaload, 1) := by decide +kernel
theorem D153_100 : decode (byt 153) 100 = .ok (.ireturn, 1) := by decide +kernel
theorem D153_101 : decode (byt 153) 101 = .ok (.iinc 2 1, 3) := by decide +kernel
theorem D153_104 : decode (byt 153) 104 = .ok (.goto (-102), 3) := by decide +kernel
theorem D153_107 : decode (byt 153) 107 = .ok (.iconst (-1), 1) := by decide +kernel
theorem D153_108 : decode (byt 153) 108 = .ok (.ireturn, 1) := by decide +kernel
theorem D154_0 : decode (byt 154) 0 = .ok (.aload_n 0, 1) := by decide +kernel
theorem D154_1 : decode (byt 154) 1 = .ok (.getfield 104, 3) := by decide +kernel
theorem D154_4 : decode (byt 154) 4 = .ok (.aload_n 0, 1) := by decide +kernel
theorem D154_5 : decode (byt 154) 5 = .ok (.getfield 219, 3) := by decide +kernel
theorem D154_8 : decode (byt 154) 8 = .ok (.aload_n 0, 1) := by decide +kernel
theorem D154_9 : decode (byt 154) 9 = .ok (.getfield 222, 3) := by decide +kernel
theorem D154_12 : decode (byt 154) 12 = .ok (.iastore, 1) := by decide +kernel
theorem D154_13 : decode (byt 154) 13 = .ok (.aload_n 0, 1) := by decide +kernel
theorem D154_14 : decode (byt 154) 14 = .ok (.getfield 107, 3) := by decide +kernel
theorem D154_17 : decode (byt 154) 17 = .ok (.aload_n 0, 1) := by decide +kernel
theorem D154_18 : decode (byt 154) 18 = .ok (.getfield 219, 3) := by decide +kernel
theorem D154_21 : decode (byt 154) 21 = .ok (.aload_n 0, 1) := by decide +kernel
theorem D154_22 : decode (byt 154) 22 = .ok (.getfield 92, 3) := by decide +kernel
theorem D154_25 : decode (byt 154) 25 = .ok (.iload_n 1, 1) := by decide +kernel
theorem D154_26 : decode (byt 154) 26 = .ok (.iaload, 1) := by decide +kernel
theorem D154_27 : decode (byt 154) 27 = .ok (.iastore, 1) := by decide +kernel
theorem D154_28 : decode (byt 154) 28 = .ok (.aload_n 0, 1) := by decide +kernel
theorem D154_29 : decode (byt 154) 29 = .ok (.getfield 110, 3) := by decide +kernel
theorem D154_32 : decode (byt 154) 32 = .ok (.aload_n 0, 1) := by decide +kernel
theorem D154_33 : decode (byt 154) 33 = .ok (.getfield 219, 3) := by decide +kernel
theorem D154_36 : decode (byt 154) 36 = .ok (.iload_n 2, 1) := by decide +kernel
theorem D154_37 : decode (byt 154) 37 = .ok (.iastore, 1) := by decide +kernel
theorem D154_38 : decode (byt 154) 38 = .ok (.aload_n 0, 1) := by decide +kernel
theorem D154_39 : decode (byt 154) 39 = .ok (.dup, 1) := by decide +kernel
theorem D154_40 : decode (byt 154) 40 = .ok (.getfield 219, 3) := by decide +kernel
theorem D154_43 : decode (byt 154) 43 = .ok (.iconst 1, 1) := by decide +kernel
theorem D154_44 : decode (byt 154) 44 = .ok (.iadd, 1) := by decide +kernel
theorem D154_45 : decode (byt 154) 45 = .ok (.putfield 219, 3) := by decide +kernel
theorem D154_48 : decode (byt 154) 48 = .ok (.iconst 0, 1) := by decide +kernel
theorem D154_49 : decode (byt 154) 49 = .ok (.istore_n 3, 1) := by decide +kernel
theorem D154_50 : decode (byt 154) 50 = .ok (.iload_n 3, 1) := by decide +kernel
theorem D154_51 : decode (byt 154) 51 = .ok (.aload_n 0, 1) := by decide +kernel
theorem D154_52 : decode (byt 154) 52 = .ok (.getfield 92, 3) := by decide +kernel
theorem D154_55 : decode (byt 154) 55 = .ok (.iload_n 1, 1) := by decide +kernel
theorem D154_56 : decode (byt 154) 56 = .ok (.iaload, 1) := by decide +kernel
theorem D154_57 : decode (byt 154) 57 = .ok (.if_icmp .ge 39, 3) := by decide +kernel
theorem D154_60 : decode (byt 154) 60 = .ok (.aload_n 0, 1) := by decide +kernel
theorem D154_61 : decode (byt 154) 61 = .ok (.getfield 114, 3) := by decide +kernel
theorem D154_64 : decode (byt 154) 64 = .ok (.aload_n 0, 1) := by decide +kernel
theorem D154_65 : decode (byt 154) 65 = .ok (.getfield 222, 3) := by decide +kernel
theorem D154_68 : decode (byt 154) 68 = .ok (.aload_n 0, 1) := by decide +kernel
theorem D154_69 : decode (byt 154) 69 = .ok (.getfield 89, 3) := by decide +kernel
theorem D154_72 : decode (byt 154) 72 = .ok (.bipush 40, 2) := by decide +kernel
theorem D154_74 : decode (byt 154) 74 = .ok (.iload_n 1, 1) := by decide +kernel
theorem D154_75 : decode (byt 154) 75 = .ok (.imul, 1) := by decide +kernel
theorem D154_76 : decode (byt 154) 76 = .ok (.iload_n 3, 1) := by decide +kernel
theorem D154_77 : decode (byt 154) 77 = .ok (.iadd, 1) := by decide +kernel
theorem D154_78 : decode (byt 154) 78 = .ok (.iaload, 1) := by decide +kernel
theorem D154_79 : decode (byt 154) 79 = .ok (.iastore, 1) := by decide +kernel
theorem D154_80 : decode (byt 154) 80 = .ok (.aload_n 0, 1) := by decide +kernel
theorem D154_81 : decode (byt 154) 81 = .ok (.dup, 1) := by decide +kernel
theorem D154_82 : decode (byt 154) 82 = .ok (.getfield 222, 3) := by decide +kernel
theorem D154_85 : decode (byt 154) 85 = .ok (.iconst 1, 1) := by decide +kernel
theorem D154_86 : decode (byt 154) 86 = .ok (.iadd, 1) := by decide +kernel
theorem D154_87 : decode (byt 154) 87 = .ok (.putfield 222, 3) := by decide +kernel
theorem D154_90 : decode (byt 154) 90 = .ok (.iinc 3 1, 3) := by decide +kernel
theorem D154_93 : decode (byt 154) 93 = .ok (.goto (-43), 3) := by decide +kernel
theorem D154_96 : decode (byt 154) 96 = .ok (.return_, 1) := by decide +kernel
theorem D155_0 : decode (byt 155) 0 = .ok (.iconst 0, 1) := by decide +kernel
theorem D155_1 : decode (byt 155) 1 = .ok (.istore_n 3, 1) := by decide +kernel
theorem D155_2 : decode (byt 155) 2 = .ok (.iconst 0, 1) := by decide +kernel
theorem D155_3 : decode (byt 155) 3 = .ok (.istore 4, 2) := by decide +kernel
theorem D155_5 : decode (byt 155) 5 = .ok (.iload 4, 2) := by decide +kernel
theorem D155_7 : decode (byt 155) 7 = .ok (.aload_n 0, 1) := by decide +kernel
theorem D155_8 : decode (byt 155) 8 = .ok (.getfield 92, 3) := by decide +kernel
theorem D155_11 : decode (byt 155) 11 = .ok (.iload_n 2, 1) := by decide +kernel
theorem D155_12 : decode (byt 155) 12 = .ok (.iaload, 1) := by decide +kernel
theorem D155_13 : decode (byt 155) 13 = .ok (.if_icmp .ge 27, 3) := by decide +kernel
theorem D155_16 : decode (byt 155) 16 = .ok (.iload_n 3, 1) := by decide +kernel
theorem D155_17 : decode (byt 155) 17 = .ok (.aload_n 0, 1) := by decide +kernel
theorem D155_18 : decode (byt 155) 18 = .ok (.getfield 89, 3) := by decide +kernel
theorem D155_21 : decode (byt 155) 21 = .ok (.bipush 40, 2) := by decide +kernel
theorem D155_23 : decode (byt 155) 23 = .ok (.iload_n 2, 1) := by decide +kernel
theorem D155_24 : decode (byt 155) 24 = .ok (.imul, 1) := by decide +kernel
theorem D155_25 : decode (byt 155) 25 = .ok (.iload 4, 2) := by decide +kernel
theorem D155_27 : decode (byt 155) 27 = .ok (.iadd, 1) := by decide +kernel
theorem D155_28 : decode (byt 155) 28 = .ok (.iaload, 1) := by decide +kernel
theorem D155_29 : decode (byt 155) 29 = .ok (.invokestatic 183, 3) := by decide +kernel
theorem D155_32 : decode (byt 155) 32 = .ok (.ior, 1) := by decide +kernel
theorem D155_33 : decode (byt 155) 33 = .ok (.istore_n 3, 1) := by decide +kernel
theorem D155_34 : decode (byt 155) 34 = .ok (.iinc 4 1, 3) := by decide +kernel
theorem D155_37 : decode (byt 155) 37 = .ok (.goto (-32), 3) := by decide +kernel
theorem D155_40 : decode (byt 155) 40 = .ok (.iload_n 3, 1) := by decide +kernel
theorem D155_41 : decode (byt 155) 41 = .ok (.aload_n 0, 1) := by decide +kernel
theorem D155_42 : decode (byt 155) 42 = .ok (.getfield 19, 3) := by decide +kernel
theorem D155_45 : decode (byt 155) 45 = .ok (.iload_n 1, 1) := by decide +kernel
theorem D155_46 : decode (byt 155) 46 = .ok (.iaload, 1) := by decide +kernel
theorem D155_47 : decode (byt 155) 47 = .ok (.iand, 1) := by decide +kernel
theorem D155_48 : decode (byt 155) 48 = .ok (.ifCond .eq 12, 3) := by decide +kernel
theorem D155_51 : decode (byt 155) 51 = .ok (.iload_n 3, 1) := by decide +kernel
theorem D155_52 : decode (byt 155) 52 = .ok (.aload_n 0, 1) := by decide +kernel
theorem D155_53 : decode (byt 155) 53 = .ok (.getfield 19, 3) := by decide +kernel
theorem D155_56 : decode (byt 155) 56 = .ok (.iload_n 1, 1) := by decide +kernel
theorem D155_57 : decode (byt 155) 57 = .ok (.iaload, 1) := by decide +kernel
theorem D155_58 : decode (byt 155) 58 = .ok (.iand, 1) := by decide +kernel
theorem D155_59 : decode (byt 155) 59 = .ok (.istore_n 3, 1) := by decide +kernel
theorem D155_60 : decode (byt 155) 60 = .ok (.iconst (-1), 1) := by decide +kernel
theorem D155_61 : decode (byt 155) 61 = .ok (.istore 4, 2) := by decide +kernel
theorem D155_63 : decode (byt 155) 63 = .ok (.iconst 0, 1) := by decide +kernel
theorem D155_64 : decode (byt 155) 64 = .ok (.istore 5, 2) := by decide +kernel
theorem D155_66 : decode (byt 155) 66 = .ok (.iconst 0, 1) := by decide +kernel
theorem D155_67 : decode (byt 155) 67 = .ok (.istore 6, 2) := by decide +kernel
theorem D155_69 : decode (byt 155) 69 = .ok (.iload 6, 2) := by decide +kernel
theorem D155_71 : decode (byt 155) 71 = .ok (.bipush 12, 2) := by decide +kernel
theorem D155_73 : decode (byt 155) 73 = .ok (.if_icmp .ge 84, 3) := by decide +kernel
theorem D155_76 : decode (byt 155) 76 = .ok (.iconst 0, 1) := by decide +kernel
theorem D155_77 : decode (byt 155) 77 = .ok (.istore 7, 2) := by decide +kernel
theorem D155_79 : decode (byt 155) 79 = .ok (.iconst 0, 1) := by decide +kernel
theorem D155_80 : decode (byt 155) 80 = .ok (.istore 8, 2) := by decide +kernel
theorem D155_82 : decode (byt 155) 82 = .ok (.iload 8, 2) := by decide +kernel
theorem D155_84 : decode (byt 155) 84 = .ok (.aload_n 0, 1) := by decide +kernel
theorem D155_85 : decode (byt 155) 85 = .ok (.getfield 92, 3) := by decide +kernel
theorem D155_88 : decode (byt 155) 88 = .ok (.iload_n 2, 1) := by decide +kernel
theorem D155_89 : decode (byt 155) 89 = .ok (.iaload, 1) := by decide +kernel
theorem D155_90 : decode (byt 155) 90 = .ok (.if_icmp .ge 34, 3) := by decide +kernel
theorem D155_93 : decode (byt 155) 93 = .ok (.iload 7, 2) := by decide +kernel
theorem D155_95 : decode (byt 155) 95 = .ok (.aload_n 0, 1) := by decide +kernel
theorem D155_96 : decode (byt 155) 96 = .ok (.getfield 89, 3) := by decide +kernel
theorem D155_99 : decode (byt 155) 99 = .ok (.bipush 40, 2) := by decide +kernel
theorem D155_101 : decode (byt 155) 101 = .ok (.iload_n 2, 1) := by decide +kernel
theorem D155_102 : decode (byt 155) 102 = .ok (.imul, 1) := by decide +kernel
theorem D155_103 : decode (byt 155) 103 = .ok (.iload 8, 2) := by decide +kernel
theorem D155_105 : decode (byt 155) 105 = .ok (.iadd, 1) := by decide +kernel
theorem D155_106 : decode (byt 155) 106 = .ok (.iaload, 1) := by decide +kernel
theorem D155_107 : decode (byt 155) 107 = .ok (.invokestatic 183, 3) := by decide +kernel
theorem D155_110 : decode (byt 155) 110 = .ok (.iload 6, 2) := by decide +kernel
theorem D155_112 : decode (byt 155) 112 = .ok (.ishr, 1) := by decide +kernel
theorem D155_113 : decode (byt 155) 113 = .ok (.iconst 1, 1) := by decide +kernel
theorem D155_114 : decode (byt 155) 114 = .ok (.iand, 1) := by decide +kernel
theorem D155_115 : decode (byt 155) 115 = .ok (.iadd, 1) := by decide +kernel
theorem D155_116 : decode (byt 155) 116 = .ok (.istore 7, 2) := by decide +kernel
theorem D155_118 : decode (byt 155) 118 = .ok (.iinc 8 1, 3) := by decide +kernel
theorem D155_121 : decode (byt 155) 121 = .ok (.goto (-39), 3) := by decide +kernel
theorem D155_124 : decode (byt 155) 124 = .ok (.iload_n 3, 1) := by decide +kernel
theorem D155_125 : decode (byt 155) 125 = .ok (.iload 6, 2) := by decide +kernel
theorem D155_127 : decode (byt 155) 127 = .ok (.ishr, 1) := by decide +kernel
theorem D155_128 : decode (byt 155) 128 = .ok (.iconst 1, 1) := by decide +kernel
theorem D155_129 : decode (byt 155) 129 = .ok (.iand, 1) := by decide +kernel
theorem D155_130 : decode (byt 155) 130 = .ok (.ifCond .eq 21, 3) := by decide +kernel
theorem D155_133 : decode (byt 155) 133 = .ok (.iload 7, 2) := by decide +kernel
theorem D155_135 : decode (byt 155) 135 = .ok (.iload 5, 2) := by decide +kernel
theorem D155_137 : decode (byt 155) 137 = .ok (.if_icmp .gt 6, 3) := by decide +kernel
theorem D155_140 : decode (byt 155) 140 = .ok (.goto 11, 3) := by decide +kernel
theorem D155_143 : decode (byt 155) 143 = .ok (.iload 7, 2) := by decide +kernel
theorem D155_145 : decode (byt 155) 145 = .ok (.istore 5, 2) := by decide +kernel
theorem D155_147 : decode (byt 155) 147 = .ok (.iload 6, 2) := by decide +kernel
theorem D155_149 : decode (byt 155) 149 = .ok (.istore 4, 2) := by decide +kernel
theorem D155_151 : decode (byt 155) 151 = .ok (.iinc 6 1, 3) := by decide +kernel
theorem D155_154 : decode (byt 155) 154 = .ok (.goto (-85), 3) := by decide +kernel
theorem D155_157 : decode (byt 155) 157 = .ok (.iload 4, 2) := by decide +kernel
theorem D155_159 : decode (byt 155) 159 = .ok (.ireturn, 1) := by decide +kernel
theorem D156_0 : decode (byt 156) 0 = .ok (.aload_n 0, 1) := by decide +kernel
theorem D156_1 : decode (byt 156) 1 = .ok (.getfield 68, 3) := by decide +kernel
theorem D156_4 : decode (byt 156) 4 = .ok (.iload_n 1, 1) := by decide +kernel
theorem D156_5 : decode (byt 156) 5 = .ok (.iconst 1, 1) := by decide +kernel
theorem D156_6 : decode (byt 156) 6 = .ok (.iadd, 1) := by decide +kernel
theorem D156_7 : decode (byt 156) 7 = .ok (.iconst 0, 1) := by decide +kernel
theorem D156_8 : decode (byt 156) 8 = .ok (.iastore, 1) := by decide +kernel
theorem D156_9 : decode (byt 156) 9 = .ok (.iconst 0, 1) := by decide +kernel
theorem D156_10 : decode (byt 156) 10 = .ok (.istore_n 3, 1) := by decide +kernel
theorem D156_11 : decode (byt 156) 11 = .ok (.iload_n 3, 1) := by decide +kernel
theorem D156_12 : decode (byt 156) 12 = .ok (.aload_n 0, 1) := by decide +kernel
theorem D156_13 : decode (byt 156) 13 = .ok (.getfield 92, 3) := by decide +kernel
theorem D156_16 : decode (byt 156) 16 = .ok (.iload_n 1, 1) := by decide +kernel
theorem D156_17 : decode (byt 156) 17 = .ok (.iaload, 1) := by decide +kernel
theorem D156_18 : decode (byt 156) 18 = .ok (.if_icmp .ge 45, 3) := by decide +kernel
theorem D156_21 : decode (byt 156) 21 = .ok (.aload_n 0, 1) := by decide +kernel
theorem D156_22 : decode (byt 156) 22 = .ok (.getfield 89, 3) := by decide +kernel
theorem D156_25 : decode (byt 156) 25 = .ok (.bipush 40, 2) := by decide +kernel
theorem D156_27 : decode (byt 156) 27 = .ok (.iload_n 1, 1) := by decide +kernel
theorem D156_28 : decode (byt 156) 28 = .ok (.imul, 1) := by decide +kernel
theorem D156_29 : decode (byt 156) 29 = .ok (.iload_n 3, 1) := by decide +kernel
theorem D156_30 : decode (byt 156) 30 = .ok (.iadd, 1) := by decide +kernel
theorem D156_31 : decode (byt 156) 31 = .ok (.iaload, 1) := by decide +kernel
theorem D156_32 : decode (byt 156) 32 = .ok (.istore 4, 2) := by decide +kernel
theorem D156_34 : decode (byt 156) 34 = .ok (.iload 4, 2) := by decide +kernel
theorem D156_36 : decode (byt 156) 36 = .ok (.iload_n 2, 1) := by decide +kernel
theorem D156_37 : decode (byt 156) 37 = .ok (.iand, 1) := by decide +kernel
theorem D156_38 : decode (byt 156) 38 = .ok (.ifCond .ne 19, 3) := by decide +kernel
theorem D156_41 : decode (byt 156) 41 = .ok (.aload_n 0, 1) := by decide +kernel
theorem D156_42 : decode (byt 156) 42 = .ok (.iload_n 1, 1) := by decide +kernel
theorem D156_43 : decode (byt 156) 43 = .ok (.iconst 1, 1) := by decide +kernel
theorem D156_44 : decode (byt 156) 44 = .ok (.iadd, 1) := by decide +kernel
theorem D156_45 : decode (byt 156) 45 = .ok (.iload 4, 2) := by decide +kernel
theorem D156_47 : decode (byt 156) 47 = .ok (.iload_n 2, 1) := by decide +kernel
theorem D156_48 : decode (byt 156) 48 = .ok (.invokestatic 160, 3) := by decide +kernel
theorem D156_51 : decode (byt 156) 51 = .ok (.iconst (-1), 1) := by decide +kernel
theorem D156_52 : decode (byt 156) 52 = .ok (.ixor, 1) := by decide +kernel
theorem D156_53 : decode (byt 156) 53 = .ok (.iand, 1) := by decide +kernel
theorem D156_54 : decode (byt 156) 54 = .ok (.invokevirtual 196, 3) := by decide +kernel
theorem D156_57 : decode (byt 156) 57 = .ok (.iinc 3 1, 3) := by decide +kernel
theorem D156_60 : decode (byt 156) 60 = .ok (.goto (-49), 3) := by decide +kernel
theorem D156_63 : decode (byt 156) 63 = .ok (.aload_n 0, 1) := by decide +kernel
theorem D156_64 : decode (byt 156) 64 = .ok (.dup, 1) := by decide +kernel
theorem D156_65 : decode (byt 156) 65 = .ok (.getfield 206, 3) := by decide +kernel
theorem D156_68 : decode (byt 156) 68 = .ok (.iconst 1, 1) := by decide +kernel
theorem D156_69 : decode (byt 156) 69 = .ok (.iadd, 1) := by decide +kernel
theorem D156_70 : decode (byt 156) 70 = .ok (.putfield 206, 3) := by decide +kernel
theorem D156_73 : decode (byt 156) 73 = .ok (.aload_n 0, 1) := by decide +kernel
theorem D156_74 : decode (byt 156) 74 = .ok (.invokevirtual 225, 3) := by decide +kernel
theorem D156_77 : decode (byt 156) 77 = .ok (.return_, 1) := by decide +kernel
theorem D157_0 : decode (byt 157) 0 = .ok (.iconst 0, 1) := by decide +kernel
theorem D157_1 : decode (byt 157) 1 = .ok (.istore_n 3, 1) := by decide +kernel
theorem D157_2 : decode (byt 157) 2 = .ok (.iload_n 2, 1) := by decide +kernel
theorem D157_3 : decode (byt 157) 3 = .ok (.iload_n 3, 1) := by decide +kernel
theorem D157_4 : decode (byt 157) 4 = .ok (.ishr, 1) := by decide +kernel
theorem D157_5 : decode (byt 157) 5 = .ok (.iconst 1, 1) := by decide +kernel
theorem D157_6 : decode (byt 157) 6 = .ok (.iand, 1) := by decide +kernel
theorem D157_7 : decode (byt 157) 7 = .ok (.ifCond .ne 9, 3) := by decide +kernel
theorem D157_10 : decode (byt 157) 10 = .ok (.iinc 3 1, 3) := by decide +kernel
theorem D157_13 : decode (byt 157) 13 = .ok (.goto (-11), 3) := by decide +kernel
theorem D157_16 : decode (byt 157) 16 = .ok (.aload_n 0, 1) := by decide +kernel
theorem D157_17 : decode (byt 157) 17 = .ok (.getfield 62, 3) := by decide +kernel
theorem D157_20 : decode (byt 157) 20 = .ok (.iload_n 3, 1) := by decide +kernel
theorem D157_21 : decode (byt 157) 21 = .ok (.iaload, 1) := by decide +kernel
theorem D157_22 : decode (byt 157) 22 = .ok (.ifCond .ge 31, 3) := by decide +kernel
theorem D157_25 : decode (byt 157) 25 = .ok (.aload_n 0, 1) := by decide +kernel
theorem D157_26 : decode (byt 157) 26 = .ok (.getfield 62, 3) := by decide +kernel
theorem D157_29 : decode (byt 157) 29 = .ok (.iload_n 3, 1) := by decide +kernel
theorem D157_30 : decode (byt 157) 30 = .ok (.aload_n 0, 1) := by decide +kernel
theorem D157_31 : decode (byt 157) 31 = .ok (.iload_n 1, 1) := by decide +kernel
theorem D157_32 : decode (byt 157) 32 = .ok (.iconst 2, 1) := by decide +kernel
theorem D157_33 : decode (byt 157) 33 = .ok (.iload_n 3, 1) := by decide +kernel
theorem D157_34 : decode (byt 157) 34 = .ok (.bipush 12, 2) := by decide +kernel
theorem D157_36 : decode (byt 157) 36 = .ok (.if_icmp .ge 9, 3) := by decide +kernel
theorem D157_39 : decode (byt 157) 39 = .ok (.iload_n 3, 1) := by decide +kernel
theorem D157_40 : decode (byt 157) 40 = .ok (.iconst 1, 1) := by decide +kernel
theorem D157_41 : decode (byt 157) 41 = .ok (.iadd, 1) := by decide +kernel
theorem D157_42 : decode (byt 157) 42 = .ok (.goto 7, 3) := by decide +kernel
theorem D157_45 : decode (byt 157) 45 = .ok (.bipush 11, 2) := by decide +kernel
theorem D157_47 : decode (byt 157) 47 = .ok (.iload_n 3, 1) := by decide +kernel
theorem D157_48 : decode (byt 157) 48 = .ok (.isub, 1) := by decide +kernel
theorem D157_49 : decode (byt 157) 49 = .ok (.invokevirtual 228, 3) := by decide +kernel
theorem D157_52 : decode (byt 157) 52 = .ok (.iastore, 1) := by decide +kernel
theorem D157_53 : decode (byt 157) 53 = .ok (.aload_n 0, 1) := by decide +kernel
theorem D157_54 : decode (byt 157) 54 = .ok (.getfield 62, 3) := by decide +kernel
theorem D157_57 : decode (byt 157) 57 = .ok (.iload_n 3, 1) := by decide +kernel
theorem D157_58 : decode (byt 157) 58 = .ok (.iaload, 1) := by decide +kernel
theorem D157_59 : decode (byt 157) 59 = .ok (.ireturn, 1) := by decide +kernel
theorem D158_0 : decode (byt 158) 0 = .ok (.iconst 0, 1) := by decide +kernel
theorem D158_1 : decode (byt 158) 1 = .ok (.istore_n 3, 1) := by decide +kernel
theorem D158_2 : decode (byt 158) 2 = .ok (.iload_n 3, 1) := by decide +kernel
theorem D158_3 : decode (byt 158) 3 = .ok (.aload_n 0, 1) := by decide +kernel
theorem D158_4 : decode (byt 158) 4 = .ok (.getfield 74, 3) := by decide +kernel
theorem D158_7 : decode (byt 158) 7 = .ok (.iload_n 2, 1) := by decide +kernel
theorem D158_8 : decode (byt 158) 8 = .ok (.iaload, 1) := by decide +kernel
theorem D158_9 : decode (byt 158) 9 = .ok (.if_icmp .ge 36, 3) := by decide +kernel
theorem D158_12 : decode (byt 158) 12 = .ok (.aload_n 0, 1) := by decide +kernel
theorem D158_13 : decode (byt 158) 13 = .ok (.getfield 71, 3) := by decide +kernel
theorem D158_16 : decode (byt 158) 16 = .ok (.bipush 12, 2) := by decide +kernel
theorem D158_18 : decode (byt 158) 18 = .ok (.iload_n 2, 1) := by decide +kernel
theorem D158_19 : decode (byt 158) 19 = .ok (.imul, 1) := by decide +kernel
theorem D158_20 : decode (byt 158) 20 = .ok (.iload_n 3, 1) := by decide +kernel
theorem D158_21 : decode (byt 158) 21 = .ok (.iadd, 1) := by decide +kernel
theorem D158_22 : decode (byt 158) 22 = .ok (.aload_n 0, 1) := by decide +kernel
theorem D158_23 : decode (byt 158) 23 = .ok (.iload_n 1, 1) := by decide +kernel
theorem D158_24 : decode (byt 158) 24 = .ok (.aload_n 0, 1) := by decide +kernel
theorem D158_25 : decode (byt 158) 25 = .ok (.getfield 71, 3) := by decide +kernel
theorem D158_28 : decode (byt 158) 28 = .ok (.bipush 12, 2) := by decide +kernel
theorem D158_30 : decode (byt 158) 30 = .ok (.iload_n 2, 1) := by decide +kernel
theorem D158_31 : decode (byt 158) 31 = .ok (.imul, 1) := by decide +kernel
theorem D158_32 : decode (byt 158) 32 = .ok (.iload_n 3, 1) := by decide +kernel
theorem D158_33 : decode (byt 158) 33 = .ok (.iadd, 1) := by decide +kernel
theorem D158_34 : decode (byt 158) 34 = .ok (.iaload, 1) := by decide +kernel
theorem D158_35 : decode (byt 158) 35 = .ok (.invokevirtual 232, 3) := by decide +kernel
theorem D158_38 : decode (byt 158) 38 = .ok (.iastore, 1) := by decide +kernel
theorem D158_39 : decode (byt 158) 39 = .ok (.iinc 3 1, 3) := by decide +kernel
theorem D158_42 : decode (byt 158) 42 = .ok (.goto (-40), 3) := by decide +kernel
theorem D158_45 : decode (byt 158) 45 = .ok (.aload_n 0, 1) := by decide +kernel
theorem D158_46 : decode (byt 158) 46 = .ok (.getfield 74, 3) := by decide +kernel
theorem D158_49 : decode (byt 158) 49 = .ok (.iload_n 2, 1) := by decide +kernel
theorem D158_50 : decode (byt 158) 50 = .ok (.iaload, 1) := by decide +kernel
theorem D158_51 : decode (byt 158) 51 = .ok (.aload_n 0, 1) := by decide +kernel
theorem D158_52 : decode (byt 158) 52 = .ok (.getfield 80, 3) := by decide +kernel
theorem D158_55 : decode (byt 158) 55 = .ok (.iload_n 2, 1) := by decide +kernel
theorem D158_56 : decode (byt 158) 56 = .ok (.iaload, 1) := by decide +kernel
theorem D158_57 : decode (byt 158) 57 = .ok (.iadd, 1) := by decide +kernel
theorem D158_58 : decode (byt 158) 58 = .ok (.istore_n 3, 1) := by decide +kernel
theorem D158_59 : decode (byt 158) 59 = .ok (.aload_n 0, 1) := by decide +kernel
theorem D158_60 : decode (byt 158) 60 = .ok (.dup, 1) := by decide +kernel
theorem D158_61 : decode (byt 158) 61 = .ok (.getfield 206, 3) := by decide +kernel
theorem D158_64 : decode (byt 158) 64 = .ok (.iconst 1, 1) := by decide +kernel
theorem D158_65 : decode (byt 158) 65 = .ok (.isub, 1) := by decide +kernel
theorem D158_66 : decode (byt 158) 66 = .ok (.putfield 206, 3) := by decide +kernel
theorem D158_69 : decode (byt 158) 69 = .ok (.iload_n 3, 1) := by decide +kernel
theorem D158_70 : decode (byt 158) 70 = .ok (.ifCond .ne 11, 3) := by decide +kernel
theorem D158_73 : decode (byt 158) 73 = .ok (.aload_n 0, 1) := by decide +kernel
theorem D158_74 : decode (byt 158) 74 = .ok (.iconst 0, 1) := by decide +kernel
theorem D158_75 : decode (byt 158) 75 = .ok (.putfield 212, 3) := by decide +kernel
theorem D158_78 : decode (byt 158) 78 = .ok (.goto 147, 3) := by decide +kernel
theorem D158_81 : decode (byt 158) 81 = .ok (.iload_n 3, 1) := by decide +kernel
theorem D158_82 : decode (byt 158) 82 = .ok (.iconst 1, 1) := by decide +kernel
theorem D158_83 : decode (byt 158) 83 = .ok (.if_icmp .ne 41, 3) := by decide +kernel
theorem D158_86 : decode (byt 158) 86 = .ok (.aload_n 0, 1) := by decide +kernel
theorem D158_87 : decode (byt 158) 87 = .ok (.aload_n 0, 1) := by decide +kernel
theorem D158_88 : decode (byt 158) 88 = .ok (.getfield 74, 3) := by decide +kernel
theorem D158_91 : decode (byt 158) 91 = .ok (.iload_n 2, 1) := by decide +kernel
theorem D158_92 : decode (byt 158) 92 = .ok (.iaload, 1) := by decide +kernel
theorem D158_93 : decode (byt 158) 93 = .ok (.iconst 1, 1) := by decide +kernel
theorem D158_94 : decode (byt 158) 94 = .ok (.if_icmp .ne 15, 3) := by decide +kernel
theorem D158_97 : decode (byt 158) 97 = .ok (.aload_n 0, 1) := by decide +kernel
theorem D158_98 : decode (byt 158) 98 = .ok (.getfield 71, 3) := by decide +kernel
theorem D158_101 : decode (byt 158) 101 = .ok (.bipush 12, 2) := by decide +kernel
theorem D158_103 : decode (byt 158) 103 = .ok (.iload_n 2, 1) := by decide +kernel
theorem D158_104 : decode (byt 158) 104 = .ok (.imul, 1) := by decide +kernel
theorem D158_105 : decode (byt 158) 105 = .ok (.iaload, 1) := by decide +kernel
theorem D158_106 : decode (byt 158) 106 = .ok (.goto 12, 3) := by decide +kernel
theorem D158_109 : decode (byt 158) 109 = .ok (.aload_n 0, 1) := by decide +kernel
theorem D158_110 : decode (byt 158) 110 = .ok (.getfield 86, 3) := by decide +kernel
theorem D158_113 : decode (byt 158) 113 = .ok (.bipush 12, 2) := by decide +kernel
theorem D158_115 : decode (byt 158) 115 = .ok (.iload_n 2, 1) := by decide +kernel
theorem D158_116 : decode (byt 158) 116 = .ok (.imul, 1) := by decide +kernel
theorem D158_117 : decode (byt 158) 117 = .ok (.iaload, 1) := by decide +kernel
theorem D158_118 : decode (byt 158) 118 = .ok (.putfield 212, 3) := by decide +kernel
theorem D158_121 : decode (byt 158) 121 = .ok (.goto 104, 3) := by decide +kernel
theorem D158_124 : decode (byt 158) 124 = .ok (.aload_n 0, 1) := by decide +kernel
theorem D158_125 : decode (byt 158) 125 = .ok (.aload_n 0, 1) := by decide +kernel
theorem D158_126 : decode (byt 158) 126 = .ok (.iload_n 1, 1) := by decide +kernel
theorem D158_127 : decode (byt 158) 127 = .ok (.iconst 3, 1) := by decide +kernel
theorem D158_128 : decode (byt 158) 128 = .ok (.iconst 0, 1) := by decide +kernel
theorem D158_129 : decode (byt 158) 129 = .ok (.invokevirtual 228, 3) := by decide +kernel
theorem D158_132 : decode (byt 158) 132 = .ok (.putfield 212, 3) := by decide +kernel
theorem D158_135 : decode (byt 158) 135 = .ok (.aload_n 0, 1) := by decide +kernel
theorem D158_136 : decode (byt 158) 136 = .ok (.getfield 191, 3) := by decide +kernel
theorem D158_139 : decode (byt 158) 139 = .ok (.ifCond .eq 4, 3) := by decide +kernel
theorem D158_142 : decode (byt 158) 142 = .ok (.return_, 1) := by decide +kernel
theorem D158_143 : decode (byt 158) 143 = .ok (.iconst 0, 1) := by decide +kernel
theorem D158_144 : decode (byt 158) 144 = .ok (.istore 4, 2) := by decide +kernel
theorem D158_146 : decode (byt 158) 146 = .ok (.iload 4, 2) := by decide +kernel
theorem D158_148 : decode (byt 158) 148 = .ok (.aload_n 0, 1) := by decide +kernel
theorem D158_149 : decode (byt 158) 149 = .ok (.getfield 74, 3) := by decide +kernel
theorem D158_152 : decode (byt 158) 152 = .ok (.iload_n 2, 1) := by decide +kernel
theorem D158_153 : decode (byt 158) 153 = .ok (.iaload, 1) := by decide +kernel
theorem D158_154 : decode (byt 158) 154 = .ok (.if_icmp .ge 30, 3) := by decide +kernel
theorem D158_157 : decode (byt 158) 157 = .ok (.aload_n 0, 1) := by decide +kernel
theorem D158_158 : decode (byt 158) 158 = .ok (.iload_n 1, 1) := by decide +kernel
theorem D158_159 : decode (byt 158) 159 = .ok (.aload_n 0, 1) := by decide +kernel
theorem D158_160 : decode (byt 158) 160 = .ok (.getfield 212, 3) := by decide +kernel
theorem D158_163 : decode (byt 158) 163 = .ok (.aload_n 0, 1) := by decide +kernel
theorem D158_164 : decode (byt 158) 164 = .ok (.getfield 71, 3) := by decide +kernel
theorem D158_167 : decode (byt 158) 167 = .ok (.bipush 12, 2) := by decide +kernel
theorem D158_169 : decode (byt 158) 169 = .ok (.iload_n 2, 1) := by decide +kernel
theorem D158_170 : decode (byt 158) 170 = .ok (.imul, 1) := by decide +kernel
theorem D158_171 : decode (byt 158) 171 = .ok (.iload 4, 2) := by decide +kernel
theorem D158_173 : decode (byt 158) 173 = .ok (.iadd, 1) := by decide +kernel
theorem D158_174 : decode (byt 158) 174 = .ok (.iaload, 1) := by decide +kernel
theorem D158_175 : decode (byt 158) 175 = .ok (.invokevirtual 235, 3) := by decide +kernel
theorem D158_178 : decode (byt 158) 178 = .ok (.iinc 4 1, 3) := by decide +kernel
theorem D158_181 : decode (byt 158) 181 = .ok (.goto (-35), 3) := by decide +kernel
theorem D158_184 : decode (byt 158) 184 = .ok (.iconst 0, 1) := by decide +kernel
theorem D158_185 : decode (byt 158) 185 = .ok (.istore 4, 2) := by decide +kernel
theorem D158_187 : decode (byt 158) 187 = .ok (.iload 4, 2) := by decide +kernel
theorem D158_189 : decode (byt 158) 189 = .ok (.aload_n 0, 1) := by decide +kernel
theorem D158_190 : decode (byt 158) 190 = .ok (.getfield 80, 3) := by decide +kernel
theorem D158_193 : decode (byt 158) 193 = .ok (.iload_n 2, 1) := by decide +kernel
theorem D158_194 : decode (byt 158) 194 = .ok (.iaload, 1) := by decide +kernel
theorem D158_195 : decode (byt 158) 195 = .ok (.if_icmp .ge 30, 3) := by decide +kernel
theorem D158_198 : decode (byt 158) 198 = .ok (.aload_n 0, 1) := by decide +kernel
theorem D158_199 : decode (byt 158) 199 = .ok (.iload_n 1, 1) := by decide +kernel
theorem D158_200 : decode (byt 158) 200 = .ok (.aload_n 0, 1) := by decide +kernel
theorem D158_201 : decode (byt 158) 201 = .ok (.getfield 212, 3) := by decide +kernel
theorem D158_204 : decode (byt 158) 204 = .ok (.aload_n 0, 1) := by decide +kernel
theorem D158_205 : decode (byt 158) 205 = .ok (.getfield 86, 3) := by decide +kernel
theorem D158_208 : decode (byt 158) 208 = .ok (.bipush 12, 2) := by decide +kernel
theorem D158_210 : decode (byt 158) 210 = .ok (.iload_n 2, 1) := by decide +kernel
theorem D158_211 : decode (byt 158) 211 = .ok (.imul, 1) := by decide +kernel
theorem D158_212 : decode (byt 158) 212 = .ok (.iload 4, 2) := by decide +kernel
theorem D158_214 : decode (byt 158) 214 = .ok (.iadd, 1) := by decide +kernel
theorem D158_215 : decode (byt 158) 215 = .ok (.iaload, 1) := by decide +kernel
theorem D158_216 : decode (byt 158) 216 = .ok (.invokevirtual 235, 3) := by decide +kernel
theorem D158_219 : decode (byt 158) 219 = .ok (.iinc 4 1, 3) := by decide +kernel
theorem D158_222 : decode (byt 158) 222 = .ok (.goto (-35), 3) := by decide +kernel
theorem D158_225 : decode (byt 158) 225 = .ok (.return_, 1) := by decide +kernel
theorem D159_0 : decode (byt 159) 0 = .ok (.aload_n 0, 1) := by decide +kernel
theorem D159_1 : decode (byt 159) 1 = .ok (.getfield 86, 3) := by decide +kernel
theorem D159_4 : decode (byt 159) 4 = .ok (.bipush 12, 2) := by decide +kernel
theorem D159_6 : decode (byt 159) 6 = .ok (.iload_n 1, 1) := by decide +kernel
theorem D159_7 : decode (byt 159) 7 = .ok (.imul, 1) := by decide +kernel
theorem D159_8 : decode (byt 159) 8 = .ok (.aload_n 0, 1) := by decide +kernel
theorem D159_9 : decode (byt 159) 9 = .ok (.getfield 83, 3) := by decide +kernel
theorem D159_12 : decode (byt 159) 12 = .ok (.iload_n 1, 1) := by decide +kernel
theorem D159_13 : decode (byt 159) 13 = .ok (.iaload, 1) := by decide +kernel
theorem D159_14 : decode (byt 159) 14 = .ok (.iadd, 1) := by decide +kernel
theorem D159_15 : decode (byt 159) 15 = .ok (.iload_n 2, 1) := by decide +kernel
theorem D159_16 : decode (byt 159) 16 = .ok (.iastore, 1) := by decide +kernel
theorem D159_17 : decode (byt 159) 17 = .ok (.aload_n 0, 1) := by decide +kernel
theorem D159_18 : decode (byt 159) 18 = .ok (.getfield 83, 3) := by decide +kernel
theorem D159_21 : decode (byt 159) 21 = .ok (.iload_n 1, 1) := by decide +kernel
theorem D159_22 : decode (byt 159) 22 = .ok (.dup2, 1) := by decide +kernel
theorem D159_23 : decode (byt 159) 23 = .ok (.iaload, 1) := by decide +kernel
theorem D159_24 : decode (byt 159) 24 = .ok (.iconst 1, 1) := by decide +kernel
theorem D159_25 : decode (byt 159) 25 = .ok (.iadd, 1) := by decide +kernel
theorem D159_26 : decode (byt 159) 26 = .ok (.iastore, 1) := by decide +kernel
theorem D159_27 : decode (byt 159) 27 = .ok (.aload_n 0, 1) := by decide +kernel
theorem D159_28 : decode (byt 159) 28 = .ok (.getfield 98, 3) := by decide +kernel
theorem D159_31 : decode (byt 159) 31 = .ok (.iload_n 1, 1) := by decide +kernel
theorem D159_32 : decode (byt 159) 32 = .ok (.iconst 0, 1) := by decide +kernel
theorem D159_33 : decode (byt 159) 33 = .ok (.iastore, 1) := by decide +kernel
theorem D159_34 : decode (byt 159) 34 = .ok (.aload_n 0, 1) := by decide +kernel
theorem D159_35 : decode (byt 159) 35 = .ok (.iconst (-1), 1) := by decide +kernel
theorem D159_36 : decode (byt 159) 36 = .ok (.putfield 212, 3) := by decide +kernel
theorem D159_39 : decode (byt 159) 39 = .ok (.iload_n 2, 1) := by decide +kernel
theorem D159_40 : decode (byt 159) 40 = .ok (.iconst 1, 1) := by decide +kernel
theorem D159_41 : decode (byt 159) 41 = .ok (.if_icmp .eq 4, 3) := by decide +kernel
theorem D159_44 : decode (byt 159) 44 = .ok (.return_, 1) := by decide +kernel
theorem D159_45 : decode (byt 159) 45 = .ok (.aload_n 0, 1) := by decide +kernel
theorem D159_46 : decode (byt 159) 46 = .ok (.dup, 1) := by decide +kernel
theorem D159_47 : decode (byt 159) 47 = .ok (.getfield 206, 3) := by decide +kernel
theorem D159_50 : decode (byt 159) 50 = .ok (.iconst 1, 1) := by decide +kernel
theorem D159_51 : decode (byt 159) 51 = .ok (.isub, 1) := by decide +kernel
theorem D159_52 : decode (byt 159) 52 = .ok (.putfield 206, 3) := by decide +kernel
theorem D159_55 : decode (byt 159) 55 = .ok (.aload_n 0, 1) := by decide +kernel
theorem D159_56 : decode (byt 159) 56 = .ok (.iconst 1, 1) := by decide +kernel
theorem D159_57 : decode (byt 159) 57 = .ok (.putfield 212, 3) := by decide +kernel
theorem D159_60 : decode (byt 159) 60 = .ok (.return_, 1) := by decide +kernel
theorem D160_0 : decode (byt 160) 0 = .ok (.aload_n 0, 1) := by decide +kernel
theorem D160_1 : decode (byt 160) 1 = .ok (.getfield 92, 3) := by decide +kernel
theorem D160_4 : decode (byt 160) 4 = .ok (.iload_n 2, 1) := by decide +kernel
theorem D160_5 : decode (byt 160) 5 = .ok (.iconst 0, 1) := by decide +kernel
theorem D160_6 : decode (byt 160) 6 = .ok (.iastore, 1) := by decide +kernel
theorem D160_7 : decode (byt 160) 7 = .ok (.bipush 40, 2) := by decide +kernel
theorem D160_9 : decode (byt 160) 9 = .ok (.iload_n 2, 1) := by decide +kernel
theorem D160_10 : decode (byt 160) 10 = .ok (.imul, 1) := by decide +kernel
theorem D160_11 : decode (byt 160) 11 = .ok (.istore_n 3, 1) := by decide +kernel
theorem D160_12 : decode (byt 160) 12 = .ok (.iload_n 3, 1) := by decide +kernel
theorem D160_13 : decode (byt 160) 13 = .ok (.bipush 40, 2) := by decide +kernel
theorem D160_15 : decode (byt 160) 15 = .ok (.iload_n 2, 1) := by decide +kernel
theorem D160_16 : decode (byt 160) 16 = .ok (.imul, 1) := by decide +kernel
theorem D160_17 : decode (byt 160) 17 = .ok (.aload_n 0, 1) := by decide +kernel
theorem D160_18 : decode (byt 160) 18 = .ok (.getfield 68, 3) := by decide +kernel
theorem D160_21 : decode (byt 160) 21 = .ok (.iload_n 2, 1) := by decide +kernel
theorem D160_22 : decode (byt 160) 22 = .ok (.iaload, 1) := by decide +kernel
theorem D160_23 : decode (byt 160) 23 = .ok (.iadd, 1) := by decide +kernel
theorem D160_24 : decode (byt 160) 24 = .ok (.if_icmp .ge 59, 3) := by decide +kernel
theorem D160_27 : decode (byt 160) 27 = .ok (.aload_n 0, 1) := by decide +kernel
theorem D160_28 : decode (byt 160) 28 = .ok (.getfield 77, 3) := by decide +kernel
theorem D160_31 : decode (byt 160) 31 = .ok (.iload_n 3, 1) := by decide +kernel
theorem D160_32 : decode (byt 160) 32 = .ok (.iaload, 1) := by decide +kernel
theorem D160_33 : decode (byt 160) 33 = .ok (.aload_n 0, 1) := by decide +kernel
theorem D160_34 : decode (byt 160) 34 = .ok (.getfield 83, 3) := by decide +kernel
theorem D160_37 : decode (byt 160) 37 = .ok (.iload_n 2, 1) := by decide +kernel
theorem D160_38 : decode (byt 160) 38 = .ok (.iaload, 1) := by decide +kernel
theorem D160_39 : decode (byt 160) 39 = .ok (.if_icmp .eq 6, 3) := by decide +kernel
theorem D160_42 : decode (byt 160) 42 = .ok (.goto 35, 3) := by decide +kernel
theorem D160_45 : decode (byt 160) 45 = .ok (.aload_n 0, 1) := by decide +kernel
theorem D160_46 : decode (byt 160) 46 = .ok (.getfield 89, 3) := by decide +kernel
theorem D160_49 : decode (byt 160) 49 = .ok (.bipush 40, 2) := by decide +kernel
theorem D160_51 : decode (byt 160) 51 = .ok (.iload_n 2, 1) := by decide +kernel
theorem D160_52 : decode (byt 160) 52 = .ok (.imul, 1) := by decide +kernel
theorem D160_53 : decode (byt 160) 53 = .ok (.aload_n 0, 1) := by decide +kernel
theorem D160_54 : decode (byt 160) 54 = .ok (.getfield 92, 3) := by decide +kernel
theorem D160_57 : decode (byt 160) 57 = .ok (.iload_n 2, 1) := by decide +kernel
theorem D160_58 : decode (byt 160) 58 = .ok (.iaload, 1) := by decide +kernel
theorem D160_59 : decode (byt 160) 59 = .ok (.iadd, 1) := by decide +kernel
theorem D160_60 : decode (byt 160) 60 = .ok (.aload_n 0, 1) := by decide +kernel
theorem D160_61 : decode (byt 160) 61 = .ok (.getfield 65, 3) := by decide +kernel
theorem D160_64 : decode (byt 160) 64 = .ok (.iload_n 3, 1) := by decide +kernel
theorem D160_65 : decode (byt 160) 65 = .ok (.iaload, 1) := by decide +kernel
theorem D160_66 : decode (byt 160) 66 = .ok (.iastore, 1) := by decide +kernel
theorem D160_67 : decode (byt 160) 67 = .ok (.aload_n 0, 1) := by decide +kernel
theorem D160_68 : decode (byt 160) 68 = .ok (.getfield 92, 3) := by decide +kernel
theorem D160_71 : decode (byt 160) 71 = .ok (.iload_n 2, 1) := by decide +kernel
theorem D160_72 : decode (byt 160) 72 = .ok (.dup2, 1) := by decide +kernel
theorem D160_73 : decode (byt 160) 73 = .ok (.iaload, 1) := by decide +kernel
theorem D160_74 : decode (byt 160) 74 = .ok (.iconst 1, 1) := by decide +kernel
theorem D160_75 : decode (byt 160) 75 = .ok (.iadd, 1) := by decide +kernel
theorem D160_76 : decode (byt 160) 76 = .ok (.iastore, 1) := by decide +kernel
theorem D160_77 : decode (byt 160) 77 = .ok (.iinc 3 1, 3) := by decide +kernel
theorem D160_80 : decode (byt 160) 80 = .ok (.goto (-68), 3) := by decide +kernel
theorem D160_83 : decode (byt 160) 83 = .ok (.aload_n 0, 1) := by decide +kernel
theorem D160_84 : decode (byt 160) 84 = .ok (.iload_n 2, 1) := by decide +kernel
theorem D160_85 : decode (byt 160) 85 = .ok (.invokevirtual 239, 3) := by decide +kernel
theorem D160_88 : decode (byt 160) 88 = .ok (.istore_n 3, 1) := by decide +kernel
theorem D160_89 : decode (byt 160) 89 = .ok (.iload_n 3, 1) := by decide +kernel
theorem D160_90 : decode (byt 160) 90 = .ok (.ifCond .lt 20, 3) := by decide +kernel
theorem D160_93 : decode (byt 160) 93 = .ok (.aload_n 0, 1) := by decide +kernel
theorem D160_94 : decode (byt 160) 94 = .ok (.getfield 40, 3) := by decide +kernel
theorem D160_97 : decode (byt 160) 97 = .ok (.iload_n 1, 1) := by decide +kernel
theorem D160_98 : decode (byt 160) 98 = .ok (.dup2, 1) := by decide +kernel
theorem D160_99 : decode (byt 160) 99 = .ok (.iaload, 1) := by decide +kernel
theorem D160_100 : decode (byt 160) 100 = .ok (.iconst 1, 1) := by decide +kernel
theorem D160_101 : decode (byt 160) 101 = .ok (.iadd, 1) := by decide +kernel
theorem D160_102 : decode (byt 160) 102 = .ok (.iastore, 1) := by decide +kernel
theorem D160_103 : decode (byt 160) 103 = .ok (.aload_n 0, 1) := by decide +kernel
theorem D160_104 : decode (byt 160) 104 = .ok (.iload_n 2, 1) := by decide +kernel
theorem D160_105 : decode (byt 160) 105 = .ok (.iload_n 3, 1) := by decide +kernel
theorem D160_106 : decode (byt 160) 106 = .ok (.invokevirtual 242, 3) := by decide +kernel
theorem D160_109 : decode (byt 160) 109 = .ok (.return_, 1) := by decide +kernel
theorem D160_110 : decode (byt 160) 110 = .ok (.aload_n 0, 1) := by decide +kernel
theorem D160_111 : decode (byt 160) 111 = .ok (.getfield 95, 3) := by decide +kernel
theorem D160_114 : decode (byt 160) 114 = .ok (.iload_n 2, 1) := by decide +kernel
theorem D160_115 : decode (byt 160) 115 = .ok (.aload_n 0, 1) := by decide +kernel
theorem D160_116 : decode (byt 160) 116 = .ok (.iload_n 1, 1) := by decide +kernel
theorem D160_117 : decode (byt 160) 117 = .ok (.iload_n 2, 1) := by decide +kernel
theorem D160_118 : decode (byt 160) 118 = .ok (.invokevirtual 245, 3) := by decide +kernel
theorem D160_121 : decode (byt 160) 121 = .ok (.iastore, 1) := by decide +kernel
theorem D160_122 : decode (byt 160) 122 = .ok (.aload_n 0, 1) := by decide +kernel
theorem D160_123 : decode (byt 160) 123 = .ok (.getfield 98, 3) := by decide +kernel
theorem D160_126 : decode (byt 160) 126 = .ok (.iload_n 2, 1) := by decide +kernel
theorem D160_127 : decode (byt 160) 127 = .ok (.iconst 1, 1) := by decide +kernel
theorem D160_128 : decode (byt 160) 128 = .ok (.iastore, 1) := by decide +kernel
theorem D160_129 : decode (byt 160) 129 = .ok (.aload_n 0, 1) := by decide +kernel
theorem D160_130 : decode (byt 160) 130 = .ok (.iload_n 2, 1) := by decide +kernel
theorem D160_131 : decode (byt 160) 131 = .ok (.iconst 1, 1) := by decide +kernel
theorem D160_132 : decode (byt 160) 132 = .ok (.aload_n 0, 1) := by decide +kernel
theorem D160_133 : decode (byt 160) 133 = .ok (.getfield 95, 3) := by decide +kernel
theorem D160_136 : decode (byt 160) 136 = .ok (.iload_n 2, 1) := by decide +kernel
theorem D160_137 : decode (byt 160) 137 = .ok (.iaload, 1) := by decide +kernel
theorem D160_138 : decode (byt 160) 138 = .ok (.ishl, 1) := by decide +kernel
theorem D160_139 : decode (byt 160) 139 = .ok (.invokevirtual 248, 3) := by decide +kernel
theorem D160_142 : decode (byt 160) 142 = .ok (.return_, 1) := by decide +kernel
theorem D161_0 : decode (byt 161) 0 = .ok (.iconst 1, 1) := by decide +kernel
theorem D161_1 : decode (byt 161) 1 = .ok (.istore 4, 2) := by decide +kernel
theorem D161_3 : decode (byt 161) 3 = .ok (.aload_n 0, 1) := by decide +kernel
theorem D161_4 : decode (byt 161) 4 = .ok (.getfield 101, 3) := by decide +kernel
theorem D161_7 : decode (byt 161) 7 = .ok (.iload_n 2, 1) := by decide +kernel
theorem D161_8 : decode (byt 161) 8 = .ok (.iaload, 1) := by decide +kernel
theorem D161_9 : decode (byt 161) 9 = .ok (.iconst 1, 1) := by decide +kernel
theorem D161_10 : decode (byt 161) 10 = .ok (.if_icmp .ne 8, 3) := by decide +kernel
theorem D161_13 : decode (byt 161) 13 = .ok (.iload_n 3, 1) := by decide +kernel
theorem D161_14 : decode (byt 161) 14 = .ok (.iconst 1, 1) := by decide +kernel
theorem D161_15 : decode (byt 161) 15 = .ok (.if_icmp .eq 48, 3) := by decide +kernel
theorem D161_18 : decode (byt 161) 18 = .ok (.aload_n 0, 1) := by decide +kernel
theorem D161_19 : decode (byt 161) 19 = .ok (.iload_n 1, 1) := by decide +kernel
theorem D161_20 : decode (byt 161) 20 = .ok (.iconst 4, 1) := by decide +kernel
theorem D161_21 : decode (byt 161) 21 = .ok (.aload_n 0, 1) := by decide +kernel
theorem D161_22 : decode (byt 161) 22 = .ok (.getfield 95, 3) := by decide +kernel
theorem D161_25 : decode (byt 161) 25 = .ok (.iload_n 2, 1) := by decide +kernel
theorem D161_26 : decode (byt 161) 26 = .ok (.iaload, 1) := by decide +kernel
theorem D161_27 : decode (byt 161) 27 = .ok (.iconst 1, 1) := by decide +kernel
theorem D161_28 : decode (byt 161) 28 = .ok (.iadd, 1) := by decide +kernel
theorem D161_29 : decode (byt 161) 29 = .ok (.invokevirtual 228, 3) := by decide +kernel
theorem D161_32 : decode (byt 161) 32 = .ok (.istore 4, 2) := by decide +kernel
theorem D161_34 : decode (byt 161) 34 = .ok (.aload_n 0, 1) := by decide +kernel
theorem D161_35 : decode (byt 161) 35 = .ok (.getfield 191, 3) := by decide +kernel
theorem D161_38 : decode (byt 161) 38 = .ok (.ifCond .eq 4, 3) := by decide +kernel
theorem D161_41 : decode (byt 161) 41 = .ok (.return_, 1) := by decide +kernel
theorem D161_42 : decode (byt 161) 42 = .ok (.aload_n 0, 1) := by decide +kernel
theorem D161_43 : decode (byt 161) 43 = .ok (.iload_n 1, 1) := by decide +kernel
theorem D161_44 : decode (byt 161) 44 = .ok (.iload 4, 2) := by decide +kernel
theorem D161_46 : decode (byt 161) 46 = .ok (.aload_n 0, 1) := by decide +kernel
theorem D161_47 : decode (byt 161) 47 = .ok (.getfield 101, 3) := by decide +kernel
theorem D161_50 : decode (byt 161) 50 = .ok (.iload_n 2, 1) := by decide +kernel
theorem D161_51 : decode (byt 161) 51 = .ok (.iaload, 1) := by decide +kernel
theorem D161_52 : decode (byt 161) 52 = .ok (.invokevirtual 235, 3) := by decide +kernel
theorem D161_55 : decode (byt 161) 55 = .ok (.aload_n 0, 1) := by decide +kernel
theorem D161_56 : decode (byt 161) 56 = .ok (.iload_n 1, 1) := by decide +kernel
theorem D161_57 : decode (byt 161) 57 = .ok (.iload 4, 2) := by decide +kernel
theorem D161_59 : decode (byt 161) 59 = .ok (.iload_n 3, 1) := by decide +kernel
theorem D161_60 : decode (byt 161) 60 = .ok (.invokevirtual 235, 3) := by decide +kernel
theorem D161_63 : decode (byt 161) 63 = .ok (.aload_n 0, 1) := by decide +kernel
theorem D161_64 : decode (byt 161) 64 = .ok (.iload_n 2, 1) := by decide +kernel
theorem D161_65 : decode (byt 161) 65 = .ok (.iload 4, 2) := by decide +kernel
theorem D161_67 : decode (byt 161) 67 = .ok (.invokevirtual 251, 3) := by decide +kernel
theorem D161_70 : decode (byt 161) 70 = .ok (.aload_n 0, 1) := by decide +kernel
theorem D161_71 : decode (byt 161) 71 = .ok (.iload_n 2, 1) := by decide +kernel
theorem D161_72 : decode (byt 161) 72 = .ok (.iload 4, 2) := by decide +kernel
theorem D161_74 : decode (byt 161) 74 = .ok (.invokevirtual 242, 3) := by decide +kernel
theorem D161_77 : decode (byt 161) 77 = .ok (.return_, 1) := by decide +kernel
theorem D162_0 : decode (byt 162) 0 = .ok (.aload_n 0, 1) := by decide +kernel
theorem D162_1 : decode (byt 162) 1 = .ok (.getfield 206, 3) := by decide +kernel
theorem D162_4 : decode (byt 162) 4 = .ok (.iconst 1, 1) := by decide +kernel
theorem D162_5 : decode (byt 162) 5 = .ok (.isub, 1) := by decide +kernel
theorem D162_6 : decode (byt 162) 6 = .ok (.istore_n 2, 1) := by decide +kernel
theorem D162_7 : decode (byt 162) 7 = .ok (.aload_n 0, 1) := by decide +kernel
theorem D162_8 : decode (byt 162) 8 = .ok (.getfield 98, 3) := by decide +kernel
theorem D162_11 : decode (byt 162) 11 = .ok (.iload_n 2, 1) := by decide +kernel
theorem D162_12 : decode (byt 162) 12 = .ok (.iaload, 1) := by decide +kernel
theorem D162_13 : decode (byt 162) 13 = .ok (.ifCond .ne 36, 3) := by decide +kernel
theorem D162_16 : decode (byt 162) 16 = .ok (.aload_n 0, 1) := by decide +kernel
theorem D162_17 : decode (byt 162) 17 = .ok (.getfield 83, 3) := by decide +kernel
theorem D162_20 : decode (byt 162) 20 = .ok (.iload_n 2, 1) := by decide +kernel
theorem D162_21 : decode (byt 162) 21 = .ok (.iaload, 1) := by decide +kernel
theorem D162_22 : decode (byt 162) 22 = .ok (.aload_n 0, 1) := by decide +kernel
theorem D162_23 : decode (byt 162) 23 = .ok (.getfield 80, 3) := by decide +kernel
theorem D162_26 : decode (byt 162) 26 = .ok (.iload_n 2, 1) := by decide +kernel
theorem D162_27 : decode (byt 162) 27 = .ok (.iaload, 1) := by decide +kernel
theorem D162_28 : decode (byt 162) 28 = .ok (.if_icmp .ne 12, 3) := by decide +kernel
theorem D162_31 : decode (byt 162) 31 = .ok (.aload_n 0, 1) := by decide +kernel
theorem D162_32 : decode (byt 162) 32 = .ok (.iload_n 1, 1) := by decide +kernel
theorem D162_33 : decode (byt 162) 33 = .ok (.iload_n 2, 1) := by decide +kernel
theorem D162_34 : decode (byt 162) 34 = .ok (.invokevirtual 254, 3) := by decide +kernel
theorem D162_37 : decode (byt 162) 37 = .ok (.goto 68, 3) := by decide +kernel
theorem D162_40 : decode (byt 162) 40 = .ok (.aload_n 0, 1) := by decide +kernel
theorem D162_41 : decode (byt 162) 41 = .ok (.iload_n 1, 1) := by decide +kernel
theorem D162_42 : decode (byt 162) 42 = .ok (.iload_n 2, 1) := by decide +kernel
theorem D162_43 : decode (byt 162) 43 = .ok (.invokevirtual 257, 3) := by decide +kernel
theorem D162_46 : decode (byt 162) 46 = .ok (.goto 59, 3) := by decide +kernel
theorem D162_49 : decode (byt 162) 49 = .ok (.aload_n 0, 1) := by decide +kernel
theorem D162_50 : decode (byt 162) 50 = .ok (.getfield 98, 3) := by decide +kernel
theorem D162_53 : decode (byt 162) 53 = .ok (.iload_n 2, 1) := by decide +kernel
theorem D162_54 : decode (byt 162) 54 = .ok (.iaload, 1) := by decide +kernel
theorem D162_55 : decode (byt 162) 55 = .ok (.iconst 1, 1) := by decide +kernel
theorem D162_56 : decode (byt 162) 56 = .ok (.if_icmp .ne 39, 3) := by decide +kernel
theorem D162_59 : decode (byt 162) 59 = .ok (.aload_n 0, 1) := by decide +kernel
theorem D162_60 : decode (byt 162) 60 = .ok (.getfield 101, 3) := by decide +kernel
theorem D162_63 : decode (byt 162) 63 = .ok (.iload_n 2, 1) := by decide +kernel
theorem D162_64 : decode (byt 162) 64 = .ok (.aload_n 0, 1) := by decide +kernel
theorem D162_65 : decode (byt 162) 65 = .ok (.getfield 212, 3) := by decide +kernel
theorem D162_68 : decode (byt 162) 68 = .ok (.iastore, 1) := by decide +kernel
theorem D162_69 : decode (byt 162) 69 = .ok (.aload_n 0, 1) := by decide +kernel
theorem D162_70 : decode (byt 162) 70 = .ok (.getfield 98, 3) := by decide +kernel
theorem D162_73 : decode (byt 162) 73 = .ok (.iload_n 2, 1) := by decide +kernel
theorem D162_74 : decode (byt 162) 74 = .ok (.iconst 2, 1) := by decide +kernel
theorem D162_75 : decode (byt 162) 75 = .ok (.iastore, 1) := by decide +kernel
theorem D162_76 : decode (byt 162) 76 = .ok (.aload_n 0, 1) := by decide +kernel
theorem D162_77 : decode (byt 162) 77 = .ok (.iload_n 2, 1) := by decide +kernel
theorem D162_78 : decode (byt 162) 78 = .ok (.iconst 1, 1) := by decide +kernel
theorem D162_79 : decode (byt 162) 79 = .ok (.bipush 12, 2) := by decide +kernel
theorem D162_81 : decode (byt 162) 81 = .ok (.aload_n 0, 1) := by decide +kernel
theorem D162_82 : decode (byt 162) 82 = .ok (.getfield 95, 3) := by decide +kernel
theorem D162_85 : decode (byt 162) 85 = .ok (.iload_n 2, 1) := by decide +kernel
theorem D162_86 : decode (byt 162) 86 = .ok (.iaload, 1) := by decide +kernel
theorem D162_87 : decode (byt 162) 87 = .ok (.iadd, 1) := by decide +kernel
theorem D162_88 : decode (byt 162) 88 = .ok (.ishl, 1) := by decide +kernel
theorem D162_89 : decode (byt 162) 89 = .ok (.invokevirtual 248, 3) := by decide +kernel
theorem D162_92 : decode (byt 162) 92 = .ok (.goto 13, 3) := by decide +kernel
theorem D162_95 : decode (byt 162) 95 = .ok (.aload_n 0, 1) := by decide +kernel
theorem D162_96 : decode (byt 162) 96 = .ok (.iload_n 1, 1) := by decide +kernel
theorem D162_97 : decode (byt 162) 97 = .ok (.iload_n 2, 1) := by decide +kernel
theorem D162_98 : decode (byt 162) 98 = .ok (.aload_n 0, 1) := by decide +kernel
theorem D162_99 : decode (byt 162) 99 = .ok (.getfield 212, 3) := by decide +kernel
theorem D162_102 : decode (byt 162) 102 = .ok (.invokevirtual 260, 3) := by decide +kernel
theorem D162_105 : decode (byt 162) 105 = .ok (.return_, 1) := by decide +kernel
theorem D163_0 : decode (byt 163) 0 = .ok (.iload_n 1, 1) := by decide +kernel
theorem D163_1 : decode (byt 163) 1 = .ok (.invokestatic 150, 3) := by decide +kernel
theorem D163_4 : decode (byt 163) 4 = .ok (.ifCond .ne 10, 3) := by decide +kernel
theorem D163_7 : decode (byt 163) 7 = .ok (.aload_n 0, 1) := by decide +kernel
theorem D163_8 : decode (byt 163) 8 = .ok (.bipush (-3), 2) := by decide +kernel
theorem D163_10 : decode (byt 163) 10 = .ok (.invokevirtual 154, 3) := by decide +kernel
theorem D163_13 : decode (byt 163) 13 = .ok (.ireturn, 1) := by decide +kernel
theorem D163_14 : decode (byt 163) 14 = .ok (.aload_n 0, 1) := by decide +kernel
theorem D163_15 : decode (byt 163) 15 = .ok (.getfield 34, 3) := by decide +kernel
theorem D163_18 : decode (byt 163) 18 = .ok (.iload_n 1, 1) := by decide +kernel
theorem D163_19 : decode (byt 163) 19 = .ok (.iconst 0, 1) := by decide +kernel
theorem D163_20 : decode (byt 163) 20 = .ok (.iastore, 1) := by decide +kernel
theorem D163_21 : decode (byt 163) 21 = .ok (.aload_n 0, 1) := by decide +kernel
theorem D163_22 : decode (byt 163) 22 = .ok (.getfield 59, 3) := by decide +kernel
theorem D163_25 : decode (byt 163) 25 = .ok (.iload_n 1, 1) := by decide +kernel
theorem D163_26 : decode (byt 163) 26 = .ok (.iconst 0, 1) := by decide +kernel
theorem D163_27 : decode (byt 163) 27 = .ok (.iastore, 1) := by decide +kernel
theorem D163_28 : decode (byt 163) 28 = .ok (.aload_n 0, 1) := by decide +kernel
theorem D163_29 : decode (byt 163) 29 = .ok (.getfield 40, 3) := by decide +kernel
theorem D163_32 : decode (byt 163) 32 = .ok (.iload_n 1, 1) := by decide +kernel
theorem D163_33 : decode (byt 163) 33 = .ok (.iconst 0, 1) := by decide +kernel
theorem D163_34 : decode (byt 163) 34 = .ok (.iastore, 1) := by decide +kernel
theorem D163_35 : decode (byt 163) 35 = .ok (.aload_n 0, 1) := by decide +kernel
theorem D163_36 : decode (byt 163) 36 = .ok (.iconst 0, 1) := by decide +kernel
theorem D163_37 : decode (byt 163) 37 = .ok (.putfield 219, 3) := by decide +kernel
theorem D163_40 : decode (byt 163) 40 = .ok (.aload_n 0, 1) := by decide +kernel
theorem D163_41 : decode (byt 163) 41 = .ok (.iconst 0, 1) := by decide +kernel
theorem D163_42 : decode (byt 163) 42 = .ok (.putfield 222, 3) := by decide +kernel
theorem D163_45 : decode (byt 163) 45 = .ok (.aload_n 0, 1) := by decide +kernel
theorem D163_46 : decode (byt 163) 46 = .ok (.iconst 0, 1) := by decide +kernel
theorem D163_47 : decode (byt 163) 47 = .ok (.putfield 191, 3) := by decide +kernel
theorem D163_50 : decode (byt 163) 50 = .ok (.iconst 0, 1) := by decide +kernel
theorem D163_51 : decode (byt 163) 51 = .ok (.istore_n 2, 1) := by decide +kernel
theorem D163_52 : decode (byt 163) 52 = .ok (.iload_n 2, 1) := by decide +kernel
theorem D163_53 : decode (byt 163) 53 = .ok (.bipush 24, 2) := by decide +kernel
theorem D163_55 : decode (byt 163) 55 = .ok (.if_icmp .ge 16, 3) := by decide +kernel
theorem D163_58 : decode (byt 163) 58 = .ok (.aload_n 0, 1) := by decide +kernel
theorem D163_59 : decode (byt 163) 59 = .ok (.getfield 62, 3) := by decide +kernel
theorem D163_62 : decode (byt 163) 62 = .ok (.iload_n 2, 1) := by decide +kernel
theorem D163_63 : decode (byt 163) 63 = .ok (.iconst (-1), 1) := by decide +kernel
theorem D163_64 : decode (byt 163) 64 = .ok (.iastore, 1) := by decide +kernel
theorem D163_65 : decode (byt 163) 65 = .ok (.iinc 2 1, 3) := by decide +kernel
theorem D163_68 : decode (byt 163) 68 = .ok (.goto (-16), 3) := by decide +kernel
theorem D163_71 : decode (byt 163) 71 = .ok (.aload_n 0, 1) := by decide +kernel
theorem D163_72 : decode (byt 163) 72 = .ok (.iload_n 1, 1) := by decide +kernel
theorem D163_73 : decode (byt 163) 73 = .ok (.iconst 0, 1) := by decide +kernel
theorem D163_74 : decode (byt 163) 74 = .ok (.iconst 0, 1) := by decide +kernel
theorem D163_75 : decode (byt 163) 75 = .ok (.invokevirtual 228, 3) := by decide +kernel
theorem D163_78 : decode (byt 163) 78 = .ok (.aload_n 0, 1) := by decide +kernel
theorem D163_79 : decode (byt 163) 79 = .ok (.iload_n 1, 1) := by decide +kernel
theorem D163_80 : decode (byt 163) 80 = .ok (.iconst 1, 1) := by decide +kernel
theorem D163_81 : decode (byt 163) 81 = .ok (.iconst 0, 1) := by decide +kernel
theorem D163_82 : decode (byt 163) 82 = .ok (.invokevirtual 228, 3) := by decide +kernel
theorem D163_85 : decode (byt 163) 85 = .ok (.iadd, 1) := by decide +kernel
theorem D163_86 : decode (byt 163) 86 = .ok (.istore_n 2, 1) := by decide +kernel
theorem D163_87 : decode (byt 163) 87 = .ok (.aload_n 0, 1) := by decide +kernel
theorem D163_88 : decode (byt 163) 88 = .ok (.getfield 68, 3) := by decide +kernel
theorem D163_91 : decode (byt 163) 91 = .ok (.iconst 0, 1) := by decide +kernel
theorem D163_92 : decode (byt 163) 92 = .ok (.iconst 0, 1) := by decide +kernel
theorem D163_93 : decode (byt 163) 93 = .ok (.iastore, 1) := by decide +kernel
theorem D163_94 : decode (byt 163) 94 = .ok (.iconst 0, 1) := by decide +kernel
theorem D163_95 : decode (byt 163) 95 = .ok (.istore_n 3, 1) := by decide +kernel
theorem D163_96 : decode (byt 163) 96 = .ok (.iload_n 3, 1) := by decide +kernel
theorem D163_97 : decode (byt 163) 97 = .ok (.aload_n 0, 1) := by decide +kernel
theorem D163_98 : decode (byt 163) 98 = .ok (.getfield 16, 3) := by decide +kernel
theorem D163_101 : decode (byt 163) 101 = .ok (.iload_n 1, 1) := by decide +kernel
theorem D163_102 : decode (byt 163) 102 = .ok (.iaload, 1) := by decide +kernel
theorem D163_103 : decode (byt 163) 103 = .ok (.if_icmp .ge 25, 3) := by decide +kernel
theorem D163_106 : decode (byt 163) 106 = .ok (.aload_n 0, 1) := by decide +kernel
theorem D163_107 : decode (byt 163) 107 = .ok (.iconst 0, 1) := by decide +kernel
theorem D163_108 : decode (byt 163) 108 = .ok (.aload_n 0, 1) := by decide +kernel
theorem D163_109 : decode (byt 163) 109 = .ok (.getfield 13, 3) := by decide +kernel
theorem D163_112 : decode (byt 163) 112 = .ok (.bipush 40, 2) := by decide +kernel
theorem D163_114 : decode (byt 163) 114 = .ok (.iload_n 1, 1) := by decide +kernel
theorem D163_115 : decode (byt 163) 115 = .ok (.imul, 1) := by decide +kernel
theorem D163_116 : decode (byt 163) 116 = .ok (.iload_n 3, 1) := by decide +kernel
theorem D163_117 : decode (byt 163) 117 = .ok (.iadd, 1) := by decide +kernel
theorem D163_118 : decode (byt 163) 118 = .ok (.iaload, 1) := by decide +kernel
theorem D163_119 : decode (byt 163) 119 = .ok (.invokevirtual 196, 3) := by decide +kernel
theorem D163_122 : decode (byt 163) 122 = .ok (.iinc 3 1, 3) := by decide +kernel
theorem D163_125 : decode (byt 163) 125 = .ok (.goto (-29), 3) := by decide +kernel
theorem D163_128 : decode (byt 163) 128 = .ok (.aload_n 0, 1) := by decide +kernel
theorem D163_129 : decode (byt 163) 129 = .ok (.iconst 1, 1) := by decide +kernel
theorem D163_130 : decode (byt 163) 130 = .ok (.putfield 206, 3) := by decide +kernel
theorem D163_133 : decode (byt 163) 133 = .ok (.aload_n 0, 1) := by decide +kernel
theorem D163_134 : decode (byt 163) 134 = .ok (.invokevirtual 225, 3) := by decide +kernel
theorem D163_137 : decode (byt 163) 137 = .ok (.aload_n 0, 1) := by decide +kernel
theorem D163_138 : decode (byt 163) 138 = .ok (.getfield 206, 3) := by decide +kernel
theorem D163_141 : decode (byt 163) 141 = .ok (.ifCond .le 18, 3) := by decide +kernel
theorem D163_144 : decode (byt 163) 144 = .ok (.aload_n 0, 1) := by decide +kernel
theorem D163_145 : decode (byt 163) 145 = .ok (.getfield 191, 3) := by decide +kernel
theorem D163_148 : decode (byt 163) 148 = .ok (.ifCond .ne 11, 3) := by decide +kernel
theorem D163_151 : decode (byt 163) 151 = .ok (.aload_n 0, 1) := by decide +kernel
theorem D163_152 : decode (byt 163) 152 = .ok (.iload_n 1, 1) := by decide +kernel
theorem D163_153 : decode (byt 163) 153 = .ok (.invokevirtual 263, 3) := by decide +kernel
theorem D163_156 : decode (byt 163) 156 = .ok (.goto (-19), 3) := by decide +kernel
theorem D163_159 : decode (byt 163) 159 = .ok (.aload_n 0, 1) := by decide +kernel
theorem D163_160 : decode (byt 163) 160 = .ok (.getfield 191, 3) := by decide +kernel
theorem D163_163 : decode (byt 163) 163 = .ok (.ifCond .eq 17, 3) := by decide +kernel
theorem D163_166 : decode (byt 163) 166 = .ok (.aload_n 0, 1) := by decide +kernel
theorem D163_167 : decode (byt 163) 167 = .ok (.getfield 34, 3) := by decide +kernel
theorem D163_170 : decode (byt 163) 170 = .ok (.iload_n 1, 1) := by decide +kernel
theorem D163_171 : decode (byt 163) 171 = .ok (.iconst 0, 1) := by decide +kernel
theorem D163_172 : decode (byt 163) 172 = .ok (.iastore, 1) := by decide +kernel
theorem D163_173 : decode (byt 163) 173 = .ok (.aload_n 0, 1) := by decide +kernel
theorem D163_174 : decode (byt 163) 174 = .ok (.bipush (-9), 2) := by decide +kernel
theorem D163_176 : decode (byt 163) 176 = .ok (.invokevirtual 154, 3) := by decide +kernel
theorem D163_179 : decode (byt 163) 179 = .ok (.ireturn, 1) := by decide +kernel
theorem D163_180 : decode (byt 163) 180 = .ok (.aload_n 0, 1) := by decide +kernel
theorem D163_181 : decode (byt 163) 181 = .ok (.getfield 37, 3) := by decide +kernel
theorem D163_184 : decode (byt 163) 184 = .ok (.iload_n 1, 1) := by decide +kernel
theorem D163_185 : decode (byt 163) 185 = .ok (.aload_n 0, 1) := by decide +kernel
theorem D163_186 : decode (byt 163) 186 = .ok (.getfield 212, 3) := by decide +kernel
theorem D163_189 : decode (byt 163) 189 = .ok (.iastore, 1) := by decide +kernel
theorem D163_190 : decode (byt 163) 190 = .ok (.aload_n 0, 1) := by decide +kernel
theorem D163_191 : decode (byt 163) 191 = .ok (.getfield 127, 3) := by decide +kernel
theorem D163_194 : decode (byt 163) 194 = .ok (.iload_n 1, 1) := by decide +kernel
theorem D163_195 : decode (byt 163) 195 = .ok (.iconst 0, 1) := by decide +kernel
theorem D163_196 : decode (byt 163) 196 = .ok (.bastore, 1) := by decide +kernel
theorem D163_197 : decode (byt 163) 197 = .ok (.aload_n 0, 1) := by decide +kernel
theorem D163_198 : decode (byt 163) 198 = .ok (.getfield 34, 3) := by decide +kernel
theorem D163_201 : decode (byt 163) 201 = .ok (.iload_n 1, 1) := by decide +kernel
theorem D163_202 : decode (byt 163) 202 = .ok (.iaload, 1) := by decide +kernel
theorem D163_203 : decode (byt 163) 203 = .ok (.ireturn, 1) := by decide +kernel
theorem D164_0 : decode (byt 164) 0 = .ok (.iload_n 1, 1) := by decide +kernel
theorem D164_1 : decode (byt 164) 1 = .ok (.invokestatic 150, 3) := by decide +kernel
theorem D164_4 : decode (byt 164) 4 = .ok (.ifCond .ne 10, 3) := by decide +kernel
theorem D164_7 : decode (byt 164) 7 = .ok (.aload_n 0, 1) := by decide +kernel
theorem D164_8 : decode (byt 164) 8 = .ok (.bipush (-3), 2) := by decide +kernel
theorem D164_10 : decode (byt 164) 10 = .ok (.invokevirtual 154, 3) := by decide +kernel
theorem D164_13 : decode (byt 164) 13 = .ok (.ireturn, 1) := by decide +kernel
theorem D164_14 : decode (byt 164) 14 = .ok (.aload_n 0, 1) := by decide +kernel
theorem D164_15 : decode (byt 164) 15 = .ok (.getfield 34, 3) := by decide +kernel
theorem D164_18 : decode (byt 164) 18 = .ok (.iload_n 1, 1) := by decide +kernel
theorem D164_19 : decode (byt 164) 19 = .ok (.iaload, 1) := by decide +kernel
theorem D164_20 : decode (byt 164) 20 = .ok (.ifCond .le 12, 3) := by decide +kernel
theorem D164_23 : decode (byt 164) 23 = .ok (.aload_n 0, 1) := by decide +kernel
theorem D164_24 : decode (byt 164) 24 = .ok (.getfield 37, 3) := by decide +kernel
theorem D164_27 : decode (byt 164) 27 = .ok (.iload_n 1, 1) := by decide +kernel
theorem D164_28 : decode (byt 164) 28 = .ok (.iaload, 1) := by decide +kernel
theorem D164_29 : decode (byt 164) 29 = .ok (.goto 9, 3) := by decide +kernel
theorem D164_32 : decode (byt 164) 32 = .ok (.aload_n 0, 1) := by decide +kernel
theorem D164_33 : decode (byt 164) 33 = .ok (.bipush (-2), 2) := by decide +kernel
theorem D164_35 : decode (byt 164) 35 = .ok (.invokevirtual 154, 3) := by decide +kernel
theorem D164_38 : decode (byt 164) 38 = .ok (.ireturn, 1) := by decide +kernel
theorem D165_0 : decode (byt 165) 0 = .ok (.iload_n 1, 1) := by decide +kernel
theorem D165_1 : decode (byt 165) 1 = .ok (.invokestatic 150, 3) := by decide +kernel
theorem D165_4 : decode (byt 165) 4 = .ok (.ifCond .ne 6, 3) := by decide +kernel
theorem D165_7 : decode (byt 165) 7 = .ok (.bipush (-3), 2) := by decide +kernel
theorem D165_9 : decode (byt 165) 9 = .ok (.ireturn, 1) := by decide +kernel
theorem D165_10 : decode (byt 165) 10 = .ok (.aload_n 0, 1) := by decide +kernel
theorem D165_11 : decode (byt 165) 11 = .ok (.getfield 34, 3) := by decide +kernel
theorem D165_14 : decode (byt 165) 14 = .ok (.iload_n 1, 1) := by decide +kernel
theorem D165_15 : decode (byt 165) 15 = .ok (.iaload, 1) := by decide +kernel
theorem D165_16 : decode (byt 165) 16 = .ok (.ifCond .ne 6, 3) := by decide +kernel
theorem D165_19 : decode (byt 165) 19 = .ok (.bipush (-2), 2) := by decide +kernel
theorem D165_21 : decode (byt 165) 21 = .ok (.ireturn, 1) := by decide +kernel
theorem D165_22 : decode (byt 165) 22 = .ok (.iload_n 2, 1) := by decide +kernel
theorem D165_23 : decode (byt 165) 23 = .ok (.i2l, 1) := by decide +kernel
theorem D165_24 : decode (byt 165) 24 = .ok (.lconst 0, 1) := by decide +kernel
theorem D165_25 : decode (byt 165) 25 = .ok (.aload_n 0, 1) := by decide +kernel
theorem D165_26 : decode (byt 165) 26 = .ok (.getfield 34, 3) := by decide +kernel
theorem D165_29 : decode (byt 165) 29 = .ok (.iload_n 1, 1) := by decide +kernel
theorem D165_30 : decode (byt 165) 30 = .ok (.iaload, 1) := by decide +kernel
theorem D165_31 : decode (byt 165) 31 = .ok (.iconst 1, 1) := by decide +kernel
theorem D165_32 : decode (byt 165) 32 = .ok (.isub, 1) := by decide +kernel
theorem D165_33 : decode (byt 165) 33 = .ok (.i2l, 1) := by decide +kernel
theorem D165_34 : decode (byt 165) 34 = .ok (.invokestatic 146, 3) := by decide +kernel
theorem D165_37 : decode (byt 165) 37 = .ok (.ifCond .eq 7, 3) := by decide +kernel
theorem D165_40 : decode (byt 165) 40 = .ok (.iconst 0, 1) := by decide +kernel
theorem D165_41 : decode (byt 165) 41 = .ok (.goto 5, 3) := by decide +kernel
theorem D165_44 : decode (byt 165) 44 = .ok (.bipush (-3), 2) := by decide +kernel
theorem D165_46 : decode (byt 165) 46 = .ok (.ireturn, 1) := by decide +kernel
theorem D166_0 : decode (byt 166) 0 = .ok (.iconst 0, 1) := by decide +kernel
theorem D166_1 : decode (byt 166) 1 = .ok (.istore_n 2, 1) := by decide +kernel
theorem D166_2 : decode (byt 166) 2 = .ok (.iload_n 2, 1) := by decide +kernel
theorem D166_3 : decode (byt 166) 3 = .ok (.aload_n 0, 1) := by decide +kernel
theorem D166_4 : decode (byt 166) 4 = .ok (.getfield 34, 3) := by decide +kernel
theorem D166_7 : decode (byt 166) 7 = .ok (.iload_n 1, 1) := by decide +kernel
theorem D166_8 : decode (byt 166) 8 = .ok (.iaload, 1) := by decide +kernel
theorem D166_9 : decode (byt 166) 9 = .ok (.if_icmp .ge 96, 3) := by decide +kernel
theorem D166_12 : decode (byt 166) 12 = .ok (.sipush 1500, 3) := by decide +kernel
theorem D166_15 : decode (byt 166) 15 = .ok (.iload_n 1, 1) := by decide +kernel
theorem D166_16 : decode (byt 166) 16 = .ok (.imul, 1) := by decide +kernel
theorem D166_17 : decode (byt 166) 17 = .ok (.iload_n 2, 1) := by decide +kernel
theorem D166_18 : decode (byt 166) 18 = .ok (.iadd, 1) := by decide +kernel
theorem D166_19 : decode (byt 166) 19 = .ok (.istore_n 3, 1) := by decide +kernel
theorem D166_20 : decode (byt 166) 20 = .ok (.aload_n 0, 1) := by decide +kernel
theorem D166_21 : decode (byt 166) 21 = .ok (.getfield 46, 3) := by decide +kernel
theorem D166_24 : decode (byt 166) 24 = .ok (.iload_n 3, 1) := by decide +kernel
theorem D166_25 : decode (byt 166) 25 = .ok (.iaload, 1) := by decide +kernel
theorem D166_26 : decode (byt 166) 26 = .ok (.ifCond .ne 7, 3) := by decide +kernel
theorem D166_29 : decode (byt 166) 29 = .ok (.iconst 0, 1) := by decide +kernel
theorem D166_30 : decode (byt 166) 30 = .ok (.goto 15, 3) := by decide +kernel
theorem D166_33 : decode (byt 166) 33 = .ok (.aload_n 0, 1) := by decide +kernel
theorem D166_34 : decode (byt 166) 34 = .ok (.getfield 46, 3) := by decide +kernel
theorem D166_37 : decode (byt 166) 37 = .ok (.iload_n 3, 1) := by decide +kernel
theorem D166_38 : decode (byt 166) 38 = .ok (.iaload, 1) := by decide +kernel
theorem D166_39 : decode (byt 166) 39 = .ok (.invokestatic 170, 3) := by decide +kernel
theorem D166_42 : decode (byt 166) 42 = .ok (.invokestatic 183, 3) := by decide +kernel
theorem D166_45 : decode (byt 166) 45 = .ok (.istore 4, 2) := by decide +kernel
theorem D166_47 : decode (byt 166) 47 = .ok (.iconst 0, 1) := by decide +kernel
theorem D166_48 : decode (byt 166) 48 = .ok (.istore 5, 2) := by decide +kernel
theorem D166_50 : decode (byt 166) 50 = .ok (.iload 5, 2) := by decide +kernel
theorem D166_52 : decode (byt 166) 52 = .ok (.aload_n 0, 1) := by decide +kernel
theorem D166_53 : decode (byt 166) 53 = .ok (.getfield 52, 3) := by decide +kernel
theorem D166_56 : decode (byt 166) 56 = .ok (.iload_n 3, 1) := by decide +kernel
theorem D166_57 : decode (byt 166) 57 = .ok (.iaload, 1) := by decide +kernel
theorem D166_58 : decode (byt 166) 58 = .ok (.if_icmp .ge 33, 3) := by decide +kernel
theorem D166_61 : decode (byt 166) 61 = .ok (.iload 4, 2) := by decide +kernel
theorem D166_63 : decode (byt 166) 63 = .ok (.aload_n 0, 1) := by decide +kernel
theorem D166_64 : decode (byt 166) 64 = .ok (.getfield 117, 3) := by decide +kernel
theorem D166_67 : decode (byt 166) 67 = .ok (.aload_n 0, 1) := by decide +kernel
theorem D166_68 : decode (byt 166) 68 = .ok (.getfield 56, 3) := by decide +kernel
theorem D166_71 : decode (byt 166) 71 = .ok (.aload_n 0, 1) := by decide +kernel
theorem D166_72 : decode (byt 166) 72 = .ok (.getfield 49, 3) := by decide +kernel
theorem D166_75 : decode (byt 166) 75 = .ok (.iload_n 3, 1) := by decide +kernel
theorem D166_76 : decode (byt 166) 76 = .ok (.iaload, 1) := by decide +kernel
theorem D166_77 : decode (byt 166) 77 = .ok (.iload 5, 2) := by decide +kernel
theorem D166_79 : decode (byt 166) 79 = .ok (.iadd, 1) := by decide +kernel
theorem D166_80 : decode (byt 166) 80 = .ok (.iaload, 1) := by decide +kernel
theorem D166_81 : decode (byt 166) 81 = .ok (.iaload, 1) := by decide +kernel
theorem D166_82 : decode (byt 166) 82 = .ok (.ior, 1) := by decide +kernel
theorem D166_83 : decode (byt 166) 83 = .ok (.istore 4, 2) := by decide +kernel
theorem D166_85 : decode (byt 166) 85 = .ok (.iinc 5 1, 3) := by decide +kernel
theorem D166_88 : decode (byt 166) 88 = .ok (.goto (-38), 3) := by decide +kernel
theorem D166_91 : decode (byt 166) 91 = .ok (.aload_n 0, 1) := by decide +kernel
theorem D166_92 : decode (byt 166) 92 = .ok (.getfield 117, 3) := by decide +kernel
theorem D166_95 : decode (byt 166) 95 = .ok (.iload_n 2, 1) := by decide +kernel
theorem D166_96 : decode (byt 166) 96 = .ok (.iload 4, 2) := by decide +kernel
theorem D166_98 : decode (byt 166) 98 = .ok (.iastore, 1) := by decide +kernel
theorem D166_99 : decode (byt 166) 99 = .ok (.iinc 2 1, 3) := by decide +kernel
theorem D166_102 : decode (byt 166) 102 = .ok (.goto (-100), 3) := by decide +kernel
theorem D166_105 : decode (byt 166) 105 = .ok (.return_, 1) := by decide +kernel
theorem D167_0 : decode (byt 167) 0 = .ok (.aload_n 0, 1) := by decide +kernel
theorem D167_1 : decode (byt 167) 1 = .ok (.iload_n 1, 1) := by decide +kernel
theorem D167_2 : decode (byt 167) 2 = .ok (.iload_n 2, 1) := by decide +kernel
theorem D167_3 : decode (byt 167) 3 = .ok (.invokevirtual 266, 3) := by decide +kernel
theorem D167_6 : decode (byt 167) 6 = .ok (.istore 4, 2) := by decide +kernel
theorem D167_8 : decode (byt 167) 8 = .ok (.iload 4, 2) := by decide +kernel
theorem D167_10 : decode (byt 167) 10 = .ok (.ifCond .eq 10, 3) := by decide +kernel
theorem D167_13 : decode (byt 167) 13 = .ok (.aload_n 0, 1) := by decide +kernel
theorem D167_14 : decode (byt 167) 14 = .ok (.iload 4, 2) := by decide +kernel
theorem D167_16 : decode (byt 167) 16 = .ok (.invokevirtual 154, 3) := by decide +kernel
theorem D167_19 : decode (byt 167) 19 = .ok (.ireturn, 1) := by decide +kernel
theorem D167_20 : decode (byt 167) 20 = .ok (.sipush 1500, 3) := by decide +kernel
theorem D167_23 : decode (byt 167) 23 = .ok (.iload_n 1, 1) := by decide +kernel
theorem D167_24 : decode (byt 167) 24 = .ok (.imul, 1) := by decide +kernel
theorem D167_25 : decode (byt 167) 25 = .ok (.iload_n 2, 1) := by decide +kernel
theorem D167_26 : decode (byt 167) 26 = .ok (.iadd, 1) := by decide +kernel
theorem D167_27 : decode (byt 167) 27 = .ok (.istore 5, 2) := by decide +kernel
theorem D167_29 : decode (byt 167) 29 = .ok (.iload_n 3, 1) := by decide +kernel
theorem D167_30 : decode (byt 167) 30 = .ok (.tableswitch 66 0 3 #[30, 38, 46, 54], 30) := by decide +kernel
theorem D167_60 : decode (byt 167) 60 = .ok (.aload_n 0, 1) := by decide +kernel
theorem D167_61 : decode (byt 167) 61 = .ok (.getfield 43, 3) := by decide +kernel
theorem D167_64 : decode (byt 167) 64 = .ok (.iload 5, 2) := by decide +kernel
theorem D167_66 : decode (byt 167) 66 = .ok (.iaload, 1) := by decide +kernel
theorem D167_67 : decode (byt 167) 67 = .ok (.ireturn, 1) := by decide +kernel
theorem D167_68 : decode (byt 167) 68 = .ok (.aload_n 0, 1) := by decide +kernel
theorem D167_69 : decode (byt 167) 69 = .ok (.getfield 46, 3) := by decide +kernel
theorem D167_72 : decode (byt 167) 72 = .ok (.iload 5, 2) := by decide +kernel
theorem D167_74 : decode (byt 167) 74 = .ok (.iaload, 1) := by decide +kernel
theorem D167_75 : decode (byt 167) 75 = .ok (.ireturn, 1) := by decide +kernel
theorem D167_76 : decode (byt 167) 76 = .ok (.aload_n 0, 1) := by decide +kernel
theorem D167_77 : decode (byt 167) 77 = .ok (.getfield 52, 3) := by decide +kernel
theorem D167_80 : decode (byt 167) 80 = .ok (.iload 5, 2) := by decide +kernel
theorem D167_82 : decode (byt 167) 82 = .ok (.iaload, 1) := by decide +kernel
theorem D167_83 : decode (byt 167) 83 = .ok (.ireturn, 1) := by decide +kernel
theorem D167_84 : decode (byt 167) 84 = .ok (.aload_n 0, 1) := by decide +kernel
theorem D167_85 : decode (byt 167) 85 = .ok (.iload_n 1, 1) := by decide +kernel
theorem D167_86 : decode (byt 167) 86 = .ok (.invokevirtual 269, 3) := by decide +kernel
theorem D167_89 : decode (byt 167) 89 = .ok (.aload_n 0, 1) := by decide +kernel
theorem D167_90 : decode (byt 167) 90 = .ok (.getfield 117, 3) := by decide +kernel
theorem D167_93 : decode (byt 167) 93 = .ok (.iload_n 2, 1) := by decide +kernel
theorem D167_94 : decode (byt 167) 94 = .ok (.iaload, 1) := by decide +kernel
theorem D167_95 : decode (byt 167) 95 = .ok (.ireturn, 1) := by decide +kernel
theorem D167_96 : decode (byt 167) 96 = .ok (.aload_n 0, 1) := by decide +kernel
theorem D167_97 : decode (byt 167) 97 = .ok (.bipush (-7), 2) := by decide +kernel
theorem D167_99 : decode (byt 167) 99 = .ok (.invokevirtual 154, 3) := by decide +kernel
theorem D167_102 : decode (byt 167) 102 = .ok (.ireturn, 1) := by decide +kernel
theorem D168_0 : decode (byt 168) 0 = .ok (.aload_n 0, 1) := by decide +kernel
theorem D168_1 : decode (byt 168) 1 = .ok (.iload_n 1, 1) := by decide +kernel
theorem D168_2 : decode (byt 168) 2 = .ok (.iload_n 2, 1) := by decide +kernel
theorem D168_3 : decode (byt 168) 3 = .ok (.invokevirtual 266, 3) := by decide +kernel
theorem D168_6 : decode (byt 168) 6 = .ok (.istore 4, 2) := by decide +kernel
theorem D168_8 : decode (byt 168) 8 = .ok (.iload 4, 2) := by decide +kernel
theorem D168_10 : decode (byt 168) 10 = .ok (.ifCond .eq 6, 3) := by decide +kernel
theorem D168_13 : decode (byt 168) 13 = .ok (.iload 4, 2) := by decide +kernel
theorem D168_15 : decode (byt 168) 15 = .ok (.ireturn, 1) := by decide +kernel
theorem D168_16 : decode (byt 168) 16 = .ok (.sipush 1500, 3) := by decide +kernel
theorem D168_19 : decode (byt 168) 19 = .ok (.iload_n 1, 1) := by decide +kernel
theorem D168_20 : decode (byt 168) 20 = .ok (.imul, 1) := by decide +kernel
theorem D168_21 : decode (byt 168) 21 = .ok (.iload_n 2, 1) := by decide +kernel
theorem D168_22 : decode (byt 168) 22 = .ok (.iadd, 1) := by decide +kernel
theorem D168_23 : decode (byt 168) 23 = .ok (.istore 5, 2) := by decide +kernel
theorem D168_25 : decode (byt 168) 25 = .ok (.aload_n 0, 1) := by decide +kernel
theorem D168_26 : decode (byt 168) 26 = .ok (.getfield 43, 3) := by decide +kernel
theorem D168_29 : decode (byt 168) 29 = .ok (.iload 5, 2) := by decide +kernel
theorem D168_31 : decode (byt 168) 31 = .ok (.iaload, 1) := by decide +kernel
theorem D168_32 : decode (byt 168) 32 = .ok (.iconst 3, 1) := by decide +kernel
theorem D168_33 : decode (byt 168) 33 = .ok (.if_icmp .ge 6, 3) := by decide +kernel
theorem D168_36 : decode (byt 168) 36 = .ok (.bipush (-5), 2) := by decide +kernel
theorem D168_38 : decode (byt 168) 38 = .ok (.ireturn, 1) := by decide +kernel
theorem D168_39 : decode (byt 168) 39 = .ok (.iload_n 3, 1) := by decide +kernel
theorem D168_40 : decode (byt 168) 40 = .ok (.i2l, 1) := by decide +kernel
theorem D168_41 : decode (byt 168) 41 = .ok (.lconst 0, 1) := by decide +kernel
theorem D168_42 : decode (byt 168) 42 = .ok (.aload_n 0, 1) := by decide +kernel
theorem D168_43 : decode (byt 168) 43 = .ok (.getfield 52, 3) := by decide +kernel
theorem D168_46 : decode (byt 168) 46 = .ok (.iload 5, 2) := by decide +kernel
theorem D168_48 : decode (byt 168) 48 = .ok (.iaload, 1) := by decide +kernel
theorem D168_49 : decode (byt 168) 49 = .ok (.iconst 1, 1) := by decide +kernel
theorem D168_50 : decode (byt 168) 50 = .ok (.isub, 1) := by decide +kernel
theorem D168_51 : decode (byt 168) 51 = .ok (.i2l, 1) := by decide +kernel
theorem D168_52 : decode (byt 168) 52 = .ok (.invokestatic 146, 3) := by decide +kernel
theorem D168_55 : decode (byt 168) 55 = .ok (.ifCond .eq 7, 3) := by decide +kernel
theorem D168_58 : decode (byt 168) 58 = .ok (.iconst 0, 1) := by decide +kernel
theorem D168_59 : decode (byt 168) 59 = .ok (.goto 5, 3) := by decide +kernel
theorem D168_62 : decode (byt 168) 62 = .ok (.bipush (-3), 2) := by decide +kernel
theorem D168_64 : decode (byt 168) 64 = .ok (.ireturn, 1) := by decide +kernel
theorem D169_0 : decode (byt 169) 0 = .ok (.aload_n 0, 1) := by decide +kernel
theorem D169_1 : decode (byt 169) 1 = .ok (.iload_n 1, 1) := by decide +kernel
theorem D169_2 : decode (byt 169) 2 = .ok (.iload_n 2, 1) := by decide +kernel
theorem D169_3 : decode (byt 169) 3 = .ok (.iload_n 3, 1) := by decide +kernel
theorem D169_4 : decode (byt 169) 4 = .ok (.invokevirtual 272, 3) := by decide +kernel
theorem D169_7 : decode (byt 169) 7 = .ok (.istore 4, 2) := by decide +kernel
theorem D169_9 : decode (byt 169) 9 = .ok (.iload 4, 2) := by decide +kernel
theorem D169_11 : decode (byt 169) 11 = .ok (.ifCond .eq 12, 3) := by decide +kernel
theorem D169_14 : decode (byt 169) 14 = .ok (.aload_n 0, 1) := by decide +kernel
theorem D169_15 : decode (byt 169) 15 = .ok (.iload 4, 2) := by decide +kernel
theorem D169_17 : decode (byt 169) 17 = .ok (.invokevirtual 154, 3) := by decide +kernel
theorem D169_20 : decode (byt 169) 20 = .ok (.goto 22, 3) := by decide +kernel
theorem D169_23 : decode (byt 169) 23 = .ok (.aload_n 0, 1) := by decide +kernel
theorem D169_24 : decode (byt 169) 24 = .ok (.getfield 56, 3) := by decide +kernel
theorem D169_27 : decode (byt 169) 27 = .ok (.aload_n 0, 1) := by decide +kernel
theorem D169_28 : decode (byt 169) 28 = .ok (.getfield 49, 3) := by decide +kernel
theorem D169_31 : decode (byt 169) 31 = .ok (.sipush 1500, 3) := by decide +kernel
theorem D169_34 : decode (byt 169) 34 = .ok (.iload_n 1, 1) := by decide +kernel
theorem D169_35 : decode (byt 169) 35 = .ok (.imul, 1) := by decide +kernel
theorem D169_36 : decode (byt 169) 36 = .ok (.iload_n 2, 1) := by decide +kernel
theorem D169_37 : decode (byt 169) 37 = .ok (.iadd, 1) := by decide +kernel
theorem D169_38 : decode (byt 169) 38 = .ok (.iaload, 1) := by decide +kernel
theorem D169_39 : decode (byt 169) 39 = .ok (.iload_n 3, 1) := by decide +kernel
theorem D169_40 : decode (byt 169) 40 = .ok (.iadd, 1) := by decide +kernel
theorem D169_41 : decode (byt 169) 41 = .ok (.iaload, 1) := by decide +kernel
theorem D169_42 : decode (byt 169) 42 = .ok (.ireturn, 1) := by decide +kernel
theorem D170_0 : decode (byt 170) 0 = .ok (.aload_n 0, 1) := by decide +kernel
theorem D170_1 : decode (byt 170) 1 = .ok (.iload_n 1, 1) := by decide +kernel
theorem D170_2 : decode (byt 170) 2 = .ok (.iload_n 2, 1) := by decide +kernel
theorem D170_3 : decode (byt 170) 3 = .ok (.iload_n 3, 1) := by decide +kernel
theorem D170_4 : decode (byt 170) 4 = .ok (.invokevirtual 272, 3) := by decide +kernel
theorem D170_7 : decode (byt 170) 7 = .ok (.istore 5, 2) := by decide +kernel
theorem D170_9 : decode (byt 170) 9 = .ok (.iload 5, 2) := by decide +kernel
theorem D170_11 : decode (byt 170) 11 = .ok (.ifCond .ne 21, 3) := by decide +kernel
theorem D170_14 : decode (byt 170) 14 = .ok (.iload 4, 2) := by decide +kernel
theorem D170_16 : decode (byt 170) 16 = .ok (.i2l, 1) := by decide +kernel
theorem D170_17 : decode (byt 170) 17 = .ok (.lconst 0, 1) := by decide +kernel
theorem D170_18 : decode (byt 170) 18 = .ok (.iload_n 2, 1) := by decide +kernel
theorem D170_19 : decode (byt 170) 19 = .ok (.iconst 1, 1) := by decide +kernel
theorem D170_20 : decode (byt 170) 20 = .ok (.isub, 1) := by decide +kernel
theorem D170_21 : decode (byt 170) 21 = .ok (.i2l, 1) := by decide +kernel
theorem D170_22 : decode (byt 170) 22 = .ok (.invokestatic 146, 3) := by decide +kernel
theorem D170_25 : decode (byt 170) 25 = .ok (.ifCond .ne 7, 3) := by decide +kernel
theorem D170_28 : decode (byt 170) 28 = .ok (.bipush (-3), 2) := by decide +kernel
theorem D170_30 : decode (byt 170) 30 = .ok (.istore 5, 2) := by decide +kernel
theorem D170_32 : decode (byt 170) 32 = .ok (.iload 5, 2) := by decide +kernel
theorem D170_34 : decode (byt 170) 34 = .ok (.ifCond .eq 10, 3) := by decide +kernel
theorem D170_37 : decode (byt 170) 37 = .ok (.aload_n 0, 1) := by decide +kernel
theorem D170_38 : decode (byt 170) 38 = .ok (.iload 5, 2) := by decide +kernel
theorem D170_40 : decode (byt 170) 40 = .ok (.invokevirtual 154, 3) := by decide +kernel
theorem D170_43 : decode (byt 170) 43 = .ok (.ireturn, 1) := by decide +kernel
theorem D170_44 : decode (byt 170) 44 = .ok (.aload_n 0, 1) := by decide +kernel
theorem D170_45 : decode (byt 170) 45 = .ok (.getfield 49, 3) := by decide +kernel
theorem D170_48 : decode (byt 170) 48 = .ok (.sipush 1500, 3) := by decide +kernel
theorem D170_51 : decode (byt 170) 51 = .ok (.iload_n 1, 1) := by decide +kernel
theorem D170_52 : decode (byt 170) 52 = .ok (.imul, 1) := by decide +kernel
theorem D170_53 : decode (byt 170) 53 = .ok (.iload_n 2, 1) := by decide +kernel
theorem D170_54 : decode (byt 170) 54 = .ok (.iadd, 1) := by decide +kernel
theorem D170_55 : decode (byt 170) 55 = .ok (.iaload, 1) := by decide +kernel
theorem D170_56 : decode (byt 170) 56 = .ok (.iload_n 3, 1) := by decide +kernel
theorem D170_57 : decode (byt 170) 57 = .ok (.iadd, 1) := by decide +kernel
theorem D170_58 : decode (byt 170) 58 = .ok (.istore 6, 2) := by decide +kernel
theorem D170_60 : decode (byt 170) 60 = .ok (.aload_n 0, 1) := by decide +kernel
theorem D170_61 : decode (byt 170) 61 = .ok (.getfield 56, 3) := by decide +kernel
theorem D170_64 : decode (byt 170) 64 = .ok (.iload 6, 2) := by decide +kernel
theorem D170_66 : decode (byt 170) 66 = .ok (.iaload, 1) := by decide +kernel
theorem D170_67 : decode (byt 170) 67 = .ok (.istore 7, 2) := by decide +kernel
theorem D170_69 : decode (byt 170) 69 = .ok (.aload_n 0, 1) := by decide +kernel
theorem D170_70 : decode (byt 170) 70 = .ok (.getfield 56, 3) := by decide +kernel
theorem D170_73 : decode (byt 170) 73 = .ok (.iload 6, 2) := by decide +kernel
theorem D170_75 : decode (byt 170) 75 = .ok (.iload 4, 2) := by decide +kernel
theorem D170_77 : decode (byt 170) 77 = .ok (.iastore, 1) := by decide +kernel
theorem D170_78 : decode (byt 170) 78 = .ok (.aload_n 0, 1) := by decide +kernel
theorem D170_79 : decode (byt 170) 79 = .ok (.getfield 127, 3) := by decide +kernel
theorem D170_82 : decode (byt 170) 82 = .ok (.iload_n 1, 1) := by decide +kernel
theorem D170_83 : decode (byt 170) 83 = .ok (.iconst 0, 1) := by decide +kernel
theorem D170_84 : decode (byt 170) 84 = .ok (.bastore, 1) := by decide +kernel
theorem D170_85 : decode (byt 170) 85 = .ok (.iload 7, 2) := by decide +kernel
theorem D170_87 : decode (byt 170) 87 = .ok (.ireturn, 1) := by decide +kernel
theorem D171_0 : decode (byt 171) 0 = .ok (.iload_n 2, 1) := by decide +kernel
theorem D171_1 : decode (byt 171) 1 = .ok (.ifCond .le 27, 3) := by decide +kernel
theorem D171_4 : decode (byt 171) 4 = .ok (.iload_n 3, 1) := by decide +kernel
theorem D171_5 : decode (byt 171) 5 = .ok (.aload_n 0, 1) := by decide +kernel
theorem D171_6 : decode (byt 171) 6 = .ok (.getfield 7, 3) := by decide +kernel
theorem D171_9 : decode (byt 171) 9 = .ok (.iload_n 1, 1) := by decide +kernel
theorem D171_10 : decode (byt 171) 10 = .ok (.iaload, 1) := by decide +kernel
theorem D171_11 : decode (byt 171) 11 = .ok (.iload_n 2, 1) := by decide +kernel
theorem D171_12 : decode (byt 171) 12 = .ok (.isub, 1) := by decide +kernel
theorem D171_13 : decode (byt 171) 13 = .ok (.ishr, 1) := by decide +kernel
theorem D171_14 : decode (byt 171) 14 = .ok (.iconst 1, 1) := by decide +kernel
theorem D171_15 : decode (byt 171) 15 = .ok (.iand, 1) := by decide +kernel
theorem D171_16 : decode (byt 171) 16 = .ok (.iconst 1, 1) := by decide +kernel
theorem D171_17 : decode (byt 171) 17 = .ok (.if_icmp .ne 7, 3) := by decide +kernel
theorem D171_20 : decode (byt 171) 20 = .ok (.iconst 1, 1) := by decide +kernel
theorem D171_21 : decode (byt 171) 21 = .ok (.goto 27, 3) := by decide +kernel
theorem D171_24 : decode (byt 171) 24 = .ok (.iconst 0, 1) := by decide +kernel
theorem D171_25 : decode (byt 171) 25 = .ok (.goto 23, 3) := by decide +kernel
theorem D171_28 : decode (byt 171) 28 = .ok (.iload_n 3, 1) := by decide +kernel
theorem D171_29 : decode (byt 171) 29 = .ok (.aload_n 0, 1) := by decide +kernel
theorem D171_30 : decode (byt 171) 30 = .ok (.getfield 7, 3) := by decide +kernel
theorem D171_33 : decode (byt 171) 33 = .ok (.iload_n 1, 1) := by decide +kernel
theorem D171_34 : decode (byt 171) 34 = .ok (.iaload, 1) := by decide +kernel
theorem D171_35 : decode (byt 171) 35 = .ok (.iload_n 2, 1) := by decide +kernel
theorem D171_36 : decode (byt 171) 36 = .ok (.iadd, 1) := by decide +kernel
theorem D171_37 : decode (byt 171) 37 = .ok (.ishr, 1) := by decide +kernel
theorem D171_38 : decode (byt 171) 38 = .ok (.iconst 1, 1) := by decide +kernel
theorem D171_39 : decode (byt 171) 39 = .ok (.iand, 1) := by decide +kernel
theorem D171_40 : decode (byt 171) 40 = .ok (.ifCond .ne 7, 3) := by decide +kernel
theorem D171_43 : decode (byt 171) 43 = .ok (.iconst 1, 1) := by decide +kernel
theorem D171_44 : decode (byt 171) 44 = .ok (.goto 4, 3) := by decide +kernel
theorem D171_47 : decode (byt 171) 47 = .ok (.iconst 0, 1) := by decide +kernel
theorem D171_48 : decode (byt 171) 48 = .ok (.ireturn, 1) := by decide +kernel
theorem D172_0 : decode (byt 172) 0 = .ok (.sipush 1500, 3) := by decide +kernel
theorem D172_3 : decode (byt 172) 3 = .ok (.iload_n 1, 1) := by decide +kernel
theorem D172_4 : decode (byt 172) 4 = .ok (.imul, 1) := by decide +kernel
theorem D172_5 : decode (byt 172) 5 = .ok (.iload_n 2, 1) := by decide +kernel
theorem D172_6 : decode (byt 172) 6 = .ok (.iadd, 1) := by decide +kernel
theorem D172_7 : decode (byt 172) 7 = .ok (.istore 4, 2) := by decide +kernel
theorem D172_9 : decode (byt 172) 9 = .ok (.aload_n 0, 1) := by decide +kernel
theorem D172_10 : decode (byt 172) 10 = .ok (.getfield 43, 3) := by decide +kernel
theorem D172_13 : decode (byt 172) 13 = .ok (.iload 4, 2) := by decide +kernel
theorem D172_15 : decode (byt 172) 15 = .ok (.iaload, 1) := by decide +kernel
theorem D172_16 : decode (byt 172) 16 = .ok (.iconst 2, 1) := by decide +kernel
theorem D172_17 : decode (byt 172) 17 = .ok (.if_icmp .ne 17, 3) := by decide +kernel
theorem D172_20 : decode (byt 172) 20 = .ok (.aload_n 0, 1) := by decide +kernel
theorem D172_21 : decode (byt 172) 21 = .ok (.iload_n 1, 1) := by decide +kernel
theorem D172_22 : decode (byt 172) 22 = .ok (.aload_n 0, 1) := by decide +kernel
theorem D172_23 : decode (byt 172) 23 = .ok (.getfield 46, 3) := by decide +kernel
theorem D172_26 : decode (byt 172) 26 = .ok (.iload 4, 2) := by decide +kernel
theorem D172_28 : decode (byt 172) 28 = .ok (.iaload, 1) := by decide +kernel
theorem D172_29 : decode (byt 172) 29 = .ok (.iload_n 3, 1) := by decide +kernel
theorem D172_30 : decode (byt 172) 30 = .ok (.invokevirtual 275, 3) := by decide +kernel
theorem D172_33 : decode (byt 172) 33 = .ok (.ireturn, 1) := by decide +kernel
theorem D172_34 : decode (byt 172) 34 = .ok (.aload_n 0, 1) := by decide +kernel
theorem D172_35 : decode (byt 172) 35 = .ok (.getfield 43, 3) := by decide +kernel
theorem D172_38 : decode (byt 172) 38 = .ok (.iload 4, 2) := by decide +kernel
theorem D172_40 : decode (byt 172) 40 = .ok (.iaload, 1) := by decide +kernel
theorem D172_41 : decode (byt 172) 41 = .ok (.iconst 4, 1) := by decide +kernel
theorem D172_42 : decode (byt 172) 42 = .ok (.if_icmp .ne 43, 3) := by decide +kernel
theorem D172_45 : decode (byt 172) 45 = .ok (.aload_n 0, 1) := by decide +kernel
theorem D172_46 : decode (byt 172) 46 = .ok (.getfield 124, 3) := by decide +kernel
theorem D172_49 : decode (byt 172) 49 = .ok (.aload_n 0, 1) := by decide +kernel
theorem D172_50 : decode (byt 172) 50 = .ok (.getfield 56, 3) := by decide +kernel
theorem D172_53 : decode (byt 172) 53 = .ok (.aload_n 0, 1) := by decide +kernel
theorem D172_54 : decode (byt 172) 54 = .ok (.getfield 49, 3) := by decide +kernel
theorem D172_57 : decode (byt 172) 57 = .ok (.iload 4, 2) := by decide +kernel
theorem D172_59 : decode (byt 172) 59 = .ok (.iaload, 1) := by decide +kernel
theorem D172_60 : decode (byt 172) 60 = .ok (.aload_n 0, 1) := by decide +kernel
theorem D172_61 : decode (byt 172) 61 = .ok (.iload_n 1, 1) := by decide +kernel
theorem D172_62 : decode (byt 172) 62 = .ok (.aload_n 0, 1) := by decide +kernel
theorem D172_63 : decode (byt 172) 63 = .ok (.getfield 46, 3) := by decide +kernel
theorem D172_66 : decode (byt 172) 66 = .ok (.iload 4, 2) := by decide +kernel
theorem D172_68 : decode (byt 172) 68 = .ok (.iaload, 1) := by decide +kernel
theorem D172_69 : decode (byt 172) 69 = .ok (.iload_n 3, 1) := by decide +kernel
theorem D172_70 : decode (byt 172) 70 = .ok (.invokevirtual 275, 3) := by decide +kernel
theorem D172_73 : decode (byt 172) 73 = .ok (.ifCond .eq 7, 3) := by decide +kernel
theorem D172_76 : decode (byt 172) 76 = .ok (.iconst 0, 1) := by decide +kernel
theorem D172_77 : decode (byt 172) 77 = .ok (.goto 4, 3) := by decide +kernel
theorem D172_80 : decode (byt 172) 80 = .ok (.iconst 1, 1) := by decide +kernel
theorem D172_81 : decode (byt 172) 81 = .ok (.iadd, 1) := by decide +kernel
theorem D172_82 : decode (byt 172) 82 = .ok (.iaload, 1) := by decide +kernel
theorem D172_83 : decode (byt 172) 83 = .ok (.baload, 1) := by decide +kernel
theorem D172_84 : decode (byt 172) 84 = .ok (.ireturn, 1) := by decide +kernel
theorem D172_85 : decode (byt 172) 85 = .ok (.aload_n 0, 1) := by decide +kernel
theorem D172_86 : decode (byt 172) 86 = .ok (.getfield 43, 3) := by decide +kernel
theorem D172_89 : decode (byt 172) 89 = .ok (.iload 4, 2) := by decide +kernel
theorem D172_91 : decode (byt 172) 91 = .ok (.iaload, 1) := by decide +kernel
theorem D172_92 : decode (byt 172) 92 = .ok (.iconst 1, 1) := by decide +kernel
theorem D172_93 : decode (byt 172) 93 = .ok (.if_icmp .eq 7, 3) := by decide +kernel
theorem D172_96 : decode (byt 172) 96 = .ok (.iconst 1, 1) := by decide +kernel
theorem D172_97 : decode (byt 172) 97 = .ok (.goto 4, 3) := by decide +kernel
theorem D172_100 : decode (byt 172) 100 = .ok (.iconst 0, 1) := by decide +kernel
theorem D172_101 : decode (byt 172) 101 = .ok (.istore 5, 2) := by decide +kernel
theorem D172_103 : decode (byt 172) 103 = .ok (.iconst 0, 1) := by decide +kernel
theorem D172_104 : decode (byt 172) 104 = .ok (.istore 6, 2) := by decide +kernel
theorem D172_106 : decode (byt 172) 106 = .ok (.iload 6, 2) := by decide +kernel
theorem D172_108 : decode (byt 172) 108 = .ok (.aload_n 0, 1) := by decide +kernel
theorem D172_109 : decode (byt 172) 109 = .ok (.getfield 52, 3) := by decide +kernel
theorem D172_112 : decode (byt 172) 112 = .ok (.iload 4, 2) := by decide +kernel
theorem D172_114 : decode (byt 172) 114 = .ok (.iaload, 1) := by decide +kernel
theorem D172_115 : decode (byt 172) 115 = .ok (.if_icmp .ge 44, 3) := by decide +kernel
theorem D172_118 : decode (byt 172) 118 = .ok (.iload 5, 2) := by decide +kernel
theorem D172_120 : decode (byt 172) 120 = .ok (.ifCond .eq 30, 3) := by decide +kernel
theorem D172_123 : decode (byt 172) 123 = .ok (.aload_n 0, 1) := by decide +kernel
theorem D172_124 : decode (byt 172) 124 = .ok (.getfield 124, 3) := by decide +kernel
theorem D172_127 : decode (byt 172) 127 = .ok (.aload_n 0, 1) := by decide +kernel
theorem D172_128 : decode (byt 172) 128 = .ok (.getfield 56, 3) := by decide +kernel
theorem D172_131 : decode (byt 172) 131 = .ok (.aload_n 0, 1) := by decide +kernel
theorem D172_132 : decode (byt 172) 132 = .ok (.getfield 49, 3) := by decide +kernel
theorem D172_135 : decode (byt 172) 135 = .ok (.iload 4, 2) := by decide +kernel
theorem D172_137 : decode (byt 172) 137 = .ok (.iaload, 1) := by decide +kernel
theorem D172_138 : decode (byt 172) 138 = .ok (.iload 6, 2) := by decide +kernel
theorem D172_140 : decode (byt 172) 140 = .ok (.iadd, 1) := by decide +kernel
theorem D172_141 : decode (byt 172) 141 = .ok (.iaload, 1) := by decide +kernel
theorem D172_142 : decode (byt 172) 142 = .ok (.baload, 1) := by decide +kernel
theorem D172_143 : decode (byt 172) 143 = .ok (.ifCond .eq 7, 3) := by decide +kernel
theorem D172_146 : decode (byt 172) 146 = .ok (.iconst 1, 1) := by decide +kernel
theorem D172_147 : decode (byt 172) 147 = .ok (.goto 4, 3) := by decide +kernel
theorem D172_150 : decode (byt 172) 150 = .ok (.iconst 0, 1) := by decide +kernel
theorem D172_151 : decode (byt 172) 151 = .ok (.istore 5, 2) := by decide +kernel
theorem D172_153 : decode (byt 172) 153 = .ok (.iinc 6 1, 3) := by decide +kernel
theorem D172_156 : decode (byt 172) 156 = .ok (.goto (-50), 3) := by decide +kernel
theorem D172_159 : decode (byt 172) 159 = .ok (.iload 5, 2) := by decide +kernel
theorem D172_161 : decode (byt 172) 161 = .ok (.ireturn, 1) := by decide +kernel
theorem D173_0 : decode (byt 173) 0 = .ok (.aload_n 0, 1) := by decide +kernel
theorem D173_1 : decode (byt 173) 1 = .ok (.getfield 127, 3) := by decide +kernel
theorem D173_4 : decode (byt 173) 4 = .ok (.iload_n 1, 1) := by decide +kernel
theorem D173_5 : decode (byt 173) 5 = .ok (.baload, 1) := by decide +kernel
theorem D173_6 : decode (byt 173) 6 = .ok (.ifCond .eq 4, 3) := by decide +kernel
theorem D173_9 : decode (byt 173) 9 = .ok (.return_, 1) := by decide +kernel
theorem D173_10 : decode (byt 173) 10 = .ok (.aload_n 0, 1) := by decide +kernel
theorem D173_11 : decode (byt 173) 11 = .ok (.getfield 127, 3) := by decide +kernel
theorem D173_14 : decode (byt 173) 14 = .ok (.iload_n 1, 1) := by decide +kernel
theorem D173_15 : decode (byt 173) 15 = .ok (.iconst 1, 1) := by decide +kernel
theorem D173_16 : decode (byt 173) 16 = .ok (.bastore, 1) := by decide +kernel
theorem D173_17 : decode (byt 173) 17 = .ok (.iconst 0, 1) := by decide +kernel
theorem D173_18 : decode (byt 173) 18 = .ok (.istore_n 2, 1) := by decide +kernel
theorem D173_19 : decode (byt 173) 19 = .ok (.iload_n 2, 1) := by decide +kernel
theorem D173_20 : decode (byt 173) 20 = .ok (.iconst 1, 1) := by decide +kernel
theorem D173_21 : decode (byt 173) 21 = .ok (.aload_n 0, 1) := by decide +kernel
theorem D173_22 : decode (byt 173) 22 = .ok (.getfield 7, 3) := by decide +kernel
theorem D173_25 : decode (byt 173) 25 = .ok (.iload_n 1, 1) := by decide +kernel
theorem D173_26 : decode (byt 173) 26 = .ok (.iaload, 1) := by decide +kernel
theorem D173_27 : decode (byt 173) 27 = .ok (.ishl, 1) := by decide +kernel
theorem D173_28 : decode (byt 173) 28 = .ok (.if_icmp .ge 63, 3) := by decide +kernel
theorem D173_31 : decode (byt 173) 31 = .ok (.iconst 0, 1) := by decide +kernel
theorem D173_32 : decode (byt 173) 32 = .ok (.istore_n 3, 1) := by decide +kernel
theorem D173_33 : decode (byt 173) 33 = .ok (.iload_n 3, 1) := by decide +kernel
theorem D173_34 : decode (byt 173) 34 = .ok (.aload_n 0, 1) := by decide +kernel
theorem D173_35 : decode (byt 173) 35 = .ok (.getfield 37, 3) := by decide +kernel
theorem D173_38 : decode (byt 173) 38 = .ok (.iload_n 1, 1) := by decide +kernel
theorem D173_39 : decode (byt 173) 39 = .ok (.iaload, 1) := by decide +kernel
theorem D173_40 : decode (byt 173) 40 = .ok (.if_icmp .gt 22, 3) := by decide +kernel
theorem D173_43 : decode (byt 173) 43 = .ok (.aload_n 0, 1) := by decide +kernel
theorem D173_44 : decode (byt 173) 44 = .ok (.getfield 124, 3) := by decide +kernel
theorem D173_47 : decode (byt 173) 47 = .ok (.iload_n 3, 1) := by decide +kernel
theorem D173_48 : decode (byt 173) 48 = .ok (.aload_n 0, 1) := by decide +kernel
theorem D173_49 : decode (byt 173) 49 = .ok (.iload_n 1, 1) := by decide +kernel
theorem D173_50 : decode (byt 173) 50 = .ok (.iload_n 3, 1) := by decide +kernel
theorem D173_51 : decode (byt 173) 51 = .ok (.iload_n 2, 1) := by decide +kernel
theorem D173_52 : decode (byt 173) 52 = .ok (.invokevirtual 279, 3) := by decide +kernel
theorem D173_55 : decode (byt 173) 55 = .ok (.bastore, 1) := by decide +kernel
theorem D173_56 : decode (byt 173) 56 = .ok (.iinc 3 1, 3) := by decide +kernel
theorem D173_59 : decode (byt 173) 59 = .ok (.goto (-26), 3) := by decide +kernel
theorem D173_62 : decode (byt 173) 62 = .ok (.aload_n 0, 1) := by decide +kernel
theorem D173_63 : decode (byt 173) 63 = .ok (.getfield 120, 3) := by decide +kernel
theorem D173_66 : decode (byt 173) 66 = .ok (.sipush 4096, 3) := by decide +kernel
theorem D173_69 : decode (byt 173) 69 = .ok (.iload_n 1, 1) := by decide +kernel
theorem D173_70 : decode (byt 173) 70 = .ok (.imul, 1) := by decide +kernel
theorem D173_71 : decode (byt 173) 71 = .ok (.iload_n 2, 1) := by decide +kernel
theorem D173_72 : decode (byt 173) 72 = .ok (.iadd, 1) := by decide +kernel
theorem D173_73 : decode (byt 173) 73 = .ok (.aload_n 0, 1) := by decide +kernel
theorem D173_74 : decode (byt 173) 74 = .ok (.getfield 124, 3) := by decide +kernel
theorem D173_77 : decode (byt 173) 77 = .ok (.aload_n 0, 1) := by decide +kernel
theorem D173_78 : decode (byt 173) 78 = .ok (.getfield 37, 3) := by decide +kernel
theorem D173_81 : decode (byt 173) 81 = .ok (.iload_n 1, 1) := by decide +kernel
theorem D173_82 : decode (byt 173) 82 = .ok (.iaload, 1) := by decide +kernel
theorem D173_83 : decode (byt 173) 83 = .ok (.baload, 1) := by decide +kernel
theorem D173_84 : decode (byt 173) 84 = .ok (.bastore, 1) := by decide +kernel
theorem D173_85 : decode (byt 173) 85 = .ok (.iinc 2 1, 3) := by decide +kernel
theorem D173_88 : decode (byt 173) 88 = .ok (.goto (-69), 3) := by decide +kernel
theorem D173_91 : decode (byt 173) 91 = .ok (.return_, 1) := by decide +kernel
theorem D174_0 : decode (byt 174) 0 = .ok (.iconst 0, 1) := by decide +kernel
theorem D174_1 : decode (byt 174) 1 = .ok (.istore_n 3, 1) := by decide +kernel
theorem D174_2 : decode (byt 174) 2 = .ok (.iload_n 3, 1) := by decide +kernel
theorem D174_3 : decode (byt 174) 3 = .ok (.aload_n 0, 1) := by decide +kernel
theorem D174_4 : decode (byt 174) 4 = .ok (.getfield 16, 3) := by decide +kernel
theorem D174_7 : decode (byt 174) 7 = .ok (.iload_n 1, 1) := by decide +kernel
theorem D174_8 : decode (byt 174) 8 = .ok (.iaload, 1) := by decide +kernel
theorem D174_9 : decode (byt 174) 9 = .ok (.if_icmp .ge 110, 3) := by decide +kernel
theorem D174_12 : decode (byt 174) 12 = .ok (.iconst 0, 1) := by decide +kernel
theorem D174_13 : decode (byt 174) 13 = .ok (.istore 4, 2) := by decide +kernel
theorem D174_15 : decode (byt 174) 15 = .ok (.iconst 1, 1) := by decide +kernel
theorem D174_16 : decode (byt 174) 16 = .ok (.istore 5, 2) := by decide +kernel
theorem D174_18 : decode (byt 174) 18 = .ok (.iload 5, 2) := by decide +kernel
theorem D174_20 : decode (byt 174) 20 = .ok (.aload_n 0, 1) := by decide +kernel
theorem D174_21 : decode (byt 174) 21 = .ok (.getfield 7, 3) := by decide +kernel
theorem D174_24 : decode (byt 174) 24 = .ok (.iload_n 1, 1) := by decide +kernel
theorem D174_25 : decode (byt 174) 25 = .ok (.iaload, 1) := by decide +kernel
theorem D174_26 : decode (byt 174) 26 = .ok (.if_icmp .gt 80, 3) := by decide +kernel
theorem D174_29 : decode (byt 174) 29 = .ok (.aload_n 0, 1) := by decide +kernel
theorem D174_30 : decode (byt 174) 30 = .ok (.getfield 13, 3) := by decide +kernel
theorem D174_33 : decode (byt 174) 33 = .ok (.bipush 40, 2) := by decide +kernel
theorem D174_35 : decode (byt 174) 35 = .ok (.iload_n 1, 1) := by decide +kernel
theorem D174_36 : decode (byt 174) 36 = .ok (.imul, 1) := by decide +kernel
theorem D174_37 : decode (byt 174) 37 = .ok (.iload_n 3, 1) := by decide +kernel
theorem D174_38 : decode (byt 174) 38 = .ok (.iadd, 1) := by decide +kernel
theorem D174_39 : decode (byt 174) 39 = .ok (.iaload, 1) := by decide +kernel
theorem D174_40 : decode (byt 174) 40 = .ok (.istore 6, 2) := by decide +kernel
theorem D174_42 : decode (byt 174) 42 = .ok (.iload 4, 2) := by decide +kernel
theorem D174_44 : decode (byt 174) 44 = .ok (.ifCond .ne 49, 3) := by decide +kernel
theorem D174_47 : decode (byt 174) 47 = .ok (.iload 6, 2) := by decide +kernel
theorem D174_49 : decode (byt 174) 49 = .ok (.iload 5, 2) := by decide +kernel
theorem D174_51 : decode (byt 174) 51 = .ok (.invokestatic 170, 3) := by decide +kernel
theorem D174_54 : decode (byt 174) 54 = .ok (.iand, 1) := by decide +kernel
theorem D174_55 : decode (byt 174) 55 = .ok (.ifCond .eq 14, 3) := by decide +kernel
theorem D174_58 : decode (byt 174) 58 = .ok (.aload_n 0, 1) := by decide +kernel
theorem D174_59 : decode (byt 174) 59 = .ok (.iload_n 1, 1) := by decide +kernel
theorem D174_60 : decode (byt 174) 60 = .ok (.iload 5, 2) := by decide +kernel
theorem D174_62 : decode (byt 174) 62 = .ok (.iload_n 2, 1) := by decide +kernel
theorem D174_63 : decode (byt 174) 63 = .ok (.invokevirtual 275, 3) := by decide +kernel
theorem D174_66 : decode (byt 174) 66 = .ok (.ifCond .ne 27, 3) := by decide +kernel
theorem D174_69 : decode (byt 174) 69 = .ok (.iload 6, 2) := by decide +kernel
theorem D174_71 : decode (byt 174) 71 = .ok (.iload 5, 2) := by decide +kernel
theorem D174_73 : decode (byt 174) 73 = .ok (.ineg, 1) := by decide +kernel
theorem D174_74 : decode (byt 174) 74 = .ok (.invokestatic 170, 3) := by decide +kernel
theorem D174_77 : decode (byt 174) 77 = .ok (.iand, 1) := by decide +kernel
theorem D174_78 : decode (byt 174) 78 = .ok (.ifCond .eq 19, 3) := by decide +kernel
theorem D174_81 : decode (byt 174) 81 = .ok (.aload_n 0, 1) := by decide +kernel
theorem D174_82 : decode (byt 174) 82 = .ok (.iload_n 1, 1) := by decide +kernel
theorem D174_83 : decode (byt 174) 83 = .ok (.iload 5, 2) := by decide +kernel
theorem D174_85 : decode (byt 174) 85 = .ok (.ineg, 1) := by decide +kernel
theorem D174_86 : decode (byt 174) 86 = .ok (.iload_n 2, 1) := by decide +kernel
theorem D174_87 : decode (byt 174) 87 = .ok (.invokevirtual 275, 3) := by decide +kernel
theorem D174_90 : decode (byt 174) 90 = .ok (.ifCond .eq 7, 3) := by decide +kernel
theorem D174_93 : decode (byt 174) 93 = .ok (.iconst 1, 1) := by decide +kernel
theorem D174_94 : decode (byt 174) 94 = .ok (.goto 4, 3) := by decide +kernel
theorem D174_97 : decode (byt 174) 97 = .ok (.iconst 0, 1) := by decide +kernel
theorem D174_98 : decode (byt 174) 98 = .ok (.istore 4, 2) := by decide +kernel
theorem D174_100 : decode (byt 174) 100 = .ok (.iinc 5 1, 3) := by decide +kernel
theorem D174_103 : decode (byt 174) 103 = .ok (.goto (-85), 3) := by decide +kernel
theorem D174_106 : decode (byt 174) 106 = .ok (.iload 4, 2) := by decide +kernel
theorem D174_108 : decode (byt 174) 108 = .ok (.ifCond .ne 5, 3) := by decide +kernel
theorem D174_111 : decode (byt 174) 111 = .ok (.iconst 0, 1) := by decide +kernel
theorem D174_112 : decode (byt 174) 112 = .ok (.ireturn, 1) := by decide +kernel
theorem D174_113 : decode (byt 174) 113 = .ok (.iinc 3 1, 3) := by decide +kernel
theorem D174_116 : decode (byt 174) 116 = .ok (.goto (-114), 3) := by decide +kernel
theorem D174_119 : decode (byt 174) 119 = .ok (.iconst 1, 1) := by decide +kernel
theorem D174_120 : decode (byt 174) 120 = .ok (.ireturn, 1) := by decide +kernel
theorem D175_0 : decode (byt 175) 0 = .ok (.sipush 1500, 3) := by decide +kernel
theorem D175_3 : decode (byt 175) 3 = .ok (.iload_n 1, 1) := by decide +kernel
theorem D175_4 : decode (byt 175) 4 = .ok (.imul, 1) := by decide +kernel
theorem D175_5 : decode (byt 175) 5 = .ok (.iload_n 2, 1) := by decide +kernel
theorem D175_6 : decode (byt 175) 6 = .ok (.iadd, 1) := by decide +kernel
theorem D175_7 : decode (byt 175) 7 = .ok (.istore_n 3, 1) := by decide +kernel
theorem D175_8 : decode (byt 175) 8 = .ok (.iconst 0, 1) := by decide +kernel
theorem D175_9 : decode (byt 175) 9 = .ok (.istore 4, 2) := by decide +kernel
theorem D175_11 : decode (byt 175) 11 = .ok (.iconst 0, 1) := by decide +kernel
theorem D175_12 : decode (byt 175) 12 = .ok (.istore 5, 2) := by decide +kernel
theorem D175_14 : decode (byt 175) 14 = .ok (.iload 5, 2) := by decide +kernel
theorem D175_16 : decode (byt 175) 16 = .ok (.aload_n 0, 1) := by decide +kernel
theorem D175_17 : decode (byt 175) 17 = .ok (.getfield 52, 3) := by decide +kernel
theorem D175_20 : decode (byt 175) 20 = .ok (.iload_n 3, 1) := by decide +kernel
theorem D175_21 : decode (byt 175) 21 = .ok (.iaload, 1) := by decide +kernel
theorem D175_22 : decode (byt 175) 22 = .ok (.if_icmp .ge 47, 3) := by decide +kernel
theorem D175_25 : decode (byt 175) 25 = .ok (.aload_n 0, 1) := by decide +kernel
theorem D175_26 : decode (byt 175) 26 = .ok (.getfield 117, 3) := by decide +kernel
theorem D175_29 : decode (byt 175) 29 = .ok (.aload_n 0, 1) := by decide +kernel
theorem D175_30 : decode (byt 175) 30 = .ok (.getfield 56, 3) := by decide +kernel
theorem D175_33 : decode (byt 175) 33 = .ok (.aload_n 0, 1) := by decide +kernel
theorem D175_34 : decode (byt 175) 34 = .ok (.getfield 49, 3) := by decide +kernel
theorem D175_37 : decode (byt 175) 37 = .ok (.iload_n 3, 1) := by decide +kernel
theorem D175_38 : decode (byt 175) 38 = .ok (.iaload, 1) := by decide +kernel
theorem D175_39 : decode (byt 175) 39 = .ok (.iload 5, 2) := by decide +kernel
theorem D175_41 : decode (byt 175) 41 = .ok (.iadd, 1) := by decide +kernel
theorem D175_42 : decode (byt 175) 42 = .ok (.iaload, 1) := by decide +kernel
theorem D175_43 : decode (byt 175) 43 = .ok (.iaload, 1) := by decide +kernel
theorem D175_44 : decode (byt 175) 44 = .ok (.istore 6, 2) := by decide +kernel
theorem D175_46 : decode (byt 175) 46 = .ok (.iload 4, 2) := by decide +kernel
theorem D175_48 : decode (byt 175) 48 = .ok (.iload 6, 2) := by decide +kernel
theorem D175_50 : decode (byt 175) 50 = .ok (.iand, 1) := by decide +kernel
theorem D175_51 : decode (byt 175) 51 = .ok (.ifCond .eq 5, 3) := by decide +kernel
theorem D175_54 : decode (byt 175) 54 = .ok (.iconst 1, 1) := by decide +kernel
theorem D175_55 : decode (byt 175) 55 = .ok (.ireturn, 1) := by decide +kernel
theorem D175_56 : decode (byt 175) 56 = .ok (.iload 4, 2) := by decide +kernel
theorem D175_58 : decode (byt 175) 58 = .ok (.iload 6, 2) := by decide +kernel
theorem D175_60 : decode (byt 175) 60 = .ok (.ior, 1) := by decide +kernel
theorem D175_61 : decode (byt 175) 61 = .ok (.istore 4, 2) := by decide +kernel
theorem D175_63 : decode (byt 175) 63 = .ok (.iinc 5 1, 3) := by decide +kernel
theorem D175_66 : decode (byt 175) 66 = .ok (.goto (-52), 3) := by decide +kernel
theorem D175_69 : decode (byt 175) 69 = .ok (.iconst 0, 1) := by decide +kernel
theorem D175_70 : decode (byt 175) 70 = .ok (.ireturn, 1) := by decide +kernel
theorem D176_0 : decode (byt 176) 0 = .ok (.sipush 1500, 3) := by decide +kernel
theorem D176_3 : decode (byt 176) 3 = .ok (.iload_n 1, 1) := by decide +kernel
theorem D176_4 : decode (byt 176) 4 = .ok (.imul, 1) := by decide +kernel
theorem D176_5 : decode (byt 176) 5 = .ok (.iload_n 2, 1) := by decide +kernel
theorem D176_6 : decode (byt 176) 6 = .ok (.iadd, 1) := by decide +kernel
theorem D176_7 : decode (byt 176) 7 = .ok (.istore_n 3, 1) := by decide +kernel
theorem D176_8 : decode (byt 176) 8 = .ok (.iconst 0, 1) := by decide +kernel
theorem D176_9 : decode (byt 176) 9 = .ok (.istore 4, 2) := by decide +kernel
theorem D176_11 : decode (byt 176) 11 = .ok (.iconst 0, 1) := by decide +kernel
theorem D176_12 : decode (byt 176) 12 = .ok (.istore 5, 2) := by decide +kernel
theorem D176_14 : decode (byt 176) 14 = .ok (.iload 5, 2) := by decide +kernel
theorem D176_16 : decode (byt 176) 16 = .ok (.aload_n 0, 1) := by decide +kernel
theorem D176_17 : decode (byt 176) 17 = .ok (.getfield 52, 3) := by decide +kernel
theorem D176_20 : decode (byt 176) 20 = .ok (.iload_n 3, 1) := by decide +kernel
theorem D176_21 : decode (byt 176) 21 = .ok (.iaload, 1) := by decide +kernel
theorem D176_22 : decode (byt 176) 22 = .ok (.if_icmp .ge 33, 3) := by decide +kernel
theorem D176_25 : decode (byt 176) 25 = .ok (.iload 4, 2) := by decide +kernel
theorem D176_27 : decode (byt 176) 27 = .ok (.aload_n 0, 1) := by decide +kernel
theorem D176_28 : decode (byt 176) 28 = .ok (.getfield 117, 3) := by decide +kernel
theorem D176_31 : decode (byt 176) 31 = .ok (.aload_n 0, 1) := by decide +kernel
theorem D176_32 : decode (byt 176) 32 = .ok (.getfield 56, 3) := by decide +kernel
theorem D176_35 : decode (byt 176) 35 = .ok (.aload_n 0, 1) := by decide +kernel
theorem D176_36 : decode (byt 176) 36 = .ok (.getfield 49, 3) := by decide +kernel
theorem D176_39 : decode (byt 176) 39 = .ok (.iload_n 3, 1) := by decide +kernel
theorem D176_40 : decode (byt 176) 40 = .ok (.iaload, 1) := by decide +kernel
theorem D176_41 : decode (byt 176) 41 = .ok (.iload 5, 2) := by decide +kernel
theorem D176_43 : decode (byt 176) 43 = .ok (.iadd, 1) := by decide +kernel
theorem D176_44 : decode (byt 176) 44 = .ok (.iaload, 1) := by decide +kernel
theorem D176_45 : decode (byt 176) 45 = .ok (.iaload, 1) := by decide +kernel
theorem D176_46 : decode (byt 176) 46 = .ok (.ior, 1) := by decide +kernel
theorem D176_47 : decode (byt 176) 47 = .ok (.istore 4, 2) := by decide +kernel
theorem D176_49 : decode (byt 176) 49 = .ok (.iinc 5 1, 3) := by decide +kernel
theorem D176_52 : decode (byt 176) 52 = .ok (.goto (-38), 3) := by decide +kernel
theorem D176_55 : decode (byt 176) 55 = .ok (.iload 4, 2) := by decide +kernel
theorem D176_57 : decode (byt 176) 57 = .ok (.aload_n 0, 1) := by decide +kernel
theorem D176_58 : decode (byt 176) 58 = .ok (.getfield 46, 3) := by decide +kernel
theorem D176_61 : decode (byt 176) 61 = .ok (.iload_n 3, 1) := by decide +kernel
theorem D176_62 : decode (byt 176) 62 = .ok (.iaload, 1) := by decide +kernel
theorem D176_63 : decode (byt 176) 63 = .ok (.iconst 1, 1) := by decide +kernel
theorem D176_64 : decode (byt 176) 64 = .ok (.isub, 1) := by decide +kernel
theorem D176_65 : decode (byt 176) 65 = .ok (.ishr, 1) := by decide +kernel
theorem D176_66 : decode (byt 176) 66 = .ok (.iconst 1, 1) := by decide +kernel
theorem D176_67 : decode (byt 176) 67 = .ok (.iand, 1) := by decide +kernel
theorem D176_68 : decode (byt 176) 68 = .ok (.iconst 1, 1) := by decide +kernel
theorem D176_69 : decode (byt 176) 69 = .ok (.if_icmp .ne 7, 3) := by decide +kernel
theorem D176_72 : decode (byt 176) 72 = .ok (.iconst 1, 1) := by decide +kernel
theorem D176_73 : decode (byt 176) 73 = .ok (.goto 4, 3) := by decide +kernel
theorem D176_76 : decode (byt 176) 76 = .ok (.iconst 0, 1) := by decide +kernel
theorem D176_77 : decode (byt 176) 77 = .ok (.ireturn, 1) := by decide +kernel
theorem D177_0 : decode (byt 177) 0 = .ok (.iload_n 1, 1) := by decide +kernel
theorem D177_1 : decode (byt 177) 1 = .ok (.invokestatic 150, 3) := by decide +kernel
theorem D177_4 : decode (byt 177) 4 = .ok (.ifCond .ne 10, 3) := by decide +kernel
theorem D177_7 : decode (byt 177) 7 = .ok (.aload_n 0, 1) := by decide +kernel
theorem D177_8 : decode (byt 177) 8 = .ok (.bipush (-3), 2) := by decide +kernel
theorem D177_10 : decode (byt 177) 10 = .ok (.invokevirtual 154, 3) := by decide +kernel
theorem D177_13 : decode (byt 177) 13 = .ok (.ireturn, 1) := by decide +kernel
theorem D177_14 : decode (byt 177) 14 = .ok (.aload_n 0, 1) := by decide +kernel
theorem D177_15 : decode (byt 177) 15 = .ok (.getfield 34, 3) := by decide +kernel
theorem D177_18 : decode (byt 177) 18 = .ok (.iload_n 1, 1) := by decide +kernel
theorem D177_19 : decode (byt 177) 19 = .ok (.iaload, 1) := by decide +kernel
theorem D177_20 : decode (byt 177) 20 = .ok (.ifCond .ne 10, 3) := by decide +kernel
theorem D177_23 : decode (byt 177) 23 = .ok (.aload_n 0, 1) := by decide +kernel
theorem D177_24 : decode (byt 177) 24 = .ok (.bipush (-2), 2) := by decide +kernel
theorem D177_26 : decode (byt 177) 26 = .ok (.invokevirtual 154, 3) := by decide +kernel
theorem D177_29 : decode (byt 177) 29 = .ok (.ireturn, 1) := by decide +kernel
theorem D177_30 : decode (byt 177) 30 = .ok (.aload_n 0, 1) := by decide +kernel
theorem D177_31 : decode (byt 177) 31 = .ok (.iload_n 1, 1) := by decide +kernel
theorem D177_32 : decode (byt 177) 32 = .ok (.invokevirtual 269, 3) := by decide +kernel
theorem D177_35 : decode (byt 177) 35 = .ok (.aload_n 0, 1) := by decide +kernel
theorem D177_36 : decode (byt 177) 36 = .ok (.iload_n 1, 1) := by decide +kernel
theorem D177_37 : decode (byt 177) 37 = .ok (.invokevirtual 282, 3) := by decide +kernel
theorem D177_40 : decode (byt 177) 40 = .ok (.iconst 0, 1) := by decide +kernel
theorem D177_41 : decode (byt 177) 41 = .ok (.istore_n 2, 1) := by decide +kernel
theorem D177_42 : decode (byt 177) 42 = .ok (.iload_n 2, 1) := by decide +kernel
theorem D177_43 : decode (byt 177) 43 = .ok (.aload_n 0, 1) := by decide +kernel
theorem D177_44 : decode (byt 177) 44 = .ok (.getfield 34, 3) := by decide +kernel
theorem D177_47 : decode (byt 177) 47 = .ok (.iload_n 1, 1) := by decide +kernel
theorem D177_48 : decode (byt 177) 48 = .ok (.iaload, 1) := by decide +kernel
theorem D177_49 : decode (byt 177) 49 = .ok (.if_icmp .ge 41, 3) := by decide +kernel
theorem D177_52 : decode (byt 177) 52 = .ok (.aload_n 0, 1) := by decide +kernel
theorem D177_53 : decode (byt 177) 53 = .ok (.iload_n 2, 1) := by decide +kernel
theorem D177_54 : decode (byt 177) 54 = .ok (.putfield 130, 3) := by decide +kernel
theorem D177_57 : decode (byt 177) 57 = .ok (.aload_n 0, 1) := by decide +kernel
theorem D177_58 : decode (byt 177) 58 = .ok (.getfield 43, 3) := by decide +kernel
theorem D177_61 : decode (byt 177) 61 = .ok (.sipush 1500, 3) := by decide +kernel
theorem D177_64 : decode (byt 177) 64 = .ok (.iload_n 1, 1) := by decide +kernel
theorem D177_65 : decode (byt 177) 65 = .ok (.imul, 1) := by decide +kernel
theorem D177_66 : decode (byt 177) 66 = .ok (.iload_n 2, 1) := by decide +kernel
theorem D177_67 : decode (byt 177) 67 = .ok (.iadd, 1) := by decide +kernel
theorem D177_68 : decode (byt 177) 68 = .ok (.iaload, 1) := by decide +kernel
theorem D177_69 : decode (byt 177) 69 = .ok (.iconst 3, 1) := by decide +kernel
theorem D177_70 : decode (byt 177) 70 = .ok (.if_icmp .ne 14, 3) := by decide +kernel
theorem D177_73 : decode (byt 177) 73 = .ok (.aload_n 0, 1) := by decide +kernel
theorem D177_74 : decode (byt 177) 74 = .ok (.iload_n 1, 1) := by decide +kernel
theorem D177_75 : decode (byt 177) 75 = .ok (.iload_n 2, 1) := by decide +kernel
theorem D177_76 : decode (byt 177) 76 = .ok (.invokevirtual 285, 3) := by decide +kernel
theorem D177_79 : decode (byt 177) 79 = .ok (.ifCond .eq 5, 3) := by decide +kernel
theorem D177_82 : decode (byt 177) 82 = .ok (.iconst 1, 1) := by decide +kernel
theorem D177_83 : decode (byt 177) 83 = .ok (.ireturn, 1) := by decide +kernel
theorem D177_84 : decode (byt 177) 84 = .ok (.iinc 2 1, 3) := by decide +kernel
theorem D177_87 : decode (byt 177) 87 = .ok (.goto (-45), 3) := by decide +kernel
theorem D177_90 : decode (byt 177) 90 = .ok (.iconst 0, 1) := by decide +kernel
theorem D177_91 : decode (byt 177) 91 = .ok (.istore_n 2, 1) := by decide +kernel
theorem D177_92 : decode (byt 177) 92 = .ok (.iload_n 2, 1) := by decide +kernel
theorem D177_93 : decode (byt 177) 93 = .ok (.aload_n 0, 1) := by decide +kernel
theorem D177_94 : decode (byt 177) 94 = .ok (.getfield 34, 3) := by decide +kernel
theorem D177_97 : decode (byt 177) 97 = .ok (.iload_n 1, 1) := by decide +kernel
theorem D177_98 : decode (byt 177) 98 = .ok (.iaload, 1) := by decide +kernel
theorem D177_99 : decode (byt 177) 99 = .ok (.if_icmp .ge 41, 3) := by decide +kernel
theorem D177_102 : decode (byt 177) 102 = .ok (.aload_n 0, 1) := by decide +kernel
theorem D177_103 : decode (byt 177) 103 = .ok (.iload_n 2, 1) := by decide +kernel
theorem D177_104 : decode (byt 177) 104 = .ok (.putfield 130, 3) := by decide +kernel
theorem D177_107 : decode (byt 177) 107 = .ok (.aload_n 0, 1) := by decide +kernel
theorem D177_108 : decode (byt 177) 108 = .ok (.getfield 43, 3) := by decide +kernel
theorem D177_111 : decode (byt 177) 111 = .ok (.sipush 1500, 3) := by decide +kernel
theorem D177_114 : decode (byt 177) 114 = .ok (.iload_n 1, 1) := by decide +kernel
theorem D177_115 : decode (byt 177) 115 = .ok (.imul, 1) := by decide +kernel
theorem D177_116 : decode (byt 177) 116 = .ok (.iload_n 2, 1) := by decide +kernel
theorem D177_117 : decode (byt 177) 117 = .ok (.iadd, 1) := by decide +kernel
theorem D177_118 : decode (byt 177) 118 = .ok (.iaload, 1) := by decide +kernel
theorem D177_119 : decode (byt 177) 119 = .ok (.iconst 4, 1) := by decide +kernel
theorem D177_120 : decode (byt 177) 120 = .ok (.if_icmp .ne 14, 3) := by decide +kernel
theorem D177_123 : decode (byt 177) 123 = .ok (.aload_n 0, 1) := by decide +kernel
theorem D177_124 : decode (byt 177) 124 = .ok (.iload_n 1, 1) := by decide +kernel
theorem D177_125 : decode (byt 177) 125 = .ok (.iload_n 2, 1) := by decide +kernel
theorem D177_126 : decode (byt 177) 126 = .ok (.invokevirtual 288, 3) := by decide +kernel
theorem D177_129 : decode (byt 177) 129 = .ok (.ifCond .eq 5, 3) := by decide +kernel
theorem D177_132 : decode (byt 177) 132 = .ok (.iconst 2, 1) := by decide +kernel
theorem D177_133 : decode (byt 177) 133 = .ok (.ireturn, 1) := by decide +kernel
theorem D177_134 : decode (byt 177) 134 = .ok (.iinc 2 1, 3) := by decide +kernel
theorem D177_137 : decode (byt 177) 137 = .ok (.goto (-45), 3) := by decide +kernel
theorem D177_140 : decode (byt 177) 140 = .ok (.iconst 0, 1) := by decide +kernel
theorem D177_141 : decode (byt 177) 141 = .ok (.istore_n 2, 1) := by decide +kernel
theorem D177_142 : decode (byt 177) 142 = .ok (.iload_n 2, 1) := by decide +kernel
theorem D177_143 : decode (byt 177) 143 = .ok (.iconst 1, 1) := by decide +kernel
theorem D177_144 : decode (byt 177) 144 = .ok (.aload_n 0, 1) := by decide +kernel
theorem D177_145 : decode (byt 177) 145 = .ok (.getfield 7, 3) := by decide +kernel
theorem D177_148 : decode (byt 177) 148 = .ok (.iload_n 1, 1) := by decide +kernel
theorem D177_149 : decode (byt 177) 149 = .ok (.iaload, 1) := by decide +kernel
theorem D177_150 : decode (byt 177) 150 = .ok (.ishl, 1) := by decide +kernel
theorem D177_151 : decode (byt 177) 151 = .ok (.if_icmp .ge 37, 3) := by decide +kernel
theorem D177_154 : decode (byt 177) 154 = .ok (.aload_n 0, 1) := by decide +kernel
theorem D177_155 : decode (byt 177) 155 = .ok (.iload_n 2, 1) := by decide +kernel
theorem D177_156 : decode (byt 177) 156 = .ok (.putfield 130, 3) := by decide +kernel
theorem D177_159 : decode (byt 177) 159 = .ok (.aload_n 0, 1) := by decide +kernel
theorem D177_160 : decode (byt 177) 160 = .ok (.getfield 120, 3) := by decide +kernel
theorem D177_163 : decode (byt 177) 163 = .ok (.sipush 4096, 3) := by decide +kernel
theorem D177_166 : decode (byt 177) 166 = .ok (.iload_n 1, 1) := by decide +kernel
theorem D177_167 : decode (byt 177) 167 = .ok (.imul, 1) := by decide +kernel
theorem D177_168 : decode (byt 177) 168 = .ok (.iload_n 2, 1) := by decide +kernel
theorem D177_169 : decode (byt 177) 169 = .ok (.iadd, 1) := by decide +kernel
theorem D177_170 : decode (byt 177) 170 = .ok (.baload, 1) := by decide +kernel
theorem D177_171 : decode (byt 177) 171 = .ok (.aload_n 0, 1) := by decide +kernel
theorem D177_172 : decode (byt 177) 172 = .ok (.iload_n 1, 1) := by decide +kernel
theorem D177_173 : decode (byt 177) 173 = .ok (.iload_n 2, 1) := by decide +kernel
theorem D177_174 : decode (byt 177) 174 = .ok (.invokevirtual 291, 3) := by decide +kernel
theorem D177_177 : decode (byt 177) 177 = .ok (.if_icmp .eq 5, 3) := by decide +kernel
theorem D177_180 : decode (byt 177) 180 = .ok (.iconst 3, 1) := by decide +kernel
theorem D177_181 : decode (byt 177) 181 = .ok (.ireturn, 1) := by decide +kernel
theorem D177_182 : decode (byt 177) 182 = .ok (.iinc 2 1, 3) := by decide +kernel
theorem D177_185 : decode (byt 177) 185 = .ok (.goto (-43), 3) := by decide +kernel
theorem D177_188 : decode (byt 177) 188 = .ok (.aload_n 0, 1) := by decide +kernel
theorem D177_189 : decode (byt 177) 189 = .ok (.iconst (-1), 1) := by decide +kernel
theorem D177_190 : decode (byt 177) 190 = .ok (.putfield 130, 3) := by decide +kernel
theorem D177_193 : decode (byt 177) 193 = .ok (.iconst 0, 1) := by decide +kernel
theorem D177_194 : decode (byt 177) 194 = .ok (.ireturn, 1) := by decide +kernel
theorem D178_0 : decode (byt 178) 0 = .ok (.aload_n 0, 1) := by decide +kernel
theorem D178_1 : decode (byt 178) 1 = .ok (.getfield 130, 3) := by decide +kernel
theorem D178_4 : decode (byt 178) 4 = .ok (.ireturn, 1) := by decide +kernel
theorem D179_0 : decode (byt 179) 0 = .ok (.aload_n 0, 1) := by decide +kernel
theorem D179_1 : decode (byt 179) 1 = .ok (.getfield 120, 3) := by decide +kernel
theorem D179_4 : decode (byt 179) 4 = .ok (.sipush 4096, 3) := by decide +kernel
theorem D179_7 : decode (byt 179) 7 = .ok (.iload_n 1, 1) := by decide +kernel
theorem D179_8 : decode (byt 179) 8 = .ok (.imul, 1) := by decide +kernel
theorem D179_9 : decode (byt 179) 9 = .ok (.iload_n 2, 1) := by decide +kernel
theorem D179_10 : decode (byt 179) 10 = .ok (.iadd, 1) := by decide +kernel
theorem D179_11 : decode (byt 179) 11 = .ok (.baload, 1) := by decide +kernel
theorem D179_12 : decode (byt 179) 12 = .ok (.istore_n 3, 1) := by decide +kernel
theorem D179_13 : decode (byt 179) 13 = .ok (.iconst 1, 1) := by decide +kernel
theorem D179_14 : decode (byt 179) 14 = .ok (.istore 4, 2) := by decide +kernel
theorem D179_16 : decode (byt 179) 16 = .ok (.iload 4, 2) := by decide +kernel
theorem D179_18 : decode (byt 179) 18 = .ok (.aload_n 0, 1) := by decide +kernel
theorem D179_19 : decode (byt 179) 19 = .ok (.getfield 7, 3) := by decide +kernel
theorem D179_22 : decode (byt 179) 22 = .ok (.iload_n 1, 1) := by decide +kernel
theorem D179_23 : decode (byt 179) 23 = .ok (.iaload, 1) := by decide +kernel
theorem D179_24 : decode (byt 179) 24 = .ok (.if_icmp .gt 86, 3) := by decide +kernel
theorem D179_27 : decode (byt 179) 27 = .ok (.aload_n 0, 1) := by decide +kernel
theorem D179_28 : decode (byt 179) 28 = .ok (.getfield 22, 3) := by decide +kernel
theorem D179_31 : decode (byt 179) 31 = .ok (.iload_n 1, 1) := by decide +kernel
theorem D179_32 : decode (byt 179) 32 = .ok (.iaload, 1) := by decide +kernel
theorem D179_33 : decode (byt 179) 33 = .ok (.iload 4, 2) := by decide +kernel
theorem D179_35 : decode (byt 179) 35 = .ok (.iconst 1, 1) := by decide +kernel
theorem D179_36 : decode (byt 179) 36 = .ok (.isub, 1) := by decide +kernel
theorem D179_37 : decode (byt 179) 37 = .ok (.ishr, 1) := by decide +kernel
theorem D179_38 : decode (byt 179) 38 = .ok (.iconst 1, 1) := by decide +kernel
theorem D179_39 : decode (byt 179) 39 = .ok (.iand, 1) := by decide +kernel
theorem D179_40 : decode (byt 179) 40 = .ok (.iconst 1, 1) := by decide +kernel
theorem D179_41 : decode (byt 179) 41 = .ok (.if_icmp .ne 24, 3) := by decide +kernel
theorem D179_44 : decode (byt 179) 44 = .ok (.iload_n 3, 1) := by decide +kernel
theorem D179_45 : decode (byt 179) 45 = .ok (.ifCond .eq 18, 3) := by decide +kernel
theorem D179_48 : decode (byt 179) 48 = .ok (.aload_n 0, 1) := by decide +kernel
theorem D179_49 : decode (byt 179) 49 = .ok (.iload_n 1, 1) := by decide +kernel
theorem D179_50 : decode (byt 179) 50 = .ok (.iload 4, 2) := by decide +kernel
theorem D179_52 : decode (byt 179) 52 = .ok (.iload_n 2, 1) := by decide +kernel
theorem D179_53 : decode (byt 179) 53 = .ok (.invokevirtual 275, 3) := by decide +kernel
theorem D179_56 : decode (byt 179) 56 = .ok (.ifCond .eq 7, 3) := by decide +kernel
theorem D179_59 : decode (byt 179) 59 = .ok (.iconst 1, 1) := by decide +kernel
theorem D179_60 : decode (byt 179) 60 = .ok (.goto 4, 3) := by decide +kernel
theorem D179_63 : decode (byt 179) 63 = .ok (.iconst 0, 1) := by decide +kernel
theorem D179_64 : decode (byt 179) 64 = .ok (.istore_n 3, 1) := by decide +kernel
theorem D179_65 : decode (byt 179) 65 = .ok (.aload_n 0, 1) := by decide +kernel
theorem D179_66 : decode (byt 179) 66 = .ok (.getfield 25, 3) := by decide +kernel
theorem D179_69 : decode (byt 179) 69 = .ok (.iload_n 1, 1) := by decide +kernel
theorem D179_70 : decode (byt 179) 70 = .ok (.iaload, 1) := by decide +kernel
theorem D179_71 : decode (byt 179) 71 = .ok (.iload 4, 2) := by decide +kernel
theorem D179_73 : decode (byt 179) 73 = .ok (.iconst 1, 1) := by decide +kernel
theorem D179_74 : decode (byt 179) 74 = .ok (.isub, 1) := by decide +kernel
theorem D179_75 : decode (byt 179) 75 = .ok (.ishr, 1) := by decide +kernel
theorem D179_76 : decode (byt 179) 76 = .ok (.iconst 1, 1) := by decide +kernel
theorem D179_77 : decode (byt 179) 77 = .ok (.iand, 1) := by decide +kernel
theorem D179_78 : decode (byt 179) 78 = .ok (.iconst 1, 1) := by decide +kernel
theorem D179_79 : decode (byt 179) 79 = .ok (.if_icmp .ne 25, 3) := by decide +kernel
theorem D179_82 : decode (byt 179) 82 = .ok (.iload_n 3, 1) := by decide +kernel
theorem D179_83 : decode (byt 179) 83 = .ok (.ifCond .eq 19, 3) := by decide +kernel
theorem D179_86 : decode (byt 179) 86 = .ok (.aload_n 0, 1) := by decide +kernel
theorem D179_87 : decode (byt 179) 87 = .ok (.iload_n 1, 1) := by decide +kernel
theorem D179_88 : decode (byt 179) 88 = .ok (.iload 4, 2) := by decide +kernel
theorem D179_90 : decode (byt 179) 90 = .ok (.ineg, 1) := by decide +kernel
theorem D179_91 : decode (byt 179) 91 = .ok (.iload_n 2, 1) := by decide +kernel
theorem D179_92 : decode (byt 179) 92 = .ok (.invokevirtual 275, 3) := by decide +kernel
theorem D179_95 : decode (byt 179) 95 = .ok (.ifCond .eq 7, 3) := by decide +kernel
theorem D179_98 : decode (byt 179) 98 = .ok (.iconst 1, 1) := by decide +kernel
theorem D179_99 : decode (byt 179) 99 = .ok (.goto 4, 3) := by decide +kernel
theorem D179_102 : decode (byt 179) 102 = .ok (.iconst 0, 1) := by decide +kernel
theorem D179_103 : decode (byt 179) 103 = .ok (.istore_n 3, 1) := by decide +kernel
theorem D179_104 : decode (byt 179) 104 = .ok (.iinc 4 1, 3) := by decide +kernel
theorem D179_107 : decode (byt 179) 107 = .ok (.goto (-91), 3) := by decide +kernel
theorem D179_110 : decode (byt 179) 110 = .ok (.iload_n 3, 1) := by decide +kernel
theorem D179_111 : decode (byt 179) 111 = .ok (.ireturn, 1) := by decide +kernel
theorem D180_0 : decode (byt 180) 0 = .ok (.iload_n 1, 1) := by decide +kernel
theorem D180_1 : decode (byt 180) 1 = .ok (.invokestatic 150, 3) := by decide +kernel
theorem D180_4 : decode (byt 180) 4 = .ok (.ifCond .ne 6, 3) := by decide +kernel
theorem D180_7 : decode (byt 180) 7 = .ok (.bipush (-3), 2) := by decide +kernel
theorem D180_9 : decode (byt 180) 9 = .ok (.ireturn, 1) := by decide +kernel
theorem D180_10 : decode (byt 180) 10 = .ok (.aload_n 0, 1) := by decide +kernel
theorem D180_11 : decode (byt 180) 11 = .ok (.getfield 34, 3) := by decide +kernel
theorem D180_14 : decode (byt 180) 14 = .ok (.iload_n 1, 1) := by decide +kernel
theorem D180_15 : decode (byt 180) 15 = .ok (.iaload, 1) := by decide +kernel
theorem D180_16 : decode (byt 180) 16 = .ok (.ifCond .ne 6, 3) := by decide +kernel
theorem D180_19 : decode (byt 180) 19 = .ok (.bipush (-2), 2) := by decide +kernel
theorem D180_21 : decode (byt 180) 21 = .ok (.ireturn, 1) := by decide +kernel
theorem D180_22 : decode (byt 180) 22 = .ok (.aload_n 0, 1) := by decide +kernel
theorem D180_23 : decode (byt 180) 23 = .ok (.iload_n 1, 1) := by decide +kernel
theorem D180_24 : decode (byt 180) 24 = .ok (.invokevirtual 282, 3) := by decide +kernel
theorem D180_27 : decode (byt 180) 27 = .ok (.iconst 0, 1) := by decide +kernel
theorem D180_28 : decode (byt 180) 28 = .ok (.ireturn, 1) := by decide +kernel
theorem D181_0 : decode (byt 181) 0 = .ok (.iconst 0, 1) := by decide +kernel
theorem D181_1 : decode (byt 181) 1 = .ok (.istore_n 3, 1) := by decide +kernel
theorem D181_2 : decode (byt 181) 2 = .ok (.iconst 0, 1) := by decide +kernel
theorem D181_3 : decode (byt 181) 3 = .ok (.istore 4, 2) := by decide +kernel
theorem D181_5 : decode (byt 181) 5 = .ok (.iload 4, 2) := by decide +kernel
theorem D181_7 : decode (byt 181) 7 = .ok (.iload_n 2, 1) := by decide +kernel
theorem D181_8 : decode (byt 181) 8 = .ok (.if_icmp .ge 27, 3) := by decide +kernel
theorem D181_11 : decode (byt 181) 11 = .ok (.iload_n 3, 1) := by decide +kernel
theorem D181_12 : decode (byt 181) 12 = .ok (.aload_n 0, 1) := by decide +kernel
theorem D181_13 : decode (byt 181) 13 = .ok (.iload_n 1, 1) := by decide +kernel
theorem D181_14 : decode (byt 181) 14 = .ok (.iload 4, 2) := by decide +kernel
theorem D181_16 : decode (byt 181) 16 = .ok (.invokevirtual 294, 3) := by decide +kernel
theorem D181_19 : decode (byt 181) 19 = .ok (.ifCond .eq 7, 3) := by decide +kernel
theorem D181_22 : decode (byt 181) 22 = .ok (.iconst 1, 1) := by decide +kernel
theorem D181_23 : decode (byt 181) 23 = .ok (.goto 4, 3) := by decide +kernel
theorem D181_26 : decode (byt 181) 26 = .ok (.iconst 0, 1) := by decide +kernel
theorem D181_27 : decode (byt 181) 27 = .ok (.iadd, 1) := by decide +kernel
theorem D181_28 : decode (byt 181) 28 = .ok (.istore_n 3, 1) := by decide +kernel
theorem D181_29 : decode (byt 181) 29 = .ok (.iinc 4 1, 3) := by decide +kernel
theorem D181_32 : decode (byt 181) 32 = .ok (.goto (-27), 3) := by decide +kernel
theorem D181_35 : decode (byt 181) 35 = .ok (.iload_n 3, 1) := by decide +kernel
theorem D181_36 : decode (byt 181) 36 = .ok (.ireturn, 1) := by decide +kernel
theorem D182_0 : decode (byt 182) 0 = .ok (.aload_n 0, 1) := by decide +kernel
theorem D182_1 : decode (byt 182) 1 = .ok (.iload_n 1, 1) := by decide +kernel
theorem D182_2 : decode (byt 182) 2 = .ok (.invokevirtual 297, 3) := by decide +kernel
theorem D182_5 : decode (byt 182) 5 = .ok (.istore_n 2, 1) := by decide +kernel
theorem D182_6 : decode (byt 182) 6 = .ok (.iload_n 2, 1) := by decide +kernel
theorem D182_7 : decode (byt 182) 7 = .ok (.ifCond .eq 11, 3) := by decide +kernel
theorem D182_10 : decode (byt 182) 10 = .ok (.aload_n 0, 1) := by decide +kernel
theorem D182_11 : decode (byt 182) 11 = .ok (.iload_n 2, 1) := by decide +kernel
theorem D182_12 : decode (byt 182) 12 = .ok (.invokevirtual 154, 3) := by decide +kernel
theorem D182_15 : decode (byt 182) 15 = .ok (.goto 16, 3) := by decide +kernel
theorem D182_18 : decode (byt 182) 18 = .ok (.aload_n 0, 1) := by decide +kernel
theorem D182_19 : decode (byt 182) 19 = .ok (.iload_n 1, 1) := by decide +kernel
theorem D182_20 : decode (byt 182) 20 = .ok (.iconst 1, 1) := by decide +kernel
theorem D182_21 : decode (byt 182) 21 = .ok (.aload_n 0, 1) := by decide +kernel
theorem D182_22 : decode (byt 182) 22 = .ok (.getfield 7, 3) := by decide +kernel
theorem D182_25 : decode (byt 182) 25 = .ok (.iload_n 1, 1) := by decide +kernel
theorem D182_26 : decode (byt 182) 26 = .ok (.iaload, 1) := by decide +kernel
theorem D182_27 : decode (byt 182) 27 = .ok (.ishl, 1) := by decide +kernel
theorem D182_28 : decode (byt 182) 28 = .ok (.invokevirtual 300, 3) := by decide +kernel
theorem D182_31 : decode (byt 182) 31 = .ok (.ireturn, 1) := by decide +kernel
theorem D183_0 : decode (byt 183) 0 = .ok (.aload_n 0, 1) := by decide +kernel
theorem D183_1 : decode (byt 183) 1 = .ok (.iload_n 1, 1) := by decide +kernel
theorem D183_2 : decode (byt 183) 2 = .ok (.invokevirtual 297, 3) := by decide +kernel
theorem D183_5 : decode (byt 183) 5 = .ok (.istore_n 3, 1) := by decide +kernel
theorem D183_6 : decode (byt 183) 6 = .ok (.iload_n 3, 1) := by decide +kernel
theorem D183_7 : decode (byt 183) 7 = .ok (.ifCond .ne 26, 3) := by decide +kernel
theorem D183_10 : decode (byt 183) 10 = .ok (.iload_n 2, 1) := by decide +kernel
theorem D183_11 : decode (byt 183) 11 = .ok (.i2l, 1) := by decide +kernel
theorem D183_12 : decode (byt 183) 12 = .ok (.lconst 0, 1) := by decide +kernel
theorem D183_13 : decode (byt 183) 13 = .ok (.iconst 1, 1) := by decide +kernel
theorem D183_14 : decode (byt 183) 14 = .ok (.aload_n 0, 1) := by decide +kernel
theorem D183_15 : decode (byt 183) 15 = .ok (.getfield 7, 3) := by decide +kernel
theorem D183_18 : decode (byt 183) 18 = .ok (.iload_n 1, 1) := by decide +kernel
theorem D183_19 : decode (byt 183) 19 = .ok (.iaload, 1) := by decide +kernel
theorem D183_20 : decode (byt 183) 20 = .ok (.ishl, 1) := by decide +kernel
theorem D183_21 : decode (byt 183) 21 = .ok (.iconst 1, 1) := by decide +kernel
theorem D183_22 : decode (byt 183) 22 = .ok (.isub, 1) := by decide +kernel
theorem D183_23 : decode (byt 183) 23 = .ok (.i2l, 1) := by decide +kernel
theorem D183_24 : decode (byt 183) 24 = .ok (.invokestatic 146, 3) := by decide +kernel
theorem D183_27 : decode (byt 183) 27 = .ok (.ifCond .ne 6, 3) := by decide +kernel
theorem D183_30 : decode (byt 183) 30 = .ok (.bipush (-3), 2) := by decide +kernel
theorem D183_32 : decode (byt 183) 32 = .ok (.istore_n 3, 1) := by decide +kernel
theorem D183_33 : decode (byt 183) 33 = .ok (.iload_n 3, 1) := by decide +kernel
theorem D183_34 : decode (byt 183) 34 = .ok (.ifCond .eq 11, 3) := by decide +kernel
theorem D183_37 : decode (byt 183) 37 = .ok (.aload_n 0, 1) := by decide +kernel
theorem D183_38 : decode (byt 183) 38 = .ok (.iload_n 3, 1) := by decide +kernel
theorem D183_39 : decode (byt 183) 39 = .ok (.invokevirtual 154, 3) := by decide +kernel
theorem D183_42 : decode (byt 183) 42 = .ok (.goto 17, 3) := by decide +kernel
theorem D183_45 : decode (byt 183) 45 = .ok (.aload_n 0, 1) := by decide +kernel
theorem D183_46 : decode (byt 183) 46 = .ok (.iload_n 1, 1) := by decide +kernel
theorem D183_47 : decode (byt 183) 47 = .ok (.iload_n 2, 1) := by decide +kernel
theorem D183_48 : decode (byt 183) 48 = .ok (.invokevirtual 294, 3) := by decide +kernel
theorem D183_51 : decode (byt 183) 51 = .ok (.ifCond .eq 7, 3) := by decide +kernel
theorem D183_54 : decode (byt 183) 54 = .ok (.iconst 1, 1) := by decide +kernel
theorem D183_55 : decode (byt 183) 55 = .ok (.goto 4, 3) := by decide +kernel
theorem D183_58 : decode (byt 183) 58 = .ok (.iconst 0, 1) := by decide +kernel
theorem D183_59 : decode (byt 183) 59 = .ok (.ireturn, 1) := by decide +kernel
theorem D184_0 : decode (byt 184) 0 = .ok (.lconst 1, 1) := by decide +kernel
theorem D184_1 : decode (byt 184) 1 = .ok (.lstore_n 3, 1) := by decide +kernel
theorem D184_2 : decode (byt 184) 2 = .ok (.iconst 1, 1) := by decide +kernel
theorem D184_3 : decode (byt 184) 3 = .ok (.istore 5, 2) := by decide +kernel
theorem D184_5 : decode (byt 184) 5 = .ok (.iload 5, 2) := by decide +kernel
theorem D184_7 : decode (byt 184) 7 = .ok (.aload_n 0, 1) := by decide +kernel
theorem D184_8 : decode (byt 184) 8 = .ok (.getfield 7, 3) := by decide +kernel
theorem D184_11 : decode (byt 184) 11 = .ok (.iload_n 1, 1) := by decide +kernel
theorem D184_12 : decode (byt 184) 12 = .ok (.iaload, 1) := by decide +kernel
theorem D184_13 : decode (byt 184) 13 = .ok (.if_icmp .gt 41, 3) := by decide +kernel
theorem D184_16 : decode (byt 184) 16 = .ok (.lload_n 3, 1) := by decide +kernel
theorem D184_17 : decode (byt 184) 17 = .ok (.aload_n 0, 1) := by decide +kernel
theorem D184_18 : decode (byt 184) 18 = .ok (.getfield 28, 3) := by decide +kernel
theorem D184_21 : decode (byt 184) 21 = .ok (.iload_n 1, 1) := by decide +kernel
theorem D184_22 : decode (byt 184) 22 = .ok (.aload_n 0, 1) := by decide +kernel
theorem D184_23 : decode (byt 184) 23 = .ok (.iload_n 1, 1) := by decide +kernel
theorem D184_24 : decode (byt 184) 24 = .ok (.iload 5, 2) := by decide +kernel
theorem D184_26 : decode (byt 184) 26 = .ok (.iload_n 2, 1) := by decide +kernel
theorem D184_27 : decode (byt 184) 27 = .ok (.invokevirtual 275, 3) := by decide +kernel
theorem D184_30 : decode (byt 184) 30 = .ok (.ifCond .eq 8, 3) := by decide +kernel
theorem D184_33 : decode (byt 184) 33 = .ok (.iload 5, 2) := by decide +kernel
theorem D184_35 : decode (byt 184) 35 = .ok (.goto 6, 3) := by decide +kernel
theorem D184_38 : decode (byt 184) 38 = .ok (.iload 5, 2) := by decide +kernel
theorem D184_40 : decode (byt 184) 40 = .ok (.ineg, 1) := by decide +kernel
theorem D184_41 : decode (byt 184) 41 = .ok (.invokestatic 188, 3) := by decide +kernel
theorem D184_44 : decode (byt 184) 44 = .ok (.iaload, 1) := by decide +kernel
theorem D184_45 : decode (byt 184) 45 = .ok (.i2l, 1) := by decide +kernel
theorem D184_46 : decode (byt 184) 46 = .ok (.lmul, 1) := by decide +kernel
theorem D184_47 : decode (byt 184) 47 = .ok (.lstore_n 3, 1) := by decide +kernel
theorem D184_48 : decode (byt 184) 48 = .ok (.iinc 5 1, 3) := by decide +kernel
theorem D184_51 : decode (byt 184) 51 = .ok (.goto (-46), 3) := by decide +kernel
theorem D184_54 : decode (byt 184) 54 = .ok (.lload_n 3, 1) := by decide +kernel
theorem D184_55 : decode (byt 184) 55 = .ok (.lreturn, 1) := by decide +kernel
theorem D185_0 : decode (byt 185) 0 = .ok (.lconst 0, 1) := by decide +kernel
theorem D185_1 : decode (byt 185) 1 = .ok (.lstore_n 3, 1) := by decide +kernel
theorem D185_2 : decode (byt 185) 2 = .ok (.iconst 0, 1) := by decide +kernel
theorem D185_3 : decode (byt 185) 3 = .ok (.istore 5, 2) := by decide +kernel
theorem D185_5 : decode (byt 185) 5 = .ok (.iload 5, 2) := by decide +kernel
theorem D185_7 : decode (byt 185) 7 = .ok (.iconst 1, 1) := by decide +kernel
theorem D185_8 : decode (byt 185) 8 = .ok (.aload_n 0, 1) := by decide +kernel
theorem D185_9 : decode (byt 185) 9 = .ok (.getfield 7, 3) := by decide +kernel
theorem D185_12 : decode (byt 185) 12 = .ok (.iload_n 1, 1) := by decide +kernel
theorem D185_13 : decode (byt 185) 13 = .ok (.iaload, 1) := by decide +kernel
theorem D185_14 : decode (byt 185) 14 = .ok (.ishl, 1) := by decide +kernel
theorem D185_15 : decode (byt 185) 15 = .ok (.if_icmp .ge 44, 3) := by decide +kernel
theorem D185_18 : decode (byt 185) 18 = .ok (.aload_n 0, 1) := by decide +kernel
theorem D185_19 : decode (byt 185) 19 = .ok (.iload_n 1, 1) := by decide +kernel
theorem D185_20 : decode (byt 185) 20 = .ok (.iload 5, 2) := by decide +kernel
theorem D185_22 : decode (byt 185) 22 = .ok (.invokevirtual 294, 3) := by decide +kernel
theorem D185_25 : decode (byt 185) 25 = .ok (.ifCond .eq 28, 3) := by decide +kernel
theorem D185_28 : decode (byt 185) 28 = .ok (.iload_n 2, 1) := by decide +kernel
theorem D185_29 : decode (byt 185) 29 = .ok (.ifCond .eq 14, 3) := by decide +kernel
theorem D185_32 : decode (byt 185) 32 = .ok (.aload_n 0, 1) := by decide +kernel
theorem D185_33 : decode (byt 185) 33 = .ok (.iload_n 1, 1) := by decide +kernel
theorem D185_34 : decode (byt 185) 34 = .ok (.iload_n 2, 1) := by decide +kernel
theorem D185_35 : decode (byt 185) 35 = .ok (.iload 5, 2) := by decide +kernel
theorem D185_37 : decode (byt 185) 37 = .ok (.invokevirtual 275, 3) := by decide +kernel
theorem D185_40 : decode (byt 185) 40 = .ok (.ifCond .eq 13, 3) := by decide +kernel
theorem D185_43 : decode (byt 185) 43 = .ok (.lload_n 3, 1) := by decide +kernel
theorem D185_44 : decode (byt 185) 44 = .ok (.aload_n 0, 1) := by decide +kernel
theorem D185_45 : decode (byt 185) 45 = .ok (.iload_n 1, 1) := by decide +kernel
theorem D185_46 : decode (byt 185) 46 = .ok (.iload 5, 2) := by decide +kernel
theorem D185_48 : decode (byt 185) 48 = .ok (.invokevirtual 303, 3) := by decide +kernel
theorem D185_51 : decode (byt 185) 51 = .ok (.ladd, 1) := by decide +kernel
theorem D185_52 : decode (byt 185) 52 = .ok (.lstore_n 3, 1) := by decide +kernel
theorem D185_53 : decode (byt 185) 53 = .ok (.iinc 5 1, 3) := by decide +kernel
theorem D185_56 : decode (byt 185) 56 = .ok (.goto (-51), 3) := by decide +kernel
theorem D185_59 : decode (byt 185) 59 = .ok (.lload_n 3, 1) := by decide +kernel
theorem D185_60 : decode (byt 185) 60 = .ok (.lreturn, 1) := by decide +kernel
theorem D186_0 : decode (byt 186) 0 = .ok (.aload_n 0, 1) := by decide +kernel
theorem D186_1 : decode (byt 186) 1 = .ok (.iload_n 1, 1) := by decide +kernel
theorem D186_2 : decode (byt 186) 2 = .ok (.invokevirtual 297, 3) := by decide +kernel
theorem D186_5 : decode (byt 186) 5 = .ok (.istore_n 2, 1) := by decide +kernel
theorem D186_6 : decode (byt 186) 6 = .ok (.iload_n 2, 1) := by decide +kernel
theorem D186_7 : decode (byt 186) 7 = .ok (.ifCond .ne 10, 3) := by decide +kernel
theorem D186_10 : decode (byt 186) 10 = .ok (.aload_n 0, 1) := by decide +kernel
theorem D186_11 : decode (byt 186) 11 = .ok (.iload_n 1, 1) := by decide +kernel
theorem D186_12 : decode (byt 186) 12 = .ok (.iconst 0, 1) := by decide +kernel
theorem D186_13 : decode (byt 186) 13 = .ok (.invokevirtual 307, 3) := by decide +kernel
theorem D186_16 : decode (byt 186) 16 = .ok (.lreturn, 1) := by decide +kernel
theorem D186_17 : decode (byt 186) 17 = .ok (.aload_n 0, 1) := by decide +kernel
theorem D186_18 : decode (byt 186) 18 = .ok (.iload_n 2, 1) := by decide +kernel
theorem D186_19 : decode (byt 186) 19 = .ok (.invokevirtual 154, 3) := by decide +kernel
theorem D186_22 : decode (byt 186) 22 = .ok (.istore_n 3, 1) := by decide +kernel
theorem D186_23 : decode (byt 186) 23 = .ok (.lconst 0, 1) := by decide +kernel
theorem D186_24 : decode (byt 186) 24 = .ok (.lreturn, 1) := by decide +kernel
theorem D187_0 : decode (byt 187) 0 = .ok (.iload_n 1, 1) := by decide +kernel
theorem D187_1 : decode (byt 187) 1 = .ok (.invokestatic 150, 3) := by decide +kernel
theorem D187_4 : decode (byt 187) 4 = .ok (.ifCond .eq 12, 3) := by decide +kernel
theorem D187_7 : decode (byt 187) 7 = .ok (.aload_n 0, 1) := by decide +kernel
theorem D187_8 : decode (byt 187) 8 = .ok (.iload_n 1, 1) := by decide +kernel
theorem D187_9 : decode (byt 187) 9 = .ok (.iload_n 2, 1) := by decide +kernel
theorem D187_10 : decode (byt 187) 10 = .ok (.invokevirtual 163, 3) := by decide +kernel
theorem D187_13 : decode (byt 187) 13 = .ok (.ifCond .ne 8, 3) := by decide +kernel
theorem D187_16 : decode (byt 187) 16 = .ok (.bipush (-3), 2) := by decide +kernel
theorem D187_18 : decode (byt 187) 18 = .ok (.goto 8, 3) := by decide +kernel
theorem D187_21 : decode (byt 187) 21 = .ok (.aload_n 0, 1) := by decide +kernel
theorem D187_22 : decode (byt 187) 22 = .ok (.iload_n 1, 1) := by decide +kernel
theorem D187_23 : decode (byt 187) 23 = .ok (.invokevirtual 297, 3) := by decide +kernel
theorem D187_26 : decode (byt 187) 26 = .ok (.istore 4, 2) := by decide +kernel
theorem D187_28 : decode (byt 187) 28 = .ok (.iload 4, 2) := by decide +kernel
theorem D187_30 : decode (byt 187) 30 = .ok (.ifCond .ne 12, 3) := by decide +kernel
theorem D187_33 : decode (byt 187) 33 = .ok (.aload_n 0, 1) := by decide +kernel
theorem D187_34 : decode (byt 187) 34 = .ok (.iload_n 1, 1) := by decide +kernel
theorem D187_35 : decode (byt 187) 35 = .ok (.iconst 0, 1) := by decide +kernel
theorem D187_36 : decode (byt 187) 36 = .ok (.invokevirtual 307, 3) := by decide +kernel
theorem D187_39 : decode (byt 187) 39 = .ok (.goto 4, 3) := by decide +kernel
theorem D187_42 : decode (byt 187) 42 = .ok (.lconst 1, 1) := by decide +kernel
theorem D187_43 : decode (byt 187) 43 = .ok (.lstore 5, 2) := by decide +kernel
theorem D187_45 : decode (byt 187) 45 = .ok (.lload 5, 2) := by decide +kernel
theorem D187_47 : decode (byt 187) 47 = .ok (.lconst 0, 1) := by decide +kernel
theorem D187_48 : decode (byt 187) 48 = .ok (.lcmp, 1) := by decide +kernel
theorem D187_49 : decode (byt 187) 49 = .ok (.ifCond .ne 7, 3) := by decide +kernel
theorem D187_52 : decode (byt 187) 52 = .ok (.bipush (-7), 2) := by decide +kernel
theorem D187_54 : decode (byt 187) 54 = .ok (.istore 4, 2) := by decide +kernel
theorem D187_56 : decode (byt 187) 56 = .ok (.iload 4, 2) := by decide +kernel
theorem D187_58 : decode (byt 187) 58 = .ok (.ifCond .eq 13, 3) := by decide +kernel
theorem D187_61 : decode (byt 187) 61 = .ok (.aload_n 0, 1) := by decide +kernel
theorem D187_62 : decode (byt 187) 62 = .ok (.iload 4, 2) := by decide +kernel
theorem D187_64 : decode (byt 187) 64 = .ok (.invokevirtual 154, 3) := by decide +kernel
theorem D187_67 : decode (byt 187) 67 = .ok (.istore 7, 2) := by decide +kernel
theorem D187_69 : decode (byt 187) 69 = .ok (.lconst 0, 1) := by decide +kernel
theorem D187_70 : decode (byt 187) 70 = .ok (.lreturn, 1) := by decide +kernel
theorem D187_71 : decode (byt 187) 71 = .ok (.aload_n 0, 1) := by decide +kernel
theorem D187_72 : decode (byt 187) 72 = .ok (.iload_n 1, 1) := by decide +kernel
theorem D187_73 : decode (byt 187) 73 = .ok (.iload_n 2, 1) := by decide +kernel
theorem D187_74 : decode (byt 187) 74 = .ok (.invokevirtual 307, 3) := by decide +kernel
theorem D187_77 : decode (byt 187) 77 = .ok (.lstore 7, 2) := by decide +kernel
theorem D187_79 : decode (byt 187) 79 = .ok (.lload 5, 2) := by decide +kernel
theorem D187_81 : decode (byt 187) 81 = .ok (.lstore 9, 2) := by decide +kernel
theorem D187_83 : decode (byt 187) 83 = .ok (.lload 7, 2) := by decide +kernel
theorem D187_85 : decode (byt 187) 85 = .ok (.lstore 11, 2) := by decide +kernel
theorem D187_87 : decode (byt 187) 87 = .ok (.lload 11, 2) := by decide +kernel
theorem D187_89 : decode (byt 187) 89 = .ok (.lconst 0, 1) := by decide +kernel
theorem D187_90 : decode (byt 187) 90 = .ok (.lcmp, 1) := by decide +kernel
theorem D187_91 : decode (byt 187) 91 = .ok (.ifCond .eq 21, 3) := by decide +kernel
theorem D187_94 : decode (byt 187) 94 = .ok (.lload 9, 2) := by decide +kernel
theorem D187_96 : decode (byt 187) 96 = .ok (.lload 11, 2) := by decide +kernel
theorem D187_98 : decode (byt 187) 98 = .ok (.lrem, 1) := by decide +kernel
theorem D187_99 : decode (byt 187) 99 = .ok (.lstore 13, 2) := by decide +kernel
theorem D187_101 : decode (byt 187) 101 = .ok (.lload 11, 2) := by decide +kernel
theorem D187_103 : decode (byt 187) 103 = .ok (.lstore 9, 2) := by decide +kernel
theorem D187_105 : decode (byt 187) 105 = .ok (.lload 13, 2) := by decide +kernel
theorem D187_107 : decode (byt 187) 107 = .ok (.lstore 11, 2) := by decide +kernel
theorem D187_109 : decode (byt 187) 109 = .ok (.goto (-22), 3) := by decide +kernel
theorem D187_112 : decode (byt 187) 112 = .ok (.iload_n 3, 1) := by decide +kernel
theorem D187_113 : decode (byt 187) 113 = .ok (.ifCond .eq 11, 3) := by decide +kernel
theorem D187_116 : decode (byt 187) 116 = .ok (.lload 5, 2) := by decide +kernel
theorem D187_118 : decode (byt 187) 118 = .ok (.lload 9, 2) := by decide +kernel
theorem D187_120 : decode (byt 187) 120 = .ok (.ldiv, 1) := by decide +kernel
theorem D187_121 : decode (byt 187) 121 = .ok (.goto 8, 3) := by decide +kernel
theorem D187_124 : decode (byt 187) 124 = .ok (.lload 7, 2) := by decide +kernel
theorem D187_126 : decode (byt 187) 126 = .ok (.lload 9, 2) := by decide +kernel
theorem D187_128 : decode (byt 187) 128 = .ok (.ldiv, 1) := by decide +kernel
theorem D187_129 : decode (byt 187) 129 = .ok (.lreturn, 1) := by decide +kernel
theorem D188_0 : decode (byt 188) 0 = .ok (.iload_n 1, 1) := by decide +kernel
theorem D188_1 : decode (byt 188) 1 = .ok (.invokestatic 150, 3) := by decide +kernel
theorem D188_4 : decode (byt 188) 4 = .ok (.ifCond .eq 12, 3) := by decide +kernel
theorem D188_7 : decode (byt 188) 7 = .ok (.aload_n 0, 1) := by decide +kernel
theorem D188_8 : decode (byt 188) 8 = .ok (.iload_n 1, 1) := by decide +kernel
theorem D188_9 : decode (byt 188) 9 = .ok (.iload_n 2, 1) := by decide +kernel
theorem D188_10 : decode (byt 188) 10 = .ok (.invokevirtual 163, 3) := by decide +kernel
theorem D188_13 : decode (byt 188) 13 = .ok (.ifCond .ne 8, 3) := by decide +kernel
theorem D188_16 : decode (byt 188) 16 = .ok (.bipush (-3), 2) := by decide +kernel
theorem D188_18 : decode (byt 188) 18 = .ok (.goto 8, 3) := by decide +kernel
theorem D188_21 : decode (byt 188) 21 = .ok (.aload_n 0, 1) := by decide +kernel
theorem D188_22 : decode (byt 188) 22 = .ok (.iload_n 1, 1) := by decide +kernel
theorem D188_23 : decode (byt 188) 23 = .ok (.invokevirtual 297, 3) := by decide +kernel
theorem D188_26 : decode (byt 188) 26 = .ok (.istore_n 3, 1) := by decide +kernel
theorem D188_27 : decode (byt 188) 27 = .ok (.iload_n 3, 1) := by decide +kernel
theorem D188_28 : decode (byt 188) 28 = .ok (.ifCond .eq 9, 3) := by decide +kernel
theorem D188_31 : decode (byt 188) 31 = .ok (.aload_n 0, 1) := by decide +kernel
theorem D188_32 : decode (byt 188) 32 = .ok (.iload_n 3, 1) := by decide +kernel
theorem D188_33 : decode (byt 188) 33 = .ok (.invokevirtual 154, 3) := by decide +kernel
theorem D188_36 : decode (byt 188) 36 = .ok (.ireturn, 1) := by decide +kernel
theorem D188_37 : decode (byt 188) 37 = .ok (.iconst 0, 1) := by decide +kernel
theorem D188_38 : decode (byt 188) 38 = .ok (.istore 4, 2) := by decide +kernel
theorem D188_40 : decode (byt 188) 40 = .ok (.iconst 0, 1) := by decide +kernel
theorem D188_41 : decode (byt 188) 41 = .ok (.istore 5, 2) := by decide +kernel
theorem D188_43 : decode (byt 188) 43 = .ok (.iconst 0, 1) := by decide +kernel
theorem D188_44 : decode (byt 188) 44 = .ok (.istore 6, 2) := by decide +kernel
theorem D188_46 : decode (byt 188) 46 = .ok (.iload 6, 2) := by decide +kernel
theorem D188_48 : decode (byt 188) 48 = .ok (.iconst 1, 1) := by decide +kernel
theorem D188_49 : decode (byt 188) 49 = .ok (.aload_n 0, 1) := by decide +kernel
theorem D188_50 : decode (byt 188) 50 = .ok (.getfield 7, 3) := by decide +kernel
theorem D188_53 : decode (byt 188) 53 = .ok (.iload_n 1, 1) := by decide +kernel
theorem D188_54 : decode (byt 188) 54 = .ok (.iaload, 1) := by decide +kernel
theorem D188_55 : decode (byt 188) 55 = .ok (.ishl, 1) := by decide +kernel
theorem D188_56 : decode (byt 188) 56 = .ok (.if_icmp .ge 46, 3) := by decide +kernel
theorem D188_59 : decode (byt 188) 59 = .ok (.aload_n 0, 1) := by decide +kernel
theorem D188_60 : decode (byt 188) 60 = .ok (.iload_n 1, 1) := by decide +kernel
theorem D188_61 : decode (byt 188) 61 = .ok (.iload 6, 2) := by decide +kernel
theorem D188_63 : decode (byt 188) 63 = .ok (.invokevirtual 294, 3) := by decide +kernel
theorem D188_66 : decode (byt 188) 66 = .ok (.ifCond .ne 6, 3) := by decide +kernel
theorem D188_69 : decode (byt 188) 69 = .ok (.goto 27, 3) := by decide +kernel
theorem D188_72 : decode (byt 188) 72 = .ok (.iinc 5 1, 3) := by decide +kernel
theorem D188_75 : decode (byt 188) 75 = .ok (.iload 4, 2) := by decide +kernel
theorem D188_77 : decode (byt 188) 77 = .ok (.aload_n 0, 1) := by decide +kernel
theorem D188_78 : decode (byt 188) 78 = .ok (.iload_n 1, 1) := by decide +kernel
theorem D188_79 : decode (byt 188) 79 = .ok (.iload_n 2, 1) := by decide +kernel
theorem D188_80 : decode (byt 188) 80 = .ok (.iload 6, 2) := by decide +kernel
theorem D188_82 : decode (byt 188) 82 = .ok (.invokevirtual 275, 3) := by decide +kernel
theorem D188_85 : decode (byt 188) 85 = .ok (.ifCond .eq 7, 3) := by decide +kernel
theorem D188_88 : decode (byt 188) 88 = .ok (.iconst 1, 1) := by decide +kernel
theorem D188_89 : decode (byt 188) 89 = .ok (.goto 4, 3) := by decide +kernel
theorem D188_92 : decode (byt 188) 92 = .ok (.iconst 0, 1) := by decide +kernel
theorem D188_93 : decode (byt 188) 93 = .ok (.iadd, 1) := by decide +kernel
theorem D188_94 : decode (byt 188) 94 = .ok (.istore 4, 2) := by decide +kernel
theorem D188_96 : decode (byt 188) 96 = .ok (.iinc 6 1, 3) := by decide +kernel
theorem D188_99 : decode (byt 188) 99 = .ok (.goto (-53), 3) := by decide +kernel
theorem D188_102 : decode (byt 188) 102 = .ok (.iload 5, 2) := by decide +kernel
theorem D188_104 : decode (byt 188) 104 = .ok (.ifCond .ne 7, 3) := by decide +kernel
theorem D188_107 : decode (byt 188) 107 = .ok (.iconst 3, 1) := by decide +kernel
theorem D188_108 : decode (byt 188) 108 = .ok (.goto 24, 3) := by decide +kernel
theorem D188_111 : decode (byt 188) 111 = .ok (.iload 4, 2) := by decide +kernel
theorem D188_113 : decode (byt 188) 113 = .ok (.iload 5, 2) := by decide +kernel
theorem D188_115 : decode (byt 188) 115 = .ok (.if_icmp .ne 7, 3) := by decide +kernel
theorem D188_118 : decode (byt 188) 118 = .ok (.iconst 1, 1) := by decide +kernel
theorem D188_119 : decode (byt 188) 119 = .ok (.goto 13, 3) := by decide +kernel
theorem D188_122 : decode (byt 188) 122 = .ok (.iload 4, 2) := by decide +kernel
theorem D188_124 : decode (byt 188) 124 = .ok (.ifCond .ne 7, 3) := by decide +kernel
theorem D188_127 : decode (byt 188) 127 = .ok (.iconst 2, 1) := by decide +kernel
theorem D188_128 : decode (byt 188) 128 = .ok (.goto 4, 3) := by decide +kernel
theorem D188_131 : decode (byt 188) 131 = .ok (.iconst 0, 1) := by decide +kernel
theorem D188_132 : decode (byt 188) 132 = .ok (.ireturn, 1) := by decide +kernel
theorem D189_0 : decode (byt 189) 0 = .ok (.aload_n 0, 1) := by decide +kernel
theorem D189_1 : decode (byt 189) 1 = .ok (.iload_n 1, 1) := by decide +kernel
theorem D189_2 : decode (byt 189) 2 = .ok (.invokevirtual 297, 3) := by decide +kernel
theorem D189_5 : decode (byt 189) 5 = .ok (.istore_n 3, 1) := by decide +kernel
theorem D189_6 : decode (byt 189) 6 = .ok (.iload_n 3, 1) := by decide +kernel
theorem D189_7 : decode (byt 189) 7 = .ok (.ifCond .ne 10, 3) := by decide +kernel
theorem D189_10 : decode (byt 189) 10 = .ok (.iload_n 2, 1) := by decide +kernel
theorem D189_11 : decode (byt 189) 11 = .ok (.ifCond .ge 6, 3) := by decide +kernel
theorem D189_14 : decode (byt 189) 14 = .ok (.bipush (-4), 2) := by decide +kernel
theorem D189_16 : decode (byt 189) 16 = .ok (.istore_n 3, 1) := by decide +kernel
theorem D189_17 : decode (byt 189) 17 = .ok (.iload_n 3, 1) := by decide +kernel
theorem D189_18 : decode (byt 189) 18 = .ok (.ifCond .eq 9, 3) := by decide +kernel
theorem D189_21 : decode (byt 189) 21 = .ok (.aload_n 0, 1) := by decide +kernel
theorem D189_22 : decode (byt 189) 22 = .ok (.iload_n 3, 1) := by decide +kernel
theorem D189_23 : decode (byt 189) 23 = .ok (.invokevirtual 154, 3) := by decide +kernel
theorem D189_26 : decode (byt 189) 26 = .ok (.ireturn, 1) := by decide +kernel
theorem D189_27 : decode (byt 189) 27 = .ok (.iload_n 2, 1) := by decide +kernel
theorem D189_28 : decode (byt 189) 28 = .ok (.istore 4, 2) := by decide +kernel
theorem D189_30 : decode (byt 189) 30 = .ok (.iconst 0, 1) := by decide +kernel
theorem D189_31 : decode (byt 189) 31 = .ok (.istore 5, 2) := by decide +kernel
theorem D189_33 : decode (byt 189) 33 = .ok (.iload 5, 2) := by decide +kernel
theorem D189_35 : decode (byt 189) 35 = .ok (.iconst 1, 1) := by decide +kernel
theorem D189_36 : decode (byt 189) 36 = .ok (.aload_n 0, 1) := by decide +kernel
theorem D189_37 : decode (byt 189) 37 = .ok (.getfield 7, 3) := by decide +kernel
theorem D189_40 : decode (byt 189) 40 = .ok (.iload_n 1, 1) := by decide +kernel
theorem D189_41 : decode (byt 189) 41 = .ok (.iaload, 1) := by decide +kernel
theorem D189_42 : decode (byt 189) 42 = .ok (.ishl, 1) := by decide +kernel
theorem D189_43 : decode (byt 189) 43 = .ok (.if_icmp .ge 33, 3) := by decide +kernel
theorem D189_46 : decode (byt 189) 46 = .ok (.aload_n 0, 1) := by decide +kernel
theorem D189_47 : decode (byt 189) 47 = .ok (.iload_n 1, 1) := by decide +kernel
theorem D189_48 : decode (byt 189) 48 = .ok (.iload 5, 2) := by decide +kernel
theorem D189_50 : decode (byt 189) 50 = .ok (.invokevirtual 294, 3) := by decide +kernel
theorem D189_53 : decode (byt 189) 53 = .ok (.ifCond .ne 6, 3) := by decide +kernel
theorem D189_56 : decode (byt 189) 56 = .ok (.goto 14, 3) := by decide +kernel
theorem D189_59 : decode (byt 189) 59 = .ok (.iload 4, 2) := by decide +kernel
theorem D189_61 : decode (byt 189) 61 = .ok (.ifCond .ne 6, 3) := by decide +kernel
theorem D189_64 : decode (byt 189) 64 = .ok (.iload 5, 2) := by decide +kernel
theorem D189_66 : decode (byt 189) 66 = .ok (.ireturn, 1) := by decide +kernel
theorem D189_67 : decode (byt 189) 67 = .ok (.iinc 4 (-1), 3) := by decide +kernel
theorem D189_70 : decode (byt 189) 70 = .ok (.iinc 5 1, 3) := by decide +kernel
theorem D189_73 : decode (byt 189) 73 = .ok (.goto (-40), 3) := by decide +kernel
theorem D189_76 : decode (byt 189) 76 = .ok (.aload_n 0, 1) := by decide +kernel
theorem D189_77 : decode (byt 189) 77 = .ok (.bipush (-7), 2) := by decide +kernel
theorem D189_79 : decode (byt 189) 79 = .ok (.invokevirtual 154, 3) := by decide +kernel
theorem D189_82 : decode (byt 189) 82 = .ok (.ireturn, 1) := by decide +kernel
theorem D190_0 : decode (byt 190) 0 = .ok (.aload_n 0, 1) := by decide +kernel
theorem D190_1 : decode (byt 190) 1 = .ok (.iload_n 1, 1) := by decide +kernel
theorem D190_2 : decode (byt 190) 2 = .ok (.invokevirtual 297, 3) := by decide +kernel
theorem D190_5 : decode (byt 190) 5 = .ok (.istore_n 3, 1) := by decide +kernel
theorem D190_6 : decode (byt 190) 6 = .ok (.iload_n 3, 1) := by decide +kernel
theorem D190_7 : decode (byt 190) 7 = .ok (.ifCond .ne 24, 3) := by decide +kernel
theorem D190_10 : decode (byt 190) 10 = .ok (.iload_n 2, 1) := by decide +kernel
theorem D190_11 : decode (byt 190) 11 = .ok (.i2l, 1) := by decide +kernel
theorem D190_12 : decode (byt 190) 12 = .ok (.lconst 0, 1) := by decide +kernel
theorem D190_13 : decode (byt 190) 13 = .ok (.iconst 1, 1) := by decide +kernel
theorem D190_14 : decode (byt 190) 14 = .ok (.aload_n 0, 1) := by decide +kernel
theorem D190_15 : decode (byt 190) 15 = .ok (.getfield 7, 3) := by decide +kernel
theorem D190_18 : decode (byt 190) 18 = .ok (.iload_n 1, 1) := by decide +kernel
theorem D190_19 : decode (byt 190) 19 = .ok (.iaload, 1) := by decide +kernel
theorem D190_20 : decode (byt 190) 20 = .ok (.ishl, 1) := by decide +kernel
theorem D190_21 : decode (byt 190) 21 = .ok (.i2l, 1) := by decide +kernel
theorem D190_22 : decode (byt 190) 22 = .ok (.invokestatic 146, 3) := by decide +kernel
theorem D190_25 : decode (byt 190) 25 = .ok (.ifCond .ne 6, 3) := by decide +kernel
theorem D190_28 : decode (byt 190) 28 = .ok (.bipush (-3), 2) := by decide +kernel
theorem D190_30 : decode (byt 190) 30 = .ok (.istore_n 3, 1) := by decide +kernel
theorem D190_31 : decode (byt 190) 31 = .ok (.iload_n 3, 1) := by decide +kernel
theorem D190_32 : decode (byt 190) 32 = .ok (.ifCond .eq 11, 3) := by decide +kernel
theorem D190_35 : decode (byt 190) 35 = .ok (.aload_n 0, 1) := by decide +kernel
theorem D190_36 : decode (byt 190) 36 = .ok (.iload_n 3, 1) := by decide +kernel
theorem D190_37 : decode (byt 190) 37 = .ok (.invokevirtual 154, 3) := by decide +kernel
theorem D190_40 : decode (byt 190) 40 = .ok (.goto 9, 3) := by decide +kernel
theorem D190_43 : decode (byt 190) 43 = .ok (.aload_n 0, 1) := by decide +kernel
theorem D190_44 : decode (byt 190) 44 = .ok (.iload_n 1, 1) := by decide +kernel
theorem D190_45 : decode (byt 190) 45 = .ok (.iload_n 2, 1) := by decide +kernel
theorem D190_46 : decode (byt 190) 46 = .ok (.invokevirtual 300, 3) := by decide +kernel
theorem D190_49 : decode (byt 190) 49 = .ok (.ireturn, 1) := by decide +kernel
theorem D191_0 : decode (byt 191) 0 = .ok (.aload_n 0, 1) := by decide +kernel
theorem D191_1 : decode (byt 191) 1 = .ok (.iload_n 1, 1) := by decide +kernel
theorem D191_2 : decode (byt 191) 2 = .ok (.invokevirtual 297, 3) := by decide +kernel
theorem D191_5 : decode (byt 191) 5 = .ok (.istore_n 3, 1) := by decide +kernel
theorem D191_6 : decode (byt 191) 6 = .ok (.iload_n 3, 1) := by decide +kernel
theorem D191_7 : decode (byt 191) 7 = .ok (.ifCond .ne 28, 3) := by decide +kernel
theorem D191_10 : decode (byt 191) 10 = .ok (.iload_n 2, 1) := by decide +kernel
theorem D191_11 : decode (byt 191) 11 = .ok (.i2l, 1) := by decide +kernel
theorem D191_12 : decode (byt 191) 12 = .ok (.ldc2_w 310, 3) := by decide +kernel
theorem D191_15 : decode (byt 191) 15 = .ok (.iconst 1, 1) := by decide +kernel
theorem D191_16 : decode (byt 191) 16 = .ok (.aload_n 0, 1) := by decide +kernel
theorem D191_17 : decode (byt 191) 17 = .ok (.getfield 7, 3) := by decide +kernel
theorem D191_20 : decode (byt 191) 20 = .ok (.iload_n 1, 1) := by decide +kernel
theorem D191_21 : decode (byt 191) 21 = .ok (.iaload, 1) := by decide +kernel
theorem D191_22 : decode (byt 191) 22 = .ok (.ishl, 1) := by decide +kernel
theorem D191_23 : decode (byt 191) 23 = .ok (.iconst 1, 1) := by decide +kernel
theorem D191_24 : decode (byt 191) 24 = .ok (.isub, 1) := by decide +kernel
theorem D191_25 : decode (byt 191) 25 = .ok (.i2l, 1) := by decide +kernel
theorem D191_26 : decode (byt 191) 26 = .ok (.invokestatic 146, 3) := by decide +kernel
theorem D191_29 : decode (byt 191) 29 = .ok (.ifCond .ne 6, 3) := by decide +kernel
theorem D191_32 : decode (byt 191) 32 = .ok (.bipush (-3), 2) := by decide +kernel
theorem D191_34 : decode (byt 191) 34 = .ok (.istore_n 3, 1) := by decide +kernel
theorem D191_35 : decode (byt 191) 35 = .ok (.iload_n 3, 1) := by decide +kernel
theorem D191_36 : decode (byt 191) 36 = .ok (.ifCond .eq 9, 3) := by decide +kernel
theorem D191_39 : decode (byt 191) 39 = .ok (.aload_n 0, 1) := by decide +kernel
theorem D191_40 : decode (byt 191) 40 = .ok (.iload_n 3, 1) := by decide +kernel
theorem D191_41 : decode (byt 191) 41 = .ok (.invokevirtual 154, 3) := by decide +kernel
theorem D191_44 : decode (byt 191) 44 = .ok (.ireturn, 1) := by decide +kernel
theorem D191_45 : decode (byt 191) 45 = .ok (.iload_n 2, 1) := by decide +kernel
theorem D191_46 : decode (byt 191) 46 = .ok (.iconst 1, 1) := by decide +kernel
theorem D191_47 : decode (byt 191) 47 = .ok (.iadd, 1) := by decide +kernel
theorem D191_48 : decode (byt 191) 48 = .ok (.istore 4, 2) := by decide +kernel
theorem D191_50 : decode (byt 191) 50 = .ok (.iload 4, 2) := by decide +kernel
theorem D191_52 : decode (byt 191) 52 = .ok (.iconst 1, 1) := by decide +kernel
theorem D191_53 : decode (byt 191) 53 = .ok (.aload_n 0, 1) := by decide +kernel
theorem D191_54 : decode (byt 191) 54 = .ok (.getfield 7, 3) := by decide +kernel
theorem D191_57 : decode (byt 191) 57 = .ok (.iload_n 1, 1) := by decide +kernel
theorem D191_58 : decode (byt 191) 58 = .ok (.iaload, 1) := by decide +kernel
theorem D191_59 : decode (byt 191) 59 = .ok (.ishl, 1) := by decide +kernel
theorem D191_60 : decode (byt 191) 60 = .ok (.if_icmp .ge 22, 3) := by decide +kernel
theorem D191_63 : decode (byt 191) 63 = .ok (.aload_n 0, 1) := by decide +kernel
theorem D191_64 : decode (byt 191) 64 = .ok (.iload_n 1, 1) := by decide +kernel
theorem D191_65 : decode (byt 191) 65 = .ok (.iload 4, 2) := by decide +kernel
theorem D191_67 : decode (byt 191) 67 = .ok (.invokevirtual 294, 3) := by decide +kernel
theorem D191_70 : decode (byt 191) 70 = .ok (.ifCond .eq 6, 3) := by decide +kernel
theorem D191_73 : decode (byt 191) 73 = .ok (.iload 4, 2) := by decide +kernel
theorem D191_75 : decode (byt 191) 75 = .ok (.ireturn, 1) := by decide +kernel
theorem D191_76 : decode (byt 191) 76 = .ok (.iinc 4 1, 3) := by decide +kernel
theorem D191_79 : decode (byt 191) 79 = .ok (.goto (-29), 3) := by decide +kernel
theorem D191_82 : decode (byt 191) 82 = .ok (.iconst (-1), 1) := by decide +kernel
theorem D191_83 : decode (byt 191) 83 = .ok (.ireturn, 1) := by decide +kernel
theorem D192_0 : decode (byt 192) 0 = .ok (.aload_n 0, 1) := by decide +kernel
theorem D192_1 : decode (byt 192) 1 = .ok (.iload_n 1, 1) := by decide +kernel
theorem D192_2 : decode (byt 192) 2 = .ok (.invokevirtual 297, 3) := by decide +kernel
theorem D192_5 : decode (byt 192) 5 = .ok (.istore_n 3, 1) := by decide +kernel
theorem D192_6 : decode (byt 192) 6 = .ok (.iload_n 3, 1) := by decide +kernel
theorem D192_7 : decode (byt 192) 7 = .ok (.ifCond .eq 9, 3) := by decide +kernel
theorem D192_10 : decode (byt 192) 10 = .ok (.aload_n 0, 1) := by decide +kernel
theorem D192_11 : decode (byt 192) 11 = .ok (.iload_n 3, 1) := by decide +kernel
theorem D192_12 : decode (byt 192) 12 = .ok (.invokevirtual 154, 3) := by decide +kernel
theorem D192_15 : decode (byt 192) 15 = .ok (.ireturn, 1) := by decide +kernel
theorem D192_16 : decode (byt 192) 16 = .ok (.iconst (-1), 1) := by decide +kernel
theorem D192_17 : decode (byt 192) 17 = .ok (.istore 4, 2) := by decide +kernel
theorem D192_19 : decode (byt 192) 19 = .ok (.iconst 0, 1) := by decide +kernel
theorem D192_20 : decode (byt 192) 20 = .ok (.istore 5, 2) := by decide +kernel
theorem D192_22 : decode (byt 192) 22 = .ok (.iload 5, 2) := by decide +kernel
theorem D192_24 : decode (byt 192) 24 = .ok (.iconst 1, 1) := by decide +kernel
theorem D192_25 : decode (byt 192) 25 = .ok (.aload_n 0, 1) := by decide +kernel
theorem D192_26 : decode (byt 192) 26 = .ok (.getfield 7, 3) := by decide +kernel
theorem D192_29 : decode (byt 192) 29 = .ok (.iload_n 1, 1) := by decide +kernel
theorem D192_30 : decode (byt 192) 30 = .ok (.iaload, 1) := by decide +kernel
theorem D192_31 : decode (byt 192) 31 = .ok (.ishl, 1) := by decide +kernel
theorem D192_32 : decode (byt 192) 32 = .ok (.if_icmp .ge 74, 3) := by decide +kernel
theorem D192_35 : decode (byt 192) 35 = .ok (.aload_n 0, 1) := by decide +kernel
theorem D192_36 : decode (byt 192) 36 = .ok (.iload_n 1, 1) := by decide +kernel
theorem D192_37 : decode (byt 192) 37 = .ok (.iload 5, 2) := by decide +kernel
theorem D192_39 : decode (byt 192) 39 = .ok (.invokevirtual 294, 3) := by decide +kernel
theorem D192_42 : decode (byt 192) 42 = .ok (.ifCond .ne 6, 3) := by decide +kernel
theorem D192_45 : decode (byt 192) 45 = .ok (.goto 55, 3) := by decide +kernel
theorem D192_48 : decode (byt 192) 48 = .ok (.iload 4, 2) := by decide +kernel
theorem D192_50 : decode (byt 192) 50 = .ok (.ifCond .lt 46, 3) := by decide +kernel
theorem D192_53 : decode (byt 192) 53 = .ok (.iload_n 2, 1) := by decide +kernel
theorem D192_54 : decode (byt 192) 54 = .ok (.ifCond .eq 24, 3) := by decide +kernel
theorem D192_57 : decode (byt 192) 57 = .ok (.aload_n 0, 1) := by decide +kernel
theorem D192_58 : decode (byt 192) 58 = .ok (.iload_n 1, 1) := by decide +kernel
theorem D192_59 : decode (byt 192) 59 = .ok (.iload 5, 2) := by decide +kernel
theorem D192_61 : decode (byt 192) 61 = .ok (.invokevirtual 303, 3) := by decide +kernel
theorem D192_64 : decode (byt 192) 64 = .ok (.aload_n 0, 1) := by decide +kernel
theorem D192_65 : decode (byt 192) 65 = .ok (.iload_n 1, 1) := by decide +kernel
theorem D192_66 : decode (byt 192) 66 = .ok (.iload 4, 2) := by decide +kernel
theorem D192_68 : decode (byt 192) 68 = .ok (.invokevirtual 303, 3) := by decide +kernel
theorem D192_71 : decode (byt 192) 71 = .ok (.lcmp, 1) := by decide +kernel
theorem D192_72 : decode (byt 192) 72 = .ok (.ifCond .ge 28, 3) := by decide +kernel
theorem D192_75 : decode (byt 192) 75 = .ok (.goto 21, 3) := by decide +kernel
theorem D192_78 : decode (byt 192) 78 = .ok (.aload_n 0, 1) := by decide +kernel
theorem D192_79 : decode (byt 192) 79 = .ok (.iload_n 1, 1) := by decide +kernel
theorem D192_80 : decode (byt 192) 80 = .ok (.iload 5, 2) := by decide +kernel
theorem D192_82 : decode (byt 192) 82 = .ok (.invokevirtual 303, 3) := by decide +kernel
theorem D192_85 : decode (byt 192) 85 = .ok (.aload_n 0, 1) := by decide +kernel
theorem D192_86 : decode (byt 192) 86 = .ok (.iload_n 1, 1) := by decide +kernel
theorem D192_87 : decode (byt 192) 87 = .ok (.iload 4, 2) := by decide +kernel
theorem D192_89 : decode (byt 192) 89 = .ok (.invokevirtual 303, 3) := by decide +kernel
theorem D192_92 : decode (byt 192) 92 = .ok (.lcmp, 1) := by decide +kernel
theorem D192_93 : decode (byt 192) 93 = .ok (.ifCond .le 7, 3) := by decide +kernel
theorem D192_96 : decode (byt 192) 96 = .ok (.iload 5, 2) := by decide +kernel
theorem D192_98 : decode (byt 192) 98 = .ok (.istore 4, 2) := by decide +kernel
theorem D192_100 : decode (byt 192) 100 = .ok (.iinc 5 1, 3) := by decide +kernel
theorem D192_103 : decode (byt 192) 103 = .ok (.goto (-81), 3) := by decide +kernel
theorem D192_106 : decode (byt 192) 106 = .ok (.iload 4, 2) := by decide +kernel
theorem D192_108 : decode (byt 192) 108 = .ok (.ifCond .ge 12, 3) := by decide +kernel
theorem D192_111 : decode (byt 192) 111 = .ok (.aload_n 0, 1) := by decide +kernel
theorem D192_112 : decode (byt 192) 112 = .ok (.bipush (-7), 2) := by decide +kernel
theorem D192_114 : decode (byt 192) 114 = .ok (.invokevirtual 154, 3) := by decide +kernel
theorem D192_117 : decode (byt 192) 117 = .ok (.goto 5, 3) := by decide +kernel
theorem D192_120 : decode (byt 192) 120 = .ok (.iload 4, 2) := by decide +kernel
theorem D192_122 : decode (byt 192) 122 = .ok (.ireturn, 1) := by decide +kernel
theorem D193_0 : decode (byt 193) 0 = .ok (.iload_n 1, 1) := by decide +kernel
theorem D193_1 : decode (byt 193) 1 = .ok (.invokestatic 150, 3) := by decide +kernel
theorem D193_4 : decode (byt 193) 4 = .ok (.ifCond .eq 30, 3) := by decide +kernel
theorem D193_7 : decode (byt 193) 7 = .ok (.iload_n 2, 1) := by decide +kernel
theorem D193_8 : decode (byt 193) 8 = .ok (.i2l, 1) := by decide +kernel
theorem D193_9 : decode (byt 193) 9 = .ok (.lconst 0, 1) := by decide +kernel
theorem D193_10 : decode (byt 193) 10 = .ok (.iconst 1, 1) := by decide +kernel
theorem D193_11 : decode (byt 193) 11 = .ok (.aload_n 0, 1) := by decide +kernel
theorem D193_12 : decode (byt 193) 12 = .ok (.getfield 7, 3) := by decide +kernel
theorem D193_15 : decode (byt 193) 15 = .ok (.iload_n 1, 1) := by decide +kernel
theorem D193_16 : decode (byt 193) 16 = .ok (.iaload, 1) := by decide +kernel
theorem D193_17 : decode (byt 193) 17 = .ok (.ishl, 1) := by decide +kernel
theorem D193_18 : decode (byt 193) 18 = .ok (.iconst 1, 1) := by decide +kernel
theorem D193_19 : decode (byt 193) 19 = .ok (.isub, 1) := by decide +kernel
theorem D193_20 : decode (byt 193) 20 = .ok (.i2l, 1) := by decide +kernel
theorem D193_21 : decode (byt 193) 21 = .ok (.invokestatic 146, 3) := by decide +kernel
theorem D193_24 : decode (byt 193) 24 = .ok (.ifCond .eq 10, 3) := by decide +kernel
theorem D193_27 : decode (byt 193) 27 = .ok (.aload_n 0, 1) := by decide +kernel
theorem D193_28 : decode (byt 193) 28 = .ok (.iload_n 1, 1) := by decide +kernel
theorem D193_29 : decode (byt 193) 29 = .ok (.iload_n 2, 1) := by decide +kernel
theorem D193_30 : decode (byt 193) 30 = .ok (.invokevirtual 303, 3) := by decide +kernel
theorem D193_33 : decode (byt 193) 33 = .ok (.lreturn, 1) := by decide +kernel
theorem D193_34 : decode (byt 193) 34 = .ok (.aload_n 0, 1) := by decide +kernel
theorem D193_35 : decode (byt 193) 35 = .ok (.bipush (-3), 2) := by decide +kernel
theorem D193_37 : decode (byt 193) 37 = .ok (.invokevirtual 154, 3) := by decide +kernel
theorem D193_40 : decode (byt 193) 40 = .ok (.istore_n 3, 1) := by decide +kernel
theorem D193_41 : decode (byt 193) 41 = .ok (.lconst 0, 1) := by decide +kernel
theorem D193_42 : decode (byt 193) 42 = .ok (.lreturn, 1) := by decide +kernel
theorem D194_0 : decode (byt 194) 0 = .ok (.aload_n 0, 1) := by decide +kernel
theorem D194_1 : decode (byt 194) 1 = .ok (.iload_n 1, 1) := by decide +kernel
theorem D194_2 : decode (byt 194) 2 = .ok (.invokevirtual 297, 3) := by decide +kernel
theorem D194_5 : decode (byt 194) 5 = .ok (.istore_n 2, 1) := by decide +kernel
theorem D194_6 : decode (byt 194) 6 = .ok (.iload_n 2, 1) := by decide +kernel
theorem D194_7 : decode (byt 194) 7 = .ok (.ifCond .eq 9, 3) := by decide +kernel
theorem D194_10 : decode (byt 194) 10 = .ok (.aload_n 0, 1) := by decide +kernel
theorem D194_11 : decode (byt 194) 11 = .ok (.iload_n 2, 1) := by decide +kernel
theorem D194_12 : decode (byt 194) 12 = .ok (.invokevirtual 154, 3) := by decide +kernel
theorem D194_15 : decode (byt 194) 15 = .ok (.ireturn, 1) := by decide +kernel
theorem D194_16 : decode (byt 194) 16 = .ok (.iconst 0, 1) := by decide +kernel
theorem D194_17 : decode (byt 194) 17 = .ok (.istore_n 3, 1) := by decide +kernel
theorem D194_18 : decode (byt 194) 18 = .ok (.iconst 1, 1) := by decide +kernel
theorem D194_19 : decode (byt 194) 19 = .ok (.istore 4, 2) := by decide +kernel
theorem D194_21 : decode (byt 194) 21 = .ok (.iload 4, 2) := by decide +kernel
theorem D194_23 : decode (byt 194) 23 = .ok (.aload_n 0, 1) := by decide +kernel
theorem D194_24 : decode (byt 194) 24 = .ok (.getfield 7, 3) := by decide +kernel
theorem D194_27 : decode (byt 194) 27 = .ok (.iload_n 1, 1) := by decide +kernel
theorem D194_28 : decode (byt 194) 28 = .ok (.iaload, 1) := by decide +kernel
theorem D194_29 : decode (byt 194) 29 = .ok (.if_icmp .gt 44, 3) := by decide +kernel
theorem D194_32 : decode (byt 194) 32 = .ok (.iload_n 3, 1) := by decide +kernel
theorem D194_33 : decode (byt 194) 33 = .ok (.aload_n 0, 1) := by decide +kernel
theorem D194_34 : decode (byt 194) 34 = .ok (.getfield 19, 3) := by decide +kernel
theorem D194_37 : decode (byt 194) 37 = .ok (.iload_n 1, 1) := by decide +kernel
theorem D194_38 : decode (byt 194) 38 = .ok (.iaload, 1) := by decide +kernel
theorem D194_39 : decode (byt 194) 39 = .ok (.iload 4, 2) := by decide +kernel
theorem D194_41 : decode (byt 194) 41 = .ok (.iconst 1, 1) := by decide +kernel
theorem D194_42 : decode (byt 194) 42 = .ok (.isub, 1) := by decide +kernel
theorem D194_43 : decode (byt 194) 43 = .ok (.ishr, 1) := by decide +kernel
theorem D194_44 : decode (byt 194) 44 = .ok (.iconst 1, 1) := by decide +kernel
theorem D194_45 : decode (byt 194) 45 = .ok (.iand, 1) := by decide +kernel
theorem D194_46 : decode (byt 194) 46 = .ok (.iconst 1, 1) := by decide +kernel
theorem D194_47 : decode (byt 194) 47 = .ok (.if_icmp .ne 17, 3) := by decide +kernel
theorem D194_50 : decode (byt 194) 50 = .ok (.iconst 1, 1) := by decide +kernel
theorem D194_51 : decode (byt 194) 51 = .ok (.aload_n 0, 1) := by decide +kernel
theorem D194_52 : decode (byt 194) 52 = .ok (.getfield 7, 3) := by decide +kernel
theorem D194_55 : decode (byt 194) 55 = .ok (.iload_n 1, 1) := by decide +kernel
theorem D194_56 : decode (byt 194) 56 = .ok (.iaload, 1) := by decide +kernel
theorem D194_57 : decode (byt 194) 57 = .ok (.iload 4, 2) := by decide +kernel
theorem D194_59 : decode (byt 194) 59 = .ok (.isub, 1) := by decide +kernel
theorem D194_60 : decode (byt 194) 60 = .ok (.ishl, 1) := by decide +kernel
theorem D194_61 : decode (byt 194) 61 = .ok (.goto 4, 3) := by decide +kernel
theorem D194_64 : decode (byt 194) 64 = .ok (.iconst 0, 1) := by decide +kernel
theorem D194_65 : decode (byt 194) 65 = .ok (.ior, 1) := by decide +kernel
theorem D194_66 : decode (byt 194) 66 = .ok (.istore_n 3, 1) := by decide +kernel
theorem D194_67 : decode (byt 194) 67 = .ok (.iinc 4 1, 3) := by decide +kernel
theorem D194_70 : decode (byt 194) 70 = .ok (.goto (-49), 3) := by decide +kernel
theorem D194_73 : decode (byt 194) 73 = .ok (.iconst 0, 1) := by decide +kernel
theorem D194_74 : decode (byt 194) 74 = .ok (.istore 4, 2) := by decide +kernel
theorem D194_76 : decode (byt 194) 76 = .ok (.iload 4, 2) := by decide +kernel
theorem D194_78 : decode (byt 194) 78 = .ok (.sipush 4096, 3) := by decide +kernel
theorem D194_81 : decode (byt 194) 81 = .ok (.if_icmp .ge 17, 3) := by decide +kernel
theorem D194_84 : decode (byt 194) 84 = .ok (.aload_n 0, 1) := by decide +kernel
theorem D194_85 : decode (byt 194) 85 = .ok (.getfield 134, 3) := by decide +kernel
theorem D194_88 : decode (byt 194) 88 = .ok (.iload 4, 2) := by decide +kernel
theorem D194_90 : decode (byt 194) 90 = .ok (.iconst 0, 1) := by decide +kernel
theorem D194_91 : decode (byt 194) 91 = .ok (.bastore, 1) := by decide +kernel
theorem D194_92 : decode (byt 194) 92 = .ok (.iinc 4 1, 3) := by decide +kernel
theorem D194_95 : decode (byt 194) 95 = .ok (.goto (-19), 3) := by decide +kernel
theorem D194_98 : decode (byt 194) 98 = .ok (.iconst 0, 1) := by decide +kernel
theorem D194_99 : decode (byt 194) 99 = .ok (.istore 4, 2) := by decide +kernel
theorem D194_101 : decode (byt 194) 101 = .ok (.iconst 0, 1) := by decide +kernel
theorem D194_102 : decode (byt 194) 102 = .ok (.istore 5, 2) := by decide +kernel
theorem D194_104 : decode (byt 194) 104 = .ok (.iload 5, 2) := by decide +kernel
theorem D194_106 : decode (byt 194) 106 = .ok (.iconst 1, 1) := by decide +kernel
theorem D194_107 : decode (byt 194) 107 = .ok (.aload_n 0, 1) := by decide +kernel
theorem D194_108 : decode (byt 194) 108 = .ok (.getfield 7, 3) := by decide +kernel
theorem D194_111 : decode (byt 194) 111 = .ok (.iload_n 1, 1) := by decide +kernel
theorem D194_112 : decode (byt 194) 112 = .ok (.iaload, 1) := by decide +kernel
theorem D194_113 : decode (byt 194) 113 = .ok (.ishl, 1) := by decide +kernel
theorem D194_114 : decode (byt 194) 114 = .ok (.if_icmp .ge 47, 3) := by decide +kernel
theorem D194_117 : decode (byt 194) 117 = .ok (.aload_n 0, 1) := by decide +kernel
theorem D194_118 : decode (byt 194) 118 = .ok (.iload_n 1, 1) := by decide +kernel
theorem D194_119 : decode (byt 194) 119 = .ok (.iload 5, 2) := by decide +kernel
theorem D194_121 : decode (byt 194) 121 = .ok (.invokevirtual 294, 3) := by decide +kernel
theorem D194_124 : decode (byt 194) 124 = .ok (.ifCond .eq 31, 3) := by decide +kernel
theorem D194_127 : decode (byt 194) 127 = .ok (.aload_n 0, 1) := by decide +kernel
theorem D194_128 : decode (byt 194) 128 = .ok (.getfield 134, 3) := by decide +kernel
theorem D194_131 : decode (byt 194) 131 = .ok (.iload 5, 2) := by decide +kernel
theorem D194_133 : decode (byt 194) 133 = .ok (.iload_n 3, 1) := by decide +kernel
theorem D194_134 : decode (byt 194) 134 = .ok (.iand, 1) := by decide +kernel
theorem D194_135 : decode (byt 194) 135 = .ok (.baload, 1) := by decide +kernel
theorem D194_136 : decode (byt 194) 136 = .ok (.ifCond .eq 6, 3) := by decide +kernel
theorem D194_139 : decode (byt 194) 139 = .ok (.goto 16, 3) := by decide +kernel
theorem D194_142 : decode (byt 194) 142 = .ok (.aload_n 0, 1) := by decide +kernel
theorem D194_143 : decode (byt 194) 143 = .ok (.getfield 134, 3) := by decide +kernel
theorem D194_146 : decode (byt 194) 146 = .ok (.iload 5, 2) := by decide +kernel
theorem D194_148 : decode (byt 194) 148 = .ok (.iload_n 3, 1) := by decide +kernel
theorem D194_149 : decode (byt 194) 149 = .ok (.iand, 1) := by decide +kernel
theorem D194_150 : decode (byt 194) 150 = .ok (.iconst 1, 1) := by decide +kernel
theorem D194_151 : decode (byt 194) 151 = .ok (.bastore, 1) := by decide +kernel
theorem D194_152 : decode (byt 194) 152 = .ok (.iinc 4 1, 3) := by decide +kernel
theorem D194_155 : decode (byt 194) 155 = .ok (.iinc 5 1, 3) := by decide +kernel
theorem D194_158 : decode (byt 194) 158 = .ok (.goto (-54), 3) := by decide +kernel
theorem D194_161 : decode (byt 194) 161 = .ok (.iload 4, 2) := by decide +kernel
theorem D194_163 : decode (byt 194) 163 = .ok (.ireturn, 1) := by decide +kernel
theorem D195_0 : decode (byt 195) 0 = .ok (.aload_n 0, 1) := by decide +kernel
theorem D195_1 : decode (byt 195) 1 = .ok (.getfield 34, 3) := by decide +kernel
theorem D195_4 : decode (byt 195) 4 = .ok (.iconst 0, 1) := by decide +kernel
theorem D195_5 : decode (byt 195) 5 = .ok (.iaload, 1) := by decide +kernel
theorem D195_6 : decode (byt 195) 6 = .ok (.ifCond .eq 12, 3) := by decide +kernel
theorem D195_9 : decode (byt 195) 9 = .ok (.aload_n 0, 1) := by decide +kernel
theorem D195_10 : decode (byt 195) 10 = .ok (.getfield 34, 3) := by decide +kernel
theorem D195_13 : decode (byt 195) 13 = .ok (.iconst 1, 1) := by decide +kernel
theorem D195_14 : decode (byt 195) 14 = .ok (.iaload, 1) := by decide +kernel
theorem D195_15 : decode (byt 195) 15 = .ok (.ifCond .ne 10, 3) := by decide +kernel
theorem D195_18 : decode (byt 195) 18 = .ok (.aload_n 0, 1) := by decide +kernel
theorem D195_19 : decode (byt 195) 19 = .ok (.bipush (-2), 2) := by decide +kernel
theorem D195_21 : decode (byt 195) 21 = .ok (.invokevirtual 154, 3) := by decide +kernel
theorem D195_24 : decode (byt 195) 24 = .ok (.ireturn, 1) := by decide +kernel
theorem D195_25 : decode (byt 195) 25 = .ok (.aload_n 0, 1) := by decide +kernel
theorem D195_26 : decode (byt 195) 26 = .ok (.getfield 7, 3) := by decide +kernel
theorem D195_29 : decode (byt 195) 29 = .ok (.iconst 0, 1) := by decide +kernel
theorem D195_30 : decode (byt 195) 30 = .ok (.iaload, 1) := by decide +kernel
theorem D195_31 : decode (byt 195) 31 = .ok (.aload_n 0, 1) := by decide +kernel
theorem D195_32 : decode (byt 195) 32 = .ok (.getfield 7, 3) := by decide +kernel
theorem D195_35 : decode (byt 195) 35 = .ok (.iconst 1, 1) := by decide +kernel
theorem D195_36 : decode (byt 195) 36 = .ok (.iaload, 1) := by decide +kernel
theorem D195_37 : decode (byt 195) 37 = .ok (.if_icmp .eq 10, 3) := by decide +kernel
theorem D195_40 : decode (byt 195) 40 = .ok (.aload_n 0, 1) := by decide +kernel
theorem D195_41 : decode (byt 195) 41 = .ok (.bipush (-7), 2) := by decide +kernel
theorem D195_43 : decode (byt 195) 43 = .ok (.invokevirtual 154, 3) := by decide +kernel
theorem D195_46 : decode (byt 195) 46 = .ok (.ireturn, 1) := by decide +kernel
theorem D195_47 : decode (byt 195) 47 = .ok (.aload_n 0, 1) := by decide +kernel
theorem D195_48 : decode (byt 195) 48 = .ok (.iconst 0, 1) := by decide +kernel
theorem D195_49 : decode (byt 195) 49 = .ok (.invokevirtual 282, 3) := by decide +kernel
theorem D195_52 : decode (byt 195) 52 = .ok (.aload_n 0, 1) := by decide +kernel
theorem D195_53 : decode (byt 195) 53 = .ok (.iconst 1, 1) := by decide +kernel
theorem D195_54 : decode (byt 195) 54 = .ok (.invokevirtual 282, 3) := by decide +kernel
theorem D195_57 : decode (byt 195) 57 = .ok (.iconst 0, 1) := by decide +kernel
theorem D195_58 : decode (byt 195) 58 = .ok (.istore_n 2, 1) := by decide +kernel
theorem D195_59 : decode (byt 195) 59 = .ok (.iconst 0, 1) := by decide +kernel
theorem D195_60 : decode (byt 195) 60 = .ok (.istore_n 3, 1) := by decide +kernel
theorem D195_61 : decode (byt 195) 61 = .ok (.iload_n 3, 1) := by decide +kernel
theorem D195_62 : decode (byt 195) 62 = .ok (.iconst 1, 1) := by decide +kernel
theorem D195_63 : decode (byt 195) 63 = .ok (.aload_n 0, 1) := by decide +kernel
theorem D195_64 : decode (byt 195) 64 = .ok (.getfield 7, 3) := by decide +kernel
theorem D195_67 : decode (byt 195) 67 = .ok (.iconst 0, 1) := by decide +kernel
theorem D195_68 : decode (byt 195) 68 = .ok (.iaload, 1) := by decide +kernel
theorem D195_69 : decode (byt 195) 69 = .ok (.ishl, 1) := by decide +kernel
theorem D195_70 : decode (byt 195) 70 = .ok (.if_icmp .ge 51, 3) := by decide +kernel
theorem D195_73 : decode (byt 195) 73 = .ok (.iload_n 2, 1) := by decide +kernel
theorem D195_74 : decode (byt 195) 74 = .ok (.aload_n 0, 1) := by decide +kernel
theorem D195_75 : decode (byt 195) 75 = .ok (.iload_n 1, 1) := by decide +kernel
theorem D195_76 : decode (byt 195) 76 = .ok (.ifCond .eq 7, 3) := by decide +kernel
theorem D195_79 : decode (byt 195) 79 = .ok (.iconst 1, 1) := by decide +kernel
theorem D195_80 : decode (byt 195) 80 = .ok (.goto 4, 3) := by decide +kernel
theorem D195_83 : decode (byt 195) 83 = .ok (.iconst 0, 1) := by decide +kernel
theorem D195_84 : decode (byt 195) 84 = .ok (.iload_n 3, 1) := by decide +kernel
theorem D195_85 : decode (byt 195) 85 = .ok (.invokevirtual 294, 3) := by decide +kernel
theorem D195_88 : decode (byt 195) 88 = .ok (.ifCond .eq 24, 3) := by decide +kernel
theorem D195_91 : decode (byt 195) 91 = .ok (.aload_n 0, 1) := by decide +kernel
theorem D195_92 : decode (byt 195) 92 = .ok (.iload_n 1, 1) := by decide +kernel
theorem D195_93 : decode (byt 195) 93 = .ok (.ifCond .eq 7, 3) := by decide +kernel
theorem D195_96 : decode (byt 195) 96 = .ok (.iconst 0, 1) := by decide +kernel
theorem D195_97 : decode (byt 195) 97 = .ok (.goto 4, 3) := by decide +kernel
theorem D195_100 : decode (byt 195) 100 = .ok (.iconst 1, 1) := by decide +kernel
theorem D195_101 : decode (byt 195) 101 = .ok (.iload_n 3, 1) := by decide +kernel
theorem D195_102 : decode (byt 195) 102 = .ok (.invokevirtual 294, 3) := by decide +kernel
theorem D195_105 : decode (byt 195) 105 = .ok (.ifCond .ne 7, 3) := by decide +kernel
theorem D195_108 : decode (byt 195) 108 = .ok (.iconst 1, 1) := by decide +kernel
theorem D195_109 : decode (byt 195) 109 = .ok (.goto 4, 3) := by decide +kernel
theorem D195_112 : decode (byt 195) 112 = .ok (.iconst 0, 1) := by decide +kernel
theorem D195_113 : decode (byt 195) 113 = .ok (.iadd, 1) := by decide +kernel
theorem D195_114 : decode (byt 195) 114 = .ok (.istore_n 2, 1) := by decide +kernel
theorem D195_115 : decode (byt 195) 115 = .ok (.iinc 3 1, 3) := by decide +kernel
theorem D195_118 : decode (byt 195) 118 = .ok (.goto (-57), 3) := by decide +kernel
theorem D195_121 : decode (byt 195) 121 = .ok (.iload_n 2, 1) := by decide +kernel
theorem D195_122 : decode (byt 195) 122 = .ok (.ireturn, 1) := by decide +kernel
theorem D196_0 : decode (byt 196) 0 = .ok (.aload_n 0, 1) := by decide +kernel
theorem D196_1 : decode (byt 196) 1 = .ok (.getfield 7, 3) := by decide +kernel
theorem D196_4 : decode (byt 196) 4 = .ok (.iconst 0, 1) := by decide +kernel
theorem D196_5 : decode (byt 196) 5 = .ok (.iaload, 1) := by decide +kernel
theorem D196_6 : decode (byt 196) 6 = .ok (.aload_n 0, 1) := by decide +kernel
theorem D196_7 : decode (byt 196) 7 = .ok (.getfield 7, 3) := by decide +kernel
theorem D196_10 : decode (byt 196) 10 = .ok (.iconst 1, 1) := by decide +kernel
theorem D196_11 : decode (byt 196) 11 = .ok (.iaload, 1) := by decide +kernel
theorem D196_12 : decode (byt 196) 12 = .ok (.if_icmp .eq 10, 3) := by decide +kernel
theorem D196_15 : decode (byt 196) 15 = .ok (.aload_n 0, 1) := by decide +kernel
theorem D196_16 : decode (byt 196) 16 = .ok (.bipush (-7), 2) := by decide +kernel
theorem D196_18 : decode (byt 196) 18 = .ok (.invokevirtual 154, 3) := by decide +kernel
theorem D196_21 : decode (byt 196) 21 = .ok (.ireturn, 1) := by decide +kernel
theorem D196_22 : decode (byt 196) 22 = .ok (.aload_n 0, 1) := by decide +kernel
theorem D196_23 : decode (byt 196) 23 = .ok (.getfield 16, 3) := by decide +kernel
theorem D196_26 : decode (byt 196) 26 = .ok (.iconst 0, 1) := by decide +kernel
theorem D196_27 : decode (byt 196) 27 = .ok (.iaload, 1) := by decide +kernel
theorem D196_28 : decode (byt 196) 28 = .ok (.aload_n 0, 1) := by decide +kernel
theorem D196_29 : decode (byt 196) 29 = .ok (.getfield 16, 3) := by decide +kernel
theorem D196_32 : decode (byt 196) 32 = .ok (.iconst 1, 1) := by decide +kernel
theorem D196_33 : decode (byt 196) 33 = .ok (.iaload, 1) := by decide +kernel
theorem D196_34 : decode (byt 196) 34 = .ok (.iadd, 1) := by decide +kernel
theorem D196_35 : decode (byt 196) 35 = .ok (.bipush 40, 2) := by decide +kernel
theorem D196_37 : decode (byt 196) 37 = .ok (.if_icmp .le 10, 3) := by decide +kernel
theorem D196_40 : decode (byt 196) 40 = .ok (.aload_n 0, 1) := by decide +kernel
theorem D196_41 : decode (byt 196) 41 = .ok (.bipush (-8), 2) := by decide +kernel
theorem D196_43 : decode (byt 196) 43 = .ok (.invokevirtual 154, 3) := by decide +kernel
theorem D196_46 : decode (byt 196) 46 = .ok (.ireturn, 1) := by decide +kernel
theorem D196_47 : decode (byt 196) 47 = .ok (.iconst 0, 1) := by decide +kernel
theorem D196_48 : decode (byt 196) 48 = .ok (.istore_n 1, 1) := by decide +kernel
theorem D196_49 : decode (byt 196) 49 = .ok (.iload_n 1, 1) := by decide +kernel
theorem D196_50 : decode (byt 196) 50 = .ok (.aload_n 0, 1) := by decide +kernel
theorem D196_51 : decode (byt 196) 51 = .ok (.getfield 16, 3) := by decide +kernel
theorem D196_54 : decode (byt 196) 54 = .ok (.iconst 1, 1) := by decide +kernel
theorem D196_55 : decode (byt 196) 55 = .ok (.iaload, 1) := by decide +kernel
theorem D196_56 : decode (byt 196) 56 = .ok (.if_icmp .ge 46, 3) := by decide +kernel
theorem D196_59 : decode (byt 196) 59 = .ok (.aload_n 0, 1) := by decide +kernel
theorem D196_60 : decode (byt 196) 60 = .ok (.getfield 13, 3) := by decide +kernel
theorem D196_63 : decode (byt 196) 63 = .ok (.aload_n 0, 1) := by decide +kernel
theorem D196_64 : decode (byt 196) 64 = .ok (.getfield 16, 3) := by decide +kernel
theorem D196_67 : decode (byt 196) 67 = .ok (.iconst 0, 1) := by decide +kernel
theorem D196_68 : decode (byt 196) 68 = .ok (.iaload, 1) := by decide +kernel
theorem D196_69 : decode (byt 196) 69 = .ok (.aload_n 0, 1) := by decide +kernel
theorem D196_70 : decode (byt 196) 70 = .ok (.getfield 13, 3) := by decide +kernel
theorem D196_73 : decode (byt 196) 73 = .ok (.bipush 40, 2) := by decide +kernel
theorem D196_75 : decode (byt 196) 75 = .ok (.iload_n 1, 1) := by decide +kernel
theorem D196_76 : decode (byt 196) 76 = .ok (.iadd, 1) := by decide +kernel
theorem D196_77 : decode (byt 196) 77 = .ok (.iaload, 1) := by decide +kernel
theorem D196_78 : decode (byt 196) 78 = .ok (.iastore, 1) := by decide +kernel
theorem D196_79 : decode (byt 196) 79 = .ok (.aload_n 0, 1) := by decide +kernel
theorem D196_80 : decode (byt 196) 80 = .ok (.getfield 16, 3) := by decide +kernel
theorem D196_83 : decode (byt 196) 83 = .ok (.iconst 0, 1) := by decide +kernel
theorem D196_84 : decode (byt 196) 84 = .ok (.dup2, 1) := by decide +kernel
theorem D196_85 : decode (byt 196) 85 = .ok (.iaload, 1) := by decide +kernel
theorem D196_86 : decode (byt 196) 86 = .ok (.iconst 1, 1) := by decide +kernel
theorem D196_87 : decode (byt 196) 87 = .ok (.iadd, 1) := by decide +kernel
theorem D196_88 : decode (byt 196) 88 = .ok (.iastore, 1) := by decide +kernel
theorem D196_89 : decode (byt 196) 89 = .ok (.aload_n 0, 1) := by decide +kernel
theorem D196_90 : decode (byt 196) 90 = .ok (.getfield 34, 3) := by decide +kernel
theorem D196_93 : decode (byt 196) 93 = .ok (.iconst 0, 1) := by decide +kernel
theorem D196_94 : decode (byt 196) 94 = .ok (.iconst 0, 1) := by decide +kernel
theorem D196_95 : decode (byt 196) 95 = .ok (.iastore, 1) := by decide +kernel
theorem D196_96 : decode (byt 196) 96 = .ok (.iinc 1 1, 3) := by decide +kernel
theorem D196_99 : decode (byt 196) 99 = .ok (.goto (-50), 3) := by decide +kernel
theorem D196_102 : decode (byt 196) 102 = .ok (.aload_n 0, 1) := by decide +kernel
theorem D196_103 : decode (byt 196) 103 = .ok (.getfield 16, 3) := by decide +kernel
theorem D196_106 : decode (byt 196) 106 = .ok (.iconst 0, 1) := by decide +kernel
theorem D196_107 : decode (byt 196) 107 = .ok (.iaload, 1) := by decide +kernel
theorem D196_108 : decode (byt 196) 108 = .ok (.ireturn, 1) := by decide +kernel
theorem D197_0 : decode (byt 197) 0 = .ok (.iload_n 1, 1) := by decide +kernel
theorem D197_1 : decode (byt 197) 1 = .ok (.invokestatic 150, 3) := by decide +kernel
theorem D197_4 : decode (byt 197) 4 = .ok (.ifCond .eq 21, 3) := by decide +kernel
theorem D197_7 : decode (byt 197) 7 = .ok (.iload_n 2, 1) := by decide +kernel
theorem D197_8 : decode (byt 197) 8 = .ok (.i2l, 1) := by decide +kernel
theorem D197_9 : decode (byt 197) 9 = .ok (.lconst 0, 1) := by decide +kernel
theorem D197_10 : decode (byt 197) 10 = .ok (.aload_n 0, 1) := by decide +kernel
theorem D197_11 : decode (byt 197) 11 = .ok (.getfield 16, 3) := by decide +kernel
theorem D197_14 : decode (byt 197) 14 = .ok (.iload_n 1, 1) := by decide +kernel
theorem D197_15 : decode (byt 197) 15 = .ok (.iaload, 1) := by decide +kernel
theorem D197_16 : decode (byt 197) 16 = .ok (.iconst 1, 1) := by decide +kernel
theorem D197_17 : decode (byt 197) 17 = .ok (.isub, 1) := by decide +kernel
theorem D197_18 : decode (byt 197) 18 = .ok (.i2l, 1) := by decide +kernel
theorem D197_19 : decode (byt 197) 19 = .ok (.invokestatic 146, 3) := by decide +kernel
theorem D197_22 : decode (byt 197) 22 = .ok (.ifCond .ne 10, 3) := by decide +kernel
theorem D197_25 : decode (byt 197) 25 = .ok (.aload_n 0, 1) := by decide +kernel
theorem D197_26 : decode (byt 197) 26 = .ok (.bipush (-3), 2) := by decide +kernel
theorem D197_28 : decode (byt 197) 28 = .ok (.invokevirtual 154, 3) := by decide +kernel
theorem D197_31 : decode (byt 197) 31 = .ok (.ireturn, 1) := by decide +kernel
theorem D197_32 : decode (byt 197) 32 = .ok (.aload_n 0, 1) := by decide +kernel
theorem D197_33 : decode (byt 197) 33 = .ok (.iconst 0, 1) := by decide +kernel
theorem D197_34 : decode (byt 197) 34 = .ok (.putfield 143, 3) := by decide +kernel
theorem D197_37 : decode (byt 197) 37 = .ok (.aload_n 0, 1) := by decide +kernel
theorem D197_38 : decode (byt 197) 38 = .ok (.getfield 13, 3) := by decide +kernel
theorem D197_41 : decode (byt 197) 41 = .ok (.bipush 40, 2) := by decide +kernel
theorem D197_43 : decode (byt 197) 43 = .ok (.iload_n 1, 1) := by decide +kernel
theorem D197_44 : decode (byt 197) 44 = .ok (.imul, 1) := by decide +kernel
theorem D197_45 : decode (byt 197) 45 = .ok (.iload_n 2, 1) := by decide +kernel
theorem D197_46 : decode (byt 197) 46 = .ok (.iadd, 1) := by decide +kernel
theorem D197_47 : decode (byt 197) 47 = .ok (.iaload, 1) := by decide +kernel
theorem D197_48 : decode (byt 197) 48 = .ok (.istore_n 3, 1) := by decide +kernel
theorem D197_49 : decode (byt 197) 49 = .ok (.iconst 1, 1) := by decide +kernel
theorem D197_50 : decode (byt 197) 50 = .ok (.istore 4, 2) := by decide +kernel
theorem D197_52 : decode (byt 197) 52 = .ok (.iload 4, 2) := by decide +kernel
theorem D197_54 : decode (byt 197) 54 = .ok (.bipush 12, 2) := by decide +kernel
theorem D197_56 : decode (byt 197) 56 = .ok (.if_icmp .gt 66, 3) := by decide +kernel
theorem D197_59 : decode (byt 197) 59 = .ok (.iload_n 3, 1) := by decide +kernel
theorem D197_60 : decode (byt 197) 60 = .ok (.iload 4, 2) := by decide +kernel
theorem D197_62 : decode (byt 197) 62 = .ok (.invokestatic 170, 3) := by decide +kernel
theorem D197_65 : decode (byt 197) 65 = .ok (.iload 4, 2) := by decide +kernel
theorem D197_67 : decode (byt 197) 67 = .ok (.ineg, 1) := by decide +kernel
theorem D197_68 : decode (byt 197) 68 = .ok (.invokestatic 170, 3) := by decide +kernel
theorem D197_71 : decode (byt 197) 71 = .ok (.ior, 1) := by decide +kernel
theorem D197_72 : decode (byt 197) 72 = .ok (.iand, 1) := by decide +kernel
theorem D197_73 : decode (byt 197) 73 = .ok (.ifCond .ne 6, 3) := by decide +kernel
theorem D197_76 : decode (byt 197) 76 = .ok (.goto 40, 3) := by decide +kernel
theorem D197_79 : decode (byt 197) 79 = .ok (.aload_n 0, 1) := by decide +kernel
theorem D197_80 : decode (byt 197) 80 = .ok (.getfield 137, 3) := by decide +kernel
theorem D197_83 : decode (byt 197) 83 = .ok (.aload_n 0, 1) := by decide +kernel
theorem D197_84 : decode (byt 197) 84 = .ok (.getfield 143, 3) := by decide +kernel
theorem D197_87 : decode (byt 197) 87 = .ok (.iload_n 3, 1) := by decide +kernel
theorem D197_88 : decode (byt 197) 88 = .ok (.iload 4, 2) := by decide +kernel
theorem D197_90 : decode (byt 197) 90 = .ok (.invokestatic 170, 3) := by decide +kernel
theorem D197_93 : decode (byt 197) 93 = .ok (.iand, 1) := by decide +kernel
theorem D197_94 : decode (byt 197) 94 = .ok (.ifCond .eq 8, 3) := by decide +kernel
theorem D197_97 : decode (byt 197) 97 = .ok (.iload 4, 2) := by decide +kernel
theorem D197_99 : decode (byt 197) 99 = .ok (.goto 6, 3) := by decide +kernel
theorem D197_102 : decode (byt 197) 102 = .ok (.iload 4, 2) := by decide +kernel
theorem D197_104 : decode (byt 197) 104 = .ok (.ineg, 1) := by decide +kernel
theorem D197_105 : decode (byt 197) 105 = .ok (.iastore, 1) := by decide +kernel
theorem D197_106 : decode (byt 197) 106 = .ok (.aload_n 0, 1) := by decide +kernel
theorem D197_107 : decode (byt 197) 107 = .ok (.dup, 1) := by decide +kernel
theorem D197_108 : decode (byt 197) 108 = .ok (.getfield 143, 3) := by decide +kernel
theorem D197_111 : decode (byt 197) 111 = .ok (.iconst 1, 1) := by decide +kernel
theorem D197_112 : decode (byt 197) 112 = .ok (.iadd, 1) := by decide +kernel
theorem D197_113 : decode (byt 197) 113 = .ok (.putfield 143, 3) := by decide +kernel
theorem D197_116 : decode (byt 197) 116 = .ok (.iinc 4 1, 3) := by decide +kernel
theorem D197_119 : decode (byt 197) 119 = .ok (.goto (-67), 3) := by decide +kernel
theorem D197_122 : decode (byt 197) 122 = .ok (.aload_n 0, 1) := by decide +kernel
theorem D197_123 : decode (byt 197) 123 = .ok (.getfield 143, 3) := by decide +kernel
theorem D197_126 : decode (byt 197) 126 = .ok (.ireturn, 1) := by decide +kernel
theorem D198_0 : decode (byt 198) 0 = .ok (.aload_n 0, 1) := by decide +kernel
theorem D198_1 : decode (byt 198) 1 = .ok (.getfield 143, 3) := by decide +kernel
theorem D198_4 : decode (byt 198) 4 = .ok (.ifCond .lt 7, 3) := by decide +kernel
theorem D198_7 : decode (byt 198) 7 = .ok (.iconst 1, 1) := by decide +kernel
theorem D198_8 : decode (byt 198) 8 = .ok (.goto 4, 3) := by decide +kernel
theorem D198_11 : decode (byt 198) 11 = .ok (.iconst 0, 1) := by decide +kernel
theorem D198_12 : decode (byt 198) 12 = .ok (.istore_n 1, 1) := by decide +kernel
theorem D198_13 : decode (byt 198) 13 = .ok (.aload_n 0, 1) := by decide +kernel
theorem D198_14 : decode (byt 198) 14 = .ok (.iconst (-1), 1) := by decide +kernel
theorem D198_15 : decode (byt 198) 15 = .ok (.putfield 143, 3) := by decide +kernel
theorem D198_18 : decode (byt 198) 18 = .ok (.iload_n 1, 1) := by decide +kernel
theorem D198_19 : decode (byt 198) 19 = .ok (.ireturn, 1) := by decide +kernel
theorem D199_0 : decode (byt 199) 0 = .ok (.aload_n 0, 1) := by decide +kernel
theorem D199_1 : decode (byt 199) 1 = .ok (.getfield 143, 3) := by decide +kernel
theorem D199_4 : decode (byt 199) 4 = .ok (.ifCond .lt 26, 3) := by decide +kernel
theorem D199_7 : decode (byt 199) 7 = .ok (.iload_n 1, 1) := by decide +kernel
theorem D199_8 : decode (byt 199) 8 = .ok (.i2l, 1) := by decide +kernel
theorem D199_9 : decode (byt 199) 9 = .ok (.lconst 0, 1) := by decide +kernel
theorem D199_10 : decode (byt 199) 10 = .ok (.aload_n 0, 1) := by decide +kernel
theorem D199_11 : decode (byt 199) 11 = .ok (.getfield 143, 3) := by decide +kernel
theorem D199_14 : decode (byt 199) 14 = .ok (.iconst 1, 1) := by decide +kernel
theorem D199_15 : decode (byt 199) 15 = .ok (.isub, 1) := by decide +kernel
theorem D199_16 : decode (byt 199) 16 = .ok (.i2l, 1) := by decide +kernel
theorem D199_17 : decode (byt 199) 17 = .ok (.invokestatic 146, 3) := by decide +kernel
theorem D199_20 : decode (byt 199) 20 = .ok (.ifCond .eq 10, 3) := by decide +kernel
theorem D199_23 : decode (byt 199) 23 = .ok (.aload_n 0, 1) := by decide +kernel
theorem D199_24 : decode (byt 199) 24 = .ok (.getfield 137, 3) := by decide +kernel
theorem D199_27 : decode (byt 199) 27 = .ok (.iload_n 1, 1) := by decide +kernel
theorem D199_28 : decode (byt 199) 28 = .ok (.iaload, 1) := by decide +kernel
theorem D199_29 : decode (byt 199) 29 = .ok (.ireturn, 1) := by decide +kernel
theorem D199_30 : decode (byt 199) 30 = .ok (.aload_n 0, 1) := by decide +kernel
theorem D199_31 : decode (byt 199) 31 = .ok (.aload_n 0, 1) := by decide +kernel
theorem D199_32 : decode (byt 199) 32 = .ok (.getfield 143, 3) := by decide +kernel
theorem D199_35 : decode (byt 199) 35 = .ok (.ifCond .ge 8, 3) := by decide +kernel
theorem D199_38 : decode (byt 199) 38 = .ok (.bipush (-2), 2) := by decide +kernel
theorem D199_40 : decode (byt 199) 40 = .ok (.goto 5, 3) := by decide +kernel
theorem D199_43 : decode (byt 199) 43 = .ok (.bipush (-3), 2) := by decide +kernel
theorem D199_45 : decode (byt 199) 45 = .ok (.invokevirtual 154, 3) := by decide +kernel
theorem D199_48 : decode (byt 199) 48 = .ok (.istore_n 2, 1) := by decide +kernel
theorem D199_49 : decode (byt 199) 49 = .ok (.iconst 0, 1) := by decide +kernel
theorem D199_50 : decode (byt 199) 50 = .ok (.ireturn, 1) := by decide +kernel
theorem D200_0 : decode (byt 200) 0 = .ok (.aload_n 0, 1) := by decide +kernel
theorem D200_1 : decode (byt 200) 1 = .ok (.getfield 143, 3) := by decide +kernel
theorem D200_4 : decode (byt 200) 4 = .ok (.ifCond .ge 10, 3) := by decide +kernel
theorem D200_7 : decode (byt 200) 7 = .ok (.aload_n 0, 1) := by decide +kernel
theorem D200_8 : decode (byt 200) 8 = .ok (.bipush (-2), 2) := by decide +kernel
theorem D200_10 : decode (byt 200) 10 = .ok (.invokevirtual 154, 3) := by decide +kernel
theorem D200_13 : decode (byt 200) 13 = .ok (.ireturn, 1) := by decide +kernel
theorem D200_14 : decode (byt 200) 14 = .ok (.iload_n 3, 1) := by decide +kernel
theorem D200_15 : decode (byt 200) 15 = .ok (.ifCond .ge 10, 3) := by decide +kernel
theorem D200_18 : decode (byt 200) 18 = .ok (.aload_n 0, 1) := by decide +kernel
theorem D200_19 : decode (byt 200) 19 = .ok (.bipush (-4), 2) := by decide +kernel
theorem D200_21 : decode (byt 200) 21 = .ok (.invokevirtual 154, 3) := by decide +kernel
theorem D200_24 : decode (byt 200) 24 = .ok (.ireturn, 1) := by decide +kernel
theorem D200_25 : decode (byt 200) 25 = .ok (.iload_n 1, 1) := by decide +kernel
theorem D200_26 : decode (byt 200) 26 = .ok (.ifCond .lt 35, 3) := by decide +kernel
theorem D200_29 : decode (byt 200) 29 = .ok (.iload_n 2, 1) := by decide +kernel
theorem D200_30 : decode (byt 200) 30 = .ok (.ifCond .lt 31, 3) := by decide +kernel
theorem D200_33 : decode (byt 200) 33 = .ok (.iload_n 1, 1) := by decide +kernel
theorem D200_34 : decode (byt 200) 34 = .ok (.i2l, 1) := by decide +kernel
theorem D200_35 : decode (byt 200) 35 = .ok (.iload_n 3, 1) := by decide +kernel
theorem D200_36 : decode (byt 200) 36 = .ok (.i2l, 1) := by decide +kernel
theorem D200_37 : decode (byt 200) 37 = .ok (.ladd, 1) := by decide +kernel
theorem D200_38 : decode (byt 200) 38 = .ok (.aload_n 0, 1) := by decide +kernel
theorem D200_39 : decode (byt 200) 39 = .ok (.getfield 143, 3) := by decide +kernel
theorem D200_42 : decode (byt 200) 42 = .ok (.i2l, 1) := by decide +kernel
theorem D200_43 : decode (byt 200) 43 = .ok (.lcmp, 1) := by decide +kernel
theorem D200_44 : decode (byt 200) 44 = .ok (.ifCond .gt 17, 3) := by decide +kernel
theorem D200_47 : decode (byt 200) 47 = .ok (.iload_n 2, 1) := by decide +kernel
theorem D200_48 : decode (byt 200) 48 = .ok (.i2l, 1) := by decide +kernel
theorem D200_49 : decode (byt 200) 49 = .ok (.iload_n 3, 1) := by decide +kernel
theorem D200_50 : decode (byt 200) 50 = .ok (.i2l, 1) := by decide +kernel
theorem D200_51 : decode (byt 200) 51 = .ok (.ladd, 1) := by decide +kernel
theorem D200_52 : decode (byt 200) 52 = .ok (.aload_n 0, 1) := by decide +kernel
theorem D200_53 : decode (byt 200) 53 = .ok (.getfield 143, 3) := by decide +kernel
theorem D200_56 : decode (byt 200) 56 = .ok (.i2l, 1) := by decide +kernel
theorem D200_57 : decode (byt 200) 57 = .ok (.lcmp, 1) := by decide +kernel
theorem D200_58 : decode (byt 200) 58 = .ok (.ifCond .le 10, 3) := by decide +kernel
theorem D200_61 : decode (byt 200) 61 = .ok (.aload_n 0, 1) := by decide +kernel
theorem D200_62 : decode (byt 200) 62 = .ok (.bipush (-6), 2) := by decide +kernel
theorem D200_64 : decode (byt 200) 64 = .ok (.invokevirtual 154, 3) := by decide +kernel
theorem D200_67 : decode (byt 200) 67 = .ok (.ireturn, 1) := by decide +kernel
theorem D200_68 : decode (byt 200) 68 = .ok (.iconst 0, 1) := by decide +kernel
theorem D200_69 : decode (byt 200) 69 = .ok (.istore 4, 2) := by decide +kernel
theorem D200_71 : decode (byt 200) 71 = .ok (.iload 4, 2) := by decide +kernel
theorem D200_73 : decode (byt 200) 73 = .ok (.iload_n 3, 1) := by decide +kernel
theorem D200_74 : decode (byt 200) 74 = .ok (.if_icmp .ge 25, 3) := by decide +kernel
theorem D200_77 : decode (byt 200) 77 = .ok (.aload_n 0, 1) := by decide +kernel
theorem D200_78 : decode (byt 200) 78 = .ok (.getfield 140, 3) := by decide +kernel
theorem D200_81 : decode (byt 200) 81 = .ok (.iload 4, 2) := by decide +kernel
theorem D200_83 : decode (byt 200) 83 = .ok (.aload_n 0, 1) := by decide +kernel
theorem D200_84 : decode (byt 200) 84 = .ok (.getfield 137, 3) := by decide +kernel
theorem D200_87 : decode (byt 200) 87 = .ok (.iload_n 1, 1) := by decide +kernel
theorem D200_88 : decode (byt 200) 88 = .ok (.iload 4, 2) := by decide +kernel
theorem D200_90 : decode (byt 200) 90 = .ok (.iadd, 1) := by decide +kernel
theorem D200_91 : decode (byt 200) 91 = .ok (.iaload, 1) := by decide +kernel
theorem D200_92 : decode (byt 200) 92 = .ok (.iastore, 1) := by decide +kernel
theorem D200_93 : decode (byt 200) 93 = .ok (.iinc 4 1, 3) := by decide +kernel
theorem D200_96 : decode (byt 200) 96 = .ok (.goto (-25), 3) := by decide +kernel
theorem D200_99 : decode (byt 200) 99 = .ok (.iconst 0, 1) := by decide +kernel
theorem D200_100 : decode (byt 200) 100 = .ok (.istore 4, 2) := by decide +kernel
theorem D200_102 : decode (byt 200) 102 = .ok (.iload 4, 2) := by decide +kernel
theorem D200_104 : decode (byt 200) 104 = .ok (.iload_n 3, 1) := by decide +kernel
theorem D200_105 : decode (byt 200) 105 = .ok (.if_icmp .ge 25, 3) := by decide +kernel
theorem D200_108 : decode (byt 200) 108 = .ok (.aload_n 0, 1) := by decide +kernel
theorem D200_109 : decode (byt 200) 109 = .ok (.getfield 137, 3) := by decide +kernel
theorem D200_112 : decode (byt 200) 112 = .ok (.iload_n 2, 1) := by decide +kernel
theorem D200_113 : decode (byt 200) 113 = .ok (.iload 4, 2) := by decide +kernel
theorem D200_115 : decode (byt 200) 115 = .ok (.iadd, 1) := by decide +kernel
theorem D200_116 : decode (byt 200) 116 = .ok (.aload_n 0, 1) := by decide +kernel
theorem D200_117 : decode (byt 200) 117 = .ok (.getfield 140, 3) := by decide +kernel
theorem D200_120 : decode (byt 200) 120 = .ok (.iload 4, 2) := by decide +kernel
theorem D200_122 : decode (byt 200) 122 = .ok (.iaload, 1) := by decide +kernel
theorem D200_123 : decode (byt 200) 123 = .ok (.iastore, 1) := by decide +kernel
theorem D200_124 : decode (byt 200) 124 = .ok (.iinc 4 1, 3) := by decide +kernel
theorem D200_127 : decode (byt 200) 127 = .ok (.goto (-25), 3) := by decide +kernel
theorem D200_130 : decode (byt 200) 130 = .ok (.iload_n 3, 1) := by decide +kernel
theorem D200_131 : decode (byt 200) 131 = .ok (.ireturn, 1) := by decide +kernel
theorem D201_0 : decode (byt 201) 0 = .ok (.iload_n 1, 1) := by decide +kernel
theorem D201_1 : decode (byt 201) 1 = .ok (.invokestatic 150, 3) := by decide +kernel
theorem D201_4 : decode (byt 201) 4 = .ok (.ifCond .ne 10, 3) := by decide +kernel
theorem D201_7 : decode (byt 201) 7 = .ok (.aload_n 0, 1) := by decide +kernel
theorem D201_8 : decode (byt 201) 8 = .ok (.bipush (-3), 2) := by decide +kernel
theorem D201_10 : decode (byt 201) 10 = .ok (.invokevirtual 154, 3) := by decide +kernel
theorem D201_13 : decode (byt 201) 13 = .ok (.ireturn, 1) := by decide +kernel
theorem D201_14 : decode (byt 201) 14 = .ok (.aload_n 0, 1) := by decide +kernel
theorem D201_15 : decode (byt 201) 15 = .ok (.getfield 143, 3) := by decide +kernel
theorem D201_18 : decode (byt 201) 18 = .ok (.ifCond .ge 10, 3) := by decide +kernel
theorem D201_21 : decode (byt 201) 21 = .ok (.aload_n 0, 1) := by decide +kernel
theorem D201_22 : decode (byt 201) 22 = .ok (.bipush (-2), 2) := by decide +kernel
theorem D201_24 : decode (byt 201) 24 = .ok (.invokevirtual 154, 3) := by decide +kernel
theorem D201_27 : decode (byt 201) 27 = .ok (.ireturn, 1) := by decide +kernel
theorem D201_28 : decode (byt 201) 28 = .ok (.iconst 0, 1) := by decide +kernel
theorem D201_29 : decode (byt 201) 29 = .ok (.istore_n 2, 1) := by decide +kernel
theorem D201_30 : decode (byt 201) 30 = .ok (.iconst 0, 1) := by decide +kernel
theorem D201_31 : decode (byt 201) 31 = .ok (.istore_n 3, 1) := by decide +kernel
theorem D201_32 : decode (byt 201) 32 = .ok (.iload_n 3, 1) := by decide +kernel
theorem D201_33 : decode (byt 201) 33 = .ok (.aload_n 0, 1) := by decide +kernel
theorem D201_34 : decode (byt 201) 34 = .ok (.getfield 143, 3) := by decide +kernel
theorem D201_37 : decode (byt 201) 37 = .ok (.if_icmp .ge 42, 3) := by decide +kernel
theorem D201_40 : decode (byt 201) 40 = .ok (.aload_n 0, 1) := by decide +kernel
theorem D201_41 : decode (byt 201) 41 = .ok (.iload_n 1, 1) := by decide +kernel
theorem D201_42 : decode (byt 201) 42 = .ok (.aload_n 0, 1) := by decide +kernel
theorem D201_43 : decode (byt 201) 43 = .ok (.getfield 137, 3) := by decide +kernel
theorem D201_46 : decode (byt 201) 46 = .ok (.iload_n 3, 1) := by decide +kernel
theorem D201_47 : decode (byt 201) 47 = .ok (.iaload, 1) := by decide +kernel
theorem D201_48 : decode (byt 201) 48 = .ok (.invokevirtual 163, 3) := by decide +kernel
theorem D201_51 : decode (byt 201) 51 = .ok (.ifCond .ne 10, 3) := by decide +kernel
theorem D201_54 : decode (byt 201) 54 = .ok (.aload_n 0, 1) := by decide +kernel
theorem D201_55 : decode (byt 201) 55 = .ok (.bipush (-3), 2) := by decide +kernel
theorem D201_57 : decode (byt 201) 57 = .ok (.invokevirtual 154, 3) := by decide +kernel
theorem D201_60 : decode (byt 201) 60 = .ok (.ireturn, 1) := by decide +kernel
theorem D201_61 : decode (byt 201) 61 = .ok (.iload_n 2, 1) := by decide +kernel
theorem D201_62 : decode (byt 201) 62 = .ok (.aload_n 0, 1) := by decide +kernel
theorem D201_63 : decode (byt 201) 63 = .ok (.getfield 137, 3) := by decide +kernel
theorem D201_66 : decode (byt 201) 66 = .ok (.iload_n 3, 1) := by decide +kernel
theorem D201_67 : decode (byt 201) 67 = .ok (.iaload, 1) := by decide +kernel
theorem D201_68 : decode (byt 201) 68 = .ok (.invokestatic 170, 3) := by decide +kernel
theorem D201_71 : decode (byt 201) 71 = .ok (.ior, 1) := by decide +kernel
theorem D201_72 : decode (byt 201) 72 = .ok (.istore_n 2, 1) := by decide +kernel
theorem D201_73 : decode (byt 201) 73 = .ok (.iinc 3 1, 3) := by decide +kernel
theorem D201_76 : decode (byt 201) 76 = .ok (.goto (-44), 3) := by decide +kernel
theorem D201_79 : decode (byt 201) 79 = .ok (.aload_n 0, 1) := by decide +kernel
theorem D201_80 : decode (byt 201) 80 = .ok (.iload_n 1, 1) := by decide +kernel
theorem D201_81 : decode (byt 201) 81 = .ok (.iload_n 2, 1) := by decide +kernel
theorem D201_82 : decode (byt 201) 82 = .ok (.invokevirtual 173, 3) := by decide +kernel
theorem D201_85 : decode (byt 201) 85 = .ok (.ireturn, 1) := by decide +kernel
theorem D202_0 : decode (byt 202) 0 = .ok (.iload_n 1, 1) := by decide +kernel
theorem D202_1 : decode (byt 202) 1 = .ok (.i2l, 1) := by decide +kernel
theorem D202_2 : decode (byt 202) 2 = .ok (.ldc2_w 312, 3) := by decide +kernel
theorem D202_5 : decode (byt 202) 5 = .ok (.ldc2_w 314, 3) := by decide +kernel
theorem D202_8 : decode (byt 202) 8 = .ok (.invokestatic 146, 3) := by decide +kernel
theorem D202_11 : decode (byt 202) 11 = .ok (.ifCond .eq 13, 3) := by decide +kernel
theorem D202_14 : decode (byt 202) 14 = .ok (.aload_n 0, 1) := by decide +kernel
theorem D202_15 : decode (byt 202) 15 = .ok (.getfield 31, 3) := by decide +kernel
theorem D202_18 : decode (byt 202) 18 = .ok (.iload_n 1, 1) := by decide +kernel
theorem D202_19 : decode (byt 202) 19 = .ok (.ineg, 1) := by decide +kernel
theorem D202_20 : decode (byt 202) 20 = .ok (.iaload, 1) := by decide +kernel
theorem D202_21 : decode (byt 202) 21 = .ok (.goto 9, 3) := by decide +kernel
theorem D202_24 : decode (byt 202) 24 = .ok (.aload_n 0, 1) := by decide +kernel
theorem D202_25 : decode (byt 202) 25 = .ok (.bipush (-7), 2) := by decide +kernel
theorem D202_27 : decode (byt 202) 27 = .ok (.invokevirtual 154, 3) := by decide +kernel
theorem D202_30 : decode (byt 202) 30 = .ok (.ireturn, 1) := by decide +kernel
end
section
theorem D208_0 : decode (byt 208) 0 = .ok (.new 7, 3) := by decide +kernel
theorem D208_3 : decode (byt 208) 3 = .ok (.dup, 1) := by decide +kernel
theorem D208_4 : decode (byt 208) 4 = .ok (.invokespecial 9, 3) := by decide +kernel
theorem D208_7 : decode (byt 208) 7 = .ok (.astore_n 1, 1) := by decide +kernel
theorem D208_8 : decode (byt 208) 8 = .ok (.new 10, 3) := by decide +kernel
theorem D208_11 : decode (byt 208) 11 = .ok (.dup, 1) := by decide +kernel
theorem D208_12 : decode (byt 208) 12 = .ok (.invokespecial 12, 3) := by decide +kernel
theorem D208_15 : decode (byt 208) 15 = .ok (.astore_n 2, 1) := by decide +kernel
theorem D208_16 : decode (byt 208) 16 = .ok (.iconst 0, 1) := by decide +kernel
theorem D208_17 : decode (byt 208) 17 = .ok (.istore_n 3, 1) := by decide +kernel
theorem D208_18 : decode (byt 208) 18 = .ok (.iload_n 3, 1) := by decide +kernel
theorem D208_19 : decode (byt 208) 19 = .ok (.aload_n 0, 1) := by decide +kernel
theorem D208_20 : decode (byt 208) 20 = .ok (.arraylength, 1) := by decide +kernel
theorem D208_21 : decode (byt 208) 21 = .ok (.bipush 6, 2) := by decide +kernel
theorem D208_23 : decode (byt 208) 23 = .ok (.isub, 1) := by decide +kernel
theorem D208_24 : decode (byt 208) 24 = .ok (.if_icmp .gt 1332, 3) := by decide +kernel
theorem D208_27 : decode (byt 208) 27 = .ok (.aload_n 0, 1) := by decide +kernel
theorem D208_28 : decode (byt 208) 28 = .ok (.iload_n 3, 1) := by decide +kernel
theorem D208_29 : decode (byt 208) 29 = .ok (.iaload, 1) := by decide +kernel
theorem D208_30 : decode (byt 208) 30 = .ok (.bipush 63, 2) := by decide +kernel
theorem D208_32 : decode (byt 208) 32 = .ok (.iand, 1) := by decide +kernel
theorem D208_33 : decode (byt 208) 33 = .ok (.tableswitch 1317 0 34 #[155, 188, 251, 284, 307, 366, 399, 432, 475, 508, 531, 554, 597, 640, 693, 716, 729, 752, 785, 809, 869, 902, 935, 968, 1001, 1050, 1084, 1107, 1146, 1159, 1192, 1205, 1228, 1271, 1294], 155) := by decide +kernel
theorem D208_188 : decode (byt 208) 188 = .ok (.aload_n 1, 1) := by decide +kernel
theorem D208_189 : decode (byt 208) 189 = .ok (.aload_n 0, 1) := by decide +kernel
theorem D208_190 : decode (byt 208) 190 = .ok (.iload_n 3, 1) := by decide +kernel
theorem D208_191 : decode (byt 208) 191 = .ok (.iconst 1, 1) := by decide +kernel
theorem D208_192 : decode (byt 208) 192 = .ok (.iadd, 1) := by decide +kernel
theorem D208_193 : decode (byt 208) 193 = .ok (.iaload, 1) := by decide +kernel
theorem D208_194 : decode (byt 208) 194 = .ok (.aload_n 0, 1) := by decide +kernel
theorem D208_195 : decode (byt 208) 195 = .ok (.iload_n 3, 1) := by decide +kernel
theorem D208_196 : decode (byt 208) 196 = .ok (.iconst 2, 1) := by decide +kernel
theorem D208_197 : decode (byt 208) 197 = .ok (.iadd, 1) := by decide +kernel
theorem D208_198 : decode (byt 208) 198 = .ok (.iaload, 1) := by decide +kernel
theorem D208_199 : decode (byt 208) 199 = .ok (.invokevirtual 13, 3) := by decide +kernel
theorem D208_202 : decode (byt 208) 202 = .ok (.aload_n 2, 1) := by decide +kernel
theorem D208_203 : decode (byt 208) 203 = .ok (.aload_n 0, 1) := by decide +kernel
theorem D208_204 : decode (byt 208) 204 = .ok (.iload_n 3, 1) := by decide +kernel
theorem D208_205 : decode (byt 208) 205 = .ok (.iconst 1, 1) := by decide +kernel
theorem D208_206 : decode (byt 208) 206 = .ok (.iadd, 1) := by decide +kernel
theorem D208_207 : decode (byt 208) 207 = .ok (.iaload, 1) := by decide +kernel
theorem D208_208 : decode (byt 208) 208 = .ok (.aload_n 0, 1) := by decide +kernel
theorem D208_209 : decode (byt 208) 209 = .ok (.iload_n 3, 1) := by decide +kernel
theorem D208_210 : decode (byt 208) 210 = .ok (.iconst 2, 1) := by decide +kernel
theorem D208_211 : decode (byt 208) 211 = .ok (.iadd, 1) := by decide +kernel
theorem D208_212 : decode (byt 208) 212 = .ok (.iaload, 1) := by decide +kernel
theorem D208_213 : decode (byt 208) 213 = .ok (.invokevirtual 17, 3) := by decide +kernel
theorem D208_216 : decode (byt 208) 216 = .ok (.if_icmp .eq 1134, 3) := by decide +kernel
theorem D208_219 : decode (byt 208) 219 = .ok (.iconst 0, 1) := by decide +kernel
theorem D208_220 : decode (byt 208) 220 = .ok (.ireturn, 1) := by decide +kernel
theorem D208_221 : decode (byt 208) 221 = .ok (.aload_n 1, 1) := by decide +kernel
theorem D208_222 : decode (byt 208) 222 = .ok (.aload_n 0, 1) := by decide +kernel
theorem D208_223 : decode (byt 208) 223 = .ok (.iload_n 3, 1) := by decide +kernel
theorem D208_224 : decode (byt 208) 224 = .ok (.iconst 1, 1) := by decide +kernel
theorem D208_225 : decode (byt 208) 225 = .ok (.iadd, 1) := by decide +kernel
theorem D208_226 : decode (byt 208) 226 = .ok (.iaload, 1) := by decide +kernel
theorem D208_227 : decode (byt 208) 227 = .ok (.aload_n 0, 1) := by decide +kernel
theorem D208_228 : decode (byt 208) 228 = .ok (.iload_n 3, 1) := by decide +kernel
theorem D208_229 : decode (byt 208) 229 = .ok (.iconst 2, 1) := by decide +kernel
theorem D208_230 : decode (byt 208) 230 = .ok (.iadd, 1) := by decide +kernel
theorem D208_231 : decode (byt 208) 231 = .ok (.iaload, 1) := by decide +kernel
theorem D208_232 : decode (byt 208) 232 = .ok (.aload_n 0, 1) := by decide +kernel
theorem D208_233 : decode (byt 208) 233 = .ok (.iload_n 3, 1) := by decide +kernel
theorem D208_234 : decode (byt 208) 234 = .ok (.iconst 3, 1) := by decide +kernel
theorem D208_235 : decode (byt 208) 235 = .ok (.iadd, 1) := by decide +kernel
theorem D208_236 : decode (byt 208) 236 = .ok (.iaload, 1) := by decide +kernel
theorem D208_237 : decode (byt 208) 237 = .ok (.aload_n 0, 1) := by decide +kernel
theorem D208_238 : decode (byt 208) 238 = .ok (.iload_n 3, 1) := by decide +kernel
theorem D208_239 : decode (byt 208) 239 = .ok (.iconst 4, 1) := by decide +kernel
theorem D208_240 : decode (byt 208) 240 = .ok (.iadd, 1) := by decide +kernel
theorem D208_241 : decode (byt 208) 241 = .ok (.iaload, 1) := by decide +kernel
theorem D208_242 : decode (byt 208) 242 = .ok (.aload_n 0, 1) := by decide +kernel
theorem D208_243 : decode (byt 208) 243 = .ok (.iload_n 3, 1) := by decide +kernel
theorem D208_244 : decode (byt 208) 244 = .ok (.iconst 5, 1) := by decide +kernel
theorem D208_245 : decode (byt 208) 245 = .ok (.iadd, 1) := by decide +kernel
theorem D208_246 : decode (byt 208) 246 = .ok (.iaload, 1) := by decide +kernel
theorem D208_247 : decode (byt 208) 247 = .ok (.invokevirtual 18, 3) := by decide +kernel
theorem D208_250 : decode (byt 208) 250 = .ok (.aload_n 2, 1) := by decide +kernel
theorem D208_251 : decode (byt 208) 251 = .ok (.aload_n 0, 1) := by decide +kernel
theorem D208_252 : decode (byt 208) 252 = .ok (.iload_n 3, 1) := by decide +kernel
theorem D208_253 : decode (byt 208) 253 = .ok (.iconst 1, 1) := by decide +kernel
theorem D208_254 : decode (byt 208) 254 = .ok (.iadd, 1) := by decide +kernel
theorem D208_255 : decode (byt 208) 255 = .ok (.iaload, 1) := by decide +kernel
theorem D208_256 : decode (byt 208) 256 = .ok (.aload_n 0, 1) := by decide +kernel
theorem D208_257 : decode (byt 208) 257 = .ok (.iload_n 3, 1) := by decide +kernel
theorem D208_258 : decode (byt 208) 258 = .ok (.iconst 2, 1) := by decide +kernel
theorem D208_259 : decode (byt 208) 259 = .ok (.iadd, 1) := by decide +kernel
theorem D208_260 : decode (byt 208) 260 = .ok (.iaload, 1) := by decide +kernel
theorem D208_261 : decode (byt 208) 261 = .ok (.aload_n 0, 1) := by decide +kernel
theorem D208_262 : decode (byt 208) 262 = .ok (.iload_n 3, 1) := by decide +kernel
theorem D208_263 : decode (byt 208) 263 = .ok (.iconst 3, 1) := by decide +kernel
theorem D208_264 : decode (byt 208) 264 = .ok (.iadd, 1) := by decide +kernel
theorem D208_265 : decode (byt 208) 265 = .ok (.iaload, 1) := by decide +kernel
theorem D208_266 : decode (byt 208) 266 = .ok (.aload_n 0, 1) := by decide +kernel
theorem D208_267 : decode (byt 208) 267 = .ok (.iload_n 3, 1) := by decide +kernel
theorem D208_268 : decode (byt 208) 268 = .ok (.iconst 4, 1) := by decide +kernel
theorem D208_269 : decode (byt 208) 269 = .ok (.iadd, 1) := by decide +kernel
theorem D208_270 : decode (byt 208) 270 = .ok (.iaload, 1) := by decide +kernel
theorem D208_271 : decode (byt 208) 271 = .ok (.aload_n 0, 1) := by decide +kernel
theorem D208_272 : decode (byt 208) 272 = .ok (.iload_n 3, 1) := by decide +kernel
theorem D208_273 : decode (byt 208) 273 = .ok (.iconst 5, 1) := by decide +kernel
theorem D208_274 : decode (byt 208) 274 = .ok (.iadd, 1) := by decide +kernel
theorem D208_275 : decode (byt 208) 275 = .ok (.iaload, 1) := by decide +kernel
theorem D208_276 : decode (byt 208) 276 = .ok (.invokevirtual 22, 3) := by decide +kernel
theorem D208_279 : decode (byt 208) 279 = .ok (.if_icmp .eq 1071, 3) := by decide +kernel
theorem D208_282 : decode (byt 208) 282 = .ok (.iconst 0, 1) := by decide +kernel
theorem D208_283 : decode (byt 208) 283 = .ok (.ireturn, 1) := by decide +kernel
theorem D208_284 : decode (byt 208) 284 = .ok (.aload_n 1, 1) := by decide +kernel
theorem D208_285 : decode (byt 208) 285 = .ok (.aload_n 0, 1) := by decide +kernel
theorem D208_286 : decode (byt 208) 286 = .ok (.iload_n 3, 1) := by decide +kernel
theorem D208_287 : decode (byt 208) 287 = .ok (.iconst 1, 1) := by decide +kernel
theorem D208_288 : decode (byt 208) 288 = .ok (.iadd, 1) := by decide +kernel
theorem D208_289 : decode (byt 208) 289 = .ok (.iaload, 1) := by decide +kernel
theorem D208_290 : decode (byt 208) 290 = .ok (.aload_n 0, 1) := by decide +kernel
theorem D208_291 : decode (byt 208) 291 = .ok (.iload_n 3, 1) := by decide +kernel
theorem D208_292 : decode (byt 208) 292 = .ok (.iconst 2, 1) := by decide +kernel
theorem D208_293 : decode (byt 208) 293 = .ok (.iadd, 1) := by decide +kernel
theorem D208_294 : decode (byt 208) 294 = .ok (.iaload, 1) := by decide +kernel
theorem D208_295 : decode (byt 208) 295 = .ok (.invokevirtual 23, 3) := by decide +kernel
theorem D208_298 : decode (byt 208) 298 = .ok (.aload_n 2, 1) := by decide +kernel
theorem D208_299 : decode (byt 208) 299 = .ok (.aload_n 0, 1) := by decide +kernel
theorem D208_300 : decode (byt 208) 300 = .ok (.iload_n 3, 1) := by decide +kernel
theorem D208_301 : decode (byt 208) 301 = .ok (.iconst 1, 1) := by decide +kernel
theorem D208_302 : decode (byt 208) 302 = .ok (.iadd, 1) := by decide +kernel
theorem D208_303 : decode (byt 208) 303 = .ok (.iaload, 1) := by decide +kernel
theorem D208_304 : decode (byt 208) 304 = .ok (.aload_n 0, 1) := by decide +kernel
theorem D208_305 : decode (byt 208) 305 = .ok (.iload_n 3, 1) := by decide +kernel
theorem D208_306 : decode (byt 208) 306 = .ok (.iconst 2, 1) := by decide +kernel
theorem D208_307 : decode (byt 208) 307 = .ok (.iadd, 1) := by decide +kernel
theorem D208_308 : decode (byt 208) 308 = .ok (.iaload, 1) := by decide +kernel
theorem D208_309 : decode (byt 208) 309 = .ok (.invokevirtual 26, 3) := by decide +kernel
theorem D208_312 : decode (byt 208) 312 = .ok (.if_icmp .eq 1038, 3) := by decide +kernel
theorem D208_315 : decode (byt 208) 315 = .ok (.iconst 0, 1) := by decide +kernel
theorem D208_316 : decode (byt 208) 316 = .ok (.ireturn, 1) := by decide +kernel
theorem D208_317 : decode (byt 208) 317 = .ok (.aload_n 1, 1) := by decide +kernel
theorem D208_318 : decode (byt 208) 318 = .ok (.aload_n 0, 1) := by decide +kernel
theorem D208_319 : decode (byt 208) 319 = .ok (.iload_n 3, 1) := by decide +kernel
theorem D208_320 : decode (byt 208) 320 = .ok (.iconst 1, 1) := by decide +kernel
theorem D208_321 : decode (byt 208) 321 = .ok (.iadd, 1) := by decide +kernel
theorem D208_322 : decode (byt 208) 322 = .ok (.iaload, 1) := by decide +kernel
theorem D208_323 : decode (byt 208) 323 = .ok (.invokevirtual 27, 3) := by decide +kernel
theorem D208_326 : decode (byt 208) 326 = .ok (.aload_n 2, 1) := by decide +kernel
theorem D208_327 : decode (byt 208) 327 = .ok (.aload_n 0, 1) := by decide +kernel
theorem D208_328 : decode (byt 208) 328 = .ok (.iload_n 3, 1) := by decide +kernel
theorem D208_329 : decode (byt 208) 329 = .ok (.iconst 1, 1) := by decide +kernel
theorem D208_330 : decode (byt 208) 330 = .ok (.iadd, 1) := by decide +kernel
theorem D208_331 : decode (byt 208) 331 = .ok (.iaload, 1) := by decide +kernel
theorem D208_332 : decode (byt 208) 332 = .ok (.invokevirtual 31, 3) := by decide +kernel
theorem D208_335 : decode (byt 208) 335 = .ok (.if_icmp .eq 1015, 3) := by decide +kernel
theorem D208_338 : decode (byt 208) 338 = .ok (.iconst 0, 1) := by decide +kernel
theorem D208_339 : decode (byt 208) 339 = .ok (.ireturn, 1) := by decide +kernel
theorem D208_340 : decode (byt 208) 340 = .ok (.aload_n 1, 1) := by decide +kernel
theorem D208_341 : decode (byt 208) 341 = .ok (.aload_n 0, 1) := by decide +kernel
theorem D208_342 : decode (byt 208) 342 = .ok (.iload_n 3, 1) := by decide +kernel
theorem D208_343 : decode (byt 208) 343 = .ok (.iconst 1, 1) := by decide +kernel
theorem D208_344 : decode (byt 208) 344 = .ok (.iadd, 1) := by decide +kernel
theorem D208_345 : decode (byt 208) 345 = .ok (.iaload, 1) := by decide +kernel
theorem D208_346 : decode (byt 208) 346 = .ok (.aload_n 0, 1) := by decide +kernel
theorem D208_347 : decode (byt 208) 347 = .ok (.iload_n 3, 1) := by decide +kernel
theorem D208_348 : decode (byt 208) 348 = .ok (.iconst 2, 1) := by decide +kernel
theorem D208_349 : decode (byt 208) 349 = .ok (.iadd, 1) := by decide +kernel
theorem D208_350 : decode (byt 208) 350 = .ok (.iaload, 1) := by decide +kernel
theorem D208_351 : decode (byt 208) 351 = .ok (.aload_n 0, 1) := by decide +kernel
theorem D208_352 : decode (byt 208) 352 = .ok (.iload_n 3, 1) := by decide +kernel
theorem D208_353 : decode (byt 208) 353 = .ok (.iconst 3, 1) := by decide +kernel
theorem D208_354 : decode (byt 208) 354 = .ok (.iadd, 1) := by decide +kernel
theorem D208_355 : decode (byt 208) 355 = .ok (.iaload, 1) := by decide +kernel
theorem D208_356 : decode (byt 208) 356 = .ok (.ifCond .eq 7, 3) := by decide +kernel
theorem D208_359 : decode (byt 208) 359 = .ok (.iconst 1, 1) := by decide +kernel
theorem D208_360 : decode (byt 208) 360 = .ok (.goto 4, 3) := by decide +kernel
theorem D208_363 : decode (byt 208) 363 = .ok (.iconst 0, 1) := by decide +kernel
theorem D208_364 : decode (byt 208) 364 = .ok (.invokevirtual 32, 3) := by decide +kernel
theorem D208_367 : decode (byt 208) 367 = .ok (.aload_n 2, 1) := by decide +kernel
theorem D208_368 : decode (byt 208) 368 = .ok (.aload_n 0, 1) := by decide +kernel
theorem D208_369 : decode (byt 208) 369 = .ok (.iload_n 3, 1) := by decide +kernel
theorem D208_370 : decode (byt 208) 370 = .ok (.iconst 1, 1) := by decide +kernel
theorem D208_371 : decode (byt 208) 371 = .ok (.iadd, 1) := by decide +kernel
theorem D208_372 : decode (byt 208) 372 = .ok (.iaload, 1) := by decide +kernel
theorem D208_373 : decode (byt 208) 373 = .ok (.aload_n 0, 1) := by decide +kernel
theorem D208_374 : decode (byt 208) 374 = .ok (.iload_n 3, 1) := by decide +kernel
theorem D208_375 : decode (byt 208) 375 = .ok (.iconst 2, 1) := by decide +kernel
theorem D208_376 : decode (byt 208) 376 = .ok (.iadd, 1) := by decide +kernel
theorem D208_377 : decode (byt 208) 377 = .ok (.iaload, 1) := by decide +kernel
theorem D208_378 : decode (byt 208) 378 = .ok (.aload_n 0, 1) := by decide +kernel
theorem D208_379 : decode (byt 208) 379 = .ok (.iload_n 3, 1) := by decide +kernel
theorem D208_380 : decode (byt 208) 380 = .ok (.iconst 3, 1) := by decide +kernel
theorem D208_381 : decode (byt 208) 381 = .ok (.iadd, 1) := by decide +kernel
theorem D208_382 : decode (byt 208) 382 = .ok (.iaload, 1) := by decide +kernel
theorem D208_383 : decode (byt 208) 383 = .ok (.ifCond .eq 7, 3) := by decide +kernel
theorem D208_386 : decode (byt 208) 386 = .ok (.iconst 1, 1) := by decide +kernel
theorem D208_387 : decode (byt 208) 387 = .ok (.goto 4, 3) := by decide +kernel
theorem D208_390 : decode (byt 208) 390 = .ok (.iconst 0, 1) := by decide +kernel
theorem D208_391 : decode (byt 208) 391 = .ok (.invokevirtual 36, 3) := by decide +kernel
theorem D208_394 : decode (byt 208) 394 = .ok (.if_icmp .eq 956, 3) := by decide +kernel
theorem D208_397 : decode (byt 208) 397 = .ok (.iconst 0, 1) := by decide +kernel
theorem D208_398 : decode (byt 208) 398 = .ok (.ireturn, 1) := by decide +kernel
theorem D208_399 : decode (byt 208) 399 = .ok (.aload_n 1, 1) := by decide +kernel
theorem D208_400 : decode (byt 208) 400 = .ok (.aload_n 0, 1) := by decide +kernel
theorem D208_401 : decode (byt 208) 401 = .ok (.iload_n 3, 1) := by decide +kernel
theorem D208_402 : decode (byt 208) 402 = .ok (.iconst 1, 1) := by decide +kernel
theorem D208_403 : decode (byt 208) 403 = .ok (.iadd, 1) := by decide +kernel
theorem D208_404 : decode (byt 208) 404 = .ok (.iaload, 1) := by decide +kernel
theorem D208_405 : decode (byt 208) 405 = .ok (.aload_n 0, 1) := by decide +kernel
theorem D208_406 : decode (byt 208) 406 = .ok (.iload_n 3, 1) := by decide +kernel
theorem D208_407 : decode (byt 208) 407 = .ok (.iconst 2, 1) := by decide +kernel
theorem D208_408 : decode (byt 208) 408 = .ok (.iadd, 1) := by decide +kernel
theorem D208_409 : decode (byt 208) 409 = .ok (.iaload, 1) := by decide +kernel
theorem D208_410 : decode (byt 208) 410 = .ok (.invokevirtual 37, 3) := by decide +kernel
theorem D208_413 : decode (byt 208) 413 = .ok (.aload_n 2, 1) := by decide +kernel
theorem D208_414 : decode (byt 208) 414 = .ok (.aload_n 0, 1) := by decide +kernel
theorem D208_415 : decode (byt 208) 415 = .ok (.iload_n 3, 1) := by decide +kernel
theorem D208_416 : decode (byt 208) 416 = .ok (.iconst 1, 1) := by decide +kernel
theorem D208_417 : decode (byt 208) 417 = .ok (.iadd, 1) := by decide +kernel
theorem D208_418 : decode (byt 208) 418 = .ok (.iaload, 1) := by decide +kernel
theorem D208_419 : decode (byt 208) 419 = .ok (.aload_n 0, 1) := by decide +kernel
theorem D208_420 : decode (byt 208) 420 = .ok (.iload_n 3, 1) := by decide +kernel
theorem D208_421 : decode (byt 208) 421 = .ok (.iconst 2, 1) := by decide +kernel
theorem D208_422 : decode (byt 208) 422 = .ok (.iadd, 1) := by decide +kernel
theorem D208_423 : decode (byt 208) 423 = .ok (.iaload, 1) := by decide +kernel
theorem D208_424 : decode (byt 208) 424 = .ok (.invokevirtual 40, 3) := by decide +kernel
theorem D208_427 : decode (byt 208) 427 = .ok (.if_icmp .eq 923, 3) := by decide +kernel
theorem D208_430 : decode (byt 208) 430 = .ok (.iconst 0, 1) := by decide +kernel
theorem D208_431 : decode (byt 208) 431 = .ok (.ireturn, 1) := by decide +kernel
theorem D208_432 : decode (byt 208) 432 = .ok (.aload_n 1, 1) := by decide +kernel
theorem D208_433 : decode (byt 208) 433 = .ok (.aload_n 0, 1) := by decide +kernel
theorem D208_434 : decode (byt 208) 434 = .ok (.iload_n 3, 1) := by decide +kernel
theorem D208_435 : decode (byt 208) 435 = .ok (.iconst 1, 1) := by decide +kernel
theorem D208_436 : decode (byt 208) 436 = .ok (.iadd, 1) := by decide +kernel
theorem D208_437 : decode (byt 208) 437 = .ok (.iaload, 1) := by decide +kernel
theorem D208_438 : decode (byt 208) 438 = .ok (.aload_n 0, 1) := by decide +kernel
theorem D208_439 : decode (byt 208) 439 = .ok (.iload_n 3, 1) := by decide +kernel
theorem D208_440 : decode (byt 208) 440 = .ok (.iconst 2, 1) := by decide +kernel
theorem D208_441 : decode (byt 208) 441 = .ok (.iadd, 1) := by decide +kernel
theorem D208_442 : decode (byt 208) 442 = .ok (.iaload, 1) := by decide +kernel
theorem D208_443 : decode (byt 208) 443 = .ok (.invokevirtual 41, 3) := by decide +kernel
theorem D208_446 : decode (byt 208) 446 = .ok (.aload_n 2, 1) := by decide +kernel
theorem D208_447 : decode (byt 208) 447 = .ok (.aload_n 0, 1) := by decide +kernel
theorem D208_448 : decode (byt 208) 448 = .ok (.iload_n 3, 1) := by decide +kernel
theorem D208_449 : decode (byt 208) 449 = .ok (.iconst 1, 1) := by decide +kernel
theorem D208_450 : decode (byt 208) 450 = .ok (.iadd, 1) := by decide +kernel
theorem D208_451 : decode (byt 208) 451 = .ok (.iaload, 1) := by decide +kernel
theorem D208_452 : decode (byt 208) 452 = .ok (.aload_n 0, 1) := by decide +kernel
theorem D208_453 : decode (byt 208) 453 = .ok (.iload_n 3, 1) := by decide +kernel
theorem D208_454 : decode (byt 208) 454 = .ok (.iconst 2, 1) := by decide +kernel
theorem D208_455 : decode (byt 208) 455 = .ok (.iadd, 1) := by decide +kernel
theorem D208_456 : decode (byt 208) 456 = .ok (.iaload, 1) := by decide +kernel
theorem D208_457 : decode (byt 208) 457 = .ok (.invokevirtual 44, 3) := by decide +kernel
theorem D208_460 : decode (byt 208) 460 = .ok (.if_icmp .eq 890, 3) := by decide +kernel
theorem D208_463 : decode (byt 208) 463 = .ok (.iconst 0, 1) := by decide +kernel
theorem D208_464 : decode (byt 208) 464 = .ok (.ireturn, 1) := by decide +kernel
theorem D208_465 : decode (byt 208) 465 = .ok (.aload_n 1, 1) := by decide +kernel
theorem D208_466 : decode (byt 208) 466 = .ok (.aload_n 0, 1) := by decide +kernel
theorem D208_467 : decode (byt 208) 467 = .ok (.iload_n 3, 1) := by decide +kernel
theorem D208_468 : decode (byt 208) 468 = .ok (.iconst 1, 1) := by decide +kernel
theorem D208_469 : decode (byt 208) 469 = .ok (.iadd, 1) := by decide +kernel
theorem D208_470 : decode (byt 208) 470 = .ok (.iaload, 1) := by decide +kernel
theorem D208_471 : decode (byt 208) 471 = .ok (.aload_n 0, 1) := by decide +kernel
theorem D208_472 : decode (byt 208) 472 = .ok (.iload_n 3, 1) := by decide +kernel
theorem D208_473 : decode (byt 208) 473 = .ok (.iconst 2, 1) := by decide +kernel
theorem D208_474 : decode (byt 208) 474 = .ok (.iadd, 1) := by decide +kernel
theorem D208_475 : decode (byt 208) 475 = .ok (.iaload, 1) := by decide +kernel
theorem D208_476 : decode (byt 208) 476 = .ok (.aload_n 0, 1) := by decide +kernel
theorem D208_477 : decode (byt 208) 477 = .ok (.iload_n 3, 1) := by decide +kernel
theorem D208_478 : decode (byt 208) 478 = .ok (.iconst 3, 1) := by decide +kernel
theorem D208_479 : decode (byt 208) 479 = .ok (.iadd, 1) := by decide +kernel
theorem D208_480 : decode (byt 208) 480 = .ok (.iaload, 1) := by decide +kernel
theorem D208_481 : decode (byt 208) 481 = .ok (.invokevirtual 45, 3) := by decide +kernel
theorem D208_484 : decode (byt 208) 484 = .ok (.aload_n 2, 1) := by decide +kernel
theorem D208_485 : decode (byt 208) 485 = .ok (.aload_n 0, 1) := by decide +kernel
theorem D208_486 : decode (byt 208) 486 = .ok (.iload_n 3, 1) := by decide +kernel
theorem D208_487 : decode (byt 208) 487 = .ok (.iconst 1, 1) := by decide +kernel
theorem D208_488 : decode (byt 208) 488 = .ok (.iadd, 1) := by decide +kernel
theorem D208_489 : decode (byt 208) 489 = .ok (.iaload, 1) := by decide +kernel
theorem D208_490 : decode (byt 208) 490 = .ok (.aload_n 0, 1) := by decide +kernel
theorem D208_491 : decode (byt 208) 491 = .ok (.iload_n 3, 1) := by decide +kernel
theorem D208_492 : decode (byt 208) 492 = .ok (.iconst 2, 1) := by decide +kernel
theorem D208_493 : decode (byt 208) 493 = .ok (.iadd, 1) := by decide +kernel
theorem D208_494 : decode (byt 208) 494 = .ok (.iaload, 1) := by decide +kernel
theorem D208_495 : decode (byt 208) 495 = .ok (.aload_n 0, 1) := by decide +kernel
theorem D208_496 : decode (byt 208) 496 = .ok (.iload_n 3, 1) := by decide +kernel
theorem D208_497 : decode (byt 208) 497 = .ok (.iconst 3, 1) := by decide +kernel
theorem D208_498 : decode (byt 208) 498 = .ok (.iadd, 1) := by decide +kernel
theorem D208_499 : decode (byt 208) 499 = .ok (.iaload, 1) := by decide +kernel
theorem D208_500 : decode (byt 208) 500 = .ok (.invokevirtual 49, 3) := by decide +kernel
theorem D208_503 : decode (byt 208) 503 = .ok (.if_icmp .eq 847, 3) := by decide +kernel
theorem D208_506 : decode (byt 208) 506 = .ok (.iconst 0, 1) := by decide +kernel
theorem D208_507 : decode (byt 208) 507 = .ok (.ireturn, 1) := by decide +kernel
theorem D208_508 : decode (byt 208) 508 = .ok (.aload_n 1, 1) := by decide +kernel
theorem D208_509 : decode (byt 208) 509 = .ok (.aload_n 0, 1) := by decide +kernel
theorem D208_510 : decode (byt 208) 510 = .ok (.iload_n 3, 1) := by decide +kernel
theorem D208_511 : decode (byt 208) 511 = .ok (.iconst 1, 1) := by decide +kernel
theorem D208_512 : decode (byt 208) 512 = .ok (.iadd, 1) := by decide +kernel
theorem D208_513 : decode (byt 208) 513 = .ok (.iaload, 1) := by decide +kernel
theorem D208_514 : decode (byt 208) 514 = .ok (.aload_n 0, 1) := by decide +kernel
theorem D208_515 : decode (byt 208) 515 = .ok (.iload_n 3, 1) := by decide +kernel
theorem D208_516 : decode (byt 208) 516 = .ok (.iconst 2, 1) := by decide +kernel
theorem D208_517 : decode (byt 208) 517 = .ok (.iadd, 1) := by decide +kernel
theorem D208_518 : decode (byt 208) 518 = .ok (.iaload, 1) := by decide +kernel
theorem D208_519 : decode (byt 208) 519 = .ok (.invokevirtual 50, 3) := by decide +kernel
theorem D208_522 : decode (byt 208) 522 = .ok (.aload_n 2, 1) := by decide +kernel
theorem D208_523 : decode (byt 208) 523 = .ok (.aload_n 0, 1) := by decide +kernel
theorem D208_524 : decode (byt 208) 524 = .ok (.iload_n 3, 1) := by decide +kernel
theorem D208_525 : decode (byt 208) 525 = .ok (.iconst 1, 1) := by decide +kernel
theorem D208_526 : decode (byt 208) 526 = .ok (.iadd, 1) := by decide +kernel
theorem D208_527 : decode (byt 208) 527 = .ok (.iaload, 1) := by decide +kernel
theorem D208_528 : decode (byt 208) 528 = .ok (.aload_n 0, 1) := by decide +kernel
theorem D208_529 : decode (byt 208) 529 = .ok (.iload_n 3, 1) := by decide +kernel
theorem D208_530 : decode (byt 208) 530 = .ok (.iconst 2, 1) := by decide +kernel
theorem D208_531 : decode (byt 208) 531 = .ok (.iadd, 1) := by decide +kernel
theorem D208_532 : decode (byt 208) 532 = .ok (.iaload, 1) := by decide +kernel
theorem D208_533 : decode (byt 208) 533 = .ok (.invokevirtual 53, 3) := by decide +kernel
theorem D208_536 : decode (byt 208) 536 = .ok (.if_icmp .eq 814, 3) := by decide +kernel
theorem D208_539 : decode (byt 208) 539 = .ok (.iconst 0, 1) := by decide +kernel
theorem D208_540 : decode (byt 208) 540 = .ok (.ireturn, 1) := by decide +kernel
theorem D208_541 : decode (byt 208) 541 = .ok (.aload_n 1, 1) := by decide +kernel
theorem D208_542 : decode (byt 208) 542 = .ok (.aload_n 0, 1) := by decide +kernel
theorem D208_543 : decode (byt 208) 543 = .ok (.iload_n 3, 1) := by decide +kernel
theorem D208_544 : decode (byt 208) 544 = .ok (.iconst 1, 1) := by decide +kernel
theorem D208_545 : decode (byt 208) 545 = .ok (.iadd, 1) := by decide +kernel
theorem D208_546 : decode (byt 208) 546 = .ok (.iaload, 1) := by decide +kernel
theorem D208_547 : decode (byt 208) 547 = .ok (.invokevirtual 54, 3) := by decide +kernel
theorem D208_550 : decode (byt 208) 550 = .ok (.aload_n 2, 1) := by decide +kernel
theorem D208_551 : decode (byt 208) 551 = .ok (.aload_n 0, 1) := by decide +kernel
theorem D208_552 : decode (byt 208) 552 = .ok (.iload_n 3, 1) := by decide +kernel
theorem D208_553 : decode (byt 208) 553 = .ok (.iconst 1, 1) := by decide +kernel
theorem D208_554 : decode (byt 208) 554 = .ok (.iadd, 1) := by decide +kernel
theorem D208_555 : decode (byt 208) 555 = .ok (.iaload, 1) := by decide +kernel
theorem D208_556 : decode (byt 208) 556 = .ok (.invokevirtual 57, 3) := by decide +kernel
theorem D208_559 : decode (byt 208) 559 = .ok (.if_icmp .eq 791, 3) := by decide +kernel
theorem D208_562 : decode (byt 208) 562 = .ok (.iconst 0, 1) := by decide +kernel
theorem D208_563 : decode (byt 208) 563 = .ok (.ireturn, 1) := by decide +kernel
theorem D208_564 : decode (byt 208) 564 = .ok (.aload_n 1, 1) := by decide +kernel
theorem D208_565 : decode (byt 208) 565 = .ok (.aload_n 0, 1) := by decide +kernel
theorem D208_566 : decode (byt 208) 566 = .ok (.iload_n 3, 1) := by decide +kernel
theorem D208_567 : decode (byt 208) 567 = .ok (.iconst 1, 1) := by decide +kernel
theorem D208_568 : decode (byt 208) 568 = .ok (.iadd, 1) := by decide +kernel
theorem D208_569 : decode (byt 208) 569 = .ok (.iaload, 1) := by decide +kernel
theorem D208_570 : decode (byt 208) 570 = .ok (.invokevirtual 58, 3) := by decide +kernel
theorem D208_573 : decode (byt 208) 573 = .ok (.aload_n 2, 1) := by decide +kernel
theorem D208_574 : decode (byt 208) 574 = .ok (.aload_n 0, 1) := by decide +kernel
theorem D208_575 : decode (byt 208) 575 = .ok (.iload_n 3, 1) := by decide +kernel
theorem D208_576 : decode (byt 208) 576 = .ok (.iconst 1, 1) := by decide +kernel
theorem D208_577 : decode (byt 208) 577 = .ok (.iadd, 1) := by decide +kernel
theorem D208_578 : decode (byt 208) 578 = .ok (.iaload, 1) := by decide +kernel
theorem D208_579 : decode (byt 208) 579 = .ok (.invokevirtual 61, 3) := by decide +kernel
theorem D208_582 : decode (byt 208) 582 = .ok (.if_icmp .eq 768, 3) := by decide +kernel
theorem D208_585 : decode (byt 208) 585 = .ok (.iconst 0, 1) := by decide +kernel
theorem D208_586 : decode (byt 208) 586 = .ok (.ireturn, 1) := by decide +kernel
theorem D208_587 : decode (byt 208) 587 = .ok (.aload_n 1, 1) := by decide +kernel
theorem D208_588 : decode (byt 208) 588 = .ok (.aload_n 0, 1) := by decide +kernel
theorem D208_589 : decode (byt 208) 589 = .ok (.iload_n 3, 1) := by decide +kernel
theorem D208_590 : decode (byt 208) 590 = .ok (.iconst 1, 1) := by decide +kernel
theorem D208_591 : decode (byt 208) 591 = .ok (.iadd, 1) := by decide +kernel
theorem D208_592 : decode (byt 208) 592 = .ok (.iaload, 1) := by decide +kernel
theorem D208_593 : decode (byt 208) 593 = .ok (.aload_n 0, 1) := by decide +kernel
theorem D208_594 : decode (byt 208) 594 = .ok (.iload_n 3, 1) := by decide +kernel
theorem D208_595 : decode (byt 208) 595 = .ok (.iconst 2, 1) := by decide +kernel
theorem D208_596 : decode (byt 208) 596 = .ok (.iadd, 1) := by decide +kernel
theorem D208_597 : decode (byt 208) 597 = .ok (.iaload, 1) := by decide +kernel
theorem D208_598 : decode (byt 208) 598 = .ok (.aload_n 0, 1) := by decide +kernel
theorem D208_599 : decode (byt 208) 599 = .ok (.iload_n 3, 1) := by decide +kernel
theorem D208_600 : decode (byt 208) 600 = .ok (.iconst 3, 1) := by decide +kernel
theorem D208_601 : decode (byt 208) 601 = .ok (.iadd, 1) := by decide +kernel
theorem D208_602 : decode (byt 208) 602 = .ok (.iaload, 1) := by decide +kernel
theorem D208_603 : decode (byt 208) 603 = .ok (.invokevirtual 62, 3) := by decide +kernel
theorem D208_606 : decode (byt 208) 606 = .ok (.aload_n 2, 1) := by decide +kernel
theorem D208_607 : decode (byt 208) 607 = .ok (.aload_n 0, 1) := by decide +kernel
theorem D208_608 : decode (byt 208) 608 = .ok (.iload_n 3, 1) := by decide +kernel
theorem D208_609 : decode (byt 208) 609 = .ok (.iconst 1, 1) := by decide +kernel
theorem D208_610 : decode (byt 208) 610 = .ok (.iadd, 1) := by decide +kernel
theorem D208_611 : decode (byt 208) 611 = .ok (.iaload, 1) := by decide +kernel
theorem D208_612 : decode (byt 208) 612 = .ok (.aload_n 0, 1) := by decide +kernel
theorem D208_613 : decode (byt 208) 613 = .ok (.iload_n 3, 1) := by decide +kernel
theorem D208_614 : decode (byt 208) 614 = .ok (.iconst 2, 1) := by decide +kernel
theorem D208_615 : decode (byt 208) 615 = .ok (.iadd, 1) := by decide +kernel
theorem D208_616 : decode (byt 208) 616 = .ok (.iaload, 1) := by decide +kernel
theorem D208_617 : decode (byt 208) 617 = .ok (.aload_n 0, 1) := by decide +kernel
theorem D208_618 : decode (byt 208) 618 = .ok (.iload_n 3, 1) := by decide +kernel
theorem D208_619 : decode (byt 208) 619 = .ok (.iconst 3, 1) := by decide +kernel
theorem D208_620 : decode (byt 208) 620 = .ok (.iadd, 1) := by decide +kernel
theorem D208_621 : decode (byt 208) 621 = .ok (.iaload, 1) := by decide +kernel
theorem D208_622 : decode (byt 208) 622 = .ok (.invokevirtual 65, 3) := by decide +kernel
theorem D208_625 : decode (byt 208) 625 = .ok (.if_icmp .eq 725, 3) := by decide +kernel
theorem D208_628 : decode (byt 208) 628 = .ok (.iconst 0, 1) := by decide +kernel
theorem D208_629 : decode (byt 208) 629 = .ok (.ireturn, 1) := by decide +kernel
theorem D208_630 : decode (byt 208) 630 = .ok (.aload_n 1, 1) := by decide +kernel
theorem D208_631 : decode (byt 208) 631 = .ok (.aload_n 0, 1) := by decide +kernel
theorem D208_632 : decode (byt 208) 632 = .ok (.iload_n 3, 1) := by decide +kernel
theorem D208_633 : decode (byt 208) 633 = .ok (.iconst 1, 1) := by decide +kernel
theorem D208_634 : decode (byt 208) 634 = .ok (.iadd, 1) := by decide +kernel
theorem D208_635 : decode (byt 208) 635 = .ok (.iaload, 1) := by decide +kernel
theorem D208_636 : decode (byt 208) 636 = .ok (.aload_n 0, 1) := by decide +kernel
theorem D208_637 : decode (byt 208) 637 = .ok (.iload_n 3, 1) := by decide +kernel
theorem D208_638 : decode (byt 208) 638 = .ok (.iconst 2, 1) := by decide +kernel
theorem D208_639 : decode (byt 208) 639 = .ok (.iadd, 1) := by decide +kernel
theorem D208_640 : decode (byt 208) 640 = .ok (.iaload, 1) := by decide +kernel
theorem D208_641 : decode (byt 208) 641 = .ok (.aload_n 0, 1) := by decide +kernel
theorem D208_642 : decode (byt 208) 642 = .ok (.iload_n 3, 1) := by decide +kernel
theorem D208_643 : decode (byt 208) 643 = .ok (.iconst 3, 1) := by decide +kernel
theorem D208_644 : decode (byt 208) 644 = .ok (.iadd, 1) := by decide +kernel
theorem D208_645 : decode (byt 208) 645 = .ok (.iaload, 1) := by decide +kernel
theorem D208_646 : decode (byt 208) 646 = .ok (.invokevirtual 66, 3) := by decide +kernel
theorem D208_649 : decode (byt 208) 649 = .ok (.aload_n 2, 1) := by decide +kernel
theorem D208_650 : decode (byt 208) 650 = .ok (.aload_n 0, 1) := by decide +kernel
theorem D208_651 : decode (byt 208) 651 = .ok (.iload_n 3, 1) := by decide +kernel
theorem D208_652 : decode (byt 208) 652 = .ok (.iconst 1, 1) := by decide +kernel
theorem D208_653 : decode (byt 208) 653 = .ok (.iadd, 1) := by decide +kernel
theorem D208_654 : decode (byt 208) 654 = .ok (.iaload, 1) := by decide +kernel
theorem D208_655 : decode (byt 208) 655 = .ok (.aload_n 0, 1) := by decide +kernel
theorem D208_656 : decode (byt 208) 656 = .ok (.iload_n 3, 1) := by decide +kernel
theorem D208_657 : decode (byt 208) 657 = .ok (.iconst 2, 1) := by decide +kernel
theorem D208_658 : decode (byt 208) 658 = .ok (.iadd, 1) := by decide +kernel
theorem D208_659 : decode (byt 208) 659 = .ok (.iaload, 1) := by decide +kernel
theorem D208_660 : decode (byt 208) 660 = .ok (.aload_n 0, 1) := by decide +kernel
theorem D208_661 : decode (byt 208) 661 = .ok (.iload_n 3, 1) := by decide +kernel
theorem D208_662 : decode (byt 208) 662 = .ok (.iconst 3, 1) := by decide +kernel
theorem D208_663 : decode (byt 208) 663 = .ok (.iadd, 1) := by decide +kernel
theorem D208_664 : decode (byt 208) 664 = .ok (.iaload, 1) := by decide +kernel
theorem D208_665 : decode (byt 208) 665 = .ok (.invokevirtual 69, 3) := by decide +kernel
theorem D208_668 : decode (byt 208) 668 = .ok (.if_icmp .eq 682, 3) := by decide +kernel
theorem D208_671 : decode (byt 208) 671 = .ok (.iconst 0, 1) := by decide +kernel
theorem D208_672 : decode (byt 208) 672 = .ok (.ireturn, 1) := by decide +kernel
theorem D208_673 : decode (byt 208) 673 = .ok (.aload_n 1, 1) := by decide +kernel
theorem D208_674 : decode (byt 208) 674 = .ok (.aload_n 0, 1) := by decide +kernel
theorem D208_675 : decode (byt 208) 675 = .ok (.iload_n 3, 1) := by decide +kernel
theorem D208_676 : decode (byt 208) 676 = .ok (.iconst 1, 1) := by decide +kernel
theorem D208_677 : decode (byt 208) 677 = .ok (.iadd, 1) := by decide +kernel
theorem D208_678 : decode (byt 208) 678 = .ok (.iaload, 1) := by decide +kernel
theorem D208_679 : decode (byt 208) 679 = .ok (.aload_n 0, 1) := by decide +kernel
theorem D208_680 : decode (byt 208) 680 = .ok (.iload_n 3, 1) := by decide +kernel
theorem D208_681 : decode (byt 208) 681 = .ok (.iconst 2, 1) := by decide +kernel
theorem D208_682 : decode (byt 208) 682 = .ok (.iadd, 1) := by decide +kernel
theorem D208_683 : decode (byt 208) 683 = .ok (.iaload, 1) := by decide +kernel
theorem D208_684 : decode (byt 208) 684 = .ok (.aload_n 0, 1) := by decide +kernel
theorem D208_685 : decode (byt 208) 685 = .ok (.iload_n 3, 1) := by decide +kernel
theorem D208_686 : decode (byt 208) 686 = .ok (.iconst 3, 1) := by decide +kernel
theorem D208_687 : decode (byt 208) 687 = .ok (.iadd, 1) := by decide +kernel
theorem D208_688 : decode (byt 208) 688 = .ok (.iaload, 1) := by decide +kernel
theorem D208_689 : decode (byt 208) 689 = .ok (.aload_n 0, 1) := by decide +kernel
theorem D208_690 : decode (byt 208) 690 = .ok (.iload_n 3, 1) := by decide +kernel
theorem D208_691 : decode (byt 208) 691 = .ok (.iconst 4, 1) := by decide +kernel
theorem D208_692 : decode (byt 208) 692 = .ok (.iadd, 1) := by decide +kernel
theorem D208_693 : decode (byt 208) 693 = .ok (.iaload, 1) := by decide +kernel
theorem D208_694 : decode (byt 208) 694 = .ok (.invokevirtual 70, 3) := by decide +kernel
theorem D208_697 : decode (byt 208) 697 = .ok (.aload_n 2, 1) := by decide +kernel
theorem D208_698 : decode (byt 208) 698 = .ok (.aload_n 0, 1) := by decide +kernel
theorem D208_699 : decode (byt 208) 699 = .ok (.iload_n 3, 1) := by decide +kernel
theorem D208_700 : decode (byt 208) 700 = .ok (.iconst 1, 1) := by decide +kernel
theorem D208_701 : decode (byt 208) 701 = .ok (.iadd, 1) := by decide +kernel
theorem D208_702 : decode (byt 208) 702 = .ok (.iaload, 1) := by decide +kernel
theorem D208_703 : decode (byt 208) 703 = .ok (.aload_n 0, 1) := by decide +kernel
theorem D208_704 : decode (byt 208) 704 = .ok (.iload_n 3, 1) := by decide +kernel
theorem D208_705 : decode (byt 208) 705 = .ok (.iconst 2, 1) := by decide +kernel
theorem D208_706 : decode (byt 208) 706 = .ok (.iadd, 1) := by decide +kernel
theorem D208_707 : decode (byt 208) 707 = .ok (.iaload, 1) := by decide +kernel
theorem D208_708 : decode (byt 208) 708 = .ok (.aload_n 0, 1) := by decide +kernel
theorem D208_709 : decode (byt 208) 709 = .ok (.iload_n 3, 1) := by decide +kernel
theorem D208_710 : decode (byt 208) 710 = .ok (.iconst 3, 1) := by decide +kernel
theorem D208_711 : decode (byt 208) 711 = .ok (.iadd, 1) := by decide +kernel
theorem D208_712 : decode (byt 208) 712 = .ok (.iaload, 1) := by decide +kernel
theorem D208_713 : decode (byt 208) 713 = .ok (.aload_n 0, 1) := by decide +kernel
theorem D208_714 : decode (byt 208) 714 = .ok (.iload_n 3, 1) := by decide +kernel
theorem D208_715 : decode (byt 208) 715 = .ok (.iconst 4, 1) := by decide +kernel
theorem D208_716 : decode (byt 208) 716 = .ok (.iadd, 1) := by decide +kernel
theorem D208_717 : decode (byt 208) 717 = .ok (.iaload, 1) := by decide +kernel
theorem D208_718 : decode (byt 208) 718 = .ok (.invokevirtual 74, 3) := by decide +kernel
theorem D208_721 : decode (byt 208) 721 = .ok (.if_icmp .eq 629, 3) := by decide +kernel
theorem D208_724 : decode (byt 208) 724 = .ok (.iconst 0, 1) := by decide +kernel
theorem D208_725 : decode (byt 208) 725 = .ok (.ireturn, 1) := by decide +kernel
theorem D208_726 : decode (byt 208) 726 = .ok (.aload_n 1, 1) := by decide +kernel
theorem D208_727 : decode (byt 208) 727 = .ok (.aload_n 0, 1) := by decide +kernel
theorem D208_728 : decode (byt 208) 728 = .ok (.iload_n 3, 1) := by decide +kernel
theorem D208_729 : decode (byt 208) 729 = .ok (.iconst 1, 1) := by decide +kernel
theorem D208_730 : decode (byt 208) 730 = .ok (.iadd, 1) := by decide +kernel
theorem D208_731 : decode (byt 208) 731 = .ok (.iaload, 1) := by decide +kernel
theorem D208_732 : decode (byt 208) 732 = .ok (.invokevirtual 75, 3) := by decide +kernel
theorem D208_735 : decode (byt 208) 735 = .ok (.aload_n 2, 1) := by decide +kernel
theorem D208_736 : decode (byt 208) 736 = .ok (.aload_n 0, 1) := by decide +kernel
theorem D208_737 : decode (byt 208) 737 = .ok (.iload_n 3, 1) := by decide +kernel
theorem D208_738 : decode (byt 208) 738 = .ok (.iconst 1, 1) := by decide +kernel
theorem D208_739 : decode (byt 208) 739 = .ok (.iadd, 1) := by decide +kernel
theorem D208_740 : decode (byt 208) 740 = .ok (.iaload, 1) := by decide +kernel
theorem D208_741 : decode (byt 208) 741 = .ok (.invokevirtual 78, 3) := by decide +kernel
theorem D208_744 : decode (byt 208) 744 = .ok (.if_icmp .eq 606, 3) := by decide +kernel
theorem D208_747 : decode (byt 208) 747 = .ok (.iconst 0, 1) := by decide +kernel
theorem D208_748 : decode (byt 208) 748 = .ok (.ireturn, 1) := by decide +kernel
theorem D208_749 : decode (byt 208) 749 = .ok (.aload_n 1, 1) := by decide +kernel
theorem D208_750 : decode (byt 208) 750 = .ok (.invokevirtual 79, 3) := by decide +kernel
theorem D208_753 : decode (byt 208) 753 = .ok (.aload_n 2, 1) := by decide +kernel
theorem D208_754 : decode (byt 208) 754 = .ok (.invokevirtual 83, 3) := by decide +kernel
theorem D208_757 : decode (byt 208) 757 = .ok (.if_icmp .eq 593, 3) := by decide +kernel
theorem D208_760 : decode (byt 208) 760 = .ok (.iconst 0, 1) := by decide +kernel
theorem D208_761 : decode (byt 208) 761 = .ok (.ireturn, 1) := by decide +kernel
theorem D208_762 : decode (byt 208) 762 = .ok (.aload_n 1, 1) := by decide +kernel
theorem D208_763 : decode (byt 208) 763 = .ok (.aload_n 0, 1) := by decide +kernel
theorem D208_764 : decode (byt 208) 764 = .ok (.iload_n 3, 1) := by decide +kernel
theorem D208_765 : decode (byt 208) 765 = .ok (.iconst 1, 1) := by decide +kernel
theorem D208_766 : decode (byt 208) 766 = .ok (.iadd, 1) := by decide +kernel
theorem D208_767 : decode (byt 208) 767 = .ok (.iaload, 1) := by decide +kernel
theorem D208_768 : decode (byt 208) 768 = .ok (.invokevirtual 84, 3) := by decide +kernel
theorem D208_771 : decode (byt 208) 771 = .ok (.aload_n 2, 1) := by decide +kernel
theorem D208_772 : decode (byt 208) 772 = .ok (.aload_n 0, 1) := by decide +kernel
theorem D208_773 : decode (byt 208) 773 = .ok (.iload_n 3, 1) := by decide +kernel
theorem D208_774 : decode (byt 208) 774 = .ok (.iconst 1, 1) := by decide +kernel
theorem D208_775 : decode (byt 208) 775 = .ok (.iadd, 1) := by decide +kernel
theorem D208_776 : decode (byt 208) 776 = .ok (.iaload, 1) := by decide +kernel
theorem D208_777 : decode (byt 208) 777 = .ok (.invokevirtual 87, 3) := by decide +kernel
theorem D208_780 : decode (byt 208) 780 = .ok (.if_icmp .eq 570, 3) := by decide +kernel
theorem D208_783 : decode (byt 208) 783 = .ok (.iconst 0, 1) := by decide +kernel
theorem D208_784 : decode (byt 208) 784 = .ok (.ireturn, 1) := by decide +kernel
theorem D208_785 : decode (byt 208) 785 = .ok (.aload_n 1, 1) := by decide +kernel
theorem D208_786 : decode (byt 208) 786 = .ok (.aload_n 0, 1) := by decide +kernel
theorem D208_787 : decode (byt 208) 787 = .ok (.iload_n 3, 1) := by decide +kernel
theorem D208_788 : decode (byt 208) 788 = .ok (.iconst 1, 1) := by decide +kernel
theorem D208_789 : decode (byt 208) 789 = .ok (.iadd, 1) := by decide +kernel
theorem D208_790 : decode (byt 208) 790 = .ok (.iaload, 1) := by decide +kernel
theorem D208_791 : decode (byt 208) 791 = .ok (.aload_n 0, 1) := by decide +kernel
theorem D208_792 : decode (byt 208) 792 = .ok (.iload_n 3, 1) := by decide +kernel
theorem D208_793 : decode (byt 208) 793 = .ok (.iconst 2, 1) := by decide +kernel
theorem D208_794 : decode (byt 208) 794 = .ok (.iadd, 1) := by decide +kernel
theorem D208_795 : decode (byt 208) 795 = .ok (.iaload, 1) := by decide +kernel
theorem D208_796 : decode (byt 208) 796 = .ok (.invokevirtual 88, 3) := by decide +kernel
theorem D208_799 : decode (byt 208) 799 = .ok (.aload_n 2, 1) := by decide +kernel
theorem D208_800 : decode (byt 208) 800 = .ok (.aload_n 0, 1) := by decide +kernel
theorem D208_801 : decode (byt 208) 801 = .ok (.iload_n 3, 1) := by decide +kernel
theorem D208_802 : decode (byt 208) 802 = .ok (.iconst 1, 1) := by decide +kernel
theorem D208_803 : decode (byt 208) 803 = .ok (.iadd, 1) := by decide +kernel
theorem D208_804 : decode (byt 208) 804 = .ok (.iaload, 1) := by decide +kernel
theorem D208_805 : decode (byt 208) 805 = .ok (.aload_n 0, 1) := by decide +kernel
theorem D208_806 : decode (byt 208) 806 = .ok (.iload_n 3, 1) := by decide +kernel
theorem D208_807 : decode (byt 208) 807 = .ok (.iconst 2, 1) := by decide +kernel
theorem D208_808 : decode (byt 208) 808 = .ok (.iadd, 1) := by decide +kernel
theorem D208_809 : decode (byt 208) 809 = .ok (.iaload, 1) := by decide +kernel
theorem D208_810 : decode (byt 208) 810 = .ok (.invokevirtual 91, 3) := by decide +kernel
theorem D208_813 : decode (byt 208) 813 = .ok (.if_icmp .eq 537, 3) := by decide +kernel
theorem D208_816 : decode (byt 208) 816 = .ok (.iconst 0, 1) := by decide +kernel
theorem D208_817 : decode (byt 208) 817 = .ok (.ireturn, 1) := by decide +kernel
theorem D208_818 : decode (byt 208) 818 = .ok (.aload_n 1, 1) := by decide +kernel
theorem D208_819 : decode (byt 208) 819 = .ok (.aload_n 0, 1) := by decide +kernel
theorem D208_820 : decode (byt 208) 820 = .ok (.iload_n 3, 1) := by decide +kernel
theorem D208_821 : decode (byt 208) 821 = .ok (.iconst 1, 1) := by decide +kernel
theorem D208_822 : decode (byt 208) 822 = .ok (.iadd, 1) := by decide +kernel
theorem D208_823 : decode (byt 208) 823 = .ok (.iaload, 1) := by decide +kernel
theorem D208_824 : decode (byt 208) 824 = .ok (.invokevirtual 92, 3) := by decide +kernel
theorem D208_827 : decode (byt 208) 827 = .ok (.aload_n 2, 1) := by decide +kernel
theorem D208_828 : decode (byt 208) 828 = .ok (.aload_n 0, 1) := by decide +kernel
theorem D208_829 : decode (byt 208) 829 = .ok (.iload_n 3, 1) := by decide +kernel
theorem D208_830 : decode (byt 208) 830 = .ok (.iconst 1, 1) := by decide +kernel
theorem D208_831 : decode (byt 208) 831 = .ok (.iadd, 1) := by decide +kernel
theorem D208_832 : decode (byt 208) 832 = .ok (.iaload, 1) := by decide +kernel
theorem D208_833 : decode (byt 208) 833 = .ok (.invokevirtual 96, 3) := by decide +kernel
theorem D208_836 : decode (byt 208) 836 = .ok (.lcmp, 1) := by decide +kernel
theorem D208_837 : decode (byt 208) 837 = .ok (.ifCond .eq 513, 3) := by decide +kernel
theorem D208_840 : decode (byt 208) 840 = .ok (.iconst 0, 1) := by decide +kernel
theorem D208_841 : decode (byt 208) 841 = .ok (.ireturn, 1) := by decide +kernel
theorem D208_842 : decode (byt 208) 842 = .ok (.aload_n 1, 1) := by decide +kernel
theorem D208_843 : decode (byt 208) 843 = .ok (.aload_n 0, 1) := by decide +kernel
theorem D208_844 : decode (byt 208) 844 = .ok (.iload_n 3, 1) := by decide +kernel
theorem D208_845 : decode (byt 208) 845 = .ok (.iconst 1, 1) := by decide +kernel
theorem D208_846 : decode (byt 208) 846 = .ok (.iadd, 1) := by decide +kernel
theorem D208_847 : decode (byt 208) 847 = .ok (.iaload, 1) := by decide +kernel
theorem D208_848 : decode (byt 208) 848 = .ok (.aload_n 0, 1) := by decide +kernel
theorem D208_849 : decode (byt 208) 849 = .ok (.iload_n 3, 1) := by decide +kernel
theorem D208_850 : decode (byt 208) 850 = .ok (.iconst 2, 1) := by decide +kernel
theorem D208_851 : decode (byt 208) 851 = .ok (.iadd, 1) := by decide +kernel
theorem D208_852 : decode (byt 208) 852 = .ok (.iaload, 1) := by decide +kernel
theorem D208_853 : decode (byt 208) 853 = .ok (.aload_n 0, 1) := by decide +kernel
theorem D208_854 : decode (byt 208) 854 = .ok (.iload_n 3, 1) := by decide +kernel
theorem D208_855 : decode (byt 208) 855 = .ok (.iconst 3, 1) := by decide +kernel
theorem D208_856 : decode (byt 208) 856 = .ok (.iadd, 1) := by decide +kernel
theorem D208_857 : decode (byt 208) 857 = .ok (.iaload, 1) := by decide +kernel
theorem D208_858 : decode (byt 208) 858 = .ok (.ifCond .eq 7, 3) := by decide +kernel
theorem D208_861 : decode (byt 208) 861 = .ok (.iconst 1, 1) := by decide +kernel
theorem D208_862 : decode (byt 208) 862 = .ok (.goto 4, 3) := by decide +kernel
theorem D208_865 : decode (byt 208) 865 = .ok (.iconst 0, 1) := by decide +kernel
theorem D208_866 : decode (byt 208) 866 = .ok (.invokevirtual 97, 3) := by decide +kernel
theorem D208_869 : decode (byt 208) 869 = .ok (.aload_n 2, 1) := by decide +kernel
theorem D208_870 : decode (byt 208) 870 = .ok (.aload_n 0, 1) := by decide +kernel
theorem D208_871 : decode (byt 208) 871 = .ok (.iload_n 3, 1) := by decide +kernel
theorem D208_872 : decode (byt 208) 872 = .ok (.iconst 1, 1) := by decide +kernel
theorem D208_873 : decode (byt 208) 873 = .ok (.iadd, 1) := by decide +kernel
theorem D208_874 : decode (byt 208) 874 = .ok (.iaload, 1) := by decide +kernel
theorem D208_875 : decode (byt 208) 875 = .ok (.aload_n 0, 1) := by decide +kernel
theorem D208_876 : decode (byt 208) 876 = .ok (.iload_n 3, 1) := by decide +kernel
theorem D208_877 : decode (byt 208) 877 = .ok (.iconst 2, 1) := by decide +kernel
theorem D208_878 : decode (byt 208) 878 = .ok (.iadd, 1) := by decide +kernel
theorem D208_879 : decode (byt 208) 879 = .ok (.iaload, 1) := by decide +kernel
theorem D208_880 : decode (byt 208) 880 = .ok (.aload_n 0, 1) := by decide +kernel
theorem D208_881 : decode (byt 208) 881 = .ok (.iload_n 3, 1) := by decide +kernel
theorem D208_882 : decode (byt 208) 882 = .ok (.iconst 3, 1) := by decide +kernel
theorem D208_883 : decode (byt 208) 883 = .ok (.iadd, 1) := by decide +kernel
theorem D208_884 : decode (byt 208) 884 = .ok (.iaload, 1) := by decide +kernel
theorem D208_885 : decode (byt 208) 885 = .ok (.ifCond .eq 7, 3) := by decide +kernel
theorem D208_888 : decode (byt 208) 888 = .ok (.iconst 1, 1) := by decide +kernel
theorem D208_889 : decode (byt 208) 889 = .ok (.goto 4, 3) := by decide +kernel
theorem D208_892 : decode (byt 208) 892 = .ok (.iconst 0, 1) := by decide +kernel
theorem D208_893 : decode (byt 208) 893 = .ok (.invokevirtual 101, 3) := by decide +kernel
theorem D208_896 : decode (byt 208) 896 = .ok (.lcmp, 1) := by decide +kernel
theorem D208_897 : decode (byt 208) 897 = .ok (.ifCond .eq 453, 3) := by decide +kernel
theorem D208_900 : decode (byt 208) 900 = .ok (.iconst 0, 1) := by decide +kernel
theorem D208_901 : decode (byt 208) 901 = .ok (.ireturn, 1) := by decide +kernel
theorem D208_902 : decode (byt 208) 902 = .ok (.aload_n 1, 1) := by decide +kernel
theorem D208_903 : decode (byt 208) 903 = .ok (.aload_n 0, 1) := by decide +kernel
theorem D208_904 : decode (byt 208) 904 = .ok (.iload_n 3, 1) := by decide +kernel
theorem D208_905 : decode (byt 208) 905 = .ok (.iconst 1, 1) := by decide +kernel
theorem D208_906 : decode (byt 208) 906 = .ok (.iadd, 1) := by decide +kernel
theorem D208_907 : decode (byt 208) 907 = .ok (.iaload, 1) := by decide +kernel
theorem D208_908 : decode (byt 208) 908 = .ok (.aload_n 0, 1) := by decide +kernel
theorem D208_909 : decode (byt 208) 909 = .ok (.iload_n 3, 1) := by decide +kernel
theorem D208_910 : decode (byt 208) 910 = .ok (.iconst 2, 1) := by decide +kernel
theorem D208_911 : decode (byt 208) 911 = .ok (.iadd, 1) := by decide +kernel
theorem D208_912 : decode (byt 208) 912 = .ok (.iaload, 1) := by decide +kernel
theorem D208_913 : decode (byt 208) 913 = .ok (.invokevirtual 102, 3) := by decide +kernel
theorem D208_916 : decode (byt 208) 916 = .ok (.aload_n 2, 1) := by decide +kernel
theorem D208_917 : decode (byt 208) 917 = .ok (.aload_n 0, 1) := by decide +kernel
theorem D208_918 : decode (byt 208) 918 = .ok (.iload_n 3, 1) := by decide +kernel
theorem D208_919 : decode (byt 208) 919 = .ok (.iconst 1, 1) := by decide +kernel
theorem D208_920 : decode (byt 208) 920 = .ok (.iadd, 1) := by decide +kernel
theorem D208_921 : decode (byt 208) 921 = .ok (.iaload, 1) := by decide +kernel
theorem D208_922 : decode (byt 208) 922 = .ok (.aload_n 0, 1) := by decide +kernel
theorem D208_923 : decode (byt 208) 923 = .ok (.iload_n 3, 1) := by decide +kernel
theorem D208_924 : decode (byt 208) 924 = .ok (.iconst 2, 1) := by decide +kernel
theorem D208_925 : decode (byt 208) 925 = .ok (.iadd, 1) := by decide +kernel
theorem D208_926 : decode (byt 208) 926 = .ok (.iaload, 1) := by decide +kernel
theorem D208_927 : decode (byt 208) 927 = .ok (.invokevirtual 105, 3) := by decide +kernel
theorem D208_930 : decode (byt 208) 930 = .ok (.if_icmp .eq 420, 3) := by decide +kernel
theorem D208_933 : decode (byt 208) 933 = .ok (.iconst 0, 1) := by decide +kernel
theorem D208_934 : decode (byt 208) 934 = .ok (.ireturn, 1) := by decide +kernel
theorem D208_935 : decode (byt 208) 935 = .ok (.aload_n 1, 1) := by decide +kernel
theorem D208_936 : decode (byt 208) 936 = .ok (.aload_n 0, 1) := by decide +kernel
theorem D208_937 : decode (byt 208) 937 = .ok (.iload_n 3, 1) := by decide +kernel
theorem D208_938 : decode (byt 208) 938 = .ok (.iconst 1, 1) := by decide +kernel
theorem D208_939 : decode (byt 208) 939 = .ok (.iadd, 1) := by decide +kernel
theorem D208_940 : decode (byt 208) 940 = .ok (.iaload, 1) := by decide +kernel
theorem D208_941 : decode (byt 208) 941 = .ok (.aload_n 0, 1) := by decide +kernel
theorem D208_942 : decode (byt 208) 942 = .ok (.iload_n 3, 1) := by decide +kernel
theorem D208_943 : decode (byt 208) 943 = .ok (.iconst 2, 1) := by decide +kernel
theorem D208_944 : decode (byt 208) 944 = .ok (.iadd, 1) := by decide +kernel
theorem D208_945 : decode (byt 208) 945 = .ok (.iaload, 1) := by decide +kernel
theorem D208_946 : decode (byt 208) 946 = .ok (.invokevirtual 106, 3) := by decide +kernel
theorem D208_949 : decode (byt 208) 949 = .ok (.aload_n 2, 1) := by decide +kernel
theorem D208_950 : decode (byt 208) 950 = .ok (.aload_n 0, 1) := by decide +kernel
theorem D208_951 : decode (byt 208) 951 = .ok (.iload_n 3, 1) := by decide +kernel
theorem D208_952 : decode (byt 208) 952 = .ok (.iconst 1, 1) := by decide +kernel
theorem D208_953 : decode (byt 208) 953 = .ok (.iadd, 1) := by decide +kernel
theorem D208_954 : decode (byt 208) 954 = .ok (.iaload, 1) := by decide +kernel
theorem D208_955 : decode (byt 208) 955 = .ok (.aload_n 0, 1) := by decide +kernel
theorem D208_956 : decode (byt 208) 956 = .ok (.iload_n 3, 1) := by decide +kernel
theorem D208_957 : decode (byt 208) 957 = .ok (.iconst 2, 1) := by decide +kernel
theorem D208_958 : decode (byt 208) 958 = .ok (.iadd, 1) := by decide +kernel
theorem D208_959 : decode (byt 208) 959 = .ok (.iaload, 1) := by decide +kernel
theorem D208_960 : decode (byt 208) 960 = .ok (.invokevirtual 109, 3) := by decide +kernel
theorem D208_963 : decode (byt 208) 963 = .ok (.if_icmp .eq 387, 3) := by decide +kernel
theorem D208_966 : decode (byt 208) 966 = .ok (.iconst 0, 1) := by decide +kernel
theorem D208_967 : decode (byt 208) 967 = .ok (.ireturn, 1) := by decide +kernel
theorem D208_968 : decode (byt 208) 968 = .ok (.aload_n 1, 1) := by decide +kernel
theorem D208_969 : decode (byt 208) 969 = .ok (.aload_n 0, 1) := by decide +kernel
theorem D208_970 : decode (byt 208) 970 = .ok (.iload_n 3, 1) := by decide +kernel
theorem D208_971 : decode (byt 208) 971 = .ok (.iconst 1, 1) := by decide +kernel
theorem D208_972 : decode (byt 208) 972 = .ok (.iadd, 1) := by decide +kernel
theorem D208_973 : decode (byt 208) 973 = .ok (.iaload, 1) := by decide +kernel
theorem D208_974 : decode (byt 208) 974 = .ok (.aload_n 0, 1) := by decide +kernel
theorem D208_975 : decode (byt 208) 975 = .ok (.iload_n 3, 1) := by decide +kernel
theorem D208_976 : decode (byt 208) 976 = .ok (.iconst 2, 1) := by decide +kernel
theorem D208_977 : decode (byt 208) 977 = .ok (.iadd, 1) := by decide +kernel
theorem D208_978 : decode (byt 208) 978 = .ok (.iaload, 1) := by decide +kernel
theorem D208_979 : decode (byt 208) 979 = .ok (.invokevirtual 110, 3) := by decide +kernel
theorem D208_982 : decode (byt 208) 982 = .ok (.aload_n 2, 1) := by decide +kernel
theorem D208_983 : decode (byt 208) 983 = .ok (.aload_n 0, 1) := by decide +kernel
theorem D208_984 : decode (byt 208) 984 = .ok (.iload_n 3, 1) := by decide +kernel
theorem D208_985 : decode (byt 208) 985 = .ok (.iconst 1, 1) := by decide +kernel
theorem D208_986 : decode (byt 208) 986 = .ok (.iadd, 1) := by decide +kernel
theorem D208_987 : decode (byt 208) 987 = .ok (.iaload, 1) := by decide +kernel
theorem D208_988 : decode (byt 208) 988 = .ok (.aload_n 0, 1) := by decide +kernel
theorem D208_989 : decode (byt 208) 989 = .ok (.iload_n 3, 1) := by decide +kernel
theorem D208_990 : decode (byt 208) 990 = .ok (.iconst 2, 1) := by decide +kernel
theorem D208_991 : decode (byt 208) 991 = .ok (.iadd, 1) := by decide +kernel
theorem D208_992 : decode (byt 208) 992 = .ok (.iaload, 1) := by decide +kernel
theorem D208_993 : decode (byt 208) 993 = .ok (.invokevirtual 113, 3) := by decide +kernel
theorem D208_996 : decode (byt 208) 996 = .ok (.if_icmp .eq 354, 3) := by decide +kernel
theorem D208_999 : decode (byt 208) 999 = .ok (.iconst 0, 1) := by decide +kernel
theorem D208_1000 : decode (byt 208) 1000 = .ok (.ireturn, 1) := by decide +kernel
theorem D208_1001 : decode (byt 208) 1001 = .ok (.aload_n 1, 1) := by decide +kernel
theorem D208_1002 : decode (byt 208) 1002 = .ok (.aload_n 0, 1) := by decide +kernel
theorem D208_1003 : decode (byt 208) 1003 = .ok (.iload_n 3, 1) := by decide +kernel
theorem D208_1004 : decode (byt 208) 1004 = .ok (.iconst 1, 1) := by decide +kernel
theorem D208_1005 : decode (byt 208) 1005 = .ok (.iadd, 1) := by decide +kernel
theorem D208_1006 : decode (byt 208) 1006 = .ok (.iaload, 1) := by decide +kernel
theorem D208_1007 : decode (byt 208) 1007 = .ok (.aload_n 0, 1) := by decide +kernel
theorem D208_1008 : decode (byt 208) 1008 = .ok (.iload_n 3, 1) := by decide +kernel
theorem D208_1009 : decode (byt 208) 1009 = .ok (.iconst 2, 1) := by decide +kernel
theorem D208_1010 : decode (byt 208) 1010 = .ok (.iadd, 1) := by decide +kernel
theorem D208_1011 : decode (byt 208) 1011 = .ok (.iaload, 1) := by decide +kernel
theorem D208_1012 : decode (byt 208) 1012 = .ok (.invokevirtual 114, 3) := by decide +kernel
theorem D208_1015 : decode (byt 208) 1015 = .ok (.aload_n 2, 1) := by decide +kernel
theorem D208_1016 : decode (byt 208) 1016 = .ok (.aload_n 0, 1) := by decide +kernel
theorem D208_1017 : decode (byt 208) 1017 = .ok (.iload_n 3, 1) := by decide +kernel
theorem D208_1018 : decode (byt 208) 1018 = .ok (.iconst 1, 1) := by decide +kernel
theorem D208_1019 : decode (byt 208) 1019 = .ok (.iadd, 1) := by decide +kernel
theorem D208_1020 : decode (byt 208) 1020 = .ok (.iaload, 1) := by decide +kernel
theorem D208_1021 : decode (byt 208) 1021 = .ok (.aload_n 0, 1) := by decide +kernel
theorem D208_1022 : decode (byt 208) 1022 = .ok (.iload_n 3, 1) := by decide +kernel
theorem D208_1023 : decode (byt 208) 1023 = .ok (.iconst 2, 1) := by decide +kernel
theorem D208_1024 : decode (byt 208) 1024 = .ok (.iadd, 1) := by decide +kernel
theorem D208_1025 : decode (byt 208) 1025 = .ok (.iaload, 1) := by decide +kernel
theorem D208_1026 : decode (byt 208) 1026 = .ok (.invokevirtual 117, 3) := by decide +kernel
theorem D208_1029 : decode (byt 208) 1029 = .ok (.if_icmp .eq 321, 3) := by decide +kernel
theorem D208_1032 : decode (byt 208) 1032 = .ok (.iconst 0, 1) := by decide +kernel
theorem D208_1033 : decode (byt 208) 1033 = .ok (.ireturn, 1) := by decide +kernel
theorem D208_1034 : decode (byt 208) 1034 = .ok (.aload_n 1, 1) := by decide +kernel
theorem D208_1035 : decode (byt 208) 1035 = .ok (.aload_n 0, 1) := by decide +kernel
theorem D208_1036 : decode (byt 208) 1036 = .ok (.iload_n 3, 1) := by decide +kernel
theorem D208_1037 : decode (byt 208) 1037 = .ok (.iconst 1, 1) := by decide +kernel
theorem D208_1038 : decode (byt 208) 1038 = .ok (.iadd, 1) := by decide +kernel
theorem D208_1039 : decode (byt 208) 1039 = .ok (.iaload, 1) := by decide +kernel
theorem D208_1040 : decode (byt 208) 1040 = .ok (.aload_n 0, 1) := by decide +kernel
theorem D208_1041 : decode (byt 208) 1041 = .ok (.iload_n 3, 1) := by decide +kernel
theorem D208_1042 : decode (byt 208) 1042 = .ok (.iconst 2, 1) := by decide +kernel
theorem D208_1043 : decode (byt 208) 1043 = .ok (.iadd, 1) := by decide +kernel
theorem D208_1044 : decode (byt 208) 1044 = .ok (.iaload, 1) := by decide +kernel
theorem D208_1045 : decode (byt 208) 1045 = .ok (.ifCond .eq 7, 3) := by decide +kernel
theorem D208_1048 : decode (byt 208) 1048 = .ok (.iconst 1, 1) := by decide +kernel
theorem D208_1049 : decode (byt 208) 1049 = .ok (.goto 4, 3) := by decide +kernel
theorem D208_1052 : decode (byt 208) 1052 = .ok (.iconst 0, 1) := by decide +kernel
theorem D208_1053 : decode (byt 208) 1053 = .ok (.invokevirtual 118, 3) := by decide +kernel
theorem D208_1056 : decode (byt 208) 1056 = .ok (.aload_n 2, 1) := by decide +kernel
theorem D208_1057 : decode (byt 208) 1057 = .ok (.aload_n 0, 1) := by decide +kernel
theorem D208_1058 : decode (byt 208) 1058 = .ok (.iload_n 3, 1) := by decide +kernel
theorem D208_1059 : decode (byt 208) 1059 = .ok (.iconst 1, 1) := by decide +kernel
theorem D208_1060 : decode (byt 208) 1060 = .ok (.iadd, 1) := by decide +kernel
theorem D208_1061 : decode (byt 208) 1061 = .ok (.iaload, 1) := by decide +kernel
theorem D208_1062 : decode (byt 208) 1062 = .ok (.aload_n 0, 1) := by decide +kernel
theorem D208_1063 : decode (byt 208) 1063 = .ok (.iload_n 3, 1) := by decide +kernel
theorem D208_1064 : decode (byt 208) 1064 = .ok (.iconst 2, 1) := by decide +kernel
theorem D208_1065 : decode (byt 208) 1065 = .ok (.iadd, 1) := by decide +kernel
theorem D208_1066 : decode (byt 208) 1066 = .ok (.iaload, 1) := by decide +kernel
theorem D208_1067 : decode (byt 208) 1067 = .ok (.ifCond .eq 7, 3) := by decide +kernel
theorem D208_1070 : decode (byt 208) 1070 = .ok (.iconst 1, 1) := by decide +kernel
theorem D208_1071 : decode (byt 208) 1071 = .ok (.goto 4, 3) := by decide +kernel
theorem D208_1074 : decode (byt 208) 1074 = .ok (.iconst 0, 1) := by decide +kernel
theorem D208_1075 : decode (byt 208) 1075 = .ok (.invokevirtual 122, 3) := by decide +kernel
theorem D208_1078 : decode (byt 208) 1078 = .ok (.if_icmp .eq 272, 3) := by decide +kernel
theorem D208_1081 : decode (byt 208) 1081 = .ok (.iconst 0, 1) := by decide +kernel
theorem D208_1082 : decode (byt 208) 1082 = .ok (.ireturn, 1) := by decide +kernel
theorem D208_1083 : decode (byt 208) 1083 = .ok (.aload_n 1, 1) := by decide +kernel
theorem D208_1084 : decode (byt 208) 1084 = .ok (.aload_n 0, 1) := by decide +kernel
theorem D208_1085 : decode (byt 208) 1085 = .ok (.iload_n 3, 1) := by decide +kernel
theorem D208_1086 : decode (byt 208) 1086 = .ok (.iconst 1, 1) := by decide +kernel
theorem D208_1087 : decode (byt 208) 1087 = .ok (.iadd, 1) := by decide +kernel
theorem D208_1088 : decode (byt 208) 1088 = .ok (.iaload, 1) := by decide +kernel
theorem D208_1089 : decode (byt 208) 1089 = .ok (.aload_n 0, 1) := by decide +kernel
theorem D208_1090 : decode (byt 208) 1090 = .ok (.iload_n 3, 1) := by decide +kernel
theorem D208_1091 : decode (byt 208) 1091 = .ok (.iconst 2, 1) := by decide +kernel
theorem D208_1092 : decode (byt 208) 1092 = .ok (.iadd, 1) := by decide +kernel
theorem D208_1093 : decode (byt 208) 1093 = .ok (.iaload, 1) := by decide +kernel
theorem D208_1094 : decode (byt 208) 1094 = .ok (.invokevirtual 123, 3) := by decide +kernel
theorem D208_1097 : decode (byt 208) 1097 = .ok (.aload_n 2, 1) := by decide +kernel
theorem D208_1098 : decode (byt 208) 1098 = .ok (.aload_n 0, 1) := by decide +kernel
theorem D208_1099 : decode (byt 208) 1099 = .ok (.iload_n 3, 1) := by decide +kernel
theorem D208_1100 : decode (byt 208) 1100 = .ok (.iconst 1, 1) := by decide +kernel
theorem D208_1101 : decode (byt 208) 1101 = .ok (.iadd, 1) := by decide +kernel
theorem D208_1102 : decode (byt 208) 1102 = .ok (.iaload, 1) := by decide +kernel
theorem D208_1103 : decode (byt 208) 1103 = .ok (.aload_n 0, 1) := by decide +kernel
theorem D208_1104 : decode (byt 208) 1104 = .ok (.iload_n 3, 1) := by decide +kernel
theorem D208_1105 : decode (byt 208) 1105 = .ok (.iconst 2, 1) := by decide +kernel
theorem D208_1106 : decode (byt 208) 1106 = .ok (.iadd, 1) := by decide +kernel
theorem D208_1107 : decode (byt 208) 1107 = .ok (.iaload, 1) := by decide +kernel
theorem D208_1108 : decode (byt 208) 1108 = .ok (.invokevirtual 127, 3) := by decide +kernel
theorem D208_1111 : decode (byt 208) 1111 = .ok (.lcmp, 1) := by decide +kernel
theorem D208_1112 : decode (byt 208) 1112 = .ok (.ifCond .eq 238, 3) := by decide +kernel
theorem D208_1115 : decode (byt 208) 1115 = .ok (.iconst 0, 1) := by decide +kernel
theorem D208_1116 : decode (byt 208) 1116 = .ok (.ireturn, 1) := by decide +kernel
theorem D208_1117 : decode (byt 208) 1117 = .ok (.aload_n 1, 1) := by decide +kernel
theorem D208_1118 : decode (byt 208) 1118 = .ok (.aload_n 0, 1) := by decide +kernel
theorem D208_1119 : decode (byt 208) 1119 = .ok (.iload_n 3, 1) := by decide +kernel
theorem D208_1120 : decode (byt 208) 1120 = .ok (.iconst 1, 1) := by decide +kernel
theorem D208_1121 : decode (byt 208) 1121 = .ok (.iadd, 1) := by decide +kernel
theorem D208_1122 : decode (byt 208) 1122 = .ok (.iaload, 1) := by decide +kernel
theorem D208_1123 : decode (byt 208) 1123 = .ok (.invokevirtual 128, 3) := by decide +kernel
theorem D208_1126 : decode (byt 208) 1126 = .ok (.aload_n 2, 1) := by decide +kernel
theorem D208_1127 : decode (byt 208) 1127 = .ok (.aload_n 0, 1) := by decide +kernel
theorem D208_1128 : decode (byt 208) 1128 = .ok (.iload_n 3, 1) := by decide +kernel
theorem D208_1129 : decode (byt 208) 1129 = .ok (.iconst 1, 1) := by decide +kernel
theorem D208_1130 : decode (byt 208) 1130 = .ok (.iadd, 1) := by decide +kernel
theorem D208_1131 : decode (byt 208) 1131 = .ok (.iaload, 1) := by decide +kernel
theorem D208_1132 : decode (byt 208) 1132 = .ok (.invokevirtual 131, 3) := by decide +kernel
theorem D208_1135 : decode (byt 208) 1135 = .ok (.if_icmp .eq 215, 3) := by decide +kernel
theorem D208_1138 : decode (byt 208) 1138 = .ok (.iconst 0, 1) := by decide +kernel
theorem D208_1139 : decode (byt 208) 1139 = .ok (.ireturn, 1) := by decide +kernel
theorem D208_1140 : decode (byt 208) 1140 = .ok (.aload_n 1, 1) := by decide +kernel
theorem D208_1141 : decode (byt 208) 1141 = .ok (.aload_n 0, 1) := by decide +kernel
theorem D208_1142 : decode (byt 208) 1142 = .ok (.iload_n 3, 1) := by decide +kernel
theorem D208_1143 : decode (byt 208) 1143 = .ok (.iconst 1, 1) := by decide +kernel
theorem D208_1144 : decode (byt 208) 1144 = .ok (.iadd, 1) := by decide +kernel
theorem D208_1145 : decode (byt 208) 1145 = .ok (.iaload, 1) := by decide +kernel
theorem D208_1146 : decode (byt 208) 1146 = .ok (.ifCond .eq 7, 3) := by decide +kernel
theorem D208_1149 : decode (byt 208) 1149 = .ok (.iconst 1, 1) := by decide +kernel
theorem D208_1150 : decode (byt 208) 1150 = .ok (.goto 4, 3) := by decide +kernel
theorem D208_1153 : decode (byt 208) 1153 = .ok (.iconst 0, 1) := by decide +kernel
theorem D208_1154 : decode (byt 208) 1154 = .ok (.invokevirtual 132, 3) := by decide +kernel
theorem D208_1157 : decode (byt 208) 1157 = .ok (.aload_n 2, 1) := by decide +kernel
theorem D208_1158 : decode (byt 208) 1158 = .ok (.aload_n 0, 1) := by decide +kernel
theorem D208_1159 : decode (byt 208) 1159 = .ok (.iload_n 3, 1) := by decide +kernel
theorem D208_1160 : decode (byt 208) 1160 = .ok (.iconst 1, 1) := by decide +kernel
theorem D208_1161 : decode (byt 208) 1161 = .ok (.iadd, 1) := by decide +kernel
theorem D208_1162 : decode (byt 208) 1162 = .ok (.iaload, 1) := by decide +kernel
theorem D208_1163 : decode (byt 208) 1163 = .ok (.ifCond .eq 7, 3) := by decide +kernel
theorem D208_1166 : decode (byt 208) 1166 = .ok (.iconst 1, 1) := by decide +kernel
theorem D208_1167 : decode (byt 208) 1167 = .ok (.goto 4, 3) := by decide +kernel
theorem D208_1170 : decode (byt 208) 1170 = .ok (.iconst 0, 1) := by decide +kernel
theorem D208_1171 : decode (byt 208) 1171 = .ok (.invokevirtual 136, 3) := by decide +kernel
theorem D208_1174 : decode (byt 208) 1174 = .ok (.if_icmp .eq 176, 3) := by decide +kernel
theorem D208_1177 : decode (byt 208) 1177 = .ok (.iconst 0, 1) := by decide +kernel
theorem D208_1178 : decode (byt 208) 1178 = .ok (.ireturn, 1) := by decide +kernel
theorem D208_1179 : decode (byt 208) 1179 = .ok (.aload_n 1, 1) := by decide +kernel
theorem D208_1180 : decode (byt 208) 1180 = .ok (.invokevirtual 137, 3) := by decide +kernel
theorem D208_1183 : decode (byt 208) 1183 = .ok (.aload_n 2, 1) := by decide +kernel
theorem D208_1184 : decode (byt 208) 1184 = .ok (.invokevirtual 140, 3) := by decide +kernel
theorem D208_1187 : decode (byt 208) 1187 = .ok (.if_icmp .eq 163, 3) := by decide +kernel
theorem D208_1190 : decode (byt 208) 1190 = .ok (.iconst 0, 1) := by decide +kernel
theorem D208_1191 : decode (byt 208) 1191 = .ok (.ireturn, 1) := by decide +kernel
theorem D208_1192 : decode (byt 208) 1192 = .ok (.aload_n 1, 1) := by decide +kernel
theorem D208_1193 : decode (byt 208) 1193 = .ok (.aload_n 0, 1) := by decide +kernel
theorem D208_1194 : decode (byt 208) 1194 = .ok (.iload_n 3, 1) := by decide +kernel
theorem D208_1195 : decode (byt 208) 1195 = .ok (.iconst 1, 1) := by decide +kernel
theorem D208_1196 : decode (byt 208) 1196 = .ok (.iadd, 1) := by decide +kernel
theorem D208_1197 : decode (byt 208) 1197 = .ok (.iaload, 1) := by decide +kernel
theorem D208_1198 : decode (byt 208) 1198 = .ok (.aload_n 0, 1) := by decide +kernel
theorem D208_1199 : decode (byt 208) 1199 = .ok (.iload_n 3, 1) := by decide +kernel
theorem D208_1200 : decode (byt 208) 1200 = .ok (.iconst 2, 1) := by decide +kernel
theorem D208_1201 : decode (byt 208) 1201 = .ok (.iadd, 1) := by decide +kernel
theorem D208_1202 : decode (byt 208) 1202 = .ok (.iaload, 1) := by decide +kernel
theorem D208_1203 : decode (byt 208) 1203 = .ok (.invokevirtual 141, 3) := by decide +kernel
theorem D208_1206 : decode (byt 208) 1206 = .ok (.aload_n 2, 1) := by decide +kernel
theorem D208_1207 : decode (byt 208) 1207 = .ok (.aload_n 0, 1) := by decide +kernel
theorem D208_1208 : decode (byt 208) 1208 = .ok (.iload_n 3, 1) := by decide +kernel
theorem D208_1209 : decode (byt 208) 1209 = .ok (.iconst 1, 1) := by decide +kernel
theorem D208_1210 : decode (byt 208) 1210 = .ok (.iadd, 1) := by decide +kernel
theorem D208_1211 : decode (byt 208) 1211 = .ok (.iaload, 1) := by decide +kernel
theorem D208_1212 : decode (byt 208) 1212 = .ok (.aload_n 0, 1) := by decide +kernel
theorem D208_1213 : decode (byt 208) 1213 = .ok (.iload_n 3, 1) := by decide +kernel
theorem D208_1214 : decode (byt 208) 1214 = .ok (.iconst 2, 1) := by decide +kernel
theorem D208_1215 : decode (byt 208) 1215 = .ok (.iadd, 1) := by decide +kernel
theorem D208_1216 : decode (byt 208) 1216 = .ok (.iaload, 1) := by decide +kernel
theorem D208_1217 : decode (byt 208) 1217 = .ok (.invokevirtual 144, 3) := by decide +kernel
theorem D208_1220 : decode (byt 208) 1220 = .ok (.if_icmp .eq 130, 3) := by decide +kernel
theorem D208_1223 : decode (byt 208) 1223 = .ok (.iconst 0, 1) := by decide +kernel
theorem D208_1224 : decode (byt 208) 1224 = .ok (.ireturn, 1) := by decide +kernel
theorem D208_1225 : decode (byt 208) 1225 = .ok (.aload_n 1, 1) := by decide +kernel
theorem D208_1226 : decode (byt 208) 1226 = .ok (.invokevirtual 145, 3) := by decide +kernel
theorem D208_1229 : decode (byt 208) 1229 = .ok (.aload_n 2, 1) := by decide +kernel
theorem D208_1230 : decode (byt 208) 1230 = .ok (.invokevirtual 148, 3) := by decide +kernel
theorem D208_1233 : decode (byt 208) 1233 = .ok (.if_icmp .eq 117, 3) := by decide +kernel
theorem D208_1236 : decode (byt 208) 1236 = .ok (.iconst 0, 1) := by decide +kernel
theorem D208_1237 : decode (byt 208) 1237 = .ok (.ireturn, 1) := by decide +kernel
theorem D208_1238 : decode (byt 208) 1238 = .ok (.aload_n 1, 1) := by decide +kernel
theorem D208_1239 : decode (byt 208) 1239 = .ok (.aload_n 0, 1) := by decide +kernel
theorem D208_1240 : decode (byt 208) 1240 = .ok (.iload_n 3, 1) := by decide +kernel
theorem D208_1241 : decode (byt 208) 1241 = .ok (.iconst 1, 1) := by decide +kernel
theorem D208_1242 : decode (byt 208) 1242 = .ok (.iadd, 1) := by decide +kernel
theorem D208_1243 : decode (byt 208) 1243 = .ok (.iaload, 1) := by decide +kernel
theorem D208_1244 : decode (byt 208) 1244 = .ok (.invokevirtual 149, 3) := by decide +kernel
theorem D208_1247 : decode (byt 208) 1247 = .ok (.aload_n 2, 1) := by decide +kernel
theorem D208_1248 : decode (byt 208) 1248 = .ok (.aload_n 0, 1) := by decide +kernel
theorem D208_1249 : decode (byt 208) 1249 = .ok (.iload_n 3, 1) := by decide +kernel
theorem D208_1250 : decode (byt 208) 1250 = .ok (.iconst 1, 1) := by decide +kernel
theorem D208_1251 : decode (byt 208) 1251 = .ok (.iadd, 1) := by decide +kernel
theorem D208_1252 : decode (byt 208) 1252 = .ok (.iaload, 1) := by decide +kernel
theorem D208_1253 : decode (byt 208) 1253 = .ok (.invokevirtual 152, 3) := by decide +kernel
theorem D208_1256 : decode (byt 208) 1256 = .ok (.if_icmp .eq 94, 3) := by decide +kernel
theorem D208_1259 : decode (byt 208) 1259 = .ok (.iconst 0, 1) := by decide +kernel
theorem D208_1260 : decode (byt 208) 1260 = .ok (.ireturn, 1) := by decide +kernel
theorem D208_1261 : decode (byt 208) 1261 = .ok (.aload_n 1, 1) := by decide +kernel
theorem D208_1262 : decode (byt 208) 1262 = .ok (.aload_n 0, 1) := by decide +kernel
theorem D208_1263 : decode (byt 208) 1263 = .ok (.iload_n 3, 1) := by decide +kernel
theorem D208_1264 : decode (byt 208) 1264 = .ok (.iconst 1, 1) := by decide +kernel
theorem D208_1265 : decode (byt 208) 1265 = .ok (.iadd, 1) := by decide +kernel
theorem D208_1266 : decode (byt 208) 1266 = .ok (.iaload, 1) := by decide +kernel
theorem D208_1267 : decode (byt 208) 1267 = .ok (.aload_n 0, 1) := by decide +kernel
theorem D208_1268 : decode (byt 208) 1268 = .ok (.iload_n 3, 1) := by decide +kernel
theorem D208_1269 : decode (byt 208) 1269 = .ok (.iconst 2, 1) := by decide +kernel
theorem D208_1270 : decode (byt 208) 1270 = .ok (.iadd, 1) := by decide +kernel
theorem D208_1271 : decode (byt 208) 1271 = .ok (.iaload, 1) := by decide +kernel
theorem D208_1272 : decode (byt 208) 1272 = .ok (.aload_n 0, 1) := by decide +kernel
theorem D208_1273 : decode (byt 208) 1273 = .ok (.iload_n 3, 1) := by decide +kernel
theorem D208_1274 : decode (byt 208) 1274 = .ok (.iconst 3, 1) := by decide +kernel
theorem D208_1275 : decode (byt 208) 1275 = .ok (.iadd, 1) := by decide +kernel
theorem D208_1276 : decode (byt 208) 1276 = .ok (.iaload, 1) := by decide +kernel
theorem D208_1277 : decode (byt 208) 1277 = .ok (.invokevirtual 153, 3) := by decide +kernel
theorem D208_1280 : decode (byt 208) 1280 = .ok (.aload_n 2, 1) := by decide +kernel
theorem D208_1281 : decode (byt 208) 1281 = .ok (.aload_n 0, 1) := by decide +kernel
theorem D208_1282 : decode (byt 208) 1282 = .ok (.iload_n 3, 1) := by decide +kernel
theorem D208_1283 : decode (byt 208) 1283 = .ok (.iconst 1, 1) := by decide +kernel
theorem D208_1284 : decode (byt 208) 1284 = .ok (.iadd, 1) := by decide +kernel
theorem D208_1285 : decode (byt 208) 1285 = .ok (.iaload, 1) := by decide +kernel
theorem D208_1286 : decode (byt 208) 1286 = .ok (.aload_n 0, 1) := by decide +kernel
theorem D208_1287 : decode (byt 208) 1287 = .ok (.iload_n 3, 1) := by decide +kernel
theorem D208_1288 : decode (byt 208) 1288 = .ok (.iconst 2, 1) := by decide +kernel
theorem D208_1289 : decode (byt 208) 1289 = .ok (.iadd, 1) := by decide +kernel
theorem D208_1290 : decode (byt 208) 1290 = .ok (.iaload, 1) := by decide +kernel
theorem D208_1291 : decode (byt 208) 1291 = .ok (.aload_n 0, 1) := by decide +kernel
theorem D208_1292 : decode (byt 208) 1292 = .ok (.iload_n 3, 1) := by decide +kernel
theorem D208_1293 : decode (byt 208) 1293 = .ok (.iconst 3, 1) := by decide +kernel
theorem D208_1294 : decode (byt 208) 1294 = .ok (.iadd, 1) := by decide +kernel
theorem D208_1295 : decode (byt 208) 1295 = .ok (.iaload, 1) := by decide +kernel
theorem D208_1296 : decode (byt 208) 1296 = .ok (.invokevirtual 156, 3) := by decide +kernel
theorem D208_1299 : decode (byt 208) 1299 = .ok (.if_icmp .eq 51, 3) := by decide +kernel
theorem D208_1302 : decode (byt 208) 1302 = .ok (.iconst 0, 1) := by decide +kernel
theorem D208_1303 : decode (byt 208) 1303 = .ok (.ireturn, 1) := by decide +kernel
theorem D208_1304 : decode (byt 208) 1304 = .ok (.aload_n 1, 1) := by decide +kernel
theorem D208_1305 : decode (byt 208) 1305 = .ok (.aload_n 0, 1) := by decide +kernel
theorem D208_1306 : decode (byt 208) 1306 = .ok (.iload_n 3, 1) := by decide +kernel
theorem D208_1307 : decode (byt 208) 1307 = .ok (.iconst 1, 1) := by decide +kernel
theorem D208_1308 : decode (byt 208) 1308 = .ok (.iadd, 1) := by decide +kernel
theorem D208_1309 : decode (byt 208) 1309 = .ok (.iaload, 1) := by decide +kernel
theorem D208_1310 : decode (byt 208) 1310 = .ok (.invokevirtual 157, 3) := by decide +kernel
theorem D208_1313 : decode (byt 208) 1313 = .ok (.aload_n 2, 1) := by decide +kernel
theorem D208_1314 : decode (byt 208) 1314 = .ok (.aload_n 0, 1) := by decide +kernel
theorem D208_1315 : decode (byt 208) 1315 = .ok (.iload_n 3, 1) := by decide +kernel
theorem D208_1316 : decode (byt 208) 1316 = .ok (.iconst 1, 1) := by decide +kernel
theorem D208_1317 : decode (byt 208) 1317 = .ok (.iadd, 1) := by decide +kernel
theorem D208_1318 : decode (byt 208) 1318 = .ok (.iaload, 1) := by decide +kernel
theorem D208_1319 : decode (byt 208) 1319 = .ok (.invokevirtual 160, 3) := by decide +kernel
theorem D208_1322 : decode (byt 208) 1322 = .ok (.if_icmp .eq 28, 3) := by decide +kernel
theorem D208_1325 : decode (byt 208) 1325 = .ok (.iconst 0, 1) := by decide +kernel
theorem D208_1326 : decode (byt 208) 1326 = .ok (.ireturn, 1) := by decide +kernel
theorem D208_1327 : decode (byt 208) 1327 = .ok (.aload_n 1, 1) := by decide +kernel
theorem D208_1328 : decode (byt 208) 1328 = .ok (.aload_n 0, 1) := by decide +kernel
theorem D208_1329 : decode (byt 208) 1329 = .ok (.iload_n 3, 1) := by decide +kernel
theorem D208_1330 : decode (byt 208) 1330 = .ok (.iconst 1, 1) := by decide +kernel
theorem D208_1331 : decode (byt 208) 1331 = .ok (.iadd, 1) := by decide +kernel
theorem D208_1332 : decode (byt 208) 1332 = .ok (.iaload, 1) := by decide +kernel
theorem D208_1333 : decode (byt 208) 1333 = .ok (.invokevirtual 161, 3) := by decide +kernel
theorem D208_1336 : decode (byt 208) 1336 = .ok (.aload_n 2, 1) := by decide +kernel
theorem D208_1337 : decode (byt 208) 1337 = .ok (.aload_n 0, 1) := by decide +kernel
theorem D208_1338 : decode (byt 208) 1338 = .ok (.iload_n 3, 1) := by decide +kernel
theorem D208_1339 : decode (byt 208) 1339 = .ok (.iconst 1, 1) := by decide +kernel
theorem D208_1340 : decode (byt 208) 1340 = .ok (.iadd, 1) := by decide +kernel
theorem D208_1341 : decode (byt 208) 1341 = .ok (.iaload, 1) := by decide +kernel
theorem D208_1342 : decode (byt 208) 1342 = .ok (.invokevirtual 164, 3) := by decide +kernel
theorem D208_1345 : decode (byt 208) 1345 = .ok (.if_icmp .eq 5, 3) := by decide +kernel
theorem D208_1348 : decode (byt 208) 1348 = .ok (.iconst 0, 1) := by decide +kernel
theorem D208_1349 : decode (byt 208) 1349 = .ok (.ireturn, 1) := by decide +kernel
theorem D208_1350 : decode (byt 208) 1350 = .ok (.iinc 3 6, 3) := by decide +kernel
theorem D208_1353 : decode (byt 208) 1353 = .ok (.goto (-1335), 3) := by decide +kernel
theorem D208_1356 : decode (byt 208) 1356 = .ok (.iconst 1, 1) := by decide +kernel
theorem D208_1357 : decode (byt 208) 1357 = .ok (.ireturn, 1) := by decide +kernel
end
section
theorem fT_5_9 : fldT 5 9 = some (5, 0) := by decide +kernel
theorem fT_0_91 : fldT 0 91 = some (5, 0) := by decide +kernel
theorem fT_5_15 : fldT 5 15 = some (5, 1) := by decide +kernel
theorem fT_5_19 : fldT 5 19 = some (5, 2) := by decide +kernel
theorem fT_6_245 : fldT 6 245 = some (5, 2) := by decide +kernel
theorem fT_5_22 : fldT 5 22 = some (5, 3) := by decide +kernel
theorem fT_1_84 : fldT 1 84 = some (5, 3) := by decide +kernel
theorem fT_0_88 : fldT 0 88 = some (5, 3) := by decide +kernel
theorem fT_1_9 : fldT 1 9 = some (1, 0) := by decide +kernel
theorem fT_6_142 : fldT 6 142 = some (1, 0) := by decide +kernel
theorem fT_1_15 : fldT 1 15 = some (1, 1) := by decide +kernel
theorem fT_6_145 : fldT 6 145 = some (1, 1) := by decide +kernel
theorem fT_1_18 : fldT 1 18 = some (1, 2) := by decide +kernel
theorem fT_6_148 : fldT 6 148 = some (1, 2) := by decide +kernel
theorem fT_1_21 : fldT 1 21 = some (1, 3) := by decide +kernel
theorem fT_6_151 : fldT 6 151 = some (1, 3) := by decide +kernel
theorem fT_1_24 : fldT 1 24 = some (1, 4) := by decide +kernel
theorem fT_1_27 : fldT 1 27 = some (1, 5) := by decide +kernel
theorem fT_1_34 : fldT 1 34 = some (1, 6) := by decide +kernel
theorem fT_1_38 : fldT 1 38 = some (1, 7) := by decide +kernel
theorem fT_1_42 : fldT 1 42 = some (1, 8) := by decide +kernel
theorem fT_6_124 : fldT 6 124 = some (1, 8) := by decide +kernel
theorem fT_1_46 : fldT 1 46 = some (1, 9) := by decide +kernel
theorem fT_3_62 : fldT 3 62 = some (1, 9) := by decide +kernel
theorem fT_6_136 : fldT 6 136 = some (1, 9) := by decide +kernel
theorem fT_1_49 : fldT 1 49 = some (1, 10) := by decide +kernel
theorem fT_3_101 : fldT 3 101 = some (1, 10) := by decide +kernel
theorem fT_6_129 : fldT 6 129 = some (1, 10) := by decide +kernel
theorem fT_1_52 : fldT 1 52 = some (1, 11) := by decide +kernel
theorem fT_3_65 : fldT 3 65 = some (1, 11) := by decide +kernel
theorem fT_0_9 : fldT 0 9 = some (0, 0) := by decide +kernel
theorem fT_3_48 : fldT 3 48 = some (0, 0) := by decide +kernel
theorem fT_0_15 : fldT 0 15 = some (0, 1) := by decide +kernel
theorem fT_0_21 : fldT 0 21 = some (0, 2) := by decide +kernel
theorem fT_3_39 : fldT 3 39 = some (0, 2) := by decide +kernel
theorem fT_6_120 : fldT 6 120 = some (0, 2) := by decide +kernel
theorem fT_0_28 : fldT 0 28 = some (0, 3) := by decide +kernel
theorem fT_0_32 : fldT 0 32 = some (0, 4) := by decide +kernel
theorem fT_6_63 : fldT 6 63 = some (0, 4) := by decide +kernel
theorem fT_0_36 : fldT 0 36 = some (0, 5) := by decide +kernel
theorem fT_3_51 : fldT 3 51 = some (0, 5) := by decide +kernel
theorem fT_6_84 : fldT 6 84 = some (0, 5) := by decide +kernel
theorem fT_0_39 : fldT 0 39 = some (0, 6) := by decide +kernel
theorem fT_3_33 : fldT 3 33 = some (0, 6) := by decide +kernel
theorem fT_6_104 : fldT 6 104 = some (0, 6) := by decide +kernel
theorem fT_0_42 : fldT 0 42 = some (0, 7) := by decide +kernel
theorem fT_6_110 : fldT 6 110 = some (0, 7) := by decide +kernel
theorem fT_0_45 : fldT 0 45 = some (0, 8) := by decide +kernel
theorem fT_6_107 : fldT 6 107 = some (0, 8) := by decide +kernel
theorem fT_4_10 : fldT 4 10 = some (4, 0) := by decide +kernel
theorem fT_4_16 : fldT 4 16 = some (4, 1) := by decide +kernel
theorem fT_4_19 : fldT 4 19 = some (4, 2) := by decide +kernel
theorem fT_4_22 : fldT 4 22 = some (4, 3) := by decide +kernel
theorem fT_4_25 : fldT 4 25 = some (4, 4) := by decide +kernel
theorem fT_4_28 : fldT 4 28 = some (4, 5) := by decide +kernel
theorem fT_4_31 : fldT 4 31 = some (4, 6) := by decide +kernel
theorem fT_4_35 : fldT 4 35 = some (4, 7) := by decide +kernel
theorem fT_2_9 : fldT 2 9 = some (2, 0) := by decide +kernel
theorem fT_2_15 : fldT 2 15 = some (2, 1) := by decide +kernel
theorem fT_2_18 : fldT 2 18 = some (2, 2) := by decide +kernel
theorem fT_3_91 : fldT 3 91 = some (2, 2) := by decide +kernel
theorem fT_2_21 : fldT 2 21 = some (2, 3) := by decide +kernel
theorem fT_3_130 : fldT 3 130 = some (2, 3) := by decide +kernel
theorem fT_2_24 : fldT 2 24 = some (2, 4) := by decide +kernel
theorem fT_3_139 : fldT 3 139 = some (2, 4) := by decide +kernel
theorem fT_2_27 : fldT 2 27 = some (2, 5) := by decide +kernel
theorem fT_2_31 : fldT 2 31 = some (2, 6) := by decide +kernel
theorem fT_3_94 : fldT 3 94 = some (2, 6) := by decide +kernel
theorem fT_2_34 : fldT 2 34 = some (2, 7) := by decide +kernel
theorem fT_3_127 : fldT 3 127 = some (2, 7) := by decide +kernel
theorem fT_2_37 : fldT 2 37 = some (2, 8) := by decide +kernel
theorem fT_3_136 : fldT 3 136 = some (2, 8) := by decide +kernel
theorem fT_3_11 : fldT 3 11 = some (3, 0) := by decide +kernel
theorem fT_3_20 : fldT 3 20 = some (3, 1) := by decide +kernel
theorem fT_3_24 : fldT 3 24 = some (3, 2) := by decide +kernel
theorem fT_3_28 : fldT 3 28 = some (3, 3) := by decide +kernel
theorem fT_6_12 : fldT 6 12 = some (6, 0) := by decide +kernel
theorem fT_6_16 : fldT 6 16 = some (6, 1) := by decide +kernel
theorem fT_6_22 : fldT 6 22 = some (6, 2) := by decide +kernel
theorem fT_6_26 : fldT 6 26 = some (6, 3) := by decide +kernel
theorem fT_6_33 : fldT 6 33 = some (6, 4) := by decide +kernel
theorem fT_6_37 : fldT 6 37 = some (6, 5) := by decide +kernel
theorem fT_6_41 : fldT 6 41 = some (6, 6) := by decide +kernel
theorem fT_6_44 : fldT 6 44 = some (6, 7) := by decide +kernel
theorem fT_6_48 : fldT 6 48 = some (6, 8) := by decide +kernel
theorem fT_6_52 : fldT 6 52 = some (6, 9) := by decide +kernel
theorem fT_7_7 : fldT 7 7 = some (7, 0) := by decide +kernel
theorem fT_7_13 : fldT 7 13 = some (7, 1) := by decide +kernel
theorem fT_7_16 : fldT 7 16 = some (7, 2) := by decide +kernel
theorem fT_7_19 : fldT 7 19 = some (7, 3) := by decide +kernel
theorem fT_7_22 : fldT 7 22 = some (7, 4) := by decide +kernel
theorem fT_7_25 : fldT 7 25 = some (7, 5) := by decide +kernel
theorem fT_7_28 : fldT 7 28 = some (7, 6) := by decide +kernel
theorem fT_7_31 : fldT 7 31 = some (7, 7) := by decide +kernel
theorem fT_7_34 : fldT 7 34 = some (7, 8) := by decide +kernel
theorem fT_7_37 : fldT 7 37 = some (7, 9) := by decide +kernel
theorem fT_7_40 : fldT 7 40 = some (7, 10) := by decide +kernel
theorem fT_7_43 : fldT 7 43 = some (7, 11) := by decide +kernel
theorem fT_7_46 : fldT 7 46 = some (7, 12) := by decide +kernel
theorem fT_7_49 : fldT 7 49 = some (7, 13) := by decide +kernel
theorem fT_7_52 : fldT 7 52 = some (7, 14) := by decide +kernel
theorem fT_7_56 : fldT 7 56 = some (7, 15) := by decide +kernel
theorem fT_7_59 : fldT 7 59 = some (7, 16) := by decide +kernel
theorem fT_7_62 : fldT 7 62 = some (7, 17) := by decide +kernel
theorem fT_7_191 : fldT 7 191 = some (7, 18) := by decide +kernel
theorem fT_7_65 : fldT 7 65 = some (7, 19) := by decide +kernel
theorem fT_7_68 : fldT 7 68 = some (7, 20) := by decide +kernel
theorem fT_7_71 : fldT 7 71 = some (7, 21) := by decide +kernel
theorem fT_7_74 : fldT 7 74 = some (7, 22) := by decide +kernel
theorem fT_7_77 : fldT 7 77 = some (7, 23) := by decide +kernel
theorem fT_7_80 : fldT 7 80 = some (7, 24) := by decide +kernel
theorem fT_7_83 : fldT 7 83 = some (7, 25) := by decide +kernel
theorem fT_7_86 : fldT 7 86 = some (7, 26) := by decide +kernel
theorem fT_7_89 : fldT 7 89 = some (7, 27) := by decide +kernel
theorem fT_7_92 : fldT 7 92 = some (7, 28) := by decide +kernel
theorem fT_7_95 : fldT 7 95 = some (7, 29) := by decide +kernel
theorem fT_7_98 : fldT 7 98 = some (7, 30) := by decide +kernel
theorem fT_7_101 : fldT 7 101 = some (7, 31) := by decide +kernel
theorem fT_7_104 : fldT 7 104 = some (7, 32) := by decide +kernel
theorem fT_7_107 : fldT 7 107 = some (7, 33) := by decide +kernel
theorem fT_7_110 : fldT 7 110 = some (7, 34) := by decide +kernel
theorem fT_7_114 : fldT 7 114 = some (7, 35) := by decide +kernel
theorem fT_7_219 : fldT 7 219 = some (7, 36) := by decide +kernel
theorem fT_7_222 : fldT 7 222 = some (7, 37) := by decide +kernel
theorem fT_7_206 : fldT 7 206 = some (7, 38) := by decide +kernel
theorem fT_7_212 : fldT 7 212 = some (7, 39) := by decide +kernel
theorem fT_7_117 : fldT 7 117 = some (7, 40) := by decide +kernel
theorem fT_7_120 : fldT 7 120 = some (7, 41) := by decide +kernel
theorem fT_7_124 : fldT 7 124 = some (7, 42) := by decide +kernel
theorem fT_7_127 : fldT 7 127 = some (7, 43) := by decide +kernel
theorem fT_7_130 : fldT 7 130 = some (7, 44) := by decide +kernel
theorem fT_7_134 : fldT 7 134 = some (7, 45) := by decide +kernel
theorem fT_7_137 : fldT 7 137 = some (7, 46) := by decide +kernel
theorem fT_7_140 : fldT 7 140 = some (7, 47) := by decide +kernel
theorem fT_7_143 : fldT 7 143 = some (7, 48) := by decide +kernel
theorem cT_8_9 : calT 8 9 = some (4, 74) := by decide +kernel
theorem cT_6_3 : calT 6 3 = some (6, 0) := by decide +kernel
theorem cT_6_11 : calT 6 11 = some (4, 0) := by decide +kernel
theorem cT_0_3 : calT 0 3 = some (6, 0) := by decide +kernel
theorem cT_0_20 : calT 0 20 = some (5, 19) := by decide +kernel
theorem cT_1_3 : calT 1 3 = some (6, 0) := by decide +kernel
theorem cT_1_33 : calT 1 33 = some (5, 61) := by decide +kernel
theorem cT_5_3 : calT 5 3 = some (6, 0) := by decide +kernel
theorem cT_0_27 : calT 0 27 = some (5, 61) := by decide +kernel
theorem cT_0_49 : calT 0 49 = some (0, 1) := by decide +kernel
theorem cT_6_21 : calT 6 21 = some (4, 48) := by decide +kernel
theorem cT_3_3 : calT 3 3 = some (6, 0) := by decide +kernel
theorem cT_3_19 : calT 3 19 = some (5, 55) := by decide +kernel
theorem cT_4_3 : calT 4 3 = some (6, 0) := by decide +kernel
theorem cT_3_32 : calT 3 32 = some (5, 35) := by decide +kernel
theorem cT_2_3 : calT 2 3 = some (6, 0) := by decide +kernel
theorem cT_6_32 : calT 6 32 = some (5, 61) := by decide +kernel
theorem cT_8_13 : calT 8 13 = some (0, 75) := by decide +kernel
theorem cT_6_55 : calT 6 55 = some (0, 110) := by decide +kernel
theorem cT_6_59 : calT 6 59 = some (0, 111) := by decide +kernel
theorem cT_6_66 : calT 6 66 = some (0, 1) := by decide +kernel
theorem cT_8_18 : calT 8 18 = some (0, 76) := by decide +kernel
theorem cT_6_70 : calT 6 70 = some (0, 5) := by decide +kernel
theorem cT_6_74 : calT 6 74 = some (2, 119) := by decide +kernel
theorem cT_6_248 : calT 6 248 = some (2, 118) := by decide +kernel
theorem cT_6_77 : calT 6 77 = some (0, 113) := by decide +kernel
theorem cT_6_233 : calT 6 233 = some (0, 7) := by decide +kernel
theorem cT_8_23 : calT 8 23 = some (0, 77) := by decide +kernel
theorem cT_6_81 : calT 6 81 = some (0, 4) := by decide +kernel
theorem cT_0_53 : calT 0 53 = some (0, 5) := by decide +kernel
theorem cT_6_87 : calT 6 87 = some (0, 6) := by decide +kernel
theorem cT_6_90 : calT 6 90 = some (2, 203) := by decide +kernel
theorem cT_6_95 : calT 6 95 = some (0, 8) := by decide +kernel
theorem cT_8_27 : calT 8 27 = some (0, 78) := by decide +kernel
theorem cT_6_98 : calT 6 98 = some (0, 9) := by decide +kernel
theorem cT_8_32 : calT 8 32 = some (0, 79) := by decide +kernel
theorem cT_6_101 : calT 6 101 = some (0, 3) := by decide +kernel
theorem cT_8_37 : calT 8 37 = some (0, 80) := by decide +kernel
theorem cT_8_41 : calT 8 41 = some (0, 81) := by decide +kernel
theorem cT_8_45 : calT 8 45 = some (0, 82) := by decide +kernel
theorem cT_6_113 : calT 6 113 = some (0, 10) := by decide +kernel
theorem cT_0_57 : calT 0 57 = some (0, 4) := by decide +kernel
theorem cT_0_60 : calT 0 60 = some (3, 118) := by decide +kernel
theorem cT_6_116 : calT 6 116 = some (0, 11) := by decide +kernel
theorem cT_8_50 : calT 8 50 = some (0, 83) := by decide +kernel
theorem cT_8_54 : calT 8 54 = some (0, 84) := by decide +kernel
theorem cT_6_132 : calT 6 132 = some (0, 49) := by decide +kernel
theorem cT_3_36 : calT 3 36 = some (0, 56) := by decide +kernel
theorem cT_3_43 : calT 3 43 = some (0, 20) := by decide +kernel
theorem cT_1_55 : calT 1 55 = some (0, 22) := by decide +kernel
theorem cT_3_54 : calT 3 54 = some (0, 36) := by decide +kernel
theorem cT_2_40 : calT 2 40 = some (0, 37) := by decide +kernel
theorem cT_2_44 : calT 2 44 = some (3, 120) := by decide +kernel
theorem cT_2_48 : calT 2 48 = some (0, 38) := by decide +kernel
theorem cT_3_58 : calT 3 58 = some (0, 50) := by decide +kernel
theorem cT_3_69 : calT 3 69 = some (0, 39) := by decide +kernel
theorem cT_2_52 : calT 2 52 = some (0, 40) := by decide +kernel
theorem cT_2_56 : calT 2 56 = some (0, 41) := by decide +kernel
theorem cT_2_60 : calT 2 60 = some (2, 203) := by decide +kernel
theorem cT_3_73 : calT 3 73 = some (0, 42) := by decide +kernel
theorem cT_2_65 : calT 2 65 = some (0, 43) := by decide +kernel
theorem cT_2_69 : calT 2 69 = some (3, 121) := by decide +kernel
theorem cT_3_77 : calT 3 77 = some (0, 44) := by decide +kernel
theorem cT_3_81 : calT 3 81 = some (0, 51) := by decide +kernel
theorem cT_3_97 : calT 3 97 = some (0, 57) := by decide +kernel
theorem cT_4_38 : calT 4 38 = some (2, 60) := by decide +kernel
theorem cT_4_42 : calT 4 42 = some (0, 59) := by decide +kernel
theorem cT_3_104 : calT 3 104 = some (0, 46) := by decide +kernel
theorem cT_2_72 : calT 2 72 = some (3, 119) := by decide +kernel
theorem cT_2_75 : calT 2 75 = some (0, 47) := by decide +kernel
theorem cT_3_108 : calT 3 108 = some (3, 119) := by decide +kernel
theorem cT_3_111 : calT 3 111 = some (0, 52) := by decide +kernel
theorem cT_3_115 : calT 3 115 = some (0, 22) := by decide +kernel
theorem cT_3_119 : calT 3 119 = some (0, 23) := by decide +kernel
theorem cT_1_59 : calT 1 59 = some (0, 21) := by decide +kernel
theorem cT_3_123 : calT 3 123 = some (0, 58) := by decide +kernel
theorem cT_3_84 : calT 3 84 = some (0, 45) := by decide +kernel
theorem cT_3_87 : calT 3 87 = some (0, 53) := by decide +kernel
theorem cT_3_133 : calT 3 133 = some (0, 54) := by decide +kernel
theorem cT_3_142 : calT 3 142 = some (2, 203) := by decide +kernel
theorem cT_8_58 : calT 8 58 = some (0, 85) := by decide +kernel
theorem cT_8_62 : calT 8 62 = some (0, 86) := by decide +kernel
theorem cT_6_139 : calT 6 139 = some (0, 21) := by decide +kernel
theorem cT_8_66 : calT 8 66 = some (0, 87) := by decide +kernel
theorem cT_6_154 : calT 6 154 = some (0, 24) := by decide +kernel
theorem cT_8_70 : calT 8 70 = some (0, 88) := by decide +kernel
theorem cT_6_158 : calT 6 158 = some (0, 25) := by decide +kernel
theorem cT_1_63 : calT 1 63 = some (0, 26) := by decide +kernel
theorem cT_1_67 : calT 1 67 = some (3, 119) := by decide +kernel
theorem cT_1_71 : calT 1 71 = some (3, 121) := by decide +kernel
theorem cT_1_74 : calT 1 74 = some (0, 24) := by decide +kernel
theorem cT_8_75 : calT 8 75 = some (0, 89) := by decide +kernel
theorem cT_6_162 : calT 6 162 = some (0, 27) := by decide +kernel
theorem cT_1_78 : calT 1 78 = some (0, 28) := by decide +kernel
theorem cT_6_166 : calT 6 166 = some (0, 29) := by decide +kernel
theorem cT_6_169 : calT 6 169 = some (0, 16) := by decide +kernel
theorem cT_0_74 : calT 0 74 = some (0, 30) := by decide +kernel
theorem cT_1_81 : calT 1 81 = some (0, 62) := by decide +kernel
theorem cT_5_25 : calT 5 25 = some (2, 206) := by decide +kernel
theorem cT_5_31 : calT 5 31 = some (2, 207) := by decide +kernel
theorem cT_1_87 : calT 1 87 = some (0, 31) := by decide +kernel
theorem cT_1_95 : calT 1 95 = some (0, 32) := by decide +kernel
theorem cT_1_101 : calT 1 101 = some (3, 122) := by decide +kernel
theorem cT_6_251 : calT 6 251 = some (2, 205) := by decide +kernel
theorem cT_1_104 : calT 1 104 = some (0, 33) := by decide +kernel
theorem cT_1_108 : calT 1 108 = some (0, 34) := by decide +kernel
theorem cT_1_91 : calT 1 91 = some (0, 64) := by decide +kernel
theorem cT_0_85 : calT 0 85 = some (0, 62) := by decide +kernel
theorem cT_0_95 : calT 0 95 = some (0, 17) := by decide +kernel
theorem cT_0_108 : calT 0 108 = some (0, 6) := by decide +kernel
theorem cT_0_111 : calT 0 111 = some (0, 18) := by decide +kernel
theorem cT_0_115 : calT 0 115 = some (3, 121) := by decide +kernel
theorem cT_0_71 : calT 0 71 = some (3, 119) := by decide +kernel
theorem cT_0_118 : calT 0 118 = some (3, 122) := by decide +kernel
theorem cT_0_99 : calT 0 99 = some (0, 64) := by decide +kernel
theorem cT_0_103 : calT 0 103 = some (0, 71) := by decide +kernel
theorem cT_5_54 : calT 5 54 = some (0, 66) := by decide +kernel
theorem cT_8_79 : calT 8 79 = some (0, 90) := by decide +kernel
theorem cT_8_84 : calT 8 84 = some (0, 91) := by decide +kernel
theorem cT_6_172 : calT 6 172 = some (0, 15) := by decide +kernel
theorem cT_0_78 : calT 0 78 = some (0, 63) := by decide +kernel
theorem cT_5_34 : calT 5 34 = some (0, 62) := by decide +kernel
theorem cT_0_82 : calT 0 82 = some (0, 67) := by decide +kernel
theorem cT_5_38 : calT 5 38 = some (3, 122) := by decide +kernel
theorem cT_6_176 : calT 6 176 = some (0, 68) := by decide +kernel
theorem cT_5_42 : calT 5 42 = some (0, 69) := by decide +kernel
theorem cT_5_46 : calT 5 46 = some (2, 204) := by decide +kernel
theorem cT_8_88 : calT 8 88 = some (0, 92) := by decide +kernel
theorem cT_6_179 : calT 6 179 = some (0, 2) := by decide +kernel
theorem cT_6_182 : calT 6 182 = some (0, 66) := by decide +kernel
theorem cT_8_92 : calT 8 92 = some (0, 93) := by decide +kernel
theorem cT_6_185 : calT 6 185 = some (0, 112) := by decide +kernel
theorem cT_6_189 : calT 6 189 = some (0, 13) := by decide +kernel
theorem cT_0_67 : calT 0 67 = some (0, 2) := by decide +kernel
theorem cT_0_64 : calT 0 64 = some (0, 10) := by decide +kernel
theorem cT_6_193 : calT 6 193 = some (0, 115) := by decide +kernel
theorem cT_8_97 : calT 8 97 = some (0, 94) := by decide +kernel
theorem cT_6_197 : calT 6 197 = some (0, 67) := by decide +kernel
theorem cT_6_200 : calT 6 200 = some (2, 117) := by decide +kernel
theorem cT_8_102 : calT 8 102 = some (0, 95) := by decide +kernel
theorem cT_8_106 : calT 8 106 = some (0, 96) := by decide +kernel
theorem cT_6_204 : calT 6 204 = some (0, 72) := by decide +kernel
theorem cT_5_58 : calT 5 58 = some (0, 73) := by decide +kernel
theorem cT_8_110 : calT 8 110 = some (0, 97) := by decide +kernel
theorem cT_6_207 : calT 6 207 = some (0, 69) := by decide +kernel
theorem cT_8_114 : calT 8 114 = some (0, 98) := by decide +kernel
theorem cT_6_210 : calT 6 210 = some (0, 71) := by decide +kernel
theorem cT_8_118 : calT 8 118 = some (0, 99) := by decide +kernel
theorem cT_6_213 : calT 6 213 = some (0, 116) := by decide +kernel
theorem cT_8_123 : calT 8 123 = some (0, 100) := by decide +kernel
theorem cT_6_217 : calT 6 217 = some (0, 12) := by decide +kernel
theorem cT_8_128 : calT 8 128 = some (0, 101) := by decide +kernel
theorem cT_6_220 : calT 6 220 = some (0, 14) := by decide +kernel
theorem cT_6_223 : calT 6 223 = some (0, 62) := by decide +kernel
theorem cT_6_226 : calT 6 226 = some (0, 65) := by decide +kernel
theorem cT_8_132 : calT 8 132 = some (0, 102) := by decide +kernel
theorem cT_6_229 : calT 6 229 = some (0, 70) := by decide +kernel
theorem cT_8_137 : calT 8 137 = some (0, 103) := by decide +kernel
theorem cT_8_141 : calT 8 141 = some (0, 104) := by decide +kernel
theorem cT_6_236 : calT 6 236 = some (0, 114) := by decide +kernel
theorem cT_8_145 : calT 8 145 = some (0, 105) := by decide +kernel
theorem cT_8_149 : calT 8 149 = some (0, 106) := by decide +kernel
theorem cT_8_153 : calT 8 153 = some (0, 107) := by decide +kernel
theorem cT_6_239 : calT 6 239 = some (7, 0) := by decide +kernel
theorem cT_8_157 : calT 8 157 = some (0, 108) := by decide +kernel
theorem cT_8_161 : calT 8 161 = some (0, 109) := by decide +kernel
theorem cT_8_12 : calT 8 12 = some (4, 123) := by decide +kernel
theorem cT_7_1 : calT 7 1 = some (6, 0) := by decide +kernel
theorem cT_8_17 : calT 8 17 = some (0, 132) := by decide +kernel
theorem cT_7_150 : calT 7 150 = some (2, 126) := by decide +kernel
theorem cT_7_154 : calT 7 154 = some (0, 125) := by decide +kernel
theorem cT_7_146 : calT 7 146 = some (2, 124) := by decide +kernel
theorem cT_8_22 : calT 8 22 = some (0, 135) := by decide +kernel
theorem cT_7_167 : calT 7 167 = some (0, 134) := by decide +kernel
theorem cT_7_163 : calT 7 163 = some (0, 127) := by decide +kernel
theorem cT_7_170 : calT 7 170 = some (2, 128) := by decide +kernel
theorem cT_7_173 : calT 7 173 = some (0, 133) := by decide +kernel
theorem cT_7_160 : calT 7 160 = some (2, 130) := by decide +kernel
theorem cT_8_26 : calT 8 26 = some (0, 136) := by decide +kernel
theorem cT_7_177 : calT 7 177 = some (2, 129) := by decide +kernel
theorem cT_8_31 : calT 8 31 = some (0, 137) := by decide +kernel
theorem cT_8_36 : calT 8 36 = some (0, 139) := by decide +kernel
theorem cT_7_180 : calT 7 180 = some (0, 138) := by decide +kernel
theorem cT_8_40 : calT 8 40 = some (0, 140) := by decide +kernel
theorem cT_7_183 : calT 7 183 = some (2, 131) := by decide +kernel
theorem cT_8_44 : calT 8 44 = some (0, 141) := by decide +kernel
theorem cT_8_49 : calT 8 49 = some (0, 143) := by decide +kernel
theorem cT_7_188 : calT 7 188 = some (2, 142) := by decide +kernel
theorem cT_8_53 : calT 8 53 = some (0, 144) := by decide +kernel
theorem cT_8_57 : calT 8 57 = some (0, 163) := by decide +kernel
theorem cT_7_228 : calT 7 228 = some (0, 145) := by decide +kernel
theorem cT_7_196 : calT 7 196 = some (0, 147) := by decide +kernel
theorem cT_7_225 : calT 7 225 = some (0, 152) := by decide +kernel
theorem cT_7_209 : calT 7 209 = some (0, 150) := by decide +kernel
theorem cT_7_200 : calT 7 200 = some (0, 149) := by decide +kernel
theorem cT_7_203 : calT 7 203 = some (0, 148) := by decide +kernel
theorem cT_7_215 : calT 7 215 = some (0, 151) := by decide +kernel
theorem cT_7_263 : calT 7 263 = some (0, 162) := by decide +kernel
theorem cT_7_254 : calT 7 254 = some (0, 158) := by decide +kernel
theorem cT_7_232 : calT 7 232 = some (0, 157) := by decide +kernel
theorem cT_7_235 : calT 7 235 = some (0, 146) := by decide +kernel
theorem cT_7_257 : calT 7 257 = some (0, 160) := by decide +kernel
theorem cT_7_239 : calT 7 239 = some (0, 153) := by decide +kernel
theorem cT_7_242 : calT 7 242 = some (0, 159) := by decide +kernel
theorem cT_7_245 : calT 7 245 = some (0, 155) := by decide +kernel
theorem cT_7_248 : calT 7 248 = some (0, 156) := by decide +kernel
theorem cT_7_260 : calT 7 260 = some (0, 161) := by decide +kernel
theorem cT_7_251 : calT 7 251 = some (0, 154) := by decide +kernel
theorem cT_8_61 : calT 8 61 = some (0, 164) := by decide +kernel
theorem cT_8_65 : calT 8 65 = some (0, 167) := by decide +kernel
theorem cT_7_266 : calT 7 266 = some (0, 165) := by decide +kernel
theorem cT_7_269 : calT 7 269 = some (0, 166) := by decide +kernel
theorem cT_8_69 : calT 8 69 = some (0, 169) := by decide +kernel
theorem cT_7_272 : calT 7 272 = some (0, 168) := by decide +kernel
theorem cT_8_74 : calT 8 74 = some (0, 170) := by decide +kernel
theorem cT_8_78 : calT 8 78 = some (0, 177) := by decide +kernel
theorem cT_7_282 : calT 7 282 = some (0, 173) := by decide +kernel
theorem cT_7_279 : calT 7 279 = some (0, 172) := by decide +kernel
theorem cT_7_275 : calT 7 275 = some (0, 171) := by decide +kernel
theorem cT_7_285 : calT 7 285 = some (0, 175) := by decide +kernel
theorem cT_7_288 : calT 7 288 = some (0, 176) := by decide +kernel
theorem cT_7_291 : calT 7 291 = some (0, 174) := by decide +kernel
theorem cT_8_83 : calT 8 83 = some (0, 178) := by decide +kernel
theorem cT_8_87 : calT 8 87 = some (0, 182) := by decide +kernel
theorem cT_7_297 : calT 7 297 = some (0, 180) := by decide +kernel
theorem cT_7_300 : calT 7 300 = some (0, 181) := by decide +kernel
theorem cT_7_294 : calT 7 294 = some (0, 179) := by decide +kernel
theorem cT_8_91 : calT 8 91 = some (0, 183) := by decide +kernel
theorem cT_8_96 : calT 8 96 = some (0, 186) := by decide +kernel
theorem cT_7_307 : calT 7 307 = some (0, 185) := by decide +kernel
theorem cT_7_303 : calT 7 303 = some (0, 184) := by decide +kernel
theorem cT_8_101 : calT 8 101 = some (0, 187) := by decide +kernel
theorem cT_8_105 : calT 8 105 = some (0, 188) := by decide +kernel
theorem cT_8_109 : calT 8 109 = some (0, 189) := by decide +kernel
theorem cT_8_113 : calT 8 113 = some (0, 190) := by decide +kernel
theorem cT_8_117 : calT 8 117 = some (0, 191) := by decide +kernel
theorem cT_8_122 : calT 8 122 = some (0, 192) := by decide +kernel
theorem cT_8_127 : calT 8 127 = some (0, 193) := by decide +kernel
theorem cT_8_131 : calT 8 131 = some (0, 194) := by decide +kernel
theorem cT_8_136 : calT 8 136 = some (0, 195) := by decide +kernel
theorem cT_8_140 : calT 8 140 = some (0, 196) := by decide +kernel
theorem cT_8_144 : calT 8 144 = some (0, 197) := by decide +kernel
theorem cT_8_148 : calT 8 148 = some (0, 198) := by decide +kernel
theorem cT_8_152 : calT 8 152 = some (0, 199) := by decide +kernel
theorem cT_8_156 : calT 8 156 = some (0, 200) := by decide +kernel
theorem cT_8_160 : calT 8 160 = some (0, 201) := by decide +kernel
theorem cT_8_164 : calT 8 164 = some (0, 202) := by decide +kernel
def S0L : List (Nat × Nat) := [(0, 6), (0, 0), (1, 40), (1, 24), (0, 1), (1, 1500), (1, 1500), (1, 1500), (1, 1500), (1, 18000), (2, 1500), (0, 5), (2, 64), (0, 5), (2, 64), (0, 0), (1, 40), (1, 24), (0, 1), (1, 1500), (1, 1500), (1, 1500), (1, 1500), (1, 18000), (2, 1500), (0, 5), (2, 64), (0, 5), (2, 64), (0, 3), (4, 13), (0, 4), (1, 34776), (1, 2047), (1, 2047), (1, 2047), (1, 2047), (1, 256), (1, 24), (0, 2), (1, 40), (1, 40), (1, 40), (1, 12), (1, 12), (0, 2), (1, 40), (1, 40), (1, 40), (1, 12), (1, 12), (0, 2), (1, 40), (1, 40), (1, 40), (1, 12), (1, 12), (0, 2), (1, 40), (1, 40), (1, 40), (1, 12), (1, 12), (0, 2), (1, 40), (1, 40), (1, 40), (1, 12), (1, 12), (0, 2), (1, 40), (1, 40), (1, 40), (1, 12), (1, 12), (0, 2), (1, 40), (1, 40), (1, 40), (1, 12), (1, 12), (0, 2), (1, 40), (1, 40), (1, 40), (1, 12), (1, 12), (0, 2), (1, 40), (1, 40), (1, 40), (1, 12), (1, 12), (0, 2), (1, 40), (1, 40), (1, 40), (1, 12), (1, 12), (0, 2), (1, 40), (1, 40), (1, 40), (1, 12), (1, 12), (0, 2), (1, 40), (1, 40), (1, 40), (1, 12), (1, 12), (0, 2), (1, 40), (1, 40), (1, 40), (1, 12), (1, 12), (2, 4096), (0, 5), (2, 64), (1, 5), (1, 10), (0, 7), (1, 2), (1, 80), (1, 2), (1, 2), (1, 2), (1, 2), (1, 48), (1, 10), (1, 2), (1, 2), (1, 2), (1, 3000), (1, 3000), (1, 3000), (1, 3000), (1, 80000), (1, 2), (1, 24), (1, 560), (1, 14), (1, 168), (1, 14), (1, 560), (1, 14), (1, 14), (1, 168), (1, 560), (1, 14), (1, 14), (1, 14), (1, 14), (1, 4200), (1, 4200), (1, 4200), (1, 168000), (1, 1500), (3, 8192), (3, 1500), (3, 2), (3, 4096), (1, 5), (1, 5)]
def R0L : List (List (Option Nat)) := [[some 1, some 15, some 29, some 117, some 118, some 120, some 121], [some 2, some 3, some 4, some 13], [], [], [some 5, some 6, some 7, some 8, some 9, some 10, some 11], [], [], [], [], [], [], [some 12], [], [some 14], [], [some 16, some 17, some 18, some 27], [], [], [some 19, some 20, some 21, some 22, some 23, some 24, some 25], [], [], [], [], [], [], [some 26], [], [some 28], [], [some 30, some 31, some 38], [some 39, some 45, some 51, some 57, some 63, some 69, some 75, some 81, some 87, some 93, some 99, some 105, some 111], [some 32, some 33, some 34, some 35, some 36, some 37], [], [], [], [], [], [], [], [some 40, some 41, some 42, some 43, some 44], [], [], [], [], [], [some 46, some 47, some 48, some 49, some 50], [], [], [], [], [], [some 52, some 53, some 54, some 55, some 56], [], [], [], [], [], [some 58, some 59, some 60, some 61, some 62], [], [], [], [], [], [some 64, some 65, some 66, some 67, some 68], [], [], [], [], [], [some 70, some 71, some 72, some 73, some 74], [], [], [], [], [], [some 76, some 77, some 78, some 79, some 80], [], [], [], [], [], [some 82, some 83, some 84, some 85, some 86], [], [], [], [], [], [some 88, some 89, some 90, some 91, some 92], [], [], [], [], [], [some 94, some 95, some 96, some 97, some 98], [], [], [], [], [], [some 100, some 101, some 102, some 103, some 104], [], [], [], [], [], [some 106, some 107, some 108, some 109, some 110], [], [], [], [], [], [some 112, some 113, some 114, some 115, some 116], [], [], [], [], [], [], [some 119], [], [], [], [some 123, some 124, some 125, some 126, some 127, some 128, some 129, some 130, some 131, some 132, some 133, some 134, some 135, some 136, some 137, some 138, some 139, some 140, none, some 141, some 142, some 143, some 144, some 145, some 146, some 147, some 148, some 149, some 150, some 151, some 152, some 153, some 154, some 155, some 156, some 157, none, none, none, none, some 158, some 159, some 160, some 161, none, some 162, some 163, some 164], [], [], [], [], [], [], [], [], [], [], [], [], [], [], [], [], [], [], [], [], [], [], [], [], [], [], [], [], [], [], [], [], [], [], [], [], [], [], [], [], [], []]
def S0 (Ln : Nat) (c : Nat) : Nat × Nat := if c = scrC then (5, Ln) else if c = patC then (6, 6) else S0L.getD c (9, 0)
def R0 (c k : Nat) : Option Nat := (R0L.getD c []).getD k none
def G0 (Ln : Nat) : GT := (165, 391146, S0 Ln, R0)
theorem sh_0 (Ln : Nat) : shp (G0 Ln) 0 = (0, 6) := rfl
theorem sh_1 (Ln : Nat) : shp (G0 Ln) 1 = (0, 0) := rfl
theorem sh_2 (Ln : Nat) : shp (G0 Ln) 2 = (1, 40) := rfl
theorem sh_3 (Ln : Nat) : shp (G0 Ln) 3 = (1, 24) := rfl
theorem sh_4 (Ln : Nat) : shp (G0 Ln) 4 = (0, 1) := rfl
theorem sh_5 (Ln : Nat) : shp (G0 Ln) 5 = (1, 1500) := rfl
theorem sh_6 (Ln : Nat) : shp (G0 Ln) 6 = (1, 1500) := rfl
theorem sh_7 (Ln : Nat) : shp (G0 Ln) 7 = (1, 1500) := rfl
theorem sh_8 (Ln : Nat) : shp (G0 Ln) 8 = (1, 1500) := rfl
theorem sh_9 (Ln : Nat) : shp (G0 Ln) 9 = (1, 18000) := rfl
theorem sh_10 (Ln : Nat) : shp (G0 Ln) 10 = (2, 1500) := rfl
theorem sh_11 (Ln : Nat) : shp (G0 Ln) 11 = (0, 5) := rfl
theorem sh_12 (Ln : Nat) : shp (G0 Ln) 12 = (2, 64) := rfl
theorem sh_13 (Ln : Nat) : shp (G0 Ln) 13 = (0, 5) := rfl
theorem sh_14 (Ln : Nat) : shp (G0 Ln) 14 = (2, 64) := rfl
theorem sh_15 (Ln : Nat) : shp (G0 Ln) 15 = (0, 0) := rfl
theorem sh_16 (Ln : Nat) : shp (G0 Ln) 16 = (1, 40) := rfl
theorem sh_17 (Ln : Nat) : shp (G0 Ln) 17 = (1, 24) := rfl
theorem sh_18 (Ln : Nat) : shp (G0 Ln) 18 = (0, 1) := rfl
theorem sh_19 (Ln : Nat) : shp (G0 Ln) 19 = (1, 1500) := rfl
theorem sh_20 (Ln : Nat) : shp (G0 Ln) 20 = (1, 1500) := rfl
theorem sh_21 (Ln : Nat) : shp (G0 Ln) 21 = (1, 1500) := rfl
theorem sh_22 (Ln : Nat) : shp (G0 Ln) 22 = (1, 1500) := rfl
theorem sh_23 (Ln : Nat) : shp (G0 Ln) 23 = (1, 18000) := rfl
theorem sh_24 (Ln : Nat) : shp (G0 Ln) 24 = (2, 1500) := rfl
theorem sh_25 (Ln : Nat) : shp (G0 Ln) 25 = (0, 5) := rfl
theorem sh_26 (Ln : Nat) : shp (G0 Ln) 26 = (2, 64) := rfl
theorem sh_27 (Ln : Nat) : shp (G0 Ln) 27 = (0, 5) := rfl
theorem sh_28 (Ln : Nat) : shp (G0 Ln) 28 = (2, 64) := rfl
theorem sh_29 (Ln : Nat) : shp (G0 Ln) 29 = (0, 3) := rfl
theorem sh_30 (Ln : Nat) : shp (G0 Ln) 30 = (4, 13) := rfl
theorem sh_31 (Ln : Nat) : shp (G0 Ln) 31 = (0, 4) := rfl
theorem sh_32 (Ln : Nat) : shp (G0 Ln) 32 = (1, 34776) := rfl
theorem sh_33 (Ln : Nat) : shp (G0 Ln) 33 = (1, 2047) := rfl
theorem sh_34 (Ln : Nat) : shp (G0 Ln) 34 = (1, 2047) := rfl
theorem sh_35 (Ln : Nat) : shp (G0 Ln) 35 = (1, 2047) := rfl
theorem sh_36 (Ln : Nat) : shp (G0 Ln) 36 = (1, 2047) := rfl
theorem sh_37 (Ln : Nat) : shp (G0 Ln) 37 = (1, 256) := rfl
theorem sh_38 (Ln : Nat) : shp (G0 Ln) 38 = (1, 24) := rfl
theorem sh_39 (Ln : Nat) : shp (G0 Ln) 39 = (0, 2) := rfl
theorem sh_40 (Ln : Nat) : shp (G0 Ln) 40 = (1, 40) := rfl
theorem sh_41 (Ln : Nat) : shp (G0 Ln) 41 = (1, 40) := rfl
theorem sh_42 (Ln : Nat) : shp (G0 Ln) 42 = (1, 40) := rfl
theorem sh_43 (Ln : Nat) : shp (G0 Ln) 43 = (1, 12) := rfl
theorem sh_44 (Ln : Nat) : shp (G0 Ln) 44 = (1, 12) := rfl
theorem sh_45 (Ln : Nat) : shp (G0 Ln) 45 = (0, 2) := rfl
theorem sh_46 (Ln : Nat) : shp (G0 Ln) 46 = (1, 40) := rfl
theorem sh_47 (Ln : Nat) : shp (G0 Ln) 47 = (1, 40) := rfl
theorem sh_48 (Ln : Nat) : shp (G0 Ln) 48 = (1, 40) := rfl
theorem sh_49 (Ln : Nat) : shp (G0 Ln) 49 = (1, 12) := rfl
theorem sh_50 (Ln : Nat) : shp (G0 Ln) 50 = (1, 12) := rfl
theorem sh_51 (Ln : Nat) : shp (G0 Ln) 51 = (0, 2) := rfl
theorem sh_52 (Ln : Nat) : shp (G0 Ln) 52 = (1, 40) := rfl
theorem sh_53 (Ln : Nat) : shp (G0 Ln) 53 = (1, 40) := rfl
theorem sh_54 (Ln : Nat) : shp (G0 Ln) 54 = (1, 40) := rfl
theorem sh_55 (Ln : Nat) : shp (G0 Ln) 55 = (1, 12) := rfl
theorem sh_56 (Ln : Nat) : shp (G0 Ln) 56 = (1, 12) := rfl
theorem sh_57 (Ln : Nat) : shp (G0 Ln) 57 = (0, 2) := rfl
theorem sh_58 (Ln : Nat) : shp (G0 Ln) 58 = (1, 40) := rfl
theorem sh_59 (Ln : Nat) : shp (G0 Ln) 59 = (1, 40) := rfl
theorem sh_60 (Ln : Nat) : shp (G0 Ln) 60 = (1, 40) := rfl
theorem sh_61 (Ln : Nat) : shp (G0 Ln) 61 = (1, 12) := rfl
theorem sh_62 (Ln : Nat) : shp (G0 Ln) 62 = (1, 12) := rfl
theorem sh_63 (Ln : Nat) : shp (G0 Ln) 63 = (0, 2) := rfl
theorem sh_64 (Ln : Nat) : shp (G0 Ln) 64 = (1, 40) := rfl
theorem sh_65 (Ln : Nat) : shp (G0 Ln) 65 = (1, 40) := rfl
theorem sh_66 (Ln : Nat) : shp (G0 Ln) 66 = (1, 40) := rfl
theorem sh_67 (Ln : Nat) : shp (G0 Ln) 67 = (1, 12) := rfl
theorem sh_68 (Ln : Nat) : shp (G0 Ln) 68 = (1, 12) := rfl
theorem sh_69 (Ln : Nat) : shp (G0 Ln) 69 = (0, 2) := rfl
theorem sh_70 (Ln : Nat) : shp (G0 Ln) 70 = (1, 40) := rfl
theorem sh_71 (Ln : Nat) : shp (G0 Ln) 71 = (1, 40) := rfl
theorem sh_72 (Ln : Nat) : shp (G0 Ln) 72 = (1, 40) := rfl
theorem sh_73 (Ln : Nat) : shp (G0 Ln) 73 = (1, 12) := rfl
theorem sh_74 (Ln : Nat) : shp (G0 Ln) 74 = (1, 12) := rfl
theorem sh_75 (Ln : Nat) : shp (G0 Ln) 75 = (0, 2) := rfl
theorem sh_76 (Ln : Nat) : shp (G0 Ln) 76 = (1, 40) := rfl
theorem sh_77 (Ln : Nat) : shp (G0 Ln) 77 = (1, 40) := rfl
theorem sh_78 (Ln : Nat) : shp (G0 Ln) 78 = (1, 40) := rfl
theorem sh_79 (Ln : Nat) : shp (G0 Ln) 79 = (1, 12) := rfl
theorem sh_80 (Ln : Nat) : shp (G0 Ln) 80 = (1, 12) := rfl
theorem sh_81 (Ln : Nat) : shp (G0 Ln) 81 = (0, 2) := rfl
theorem sh_82 (Ln : Nat) : shp (G0 Ln) 82 = (1, 40) := rfl
theorem sh_83 (Ln : Nat) : shp (G0 Ln) 83 = (1, 40) := rfl
theorem sh_84 (Ln : Nat) : shp (G0 Ln) 84 = (1, 40) := rfl
theorem sh_85 (Ln : Nat) : shp (G0 Ln) 85 = (1, 12) := rfl
theorem sh_86 (Ln : Nat) : shp (G0 Ln) 86 = (1, 12) := rfl
theorem sh_87 (Ln : Nat) : shp (G0 Ln) 87 = (0, 2) := rfl
theorem sh_88 (Ln : Nat) : shp (G0 Ln) 88 = (1, 40) := rfl
theorem sh_89 (Ln : Nat) : shp (G0 Ln) 89 = (1, 40) := rfl
theorem sh_90 (Ln : Nat) : shp (G0 Ln) 90 = (1, 40) := rfl
theorem sh_91 (Ln : Nat) : shp (G0 Ln) 91 = (1, 12) := rfl
theorem sh_92 (Ln : Nat) : shp (G0 Ln) 92 = (1, 12) := rfl
theorem sh_93 (Ln : Nat) : shp (G0 Ln) 93 = (0, 2) := rfl
theorem sh_94 (Ln : Nat) : shp (G0 Ln) 94 = (1, 40) := rfl
theorem sh_95 (Ln : Nat) : shp (G0 Ln) 95 = (1, 40) := rfl
theorem sh_96 (Ln : Nat) : shp (G0 Ln) 96 = (1, 40) := rfl
theorem sh_97 (Ln : Nat) : shp (G0 Ln) 97 = (1, 12) := rfl
theorem sh_98 (Ln : Nat) : shp (G0 Ln) 98 = (1, 12) := rfl
theorem sh_99 (Ln : Nat) : shp (G0 Ln) 99 = (0, 2) := rfl
theorem sh_100 (Ln : Nat) : shp (G0 Ln) 100 = (1, 40) := rfl
theorem sh_101 (Ln : Nat) : shp (G0 Ln) 101 = (1, 40) := rfl
theorem sh_102 (Ln : Nat) : shp (G0 Ln) 102 = (1, 40) := rfl
theorem sh_103 (Ln : Nat) : shp (G0 Ln) 103 = (1, 12) := rfl
theorem sh_104 (Ln : Nat) : shp (G0 Ln) 104 = (1, 12) := rfl
theorem sh_105 (Ln : Nat) : shp (G0 Ln) 105 = (0, 2) := rfl
theorem sh_106 (Ln : Nat) : shp (G0 Ln) 106 = (1, 40) := rfl
theorem sh_107 (Ln : Nat) : shp (G0 Ln) 107 = (1, 40) := rfl
theorem sh_108 (Ln : Nat) : shp (G0 Ln) 108 = (1, 40) := rfl
theorem sh_109 (Ln : Nat) : shp (G0 Ln) 109 = (1, 12) := rfl
theorem sh_110 (Ln : Nat) : shp (G0 Ln) 110 = (1, 12) := rfl
theorem sh_111 (Ln : Nat) : shp (G0 Ln) 111 = (0, 2) := rfl
theorem sh_112 (Ln : Nat) : shp (G0 Ln) 112 = (1, 40) := rfl
theorem sh_113 (Ln : Nat) : shp (G0 Ln) 113 = (1, 40) := rfl
theorem sh_114 (Ln : Nat) : shp (G0 Ln) 114 = (1, 40) := rfl
theorem sh_115 (Ln : Nat) : shp (G0 Ln) 115 = (1, 12) := rfl
theorem sh_116 (Ln : Nat) : shp (G0 Ln) 116 = (1, 12) := rfl
theorem sh_117 (Ln : Nat) : shp (G0 Ln) 117 = (2, 4096) := rfl
theorem sh_118 (Ln : Nat) : shp (G0 Ln) 118 = (0, 5) := rfl
theorem sh_119 (Ln : Nat) : shp (G0 Ln) 119 = (2, 64) := rfl
theorem sh_120 (Ln : Nat) : shp (G0 Ln) 120 = (1, 5) := rfl
theorem sh_121 (Ln : Nat) : shp (G0 Ln) 121 = (1, 10) := rfl
theorem sh_122 (Ln : Nat) : shp (G0 Ln) 122 = (0, 7) := rfl
theorem sh_123 (Ln : Nat) : shp (G0 Ln) 123 = (1, 2) := rfl
theorem sh_124 (Ln : Nat) : shp (G0 Ln) 124 = (1, 80) := rfl
theorem sh_125 (Ln : Nat) : shp (G0 Ln) 125 = (1, 2) := rfl
theorem sh_126 (Ln : Nat) : shp (G0 Ln) 126 = (1, 2) := rfl
theorem sh_127 (Ln : Nat) : shp (G0 Ln) 127 = (1, 2) := rfl
theorem sh_128 (Ln : Nat) : shp (G0 Ln) 128 = (1, 2) := rfl
theorem sh_129 (Ln : Nat) : shp (G0 Ln) 129 = (1, 48) := rfl
theorem sh_130 (Ln : Nat) : shp (G0 Ln) 130 = (1, 10) := rfl
theorem sh_131 (Ln : Nat) : shp (G0 Ln) 131 = (1, 2) := rfl
theorem sh_132 (Ln : Nat) : shp (G0 Ln) 132 = (1, 2) := rfl
theorem sh_133 (Ln : Nat) : shp (G0 Ln) 133 = (1, 2) := rfl
theorem sh_134 (Ln : Nat) : shp (G0 Ln) 134 = (1, 3000) := rfl
theorem sh_135 (Ln : Nat) : shp (G0 Ln) 135 = (1, 3000) := rfl
theorem sh_136 (Ln : Nat) : shp (G0 Ln) 136 = (1, 3000) := rfl
theorem sh_137 (Ln : Nat) : shp (G0 Ln) 137 = (1, 3000) := rfl
theorem sh_138 (Ln : Nat) : shp (G0 Ln) 138 = (1, 80000) := rfl
theorem sh_139 (Ln : Nat) : shp (G0 Ln) 139 = (1, 2) := rfl
theorem sh_140 (Ln : Nat) : shp (G0 Ln) 140 = (1, 24) := rfl
theorem sh_141 (Ln : Nat) : shp (G0 Ln) 141 = (1, 560) := rfl
theorem sh_142 (Ln : Nat) : shp (G0 Ln) 142 = (1, 14) := rfl
theorem sh_143 (Ln : Nat) : shp (G0 Ln) 143 = (1, 168) := rfl
theorem sh_144 (Ln : Nat) : shp (G0 Ln) 144 = (1, 14) := rfl
theorem sh_145 (Ln : Nat) : shp (G0 Ln) 145 = (1, 560) := rfl
theorem sh_146 (Ln : Nat) : shp (G0 Ln) 146 = (1, 14) := rfl
theorem sh_147 (Ln : Nat) : shp (G0 Ln) 147 = (1, 14) := rfl
theorem sh_148 (Ln : Nat) : shp (G0 Ln) 148 = (1, 168) := rfl
theorem sh_149 (Ln : Nat) : shp (G0 Ln) 149 = (1, 560) := rfl
theorem sh_150 (Ln : Nat) : shp (G0 Ln) 150 = (1, 14) := rfl
theorem sh_151 (Ln : Nat) : shp (G0 Ln) 151 = (1, 14) := rfl
theorem sh_152 (Ln : Nat) : shp (G0 Ln) 152 = (1, 14) := rfl
theorem sh_153 (Ln : Nat) : shp (G0 Ln) 153 = (1, 14) := rfl
theorem sh_154 (Ln : Nat) : shp (G0 Ln) 154 = (1, 4200) := rfl
theorem sh_155 (Ln : Nat) : shp (G0 Ln) 155 = (1, 4200) := rfl
theorem sh_156 (Ln : Nat) : shp (G0 Ln) 156 = (1, 4200) := rfl
theorem sh_157 (Ln : Nat) : shp (G0 Ln) 157 = (1, 168000) := rfl
theorem sh_158 (Ln : Nat) : shp (G0 Ln) 158 = (1, 1500) := rfl
theorem sh_159 (Ln : Nat) : shp (G0 Ln) 159 = (3, 8192) := rfl
theorem sh_160 (Ln : Nat) : shp (G0 Ln) 160 = (3, 1500) := rfl
theorem sh_161 (Ln : Nat) : shp (G0 Ln) 161 = (3, 2) := rfl
theorem sh_162 (Ln : Nat) : shp (G0 Ln) 162 = (3, 4096) := rfl
theorem sh_163 (Ln : Nat) : shp (G0 Ln) 163 = (1, 5) := rfl
theorem sh_164 (Ln : Nat) : shp (G0 Ln) 164 = (1, 5) := rfl
theorem sh_scr (Ln : Nat) : shp (G0 Ln) scrC = (5, Ln) := rfl
theorem sh_pat (Ln : Nat) : shp (G0 Ln) patC = (6, 6) := rfl
theorem rf_0_0 (Ln : Nat) : (G0 Ln).2.2.2 0 0 = some 1 := rfl
theorem rf_0_1 (Ln : Nat) : (G0 Ln).2.2.2 0 1 = some 15 := rfl
theorem rf_0_2 (Ln : Nat) : (G0 Ln).2.2.2 0 2 = some 29 := rfl
theorem rf_0_3 (Ln : Nat) : (G0 Ln).2.2.2 0 3 = some 117 := rfl
theorem rf_0_4 (Ln : Nat) : (G0 Ln).2.2.2 0 4 = some 118 := rfl
theorem rf_0_5 (Ln : Nat) : (G0 Ln).2.2.2 0 5 = some 120 := rfl
theorem rf_0_6 (Ln : Nat) : (G0 Ln).2.2.2 0 6 = some 121 := rfl
theorem rf_1_0 (Ln : Nat) : (G0 Ln).2.2.2 1 0 = some 2 := rfl
theorem rf_1_1 (Ln : Nat) : (G0 Ln).2.2.2 1 1 = some 3 := rfl
theorem rf_1_2 (Ln : Nat) : (G0 Ln).2.2.2 1 2 = some 4 := rfl
theorem rf_1_3 (Ln : Nat) : (G0 Ln).2.2.2 1 3 = some 13 := rfl
theorem rf_4_0 (Ln : Nat) : (G0 Ln).2.2.2 4 0 = some 5 := rfl
theorem rf_4_1 (Ln : Nat) : (G0 Ln).2.2.2 4 1 = some 6 := rfl
theorem rf_4_2 (Ln : Nat) : (G0 Ln).2.2.2 4 2 = some 7 := rfl
theorem rf_4_3 (Ln : Nat) : (G0 Ln).2.2.2 4 3 = some 8 := rfl
theorem rf_4_4 (Ln : Nat) : (G0 Ln).2.2.2 4 4 = some 9 := rfl
theorem rf_4_5 (Ln : Nat) : (G0 Ln).2.2.2 4 5 = some 10 := rfl
theorem rf_4_6 (Ln : Nat) : (G0 Ln).2.2.2 4 6 = some 11 := rfl
theorem rf_11_0 (Ln : Nat) : (G0 Ln).2.2.2 11 0 = some 12 := rfl
theorem rf_13_0 (Ln : Nat) : (G0 Ln).2.2.2 13 0 = some 14 := rfl
theorem rf_15_0 (Ln : Nat) : (G0 Ln).2.2.2 15 0 = some 16 := rfl
theorem rf_15_1 (Ln : Nat) : (G0 Ln).2.2.2 15 1 = some 17 := rfl
theorem rf_15_2 (Ln : Nat) : (G0 Ln).2.2.2 15 2 = some 18 := rfl
theorem rf_15_3 (Ln : Nat) : (G0 Ln).2.2.2 15 3 = some 27 := rfl
theorem rf_18_0 (Ln : Nat) : (G0 Ln).2.2.2 18 0 = some 19 := rfl
theorem rf_18_1 (Ln : Nat) : (G0 Ln).2.2.2 18 1 = some 20 := rfl
theorem rf_18_2 (Ln : Nat) : (G0 Ln).2.2.2 18 2 = some 21 := rfl
theorem rf_18_3 (Ln : Nat) : (G0 Ln).2.2.2 18 3 = some 22 := rfl
theorem rf_18_4 (Ln : Nat) : (G0 Ln).2.2.2 18 4 = some 23 := rfl
theorem rf_18_5 (Ln : Nat) : (G0 Ln).2.2.2 18 5 = some 24 := rfl
theorem rf_18_6 (Ln : Nat) : (G0 Ln).2.2.2 18 6 = some 25 := rfl
theorem rf_25_0 (Ln : Nat) : (G0 Ln).2.2.2 25 0 = some 26 := rfl
theorem rf_27_0 (Ln : Nat) : (G0 Ln).2.2.2 27 0 = some 28 := rfl
theorem rf_29_0 (Ln : Nat) : (G0 Ln).2.2.2 29 0 = some 30 := rfl
theorem rf_29_1 (Ln : Nat) : (G0 Ln).2.2.2 29 1 = some 31 := rfl
theorem rf_29_2 (Ln : Nat) : (G0 Ln).2.2.2 29 2 = some 38 := rfl
theorem rf_30_0 (Ln : Nat) : (G0 Ln).2.2.2 30 0 = some 39 := rfl
theorem rf_30_1 (Ln : Nat) : (G0 Ln).2.2.2 30 1 = some 45 := rfl
theorem rf_30_2 (Ln : Nat) : (G0 Ln).2.2.2 30 2 = some 51 := rfl
theorem rf_30_3 (Ln : Nat) : (G0 Ln).2.2.2 30 3 = some 57 := rfl
theorem rf_30_4 (Ln : Nat) : (G0 Ln).2.2.2 30 4 = some 63 := rfl
theorem rf_30_5 (Ln : Nat) : (G0 Ln).2.2.2 30 5 = some 69 := rfl
theorem rf_30_6 (Ln : Nat) : (G0 Ln).2.2.2 30 6 = some 75 := rfl
theorem rf_30_7 (Ln : Nat) : (G0 Ln).2.2.2 30 7 = some 81 := rfl
theorem rf_30_8 (Ln : Nat) : (G0 Ln).2.2.2 30 8 = some 87 := rfl
theorem rf_30_9 (Ln : Nat) : (G0 Ln).2.2.2 30 9 = some 93 := rfl
theorem rf_30_10 (Ln : Nat) : (G0 Ln).2.2.2 30 10 = some 99 := rfl
theorem rf_30_11 (Ln : Nat) : (G0 Ln).2.2.2 30 11 = some 105 := rfl
theorem rf_30_12 (Ln : Nat) : (G0 Ln).2.2.2 30 12 = some 111 := rfl
theorem rf_31_0 (Ln : Nat) : (G0 Ln).2.2.2 31 0 = some 32 := rfl
theorem rf_31_1 (Ln : Nat) : (G0 Ln).2.2.2 31 1 = some 33 := rfl
theorem rf_31_2 (Ln : Nat) : (G0 Ln).2.2.2 31 2 = some 34 := rfl
theorem rf_31_3 (Ln : Nat) : (G0 Ln).2.2.2 31 3 = some 35 := rfl
theorem rf_31_4 (Ln : Nat) : (G0 Ln).2.2.2 31 4 = some 36 := rfl
theorem rf_31_5 (Ln : Nat) : (G0 Ln).2.2.2 31 5 = some 37 := rfl
theorem rf_39_0 (Ln : Nat) : (G0 Ln).2.2.2 39 0 = some 40 := rfl
theorem rf_39_1 (Ln : Nat) : (G0 Ln).2.2.2 39 1 = some 41 := rfl
theorem rf_39_2 (Ln : Nat) : (G0 Ln).2.2.2 39 2 = some 42 := rfl
theorem rf_39_3 (Ln : Nat) : (G0 Ln).2.2.2 39 3 = some 43 := rfl
theorem rf_39_4 (Ln : Nat) : (G0 Ln).2.2.2 39 4 = some 44 := rfl
theorem rf_45_0 (Ln : Nat) : (G0 Ln).2.2.2 45 0 = some 46 := rfl
theorem rf_45_1 (Ln : Nat) : (G0 Ln).2.2.2 45 1 = some 47 := rfl
theorem rf_45_2 (Ln : Nat) : (G0 Ln).2.2.2 45 2 = some 48 := rfl
theorem rf_45_3 (Ln : Nat) : (G0 Ln).2.2.2 45 3 = some 49 := rfl
theorem rf_45_4 (Ln : Nat) : (G0 Ln).2.2.2 45 4 = some 50 := rfl
theorem rf_51_0 (Ln : Nat) : (G0 Ln).2.2.2 51 0 = some 52 := rfl
theorem rf_51_1 (Ln : Nat) : (G0 Ln).2.2.2 51 1 = some 53 := rfl
theorem rf_51_2 (Ln : Nat) : (G0 Ln).2.2.2 51 2 = some 54 := rfl
theorem rf_51_3 (Ln : Nat) : (G0 Ln).2.2.2 51 3 = some 55 := rfl
theorem rf_51_4 (Ln : Nat) : (G0 Ln).2.2.2 51 4 = some 56 := rfl
theorem rf_57_0 (Ln : Nat) : (G0 Ln).2.2.2 57 0 = some 58 := rfl
theorem rf_57_1 (Ln : Nat) : (G0 Ln).2.2.2 57 1 = some 59 := rfl
theorem rf_57_2 (Ln : Nat) : (G0 Ln).2.2.2 57 2 = some 60 := rfl
theorem rf_57_3 (Ln : Nat) : (G0 Ln).2.2.2 57 3 = some 61 := rfl
theorem rf_57_4 (Ln : Nat) : (G0 Ln).2.2.2 57 4 = some 62 := rfl
theorem rf_63_0 (Ln : Nat) : (G0 Ln).2.2.2 63 0 = some 64 := rfl
theorem rf_63_1 (Ln : Nat) : (G0 Ln).2.2.2 63 1 = some 65 := rfl
theorem rf_63_2 (Ln : Nat) : (G0 Ln).2.2.2 63 2 = some 66 := rfl
theorem rf_63_3 (Ln : Nat) : (G0 Ln).2.2.2 63 3 = some 67 := rfl
theorem rf_63_4 (Ln : Nat) : (G0 Ln).2.2.2 63 4 = some 68 := rfl
theorem rf_69_0 (Ln : Nat) : (G0 Ln).2.2.2 69 0 = some 70 := rfl
theorem rf_69_1 (Ln : Nat) : (G0 Ln).2.2.2 69 1 = some 71 := rfl
theorem rf_69_2 (Ln : Nat) : (G0 Ln).2.2.2 69 2 = some 72 := rfl
theorem rf_69_3 (Ln : Nat) : (G0 Ln).2.2.2 69 3 = some 73 := rfl
theorem rf_69_4 (Ln : Nat) : (G0 Ln).2.2.2 69 4 = some 74 := rfl
theorem rf_75_0 (Ln : Nat) : (G0 Ln).2.2.2 75 0 = some 76 := rfl
theorem rf_75_1 (Ln : Nat) : (G0 Ln).2.2.2 75 1 = some 77 := rfl
theorem rf_75_2 (Ln : Nat) : (G0 Ln).2.2.2 75 2 = some 78 := rfl
theorem rf_75_3 (Ln : Nat) : (G0 Ln).2.2.2 75 3 = some 79 := rfl
theorem rf_75_4 (Ln : Nat) : (G0 Ln).2.2.2 75 4 = some 80 := rfl
theorem rf_81_0 (Ln : Nat) : (G0 Ln).2.2.2 81 0 = some 82 := rfl
theorem rf_81_1 (Ln : Nat) : (G0 Ln).2.2.2 81 1 = some 83 := rfl
theorem rf_81_2 (Ln : Nat) : (G0 Ln).2.2.2 81 2 = some 84 := rfl
theorem rf_81_3 (Ln : Nat) : (G0 Ln).2.2.2 81 3 = some 85 := rfl
theorem rf_81_4 (Ln : Nat) : (G0 Ln).2.2.2 81 4 = some 86 := rfl
theorem rf_87_0 (Ln : Nat) : (G0 Ln).2.2.2 87 0 = some 88 := rfl
theorem rf_87_1 (Ln : Nat) : (G0 Ln).2.2.2 87 1 = some 89 := rfl
theorem rf_87_2 (Ln : Nat) : (G0 Ln).2.2.2 87 2 = some 90 := rfl
theorem rf_87_3 (Ln : Nat) : (G0 Ln).2.2.2 87 3 = some 91 := rfl
theorem rf_87_4 (Ln : Nat) : (G0 Ln).2.2.2 87 4 = some 92 := rfl
theorem rf_93_0 (Ln : Nat) : (G0 Ln).2.2.2 93 0 = some 94 := rfl
theorem rf_93_1 (Ln : Nat) : (G0 Ln).2.2.2 93 1 = some 95 := rfl
theorem rf_93_2 (Ln : Nat) : (G0 Ln).2.2.2 93 2 = some 96 := rfl
theorem rf_93_3 (Ln : Nat) : (G0 Ln).2.2.2 93 3 = some 97 := rfl
theorem rf_93_4 (Ln : Nat) : (G0 Ln).2.2.2 93 4 = some 98 := rfl
theorem rf_99_0 (Ln : Nat) : (G0 Ln).2.2.2 99 0 = some 100 := rfl
theorem rf_99_1 (Ln : Nat) : (G0 Ln).2.2.2 99 1 = some 101 := rfl
theorem rf_99_2 (Ln : Nat) : (G0 Ln).2.2.2 99 2 = some 102 := rfl
theorem rf_99_3 (Ln : Nat) : (G0 Ln).2.2.2 99 3 = some 103 := rfl
theorem rf_99_4 (Ln : Nat) : (G0 Ln).2.2.2 99 4 = some 104 := rfl
theorem rf_105_0 (Ln : Nat) : (G0 Ln).2.2.2 105 0 = some 106 := rfl
theorem rf_105_1 (Ln : Nat) : (G0 Ln).2.2.2 105 1 = some 107 := rfl
theorem rf_105_2 (Ln : Nat) : (G0 Ln).2.2.2 105 2 = some 108 := rfl
theorem rf_105_3 (Ln : Nat) : (G0 Ln).2.2.2 105 3 = some 109 := rfl
theorem rf_105_4 (Ln : Nat) : (G0 Ln).2.2.2 105 4 = some 110 := rfl
theorem rf_111_0 (Ln : Nat) : (G0 Ln).2.2.2 111 0 = some 112 := rfl
theorem rf_111_1 (Ln : Nat) : (G0 Ln).2.2.2 111 1 = some 113 := rfl
theorem rf_111_2 (Ln : Nat) : (G0 Ln).2.2.2 111 2 = some 114 := rfl
theorem rf_111_3 (Ln : Nat) : (G0 Ln).2.2.2 111 3 = some 115 := rfl
theorem rf_111_4 (Ln : Nat) : (G0 Ln).2.2.2 111 4 = some 116 := rfl
theorem rf_118_0 (Ln : Nat) : (G0 Ln).2.2.2 118 0 = some 119 := rfl
theorem rf_122_0 (Ln : Nat) : (G0 Ln).2.2.2 122 0 = some 123 := rfl
theorem rf_122_1 (Ln : Nat) : (G0 Ln).2.2.2 122 1 = some 124 := rfl
theorem rf_122_2 (Ln : Nat) : (G0 Ln).2.2.2 122 2 = some 125 := rfl
theorem rf_122_3 (Ln : Nat) : (G0 Ln).2.2.2 122 3 = some 126 := rfl
theorem rf_122_4 (Ln : Nat) : (G0 Ln).2.2.2 122 4 = some 127 := rfl
theorem rf_122_5 (Ln : Nat) : (G0 Ln).2.2.2 122 5 = some 128 := rfl
theorem rf_122_6 (Ln : Nat) : (G0 Ln).2.2.2 122 6 = some 129 := rfl
theorem rf_122_7 (Ln : Nat) : (G0 Ln).2.2.2 122 7 = some 130 := rfl
theorem rf_122_8 (Ln : Nat) : (G0 Ln).2.2.2 122 8 = some 131 := rfl
theorem rf_122_9 (Ln : Nat) : (G0 Ln).2.2.2 122 9 = some 132 := rfl
theorem rf_122_10 (Ln : Nat) : (G0 Ln).2.2.2 122 10 = some 133 := rfl
theorem rf_122_11 (Ln : Nat) : (G0 Ln).2.2.2 122 11 = some 134 := rfl
theorem rf_122_12 (Ln : Nat) : (G0 Ln).2.2.2 122 12 = some 135 := rfl
theorem rf_122_13 (Ln : Nat) : (G0 Ln).2.2.2 122 13 = some 136 := rfl
theorem rf_122_14 (Ln : Nat) : (G0 Ln).2.2.2 122 14 = some 137 := rfl
theorem rf_122_15 (Ln : Nat) : (G0 Ln).2.2.2 122 15 = some 138 := rfl
theorem rf_122_16 (Ln : Nat) : (G0 Ln).2.2.2 122 16 = some 139 := rfl
theorem rf_122_17 (Ln : Nat) : (G0 Ln).2.2.2 122 17 = some 140 := rfl
theorem rf_122_19 (Ln : Nat) : (G0 Ln).2.2.2 122 19 = some 141 := rfl
theorem rf_122_20 (Ln : Nat) : (G0 Ln).2.2.2 122 20 = some 142 := rfl
theorem rf_122_21 (Ln : Nat) : (G0 Ln).2.2.2 122 21 = some 143 := rfl
theorem rf_122_22 (Ln : Nat) : (G0 Ln).2.2.2 122 22 = some 144 := rfl
theorem rf_122_23 (Ln : Nat) : (G0 Ln).2.2.2 122 23 = some 145 := rfl
theorem rf_122_24 (Ln : Nat) : (G0 Ln).2.2.2 122 24 = some 146 := rfl
theorem rf_122_25 (Ln : Nat) : (G0 Ln).2.2.2 122 25 = some 147 := rfl
theorem rf_122_26 (Ln : Nat) : (G0 Ln).2.2.2 122 26 = some 148 := rfl
theorem rf_122_27 (Ln : Nat) : (G0 Ln).2.2.2 122 27 = some 149 := rfl
theorem rf_122_28 (Ln : Nat) : (G0 Ln).2.2.2 122 28 = some 150 := rfl
theorem rf_122_29 (Ln : Nat) : (G0 Ln).2.2.2 122 29 = some 151 := rfl
theorem rf_122_30 (Ln : Nat) : (G0 Ln).2.2.2 122 30 = some 152 := rfl
theorem rf_122_31 (Ln : Nat) : (G0 Ln).2.2.2 122 31 = some 153 := rfl
theorem rf_122_32 (Ln : Nat) : (G0 Ln).2.2.2 122 32 = some 154 := rfl
theorem rf_122_33 (Ln : Nat) : (G0 Ln).2.2.2 122 33 = some 155 := rfl
theorem rf_122_34 (Ln : Nat) : (G0 Ln).2.2.2 122 34 = some 156 := rfl
theorem rf_122_35 (Ln : Nat) : (G0 Ln).2.2.2 122 35 = some 157 := rfl
theorem rf_122_40 (Ln : Nat) : (G0 Ln).2.2.2 122 40 = some 158 := rfl
theorem rf_122_41 (Ln : Nat) : (G0 Ln).2.2.2 122 41 = some 159 := rfl
theorem rf_122_42 (Ln : Nat) : (G0 Ln).2.2.2 122 42 = some 160 := rfl
theorem rf_122_43 (Ln : Nat) : (G0 Ln).2.2.2 122 43 = some 161 := rfl
theorem rf_122_45 (Ln : Nat) : (G0 Ln).2.2.2 122 45 = some 162 := rfl
theorem rf_122_46 (Ln : Nat) : (G0 Ln).2.2.2 122 46 = some 163 := rfl
theorem rf_122_47 (Ln : Nat) : (G0 Ln).2.2.2 122 47 = some 164 := rfl
theorem psh_s {v : Value} {st : List Value} : psh (some v) st = v :: st := rfl
theorem psh_n {st : List Value} : psh none st = st := rfl
theorem kil_i {x : Int32} : kil (.int x) = .int x := rfl
theorem kil_r {x : Nat} : kil (.ref x) = .ref x := rfl
theorem kil_n : kil nv = nv := rfl
theorem kil_0 : kil .null = .null := rfl
theorem kil_l {x : Int64} : kil (.long x) = nv := rfl
theorem kil_k {x : Value} : kil (kil x) = kil x := by cases x <;> rfl
theorem refV_s {c : Nat} : refV (some c) = .ref c := rfl
theorem refV_n : refV none = .null := rfl
theorem cat_i {x : Int32} : (Value.int x).category = 1 := rfl
theorem cat_r {x : Nat} : (Value.ref x).category = 1 := rfl
theorem iOK_1 {n : Nat} {j : Int32} : iOK (1, n) j ↔ vp_in j n := ⟨fun h => h.2, fun h => ⟨Or.inl rfl, h⟩⟩
theorem iOK_5 {n : Nat} {j : Int32} : iOK (5, n) j ↔ vp_in j n := ⟨fun h => h.2, fun h => ⟨Or.inr rfl, h⟩⟩
theorem jOK_2 {n : Nat} {j : Int32} : jOK (2, n) j ↔ vp_in j n := ⟨fun h => h.2, fun h => ⟨Or.inl rfl, h⟩⟩
theorem jOK_6 {n : Nat} {j : Int32} : jOK (6, n) j ↔ vp_in j n := ⟨fun h => h.2, fun h => ⟨Or.inr rfl, h⟩⟩
theorem wOK_e {t n : Nat} {j : Int32} : wOK (t, n) t j ↔ vp_in j n := ⟨fun h => h.2, fun h => ⟨rfl, h⟩⟩
theorem lOK_1 {n : Nat} : lOK (1, n) ↔ True := ⟨fun _ => trivial, fun _ => ⟨Nat.le_of_ble_eq_true rfl, Nat.le_of_ble_eq_true rfl⟩⟩
theorem lOK_2 {n : Nat} : lOK (2, n) ↔ True := ⟨fun _ => trivial, fun _ => ⟨Nat.le_of_ble_eq_true rfl, Nat.le_of_ble_eq_true rfl⟩⟩
theorem lOK_3 {n : Nat} : lOK (3, n) ↔ True := ⟨fun _ => trivial, fun _ => ⟨Nat.le_of_ble_eq_true rfl, Nat.le_of_ble_eq_true rfl⟩⟩
theorem lOK_4 {n : Nat} : lOK (4, n) ↔ True := ⟨fun _ => trivial, fun _ => ⟨Nat.le_of_ble_eq_true rfl, Nat.le_of_ble_eq_true rfl⟩⟩
theorem lOK_5 {n : Nat} : lOK (5, n) ↔ True := ⟨fun _ => trivial, fun _ => ⟨Nat.le_of_ble_eq_true rfl, Nat.le_of_ble_eq_true rfl⟩⟩
theorem lOK_6 {n : Nat} : lOK (6, n) ↔ True := ⟨fun _ => trivial, fun _ => ⟨Nat.le_of_ble_eq_true rfl, Nat.le_of_ble_eq_true rfl⟩⟩
theorem catS_0 : catS [] ≤ 8 ↔ True := ⟨fun _ => trivial, fun _ => by decide⟩
theorem catS_1 {a : Value} : catS [a] ≤ 8 ↔ True := ⟨fun _ => trivial, fun _ => by cases a <;> simp [catS, Value.category]⟩
theorem catS_2 {a b : Value} : catS [a, b] ≤ 8 ↔ True := ⟨fun _ => trivial, fun _ => by cases a <;> cases b <;> simp [catS, Value.category]⟩
theorem catS_3 {a b c : Value} : catS [a, b, c] ≤ 8 ↔ True := ⟨fun _ => trivial, fun _ => by cases a <;> cases b <;> cases c <;> simp [catS, Value.category]⟩
theorem catS_4 {a b c e : Value} : catS [a, b, c, e] ≤ 8 ↔ True := ⟨fun _ => trivial, fun _ => by cases a <;> cases b <;> cases c <;> cases e <;> simp [catS, Value.category]⟩
end
section
section
variable {d Ln : Nat} {I : IT} {J : JT} {K : KT}
abbrev RSf (c : Nat) : Prop := ∀ Ln : Nat, shp (G0 Ln) c = (0, 5) ∧ shp (G0 Ln) (c + 1) = (2, 64) ∧ (G0 Ln).2.2.2 c 0 = some (c + 1)
theorem C_has {c : Nat} {row : Int32} (h : RSf c) : ACall (d + 1) 66 [.ref c, .int row] (G0 Ln) I J K ↔ K none (G0 Ln) I J := by
  obtain ⟨h1, h2, h3⟩ := h Ln
  rw [ACall_0 (L0 := [.ref c, .int row]) (show mcs 66 = (0, 0) from rfl) (show entL 66 [.ref c, .int row] = _ from rfl)]
  simp only [aw_iload_1 D66_0 rfl, aw_if_lt (t := 37) D66_1 (by decide) rfl, aw_iload_1 D66_4 rfl, aw_aload_0 D66_5 rfl, aw_getI (ci := 5) (fk := 2) D66_6 rfl fT_5_19 rfl, aw_icmp_ge (t := 37) D66_9 (by decide) rfl, aw_aload_0 D66_12 rfl, aw_getR (ci := 5) (fk := 0) D66_13 rfl fT_5_9 rfl, aw_iload_1 D66_16 rfl, aw_bipush (y := 6) D66_17 rfl (by decide), aw_ishr D66_19 rfl, aw_laload D66_20 rfl, aw_iload_1 D66_21 rfl, aw_bipush (y := 63) D66_22 rfl (by decide), aw_iand D66_24 rfl, aw_lshr D66_25 rfl, aw_lconst (y := 1) D66_26 rfl (by decide), aw_land D66_27 rfl, aw_lconst (y := 0) D66_28 rfl (by decide), aw_lcmp D66_29 rfl, aw_if_eq (t := 37) D66_30 (by decide) rfl, aw_iconst (y := 1) D66_33 rfl (by decide), aw_goto (t := 38) D66_34 (by decide), aw_iconst (y := 0) D66_37 rfl (by decide), aw_zret D66_38 rfl, h1, h2, h3, psh_s, refV_s, jOK_2, true_and, and_true, ite_true, ite_false]
  trace_state
  sorry
end
end
