section
-- ===== PART A: goes FIRST, ahead of the names: the tables' words, and 'selects' of the private methods out of them =====
/-- a private method of a class that the tables say can be made, by its rows of tables_1 -/
def lw_okq (q : MethodName × Nat) : Prop := (q.1.cls ≠ "java/lang/invoke/MethodHandle" ∧ q.1.cls ≠ "java/lang/invoke/VarHandle") ∧ Cond.instantiable q.1.cls q.2 ∈ tables_1 ∧ Cond.privateMethod q.1 ∈ tables_1 ∧ Cond.instanceMethod q.1 ∈ tables_1
theorem lw_p0 : lw_okq (⟨"PackedLists", "beginChange", "(I)V"⟩, 10) := ⟨⟨by decide +kernel, by decide +kernel⟩, List.mem_of_getElem? (i := 18) (by decide +kernel), List.mem_of_getElem? (i := 309) (by decide +kernel), List.mem_of_getElem? (i := 310) (by decide +kernel)⟩
theorem lw_p1 : lw_okq (⟨"PackedLists$CutList", "moveStarts", "(II)V"⟩, 3) := ⟨⟨by decide +kernel, by decide +kernel⟩, List.mem_of_getElem? (i := 34) (by decide +kernel), List.mem_of_getElem? (i := 359) (by decide +kernel), List.mem_of_getElem? (i := 360) (by decide +kernel)⟩
theorem lw_p2 : lw_okq (⟨"PackedLists$CutList", "split", "(II)V"⟩, 3) := ⟨⟨by decide +kernel, by decide +kernel⟩, List.mem_of_getElem? (i := 34) (by decide +kernel), List.mem_of_getElem? (i := 363) (by decide +kernel), List.mem_of_getElem? (i := 364) (by decide +kernel)⟩
theorem lw_p3 : lw_okq (⟨"PackedLists$CutList", "dropBlock", "(I)V"⟩, 3) := ⟨⟨by decide +kernel, by decide +kernel⟩, List.mem_of_getElem? (i := 34) (by decide +kernel), List.mem_of_getElem? (i := 379) (by decide +kernel), List.mem_of_getElem? (i := 380) (by decide +kernel)⟩
theorem lw_p4 : lw_okq (⟨"PackedLists$Packer", "plan", "(LPackedLists$Row;)V"⟩, 3) := ⟨⟨by decide +kernel, by decide +kernel⟩, List.mem_of_getElem? (i := 152) (by decide +kernel), List.mem_of_getElem? (i := 394) (by decide +kernel), List.mem_of_getElem? (i := 395) (by decide +kernel)⟩
theorem lw_p5 : lw_okq (⟨"PackedLists$Packer", "chooseEnd", "(II)V"⟩, 3) := ⟨⟨by decide +kernel, by decide +kernel⟩, List.mem_of_getElem? (i := 152) (by decide +kernel), List.mem_of_getElem? (i := 413) (by decide +kernel), List.mem_of_getElem? (i := 414) (by decide +kernel)⟩
theorem lw_p6 : lw_okq (⟨"PackedLists$Window", "slot", "(I)I"⟩, 6) := ⟨⟨by decide +kernel, by decide +kernel⟩, List.mem_of_getElem? (i := 159) (by decide +kernel), List.mem_of_getElem? (i := 422) (by decide +kernel), List.mem_of_getElem? (i := 423) (by decide +kernel)⟩
theorem lw_p7 : lw_okq (⟨"PackedLists$Packer", "passGap", "(II)V"⟩, 3) := ⟨⟨by decide +kernel, by decide +kernel⟩, List.mem_of_getElem? (i := 152) (by decide +kernel), List.mem_of_getElem? (i := 434) (by decide +kernel), List.mem_of_getElem? (i := 435) (by decide +kernel)⟩
theorem lw_p8 : lw_okq (⟨"PackedLists", "sumOfBlocks", "(LPackedLists$CutList;I)I"⟩, 10) := ⟨⟨by decide +kernel, by decide +kernel⟩, List.mem_of_getElem? (i := 18) (by decide +kernel), List.mem_of_getElem? (i := 447) (by decide +kernel), List.mem_of_getElem? (i := 448) (by decide +kernel)⟩
theorem lw_p9 : lw_okq (⟨"PackedLists", "measured", "(LPackedLists$CutList;I)LPackedLists$BlockView;"⟩, 10) := ⟨⟨by decide +kernel, by decide +kernel⟩, List.mem_of_getElem? (i := 18) (by decide +kernel), List.mem_of_getElem? (i := 451) (by decide +kernel), List.mem_of_getElem? (i := 452) (by decide +kernel)⟩
theorem lw_p10 : lw_okq (⟨"PackedLists$BlockView", "chooseWidth", "(I)V"⟩, 7) := ⟨⟨by decide +kernel, by decide +kernel⟩, List.mem_of_getElem? (i := 120) (by decide +kernel), List.mem_of_getElem? (i := 466) (by decide +kernel), List.mem_of_getElem? (i := 467) (by decide +kernel)⟩
theorem lw_p11 : lw_okq (⟨"PackedLists$BlockView", "costWith", "(II)I"⟩, 7) := ⟨⟨by decide +kernel, by decide +kernel⟩, List.mem_of_getElem? (i := 120) (by decide +kernel), List.mem_of_getElem? (i := 470) (by decide +kernel), List.mem_of_getElem? (i := 471) (by decide +kernel)⟩
theorem lw_p12 : lw_okq (⟨"PackedLists$NumberReader", "skipBlanks", "()V"⟩, 4) := ⟨⟨by decide +kernel, by decide +kernel⟩, List.mem_of_getElem? (i := 210) (by decide +kernel), List.mem_of_getElem? (i := 491) (by decide +kernel), List.mem_of_getElem? (i := 492) (by decide +kernel)⟩
theorem lw_p13 : lw_okq (⟨"PackedLists$NumberReader", "readPart", "(I)I"⟩, 4) := ⟨⟨by decide +kernel, by decide +kernel⟩, List.mem_of_getElem? (i := 210) (by decide +kernel), List.mem_of_getElem? (i := 496) (by decide +kernel), List.mem_of_getElem? (i := 497) (by decide +kernel)⟩
theorem lw_p14 : lw_okq (⟨"PackedLists$NumberReader", "readNumber", "(I)I"⟩, 4) := ⟨⟨by decide +kernel, by decide +kernel⟩, List.mem_of_getElem? (i := 210) (by decide +kernel), List.mem_of_getElem? (i := 500) (by decide +kernel), List.mem_of_getElem? (i := 501) (by decide +kernel)⟩
theorem lw_p15 : lw_okq (⟨"PackedLists$NumberReader", "stepOver", "()V"⟩, 4) := ⟨⟨by decide +kernel, by decide +kernel⟩, List.mem_of_getElem? (i := 210) (by decide +kernel), List.mem_of_getElem? (i := 507) (by decide +kernel), List.mem_of_getElem? (i := 508) (by decide +kernel)⟩
def lw_privs_1 : List (MethodName × Nat) := [(⟨"PackedLists", "beginChange", "(I)V"⟩, 10), (⟨"PackedLists$CutList", "moveStarts", "(II)V"⟩, 3), (⟨"PackedLists$CutList", "split", "(II)V"⟩, 3), (⟨"PackedLists$CutList", "dropBlock", "(I)V"⟩, 3), (⟨"PackedLists$Packer", "plan", "(LPackedLists$Row;)V"⟩, 3), (⟨"PackedLists$Packer", "chooseEnd", "(II)V"⟩, 3), (⟨"PackedLists$Window", "slot", "(I)I"⟩, 6), (⟨"PackedLists$Packer", "passGap", "(II)V"⟩, 3), (⟨"PackedLists", "sumOfBlocks", "(LPackedLists$CutList;I)I"⟩, 10), (⟨"PackedLists", "measured", "(LPackedLists$CutList;I)LPackedLists$BlockView;"⟩, 10), (⟨"PackedLists$BlockView", "chooseWidth", "(I)V"⟩, 7), (⟨"PackedLists$BlockView", "costWith", "(II)I"⟩, 7), (⟨"PackedLists$NumberReader", "skipBlanks", "()V"⟩, 4), (⟨"PackedLists$NumberReader", "readPart", "(I)I"⟩, 4), (⟨"PackedLists$NumberReader", "readNumber", "(I)I"⟩, 4), (⟨"PackedLists$NumberReader", "stepOver", "()V"⟩, 4)]
theorem lw_r1 : ∀ q ∈ lw_privs_1, lw_okq q := List.forall_mem_cons.mpr ⟨lw_p0, List.forall_mem_cons.mpr ⟨lw_p1, List.forall_mem_cons.mpr ⟨lw_p2, List.forall_mem_cons.mpr ⟨lw_p3, List.forall_mem_cons.mpr ⟨lw_p4, List.forall_mem_cons.mpr ⟨lw_p5, List.forall_mem_cons.mpr ⟨lw_p6, List.forall_mem_cons.mpr ⟨lw_p7, List.forall_mem_cons.mpr ⟨lw_p8, List.forall_mem_cons.mpr ⟨lw_p9, List.forall_mem_cons.mpr ⟨lw_p10, List.forall_mem_cons.mpr ⟨lw_p11, List.forall_mem_cons.mpr ⟨lw_p12, List.forall_mem_cons.mpr ⟨lw_p13, List.forall_mem_cons.mpr ⟨lw_p14, List.forall_mem_cons.mpr ⟨lw_p15, fun _ h => absurd h List.not_mem_nil⟩⟩⟩⟩⟩⟩⟩⟩⟩⟩⟩⟩⟩⟩⟩⟩
theorem lw_p16 : lw_okq (⟨"PackedLists", "replaceNumbers", "(ILPackedLists$Row;)V"⟩, 10) := ⟨⟨by decide +kernel, by decide +kernel⟩, List.mem_of_getElem? (i := 18) (by decide +kernel), List.mem_of_getElem? (i := 515) (by decide +kernel), List.mem_of_getElem? (i := 516) (by decide +kernel)⟩
theorem lw_p17 : lw_okq (⟨"PackedLists", "isBlock", "(II)Z"⟩, 10) := ⟨⟨by decide +kernel, by decide +kernel⟩, List.mem_of_getElem? (i := 18) (by decide +kernel), List.mem_of_getElem? (i := 562) (by decide +kernel), List.mem_of_getElem? (i := 563) (by decide +kernel)⟩
theorem lw_p18 : lw_okq (⟨"PackedLists$ExpressionReader", "take", "(I)Z"⟩, 4) := ⟨⟨by decide +kernel, by decide +kernel⟩, List.mem_of_getElem? (i := 232) (by decide +kernel), List.mem_of_getElem? (i := 638) (by decide +kernel), List.mem_of_getElem? (i := 639) (by decide +kernel)⟩
theorem lw_p19 : lw_okq (⟨"PackedLists$ExpressionReader", "takeFactor", "(I)Z"⟩, 4) := ⟨⟨by decide +kernel, by decide +kernel⟩, List.mem_of_getElem? (i := 232) (by decide +kernel), List.mem_of_getElem? (i := 642) (by decide +kernel), List.mem_of_getElem? (i := 643) (by decide +kernel)⟩
theorem lw_p20 : lw_okq (⟨"PackedLists$ExpressionReader", "takeSign", "(I)Z"⟩, 4) := ⟨⟨by decide +kernel, by decide +kernel⟩, List.mem_of_getElem? (i := 232) (by decide +kernel), List.mem_of_getElem? (i := 647) (by decide +kernel), List.mem_of_getElem? (i := 648) (by decide +kernel)⟩
theorem lw_p21 : lw_okq (⟨"PackedLists$ExpressionReader", "releaseFrom", "(I)V"⟩, 4) := ⟨⟨by decide +kernel, by decide +kernel⟩, List.mem_of_getElem? (i := 232) (by decide +kernel), List.mem_of_getElem? (i := 651) (by decide +kernel), List.mem_of_getElem? (i := 652) (by decide +kernel)⟩
theorem lw_p22 : lw_okq (⟨"PackedLists$Joiner", "gatherAll", "([LPackedLists$CutList;)V"⟩, 8) := ⟨⟨by decide +kernel, by decide +kernel⟩, List.mem_of_getElem? (i := 658) (by decide +kernel), List.mem_of_getElem? (i := 700) (by decide +kernel), List.mem_of_getElem? (i := 701) (by decide +kernel)⟩
theorem lw_p23 : lw_okq (⟨"PackedLists$Joiner", "leastAtCursors", "([LPackedLists$CutList;)I"⟩, 8) := ⟨⟨by decide +kernel, by decide +kernel⟩, List.mem_of_getElem? (i := 658) (by decide +kernel), List.mem_of_getElem? (i := 705) (by decide +kernel), List.mem_of_getElem? (i := 706) (by decide +kernel)⟩
theorem lw_p24 : lw_okq (⟨"PackedLists$Joiner", "passCursors", "([LPackedLists$CutList;I)I"⟩, 8) := ⟨⟨by decide +kernel, by decide +kernel⟩, List.mem_of_getElem? (i := 658) (by decide +kernel), List.mem_of_getElem? (i := 714) (by decide +kernel), List.mem_of_getElem? (i := 715) (by decide +kernel)⟩
theorem lw_p25 : lw_okq (⟨"PackedLists$Joiner", "join", "(IJJ)J"⟩, 8) := ⟨⟨by decide +kernel, by decide +kernel⟩, List.mem_of_getElem? (i := 658) (by decide +kernel), List.mem_of_getElem? (i := 720) (by decide +kernel), List.mem_of_getElem? (i := 721) (by decide +kernel)⟩
theorem lw_p26 : lw_okq (⟨"PackedLists$Joiner", "makeRow", "(JLPackedLists$Row;)V"⟩, 8) := ⟨⟨by decide +kernel, by decide +kernel⟩, List.mem_of_getElem? (i := 658) (by decide +kernel), List.mem_of_getElem? (i := 725) (by decide +kernel), List.mem_of_getElem? (i := 726) (by decide +kernel)⟩
theorem lw_p27 : lw_okq (⟨"PackedLists$Galloper", "gallop", "(LPackedLists$Row;II)I"⟩, 2) := ⟨⟨by decide +kernel, by decide +kernel⟩, List.mem_of_getElem? (i := 194) (by decide +kernel), List.mem_of_getElem? (i := 734) (by decide +kernel), List.mem_of_getElem? (i := 735) (by decide +kernel)⟩
theorem lw_p28 : lw_okq (⟨"PackedLists$Galloper", "reaches", "(LPackedLists$Row;II)Z"⟩, 2) := ⟨⟨by decide +kernel, by decide +kernel⟩, List.mem_of_getElem? (i := 194) (by decide +kernel), List.mem_of_getElem? (i := 738) (by decide +kernel), List.mem_of_getElem? (i := 739) (by decide +kernel)⟩
theorem lw_p29 : lw_okq (⟨"PackedLists", "mixBlocks", "(JI)J"⟩, 10) := ⟨⟨by decide +kernel, by decide +kernel⟩, List.mem_of_getElem? (i := 18) (by decide +kernel), List.mem_of_getElem? (i := 767) (by decide +kernel), List.mem_of_getElem? (i := 768) (by decide +kernel)⟩
theorem lw_p30 : lw_okq (⟨"PackedListsModel", "has", "(II)Z"⟩, 35) := ⟨⟨by decide +kernel, by decide +kernel⟩, List.mem_of_getElem? (i := 778) (by decide +kernel), List.mem_of_getElem? (i := 908) (by decide +kernel), List.mem_of_getElem? (i := 909) (by decide +kernel)⟩
theorem lw_p31 : lw_okq (⟨"PackedListsModel", "place", "(II)I"⟩, 35) := ⟨⟨by decide +kernel, by decide +kernel⟩, List.mem_of_getElem? (i := 778) (by decide +kernel), List.mem_of_getElem? (i := 912) (by decide +kernel), List.mem_of_getElem? (i := 913) (by decide +kernel)⟩
def lw_privs_2 : List (MethodName × Nat) := [(⟨"PackedLists", "replaceNumbers", "(ILPackedLists$Row;)V"⟩, 10), (⟨"PackedLists", "isBlock", "(II)Z"⟩, 10), (⟨"PackedLists$ExpressionReader", "take", "(I)Z"⟩, 4), (⟨"PackedLists$ExpressionReader", "takeFactor", "(I)Z"⟩, 4), (⟨"PackedLists$ExpressionReader", "takeSign", "(I)Z"⟩, 4), (⟨"PackedLists$ExpressionReader", "releaseFrom", "(I)V"⟩, 4), (⟨"PackedLists$Joiner", "gatherAll", "([LPackedLists$CutList;)V"⟩, 8), (⟨"PackedLists$Joiner", "leastAtCursors", "([LPackedLists$CutList;)I"⟩, 8), (⟨"PackedLists$Joiner", "passCursors", "([LPackedLists$CutList;I)I"⟩, 8), (⟨"PackedLists$Joiner", "join", "(IJJ)J"⟩, 8), (⟨"PackedLists$Joiner", "makeRow", "(JLPackedLists$Row;)V"⟩, 8), (⟨"PackedLists$Galloper", "gallop", "(LPackedLists$Row;II)I"⟩, 2), (⟨"PackedLists$Galloper", "reaches", "(LPackedLists$Row;II)Z"⟩, 2), (⟨"PackedLists", "mixBlocks", "(JI)J"⟩, 10), (⟨"PackedListsModel", "has", "(II)Z"⟩, 35), (⟨"PackedListsModel", "place", "(II)I"⟩, 35)]
theorem lw_r2 : ∀ q ∈ lw_privs_2, lw_okq q := List.forall_mem_cons.mpr ⟨lw_p16, List.forall_mem_cons.mpr ⟨lw_p17, List.forall_mem_cons.mpr ⟨lw_p18, List.forall_mem_cons.mpr ⟨lw_p19, List.forall_mem_cons.mpr ⟨lw_p20, List.forall_mem_cons.mpr ⟨lw_p21, List.forall_mem_cons.mpr ⟨lw_p22, List.forall_mem_cons.mpr ⟨lw_p23, List.forall_mem_cons.mpr ⟨lw_p24, List.forall_mem_cons.mpr ⟨lw_p25, List.forall_mem_cons.mpr ⟨lw_p26, List.forall_mem_cons.mpr ⟨lw_p27, List.forall_mem_cons.mpr ⟨lw_p28, List.forall_mem_cons.mpr ⟨lw_p29, List.forall_mem_cons.mpr ⟨lw_p30, List.forall_mem_cons.mpr ⟨lw_p31, fun _ h => absurd h List.not_mem_nil⟩⟩⟩⟩⟩⟩⟩⟩⟩⟩⟩⟩⟩⟩⟩⟩
theorem lw_p32 : lw_okq (⟨"PackedListsModel", "many", "(I)I"⟩, 35) := ⟨⟨by decide +kernel, by decide +kernel⟩, List.mem_of_getElem? (i := 778) (by decide +kernel), List.mem_of_getElem? (i := 916) (by decide +kernel), List.mem_of_getElem? (i := 917) (by decide +kernel)⟩
theorem lw_p33 : lw_okq (⟨"PackedListsModel", "number", "(II)I"⟩, 35) := ⟨⟨by decide +kernel, by decide +kernel⟩, List.mem_of_getElem? (i := 778) (by decide +kernel), List.mem_of_getElem? (i := 920) (by decide +kernel), List.mem_of_getElem? (i := 921) (by decide +kernel)⟩
theorem lw_p34 : lw_okq (⟨"PackedListsModel", "keeps", "(I)V"⟩, 35) := ⟨⟨by decide +kernel, by decide +kernel⟩, List.mem_of_getElem? (i := 778) (by decide +kernel), List.mem_of_getElem? (i := 924) (by decide +kernel), List.mem_of_getElem? (i := 925) (by decide +kernel)⟩
theorem lw_p35 : lw_okq (⟨"PackedListsModel", "lastBlock", "(II)I"⟩, 35) := ⟨⟨by decide +kernel, by decide +kernel⟩, List.mem_of_getElem? (i := 778) (by decide +kernel), List.mem_of_getElem? (i := 928) (by decide +kernel), List.mem_of_getElem? (i := 929) (by decide +kernel)⟩
theorem lw_p36 : lw_okq (⟨"PackedListsModel", "blocks", "(I)I"⟩, 35) := ⟨⟨by decide +kernel, by decide +kernel⟩, List.mem_of_getElem? (i := 778) (by decide +kernel), List.mem_of_getElem? (i := 932) (by decide +kernel), List.mem_of_getElem? (i := 933) (by decide +kernel)⟩
theorem lw_p37 : lw_okq (⟨"PackedListsModel", "begin", "(II)I"⟩, 35) := ⟨⟨by decide +kernel, by decide +kernel⟩, List.mem_of_getElem? (i := 778) (by decide +kernel), List.mem_of_getElem? (i := 936) (by decide +kernel), List.mem_of_getElem? (i := 937) (by decide +kernel)⟩
theorem lw_p38 : lw_okq (⟨"PackedListsModel", "length", "(II)I"⟩, 35) := ⟨⟨by decide +kernel, by decide +kernel⟩, List.mem_of_getElem? (i := 778) (by decide +kernel), List.mem_of_getElem? (i := 940) (by decide +kernel), List.mem_of_getElem? (i := 941) (by decide +kernel)⟩
theorem lw_p39 : lw_okq (⟨"PackedListsModel", "splits", "(II)V"⟩, 35) := ⟨⟨by decide +kernel, by decide +kernel⟩, List.mem_of_getElem? (i := 778) (by decide +kernel), List.mem_of_getElem? (i := 944) (by decide +kernel), List.mem_of_getElem? (i := 945) (by decide +kernel)⟩
theorem lw_p40 : lw_okq (⟨"PackedListsModel", "blockOf", "(II)I"⟩, 35) := ⟨⟨by decide +kernel, by decide +kernel⟩, List.mem_of_getElem? (i := 778) (by decide +kernel), List.mem_of_getElem? (i := 952) (by decide +kernel), List.mem_of_getElem? (i := 953) (by decide +kernel)⟩
theorem lw_p41 : lw_okq (⟨"PackedListsModel", "packs", "(II)I"⟩, 35) := ⟨⟨by decide +kernel, by decide +kernel⟩, List.mem_of_getElem? (i := 778) (by decide +kernel), List.mem_of_getElem? (i := 960) (by decide +kernel), List.mem_of_getElem? (i := 961) (by decide +kernel)⟩
theorem lw_p42 : lw_okq (⟨"PackedListsModel", "plans", "(II)I"⟩, 35) := ⟨⟨by decide +kernel, by decide +kernel⟩, List.mem_of_getElem? (i := 778) (by decide +kernel), List.mem_of_getElem? (i := 964) (by decide +kernel), List.mem_of_getElem? (i := 965) (by decide +kernel)⟩
theorem lw_p43 : lw_okq (⟨"PackedListsModel", "solves", "(II)V"⟩, 35) := ⟨⟨by decide +kernel, by decide +kernel⟩, List.mem_of_getElem? (i := 778) (by decide +kernel), List.mem_of_getElem? (i := 968) (by decide +kernel), List.mem_of_getElem? (i := 969) (by decide +kernel)⟩
theorem lw_p44 : lw_okq (⟨"PackedListsModel", "gap", "(II)I"⟩, 35) := ⟨⟨by decide +kernel, by decide +kernel⟩, List.mem_of_getElem? (i := 778) (by decide +kernel), List.mem_of_getElem? (i := 972) (by decide +kernel), List.mem_of_getElem? (i := 973) (by decide +kernel)⟩
theorem lw_p45 : lw_okq (⟨"PackedListsModel", "best", "(I)I"⟩, 35) := ⟨⟨by decide +kernel, by decide +kernel⟩, List.mem_of_getElem? (i := 778) (by decide +kernel), List.mem_of_getElem? (i := 979) (by decide +kernel), List.mem_of_getElem? (i := 980) (by decide +kernel)⟩
theorem lw_p46 : lw_okq (⟨"PackedListsModel", "above", "(I)I"⟩, 35) := ⟨⟨by decide +kernel, by decide +kernel⟩, List.mem_of_getElem? (i := 778) (by decide +kernel), List.mem_of_getElem? (i := 983) (by decide +kernel), List.mem_of_getElem? (i := 984) (by decide +kernel)⟩
theorem lw_p47 : lw_okq (⟨"PackedListsModel", "costOf", "(II)I"⟩, 35) := ⟨⟨by decide +kernel, by decide +kernel⟩, List.mem_of_getElem? (i := 778) (by decide +kernel), List.mem_of_getElem? (i := 987) (by decide +kernel), List.mem_of_getElem? (i := 988) (by decide +kernel)⟩
def lw_privs_3 : List (MethodName × Nat) := [(⟨"PackedListsModel", "many", "(I)I"⟩, 35), (⟨"PackedListsModel", "number", "(II)I"⟩, 35), (⟨"PackedListsModel", "keeps", "(I)V"⟩, 35), (⟨"PackedListsModel", "lastBlock", "(II)I"⟩, 35), (⟨"PackedListsModel", "blocks", "(I)I"⟩, 35), (⟨"PackedListsModel", "begin", "(II)I"⟩, 35), (⟨"PackedListsModel", "length", "(II)I"⟩, 35), (⟨"PackedListsModel", "splits", "(II)V"⟩, 35), (⟨"PackedListsModel", "blockOf", "(II)I"⟩, 35), (⟨"PackedListsModel", "packs", "(II)I"⟩, 35), (⟨"PackedListsModel", "plans", "(II)I"⟩, 35), (⟨"PackedListsModel", "solves", "(II)V"⟩, 35), (⟨"PackedListsModel", "gap", "(II)I"⟩, 35), (⟨"PackedListsModel", "best", "(I)I"⟩, 35), (⟨"PackedListsModel", "above", "(I)I"⟩, 35), (⟨"PackedListsModel", "costOf", "(II)I"⟩, 35)]
theorem lw_r3 : ∀ q ∈ lw_privs_3, lw_okq q := List.forall_mem_cons.mpr ⟨lw_p32, List.forall_mem_cons.mpr ⟨lw_p33, List.forall_mem_cons.mpr ⟨lw_p34, List.forall_mem_cons.mpr ⟨lw_p35, List.forall_mem_cons.mpr ⟨lw_p36, List.forall_mem_cons.mpr ⟨lw_p37, List.forall_mem_cons.mpr ⟨lw_p38, List.forall_mem_cons.mpr ⟨lw_p39, List.forall_mem_cons.mpr ⟨lw_p40, List.forall_mem_cons.mpr ⟨lw_p41, List.forall_mem_cons.mpr ⟨lw_p42, List.forall_mem_cons.mpr ⟨lw_p43, List.forall_mem_cons.mpr ⟨lw_p44, List.forall_mem_cons.mpr ⟨lw_p45, List.forall_mem_cons.mpr ⟨lw_p46, List.forall_mem_cons.mpr ⟨lw_p47, fun _ h => absurd h List.not_mem_nil⟩⟩⟩⟩⟩⟩⟩⟩⟩⟩⟩⟩⟩⟩⟩⟩
theorem lw_p48 : lw_okq (⟨"PackedListsModel", "counts", "(III)V"⟩, 35) := ⟨⟨by decide +kernel, by decide +kernel⟩, List.mem_of_getElem? (i := 778) (by decide +kernel), List.mem_of_getElem? (i := 991) (by decide +kernel), List.mem_of_getElem? (i := 992) (by decide +kernel)⟩
theorem lw_p49 : lw_okq (⟨"PackedListsModel", "readsNumbers", "()V"⟩, 35) := ⟨⟨by decide +kernel, by decide +kernel⟩, List.mem_of_getElem? (i := 778) (by decide +kernel), List.mem_of_getElem? (i := 1015) (by decide +kernel), List.mem_of_getElem? (i := 1016) (by decide +kernel)⟩
theorem lw_p50 : lw_okq (⟨"PackedListsModel", "skips", "()V"⟩, 35) := ⟨⟨by decide +kernel, by decide +kernel⟩, List.mem_of_getElem? (i := 778) (by decide +kernel), List.mem_of_getElem? (i := 1019) (by decide +kernel), List.mem_of_getElem? (i := 1020) (by decide +kernel)⟩
theorem lw_p51 : lw_okq (⟨"PackedListsModel", "next", "()I"⟩, 35) := ⟨⟨by decide +kernel, by decide +kernel⟩, List.mem_of_getElem? (i := 778) (by decide +kernel), List.mem_of_getElem? (i := 1023) (by decide +kernel), List.mem_of_getElem? (i := 1024) (by decide +kernel)⟩
theorem lw_p52 : lw_okq (⟨"PackedListsModel", "readsPart", "(I)I"⟩, 35) := ⟨⟨by decide +kernel, by decide +kernel⟩, List.mem_of_getElem? (i := 778) (by decide +kernel), List.mem_of_getElem? (i := 1027) (by decide +kernel), List.mem_of_getElem? (i := 1028) (by decide +kernel)⟩
theorem lw_p53 : lw_okq (⟨"PackedListsModel", "readsNumber", "(I)I"⟩, 35) := ⟨⟨by decide +kernel, by decide +kernel⟩, List.mem_of_getElem? (i := 778) (by decide +kernel), List.mem_of_getElem? (i := 1031) (by decide +kernel), List.mem_of_getElem? (i := 1032) (by decide +kernel)⟩
theorem lw_p54 : lw_okq (⟨"PackedListsModel", "fails", "(I)V"⟩, 35) := ⟨⟨by decide +kernel, by decide +kernel⟩, List.mem_of_getElem? (i := 778) (by decide +kernel), List.mem_of_getElem? (i := 1035) (by decide +kernel), List.mem_of_getElem? (i := 1036) (by decide +kernel)⟩
theorem lw_p55 : lw_okq (⟨"PackedListsModel", "listPart", "(II)I"⟩, 35) := ⟨⟨by decide +kernel, by decide +kernel⟩, List.mem_of_getElem? (i := 778) (by decide +kernel), List.mem_of_getElem? (i := 1043) (by decide +kernel), List.mem_of_getElem? (i := 1044) (by decide +kernel)⟩
theorem lw_p56 : lw_okq (⟨"PackedListsModel", "costOfList", "(I)I"⟩, 35) := ⟨⟨by decide +kernel, by decide +kernel⟩, List.mem_of_getElem? (i := 778) (by decide +kernel), List.mem_of_getElem? (i := 1047) (by decide +kernel), List.mem_of_getElem? (i := 1048) (by decide +kernel)⟩
theorem lw_p57 : lw_okq (⟨"PackedListsModel", "cost", "(II)I"⟩, 35) := ⟨⟨by decide +kernel, by decide +kernel⟩, List.mem_of_getElem? (i := 778) (by decide +kernel), List.mem_of_getElem? (i := 1051) (by decide +kernel), List.mem_of_getElem? (i := 1052) (by decide +kernel)⟩
theorem lw_p58 : lw_okq (⟨"PackedListsModel", "width", "(II)I"⟩, 35) := ⟨⟨by decide +kernel, by decide +kernel⟩, List.mem_of_getElem? (i := 778) (by decide +kernel), List.mem_of_getElem? (i := 1055) (by decide +kernel), List.mem_of_getElem? (i := 1056) (by decide +kernel)⟩
theorem lw_p59 : lw_okq (⟨"PackedListsModel", "exceptionsOf", "(I)I"⟩, 35) := ⟨⟨by decide +kernel, by decide +kernel⟩, List.mem_of_getElem? (i := 778) (by decide +kernel), List.mem_of_getElem? (i := 1059) (by decide +kernel), List.mem_of_getElem? (i := 1060) (by decide +kernel)⟩
theorem lw_p60 : lw_okq (⟨"PackedListsModel", "exceptions", "(II)I"⟩, 35) := ⟨⟨by decide +kernel, by decide +kernel⟩, List.mem_of_getElem? (i := 778) (by decide +kernel), List.mem_of_getElem? (i := 1063) (by decide +kernel), List.mem_of_getElem? (i := 1064) (by decide +kernel)⟩
theorem lw_p61 : lw_okq (⟨"PackedListsModel", "isBlock", "(II)Z"⟩, 35) := ⟨⟨by decide +kernel, by decide +kernel⟩, List.mem_of_getElem? (i := 778) (by decide +kernel), List.mem_of_getElem? (i := 1071) (by decide +kernel), List.mem_of_getElem? (i := 1072) (by decide +kernel)⟩
theorem lw_p62 : lw_okq (⟨"PackedListsModel", "words", "(II)I"⟩, 35) := ⟨⟨by decide +kernel, by decide +kernel⟩, List.mem_of_getElem? (i := 778) (by decide +kernel), List.mem_of_getElem? (i := 1075) (by decide +kernel), List.mem_of_getElem? (i := 1076) (by decide +kernel)⟩
theorem lw_p63 : lw_okq (⟨"PackedListsModel", "looks", "(II)V"⟩, 35) := ⟨⟨by decide +kernel, by decide +kernel⟩, List.mem_of_getElem? (i := 778) (by decide +kernel), List.mem_of_getElem? (i := 1104) (by decide +kernel), List.mem_of_getElem? (i := 1105) (by decide +kernel)⟩
def lw_privs_4 : List (MethodName × Nat) := [(⟨"PackedListsModel", "counts", "(III)V"⟩, 35), (⟨"PackedListsModel", "readsNumbers", "()V"⟩, 35), (⟨"PackedListsModel", "skips", "()V"⟩, 35), (⟨"PackedListsModel", "next", "()I"⟩, 35), (⟨"PackedListsModel", "readsPart", "(I)I"⟩, 35), (⟨"PackedListsModel", "readsNumber", "(I)I"⟩, 35), (⟨"PackedListsModel", "fails", "(I)V"⟩, 35), (⟨"PackedListsModel", "listPart", "(II)I"⟩, 35), (⟨"PackedListsModel", "costOfList", "(I)I"⟩, 35), (⟨"PackedListsModel", "cost", "(II)I"⟩, 35), (⟨"PackedListsModel", "width", "(II)I"⟩, 35), (⟨"PackedListsModel", "exceptionsOf", "(I)I"⟩, 35), (⟨"PackedListsModel", "exceptions", "(II)I"⟩, 35), (⟨"PackedListsModel", "isBlock", "(II)Z"⟩, 35), (⟨"PackedListsModel", "words", "(II)I"⟩, 35), (⟨"PackedListsModel", "looks", "(II)V"⟩, 35)]
theorem lw_r4 : ∀ q ∈ lw_privs_4, lw_okq q := List.forall_mem_cons.mpr ⟨lw_p48, List.forall_mem_cons.mpr ⟨lw_p49, List.forall_mem_cons.mpr ⟨lw_p50, List.forall_mem_cons.mpr ⟨lw_p51, List.forall_mem_cons.mpr ⟨lw_p52, List.forall_mem_cons.mpr ⟨lw_p53, List.forall_mem_cons.mpr ⟨lw_p54, List.forall_mem_cons.mpr ⟨lw_p55, List.forall_mem_cons.mpr ⟨lw_p56, List.forall_mem_cons.mpr ⟨lw_p57, List.forall_mem_cons.mpr ⟨lw_p58, List.forall_mem_cons.mpr ⟨lw_p59, List.forall_mem_cons.mpr ⟨lw_p60, List.forall_mem_cons.mpr ⟨lw_p61, List.forall_mem_cons.mpr ⟨lw_p62, List.forall_mem_cons.mpr ⟨lw_p63, fun _ h => absurd h List.not_mem_nil⟩⟩⟩⟩⟩⟩⟩⟩⟩⟩⟩⟩⟩⟩⟩⟩
theorem lw_p64 : lw_okq (⟨"PackedListsModel", "cachePlace", "(II)I"⟩, 35) := ⟨⟨by decide +kernel, by decide +kernel⟩, List.mem_of_getElem? (i := 778) (by decide +kernel), List.mem_of_getElem? (i := 1108) (by decide +kernel), List.mem_of_getElem? (i := 1109) (by decide +kernel)⟩
theorem lw_p65 : lw_okq (⟨"PackedListsModel", "readsExpression", "()V"⟩, 35) := ⟨⟨by decide +kernel, by decide +kernel⟩, List.mem_of_getElem? (i := 778) (by decide +kernel), List.mem_of_getElem? (i := 1124) (by decide +kernel), List.mem_of_getElem? (i := 1125) (by decide +kernel)⟩
theorem lw_p66 : lw_okq (⟨"PackedListsModel", "readsOperand", "()Z"⟩, 35) := ⟨⟨by decide +kernel, by decide +kernel⟩, List.mem_of_getElem? (i := 778) (by decide +kernel), List.mem_of_getElem? (i := 1128) (by decide +kernel), List.mem_of_getElem? (i := 1129) (by decide +kernel)⟩
theorem lw_p67 : lw_okq (⟨"PackedListsModel", "orders", "(I)V"⟩, 35) := ⟨⟨by decide +kernel, by decide +kernel⟩, List.mem_of_getElem? (i := 778) (by decide +kernel), List.mem_of_getElem? (i := 1132) (by decide +kernel), List.mem_of_getElem? (i := 1133) (by decide +kernel)⟩
theorem lw_p68 : lw_okq (⟨"PackedListsModel", "readsSign", "()Z"⟩, 35) := ⟨⟨by decide +kernel, by decide +kernel⟩, List.mem_of_getElem? (i := 778) (by decide +kernel), List.mem_of_getElem? (i := 1136) (by decide +kernel), List.mem_of_getElem? (i := 1137) (by decide +kernel)⟩
theorem lw_p69 : lw_okq (⟨"PackedListsModel", "copies", "(II)V"⟩, 35) := ⟨⟨by decide +kernel, by decide +kernel⟩, List.mem_of_getElem? (i := 778) (by decide +kernel), List.mem_of_getElem? (i := 1143) (by decide +kernel), List.mem_of_getElem? (i := 1144) (by decide +kernel)⟩
theorem lw_p70 : lw_okq (⟨"PackedListsModel", "joins", "(III)V"⟩, 35) := ⟨⟨by decide +kernel, by decide +kernel⟩, List.mem_of_getElem? (i := 778) (by decide +kernel), List.mem_of_getElem? (i := 1147) (by decide +kernel), List.mem_of_getElem? (i := 1148) (by decide +kernel)⟩
theorem lw_p71 : lw_okq (⟨"PackedListsModel", "intersects", "(II)V"⟩, 35) := ⟨⟨by decide +kernel, by decide +kernel⟩, List.mem_of_getElem? (i := 778) (by decide +kernel), List.mem_of_getElem? (i := 1151) (by decide +kernel), List.mem_of_getElem? (i := 1152) (by decide +kernel)⟩
theorem lw_p72 : lw_okq (⟨"PackedListsModel", "puts", "(I)V"⟩, 35) := ⟨⟨by decide +kernel, by decide +kernel⟩, List.mem_of_getElem? (i := 778) (by decide +kernel), List.mem_of_getElem? (i := 1155) (by decide +kernel), List.mem_of_getElem? (i := 1156) (by decide +kernel)⟩
theorem lw_p73 : lw_okq (⟨"PackedListsModel", "gallops", "(III)I"⟩, 35) := ⟨⟨by decide +kernel, by decide +kernel⟩, List.mem_of_getElem? (i := 778) (by decide +kernel), List.mem_of_getElem? (i := 1159) (by decide +kernel), List.mem_of_getElem? (i := 1160) (by decide +kernel)⟩
theorem lw_p74 : lw_okq (⟨"PackedListsModel", "probe", "(III)Z"⟩, 35) := ⟨⟨by decide +kernel, by decide +kernel⟩, List.mem_of_getElem? (i := 778) (by decide +kernel), List.mem_of_getElem? (i := 1163) (by decide +kernel), List.mem_of_getElem? (i := 1164) (by decide +kernel)⟩
theorem lw_p75 : lw_okq (⟨"PackedListsModel", "merges", "(III)V"⟩, 35) := ⟨⟨by decide +kernel, by decide +kernel⟩, List.mem_of_getElem? (i := 778) (by decide +kernel), List.mem_of_getElem? (i := 1167) (by decide +kernel), List.mem_of_getElem? (i := 1168) (by decide +kernel)⟩
theorem lw_p76 : lw_okq (⟨"PackedListsModel", "over", "(I)I"⟩, 35) := ⟨⟨by decide +kernel, by decide +kernel⟩, List.mem_of_getElem? (i := 778) (by decide +kernel), List.mem_of_getElem? (i := 1183) (by decide +kernel), List.mem_of_getElem? (i := 1184) (by decide +kernel)⟩
theorem lw_p77 : lw_okq (⟨"PackedListsModel", "mixes", "(J)V"⟩, 35) := ⟨⟨by decide +kernel, by decide +kernel⟩, List.mem_of_getElem? (i := 778) (by decide +kernel), List.mem_of_getElem? (i := 1193) (by decide +kernel), List.mem_of_getElem? (i := 1194) (by decide +kernel)⟩
theorem lw_p78 : lw_okq (⟨"PackedListsModel", "mixesBlock", "(II)V"⟩, 35) := ⟨⟨by decide +kernel, by decide +kernel⟩, List.mem_of_getElem? (i := 778) (by decide +kernel), List.mem_of_getElem? (i := 1198) (by decide +kernel), List.mem_of_getElem? (i := 1199) (by decide +kernel)⟩
def lw_privs_5 : List (MethodName × Nat) := [(⟨"PackedListsModel", "cachePlace", "(II)I"⟩, 35), (⟨"PackedListsModel", "readsExpression", "()V"⟩, 35), (⟨"PackedListsModel", "readsOperand", "()Z"⟩, 35), (⟨"PackedListsModel", "orders", "(I)V"⟩, 35), (⟨"PackedListsModel", "readsSign", "()Z"⟩, 35), (⟨"PackedListsModel", "copies", "(II)V"⟩, 35), (⟨"PackedListsModel", "joins", "(III)V"⟩, 35), (⟨"PackedListsModel", "intersects", "(II)V"⟩, 35), (⟨"PackedListsModel", "puts", "(I)V"⟩, 35), (⟨"PackedListsModel", "gallops", "(III)I"⟩, 35), (⟨"PackedListsModel", "probe", "(III)Z"⟩, 35), (⟨"PackedListsModel", "merges", "(III)V"⟩, 35), (⟨"PackedListsModel", "over", "(I)I"⟩, 35), (⟨"PackedListsModel", "mixes", "(J)V"⟩, 35), (⟨"PackedListsModel", "mixesBlock", "(II)V"⟩, 35)]
theorem lw_r5 : ∀ q ∈ lw_privs_5, lw_okq q := List.forall_mem_cons.mpr ⟨lw_p64, List.forall_mem_cons.mpr ⟨lw_p65, List.forall_mem_cons.mpr ⟨lw_p66, List.forall_mem_cons.mpr ⟨lw_p67, List.forall_mem_cons.mpr ⟨lw_p68, List.forall_mem_cons.mpr ⟨lw_p69, List.forall_mem_cons.mpr ⟨lw_p70, List.forall_mem_cons.mpr ⟨lw_p71, List.forall_mem_cons.mpr ⟨lw_p72, List.forall_mem_cons.mpr ⟨lw_p73, List.forall_mem_cons.mpr ⟨lw_p74, List.forall_mem_cons.mpr ⟨lw_p75, List.forall_mem_cons.mpr ⟨lw_p76, List.forall_mem_cons.mpr ⟨lw_p77, List.forall_mem_cons.mpr ⟨lw_p78, fun _ h => absurd h List.not_mem_nil⟩⟩⟩⟩⟩⟩⟩⟩⟩⟩⟩⟩⟩⟩⟩
def lw_privs : List (MethodName × Nat) := lw_privs_1 ++ (lw_privs_2 ++ (lw_privs_3 ++ (lw_privs_4 ++ (lw_privs_5))))
def lw_tbl : List Cond := k2_sels lw_privs ++ tables_1
theorem lw_privs_ok : ∀ q ∈ lw_privs, lw_okq q := by
  show ∀ q ∈ lw_privs_1 ++ (lw_privs_2 ++ (lw_privs_3 ++ (lw_privs_4 ++ (lw_privs_5)))), lw_okq q
  exact List.forall_mem_append.mpr ⟨lw_r1, List.forall_mem_append.mpr ⟨lw_r2, List.forall_mem_append.mpr ⟨lw_r3, List.forall_mem_append.mpr ⟨lw_r4, lw_r5⟩⟩⟩⟩
end
section
/-! ===== BEGIN words of one list among another's, by their places ===== -/
theorem goodIn_r {big : List Cond} (ws : List Cond) (ps : List Nat) (hp : ws = ps.filterMap (fun i => big[i]?)) (h : ws.all goodWord = true) : GoodIn big ws := by
  intro w hw
  have h1 := List.all_eq_true.mp h w hw
  rw [hp] at hw
  obtain ⟨i, -, hi⟩ := List.mem_filterMap.mp hw
  have hm : w ∈ big := by first | exact List.mem_of_getElem? hi | exact List.getElem?_mem hi
  exact ⟨hm, good_of_word h1⟩
theorem goodIn_app {big a b : List Cond} (ha : GoodIn big a) (hb : GoodIn big b) : GoodIn big (a ++ b) := fun w h => (List.mem_append.mp h).elim (ha w) (hb w)
theorem goodIn_ca {big a b : List Cond} {c : Cond} (ha : GoodIn big (c :: a)) (hb : GoodIn big b) : GoodIn big (c :: (a ++ b)) := fun w h => (List.mem_cons.mp h).elim (fun e => ha w (List.mem_cons.mpr (Or.inl e))) (fun h => (List.mem_append.mp h).elim (fun h => ha w (List.mem_cons.mpr (Or.inr h))) (hb w))
theorem goodIn_sub {big ws : List Cond} (hm : ∀ w ∈ ws, w ∈ big) (h : ws.all goodWord = true) : GoodIn big ws := fun w hw => ⟨hm w hw, good_of_word (List.all_eq_true.mp h w hw)⟩
/-! ===== END ===== -/

/-! ===== BEGIN printed: names, fields, word lists, decode rows ===== -/
def RX0 : String := "PackedLists$BlockView"
def TX0 : u_T := fun k => match k with
  | 0 => ("PackedLists$BlockView", "gapsByBits", "[I", true)
  | 1 => ("PackedLists$BlockView", "row", "LPackedLists$Row;", false)
  | 2 => ("PackedLists$BlockView", "start", "I", false)
  | 3 => ("PackedLists$BlockView", "length", "I", false)
  | 4 => ("PackedLists$BlockView", "width", "I", false)
  | 5 => ("PackedLists$BlockView", "exceptions", "I", false)
  | _ => ("PackedLists$BlockView", "cost", "I", false)
def tyX0 : Nat → FieldType := fun k => match k with
  | 0 => .array .int
  | 1 => .object "PackedLists$Row"
  | 2 => .int
  | 3 => .int
  | 4 => .int
  | 5 => .int
  | _ => .int
abbrev wsX00 : List Cond := u_ws RX0 TX0 7
theorem nmX0 : ∀ a, a < 7 → ∀ b, b < 7 → a ≠ b → (TX0 a).2.1 ≠ (TX0 b).2.1 := by decide +kernel
theorem tyX0_ok : ∀ k, k < 7 → parseFieldDescriptor (TX0 k).2.2.1 = some (tyX0 k) := by decide +kernel
abbrev cX0_init : ByteArray := prog_2_method_1_code
def yX0_init : MethodName := ⟨RX0, "<init>", "()V"⟩
abbrev cX0_measure : ByteArray := prog_2_method_2_code
def yX0_measure : MethodName := ⟨RX0, "measure", "(LPackedLists$Row;II)V"⟩
abbrev cX0_chooseWidth : ByteArray := prog_2_method_3_code
def yX0_chooseWidth : MethodName := ⟨RX0, "chooseWidth", "(I)V"⟩
abbrev cX0_costWith : ByteArray := prog_2_method_4_code
def yX0_costWith : MethodName := ⟨RX0, "costWith", "(II)I"⟩
abbrev cX0_property : ByteArray := prog_2_method_5_code
def yX0_property : MethodName := ⟨RX0, "property", "(I)I"⟩
abbrev cX0_highPart : ByteArray := prog_2_method_6_code
def yX0_highPart : MethodName := ⟨RX0, "highPart", "(I)I"⟩
abbrev cX0_words : ByteArray := prog_2_method_7_code
def yX0_words : MethodName := ⟨RX0, "words", "()I"⟩
abbrev cX0_wordAt : ByteArray := prog_2_method_8_code
def yX0_wordAt : MethodName := ⟨RX0, "wordAt", "(I)J"⟩
def RX1 : String := "PackedLists$Cache"
def TX1 : u_T := fun k => match k with
  | 0 => ("PackedLists$Cache", "lists", "[I", true)
  | 1 => ("PackedLists$Cache", "blocks", "[I", true)
  | 2 => ("PackedLists$Cache", "size", "I", false)
  | 3 => ("PackedLists$Cache", "hits", "I", false)
  | _ => ("PackedLists$Cache", "misses", "I", false)
def tyX1 : Nat → FieldType := fun k => match k with
  | 0 => .array .int
  | 1 => .array .int
  | 2 => .int
  | 3 => .int
  | _ => .int
abbrev wsX10 : List Cond := u_ws RX1 TX1 5
theorem nmX1 : ∀ a, a < 5 → ∀ b, b < 5 → a ≠ b → (TX1 a).2.1 ≠ (TX1 b).2.1 := by decide +kernel
theorem tyX1_ok : ∀ k, k < 5 → parseFieldDescriptor (TX1 k).2.2.1 = some (tyX1 k) := by decide +kernel
abbrev cX1_init : ByteArray := prog_3_method_1_code
def yX1_init : MethodName := ⟨RX1, "<init>", "()V"⟩
abbrev cX1_placeOf : ByteArray := prog_3_method_2_code
def yX1_placeOf : MethodName := ⟨RX1, "placeOf", "(II)I"⟩
abbrev cX1_look : ByteArray := prog_3_method_3_code
def yX1_look : MethodName := ⟨RX1, "look", "(II)V"⟩
abbrev cX1_forget : ByteArray := prog_3_method_4_code
def yX1_forget : MethodName := ⟨RX1, "forget", "(I)V"⟩
abbrev cX1_forgetAll : ByteArray := prog_3_method_5_code
def yX1_forgetAll : MethodName := ⟨RX1, "forgetAll", "()V"⟩
def RX2 : String := "PackedLists$CutList"
def TX2 : u_T := fun k => match k with
  | 0 => ("PackedLists$CutList", "row", "LPackedLists$Row;", true)
  | 1 => ("PackedLists$CutList", "starts", "[I", true)
  | _ => ("PackedLists$CutList", "blocks", "I", false)
def tyX2 : Nat → FieldType := fun k => match k with
  | 0 => .object "PackedLists$Row"
  | 1 => .array .int
  | _ => .int
abbrev wsX20 : List Cond := u_ws RX2 TX2 3
theorem nmX2 : ∀ a, a < 3 → ∀ b, b < 3 → a ≠ b → (TX2 a).2.1 ≠ (TX2 b).2.1 := by decide +kernel
theorem tyX2_ok : ∀ k, k < 3 → parseFieldDescriptor (TX2 k).2.2.1 = some (tyX2 k) := by decide +kernel
abbrev cX2_init : ByteArray := prog_4_method_1_code
def yX2_init : MethodName := ⟨RX2, "<init>", "()V"⟩
abbrev cX2_startOf : ByteArray := prog_4_method_2_code
def yX2_startOf : MethodName := ⟨RX2, "startOf", "(I)I"⟩
abbrev cX2_makeEmpty : ByteArray := prog_4_method_3_code
def yX2_makeEmpty : MethodName := ⟨RX2, "makeEmpty", "()V"⟩
abbrev cX2_copyFrom : ByteArray := prog_4_method_4_code
def yX2_copyFrom : MethodName := ⟨RX2, "copyFrom", "(LPackedLists$CutList;)V"⟩
abbrev cX2_startBlock : ByteArray := prog_4_method_5_code
def yX2_startBlock : MethodName := ⟨RX2, "startBlock", "(I)V"⟩
abbrev cX2_cutBy : ByteArray := prog_4_method_6_code
def yX2_cutBy : MethodName := ⟨RX2, "cutBy", "(I)V"⟩
abbrev cX2_lastBlockUpTo : ByteArray := prog_4_method_7_code
def yX2_lastBlockUpTo : MethodName := ⟨RX2, "lastBlockUpTo", "(I)I"⟩
abbrev cX2_insert : ByteArray := prog_4_method_8_code
def yX2_insert : MethodName := ⟨RX2, "insert", "(I)I"⟩
abbrev cX2_delete : ByteArray := prog_4_method_9_code
def yX2_delete : MethodName := ⟨RX2, "delete", "(I)I"⟩
abbrev cX2_moveStarts : ByteArray := prog_4_method_10_code
def yX2_moveStarts : MethodName := ⟨RX2, "moveStarts", "(II)V"⟩
abbrev cX2_split : ByteArray := prog_4_method_11_code
def yX2_split : MethodName := ⟨RX2, "split", "(II)V"⟩
abbrev cX2_dropBlock : ByteArray := prog_4_method_12_code
def yX2_dropBlock : MethodName := ⟨RX2, "dropBlock", "(I)V"⟩
def RX3 : String := "PackedLists$ExpressionReader"
def TX3 : u_T := fun k => match k with
  | 0 => ("PackedLists$ExpressionReader", "postfix", "LPackedLists$Row;", true)
  | 1 => ("PackedLists$ExpressionReader", "waiting", "LPackedLists$Row;", true)
  | 2 => ("PackedLists$ExpressionReader", "depth", "I", false)
  | _ => ("PackedLists$ExpressionReader", "factorIsDue", "Z", false)
def tyX3 : Nat → FieldType := fun k => match k with
  | 0 => .object "PackedLists$Row"
  | 1 => .object "PackedLists$Row"
  | 2 => .int
  | _ => .boolean
abbrev wsX30 : List Cond := u_ws RX3 TX3 4
theorem nmX3 : ∀ a, a < 4 → ∀ b, b < 4 → a ≠ b → (TX3 a).2.1 ≠ (TX3 b).2.1 := by decide +kernel
theorem tyX3_ok : ∀ k, k < 4 → parseFieldDescriptor (TX3 k).2.2.1 = some (tyX3 k) := by decide +kernel
abbrev cX3_init : ByteArray := prog_5_method_1_code
def yX3_init : MethodName := ⟨RX3, "<init>", "()V"⟩
abbrev cX3_read : ByteArray := prog_5_method_2_code
def yX3_read : MethodName := ⟨RX3, "read", "(LPackedLists$Row;)I"⟩
abbrev cX3_take : ByteArray := prog_5_method_3_code
def yX3_take : MethodName := ⟨RX3, "take", "(I)Z"⟩
abbrev cX3_takeFactor : ByteArray := prog_5_method_4_code
def yX3_takeFactor : MethodName := ⟨RX3, "takeFactor", "(I)Z"⟩
abbrev cX3_takeSign : ByteArray := prog_5_method_5_code
def yX3_takeSign : MethodName := ⟨RX3, "takeSign", "(I)Z"⟩
abbrev cX3_releaseFrom : ByteArray := prog_5_method_6_code
def yX3_releaseFrom : MethodName := ⟨RX3, "releaseFrom", "(I)V"⟩
abbrev cX3_strengthOf : ByteArray := prog_5_method_7_code
def yX3_strengthOf : MethodName := ⟨RX3, "strengthOf", "(I)I"⟩
def RX4 : String := "PackedLists$Galloper"
def TX4 : u_T := fun k => match k with
  | 0 => ("PackedLists$Galloper", "taken", "I", false)
  | _ => ("PackedLists$Galloper", "probes", "I", false)
def tyX4 : Nat → FieldType := fun k => match k with
  | 0 => .int
  | _ => .int
abbrev wsX40 : List Cond := u_ws RX4 TX4 2
theorem nmX4 : ∀ a, a < 2 → ∀ b, b < 2 → a ≠ b → (TX4 a).2.1 ≠ (TX4 b).2.1 := by decide +kernel
theorem tyX4_ok : ∀ k, k < 2 → parseFieldDescriptor (TX4 k).2.2.1 = some (tyX4 k) := by decide +kernel
abbrev cX4_init : ByteArray := prog_6_method_1_code
def yX4_init : MethodName := ⟨RX4, "<init>", "()V"⟩
abbrev cX4_intersect : ByteArray := prog_6_method_2_code
def yX4_intersect : MethodName := ⟨RX4, "intersect", "(LPackedLists$Row;LPackedLists$Row;)V"⟩
abbrev cX4_gallop : ByteArray := prog_6_method_3_code
def yX4_gallop : MethodName := ⟨RX4, "gallop", "(LPackedLists$Row;II)I"⟩
abbrev cX4_reaches : ByteArray := prog_6_method_4_code
def yX4_reaches : MethodName := ⟨RX4, "reaches", "(LPackedLists$Row;II)Z"⟩
def RX5 : String := "PackedLists$History"
def TX5 : u_T := fun k => match k with
  | 0 => ("PackedLists$History", "owners", "[I", true)
  | 1 => ("PackedLists$History", "states", "[LPackedLists$CutList;", true)
  | 2 => ("PackedLists$History", "latest", "I", false)
  | _ => ("PackedLists$History", "size", "I", false)
def tyX5 : Nat → FieldType := fun k => match k with
  | 0 => .array .int
  | 1 => .array (.object "PackedLists$CutList")
  | 2 => .int
  | _ => .int
abbrev wsX50 : List Cond := u_ws RX5 TX5 4
theorem nmX5 : ∀ a, a < 4 → ∀ b, b < 4 → a ≠ b → (TX5 a).2.1 ≠ (TX5 b).2.1 := by decide +kernel
theorem tyX5_ok : ∀ k, k < 4 → parseFieldDescriptor (TX5 k).2.2.1 = some (tyX5 k) := by decide +kernel
abbrev cX5_init : ByteArray := prog_7_method_1_code
def yX5_init : MethodName := ⟨RX5, "<init>", "()V"⟩
abbrev cX5_record : ByteArray := prog_7_method_2_code
def yX5_record : MethodName := ⟨RX5, "record", "(ILPackedLists$CutList;)V"⟩
abbrev cX5_restoreLatest : ByteArray := prog_7_method_3_code
def yX5_restoreLatest : MethodName := ⟨RX5, "restoreLatest", "([LPackedLists$CutList;)V"⟩
def RX6 : String := "PackedLists$Joiner"
def TX6 : u_T := fun k => match k with
  | 0 => ("PackedLists$Joiner", "galloper", "LPackedLists$Galloper;", true)
  | 1 => ("PackedLists$Joiner", "result", "LPackedLists$Row;", true)
  | 2 => ("PackedLists$Joiner", "all", "LPackedLists$Row;", true)
  | 3 => ("PackedLists$Joiner", "sets", "[I", true)
  | 4 => ("PackedLists$Joiner", "left", "LPackedLists$Row;", true)
  | 5 => ("PackedLists$Joiner", "right", "LPackedLists$Row;", true)
  | 6 => ("PackedLists$Joiner", "sides", "[J", true)
  | _ => ("PackedLists$Joiner", "cursors", "[I", true)
def tyX6 : Nat → FieldType := fun k => match k with
  | 0 => .object "PackedLists$Galloper"
  | 1 => .object "PackedLists$Row"
  | 2 => .object "PackedLists$Row"
  | 3 => .array .int
  | 4 => .object "PackedLists$Row"
  | 5 => .object "PackedLists$Row"
  | 6 => .array .long
  | _ => .array .int
abbrev wsX60 : List Cond := u_ws RX6 TX6 8
theorem nmX6 : ∀ a, a < 8 → ∀ b, b < 8 → a ≠ b → (TX6 a).2.1 ≠ (TX6 b).2.1 := by decide +kernel
theorem tyX6_ok : ∀ k, k < 8 → parseFieldDescriptor (TX6 k).2.2.1 = some (tyX6 k) := by decide +kernel
abbrev cX6_init : ByteArray := prog_8_method_1_code
def yX6_init : MethodName := ⟨RX6, "<init>", "()V"⟩
abbrev cX6_carryOut : ByteArray := prog_8_method_2_code
def yX6_carryOut : MethodName := ⟨RX6, "carryOut", "(LPackedLists$Row;[LPackedLists$CutList;)V"⟩
abbrev cX6_join : ByteArray := prog_8_method_3_code
def yX6_join : MethodName := ⟨RX6, "join", "(IJJ)J"⟩
abbrev cX6_makeRow : ByteArray := prog_8_method_4_code
def yX6_makeRow : MethodName := ⟨RX6, "makeRow", "(JLPackedLists$Row;)V"⟩
abbrev cX6_gatherAll : ByteArray := prog_8_method_5_code
def yX6_gatherAll : MethodName := ⟨RX6, "gatherAll", "([LPackedLists$CutList;)V"⟩
abbrev cX6_leastAtCursors : ByteArray := prog_8_method_6_code
def yX6_leastAtCursors : MethodName := ⟨RX6, "leastAtCursors", "([LPackedLists$CutList;)I"⟩
abbrev cX6_passCursors : ByteArray := prog_8_method_7_code
def yX6_passCursors : MethodName := ⟨RX6, "passCursors", "([LPackedLists$CutList;I)I"⟩
def RX7 : String := "PackedLists$NumberReader"
def TX7 : u_T := fun k => match k with
  | 0 => ("PackedLists$NumberReader", "row", "LPackedLists$Row;", true)
  | 1 => ("PackedLists$NumberReader", "text", "LPackedLists$Row;", false)
  | 2 => ("PackedLists$NumberReader", "position", "I", false)
  | _ => ("PackedLists$NumberReader", "number", "I", false)
def tyX7 : Nat → FieldType := fun k => match k with
  | 0 => .object "PackedLists$Row"
  | 1 => .object "PackedLists$Row"
  | 2 => .int
  | _ => .int
abbrev wsX70 : List Cond := u_ws RX7 TX7 4
theorem nmX7 : ∀ a, a < 4 → ∀ b, b < 4 → a ≠ b → (TX7 a).2.1 ≠ (TX7 b).2.1 := by decide +kernel
theorem tyX7_ok : ∀ k, k < 4 → parseFieldDescriptor (TX7 k).2.2.1 = some (tyX7 k) := by decide +kernel
abbrev cX7_init : ByteArray := prog_9_method_1_code
def yX7_init : MethodName := ⟨RX7, "<init>", "()V"⟩
abbrev cX7_read : ByteArray := prog_9_method_2_code
def yX7_read : MethodName := ⟨RX7, "read", "(LPackedLists$Row;)I"⟩
abbrev cX7_readPart : ByteArray := prog_9_method_3_code
def yX7_readPart : MethodName := ⟨RX7, "readPart", "(I)I"⟩
abbrev cX7_readNumber : ByteArray := prog_9_method_4_code
def yX7_readNumber : MethodName := ⟨RX7, "readNumber", "(I)I"⟩
abbrev cX7_isDigit : ByteArray := prog_9_method_5_code
def yX7_isDigit : MethodName := ⟨RX7, "isDigit", "(I)Z"⟩
abbrev cX7_stepOver : ByteArray := prog_9_method_6_code
def yX7_stepOver : MethodName := ⟨RX7, "stepOver", "()V"⟩
abbrev cX7_skipBlanks : ByteArray := prog_9_method_7_code
def yX7_skipBlanks : MethodName := ⟨RX7, "skipBlanks", "()V"⟩
def RX8 : String := "PackedLists$Packer"
def TX8 : u_T := fun k => match k with
  | 0 => ("PackedLists$Packer", "ranks", "[I", true)
  | 1 => ("PackedLists$Packer", "ends", "[I", true)
  | _ => ("PackedLists$Packer", "windows", "[LPackedLists$Window;", true)
def tyX8 : Nat → FieldType := fun k => match k with
  | 0 => .array .int
  | 1 => .array .int
  | _ => .array (.object "PackedLists$Window")
abbrev wsX80 : List Cond := u_ws RX8 TX8 3
theorem nmX8 : ∀ a, a < 3 → ∀ b, b < 3 → a ≠ b → (TX8 a).2.1 ≠ (TX8 b).2.1 := by decide +kernel
theorem tyX8_ok : ∀ k, k < 3 → parseFieldDescriptor (TX8 k).2.2.1 = some (tyX8 k) := by decide +kernel
abbrev cX8_init : ByteArray := prog_10_method_1_code
def yX8_init : MethodName := ⟨RX8, "<init>", "()V"⟩
abbrev cX8_leastCost : ByteArray := prog_10_method_2_code
def yX8_leastCost : MethodName := ⟨RX8, "leastCost", "(LPackedLists$Row;)I"⟩
abbrev cX8_cut : ByteArray := prog_10_method_3_code
def yX8_cut : MethodName := ⟨RX8, "cut", "(LPackedLists$CutList;)V"⟩
abbrev cX8_plan : ByteArray := prog_10_method_4_code
def yX8_plan : MethodName := ⟨RX8, "plan", "(LPackedLists$Row;)V"⟩
abbrev cX8_widestOf : ByteArray := prog_10_method_5_code
def yX8_widestOf : MethodName := ⟨RX8, "widestOf", "(LPackedLists$Row;)I"⟩
abbrev cX8_chooseEnd : ByteArray := prog_10_method_6_code
def yX8_chooseEnd : MethodName := ⟨RX8, "chooseEnd", "(II)V"⟩
abbrev cX8_passGap : ByteArray := prog_10_method_7_code
def yX8_passGap : MethodName := ⟨RX8, "passGap", "(II)V"⟩
def RX9 : String := "PackedLists$Row"
def TX9 : u_T := fun k => match k with
  | 0 => ("PackedLists$Row", "numbers", "[I", true)
  | _ => ("PackedLists$Row", "size", "I", false)
def tyX9 : Nat → FieldType := fun k => match k with
  | 0 => .array .int
  | _ => .int
abbrev wsX90 : List Cond := u_ws RX9 TX9 2
theorem nmX9 : ∀ a, a < 2 → ∀ b, b < 2 → a ≠ b → (TX9 a).2.1 ≠ (TX9 b).2.1 := by decide +kernel
theorem tyX9_ok : ∀ k, k < 2 → parseFieldDescriptor (TX9 k).2.2.1 = some (tyX9 k) := by decide +kernel
abbrev cX9_init : ByteArray := prog_11_method_1_code
def yX9_init : MethodName := ⟨RX9, "<init>", "(I)V"⟩
abbrev cX9_append : ByteArray := prog_11_method_2_code
def yX9_append : MethodName := ⟨RX9, "append", "(I)V"⟩
abbrev cX9_get : ByteArray := prog_11_method_3_code
def yX9_get : MethodName := ⟨RX9, "get", "(I)I"⟩
abbrev cX9_copyFrom : ByteArray := prog_11_method_4_code
def yX9_copyFrom : MethodName := ⟨RX9, "copyFrom", "(LPackedLists$Row;)V"⟩
abbrev cX9_firstAtLeast : ByteArray := prog_11_method_5_code
def yX9_firstAtLeast : MethodName := ⟨RX9, "firstAtLeast", "(I)I"⟩
abbrev cX9_has : ByteArray := prog_11_method_6_code
def yX9_has : MethodName := ⟨RX9, "has", "(I)Z"⟩
abbrev cX9_insert : ByteArray := prog_11_method_7_code
def yX9_insert : MethodName := ⟨RX9, "insert", "(I)I"⟩
abbrev cX9_delete : ByteArray := prog_11_method_8_code
def yX9_delete : MethodName := ⟨RX9, "delete", "(I)I"⟩
abbrev cX9_gapBefore : ByteArray := prog_11_method_9_code
def yX9_gapBefore : MethodName := ⟨RX9, "gapBefore", "(I)I"⟩
def RX10 : String := "PackedLists$Window"
def TX10 : u_T := fun k => match k with
  | 0 => ("PackedLists$Window", "width", "I", true)
  | 1 => ("PackedLists$Window", "ends", "[I", true)
  | 2 => ("PackedLists$Window", "ranks", "[I", true)
  | 3 => ("PackedLists$Window", "first", "I", false)
  | 4 => ("PackedLists$Window", "size", "I", false)
  | _ => ("PackedLists$Window", "passed", "I", false)
def tyX10 : Nat → FieldType := fun k => match k with
  | 0 => .int
  | 1 => .array .int
  | 2 => .array .int
  | 3 => .int
  | 4 => .int
  | _ => .int
abbrev wsX100 : List Cond := u_ws RX10 TX10 6
theorem nmX10 : ∀ a, a < 6 → ∀ b, b < 6 → a ≠ b → (TX10 a).2.1 ≠ (TX10 b).2.1 := by decide +kernel
theorem tyX10_ok : ∀ k, k < 6 → parseFieldDescriptor (TX10 k).2.2.1 = some (tyX10 k) := by decide +kernel
abbrev cX10_init : ByteArray := prog_12_method_1_code
def yX10_init : MethodName := ⟨RX10, "<init>", "(I)V"⟩
abbrev cX10_makeEmpty : ByteArray := prog_12_method_2_code
def yX10_makeEmpty : MethodName := ⟨RX10, "makeEmpty", "()V"⟩
abbrev cX10_admit : ByteArray := prog_12_method_3_code
def yX10_admit : MethodName := ⟨RX10, "admit", "(II)V"⟩
abbrev cX10_leastRank : ByteArray := prog_12_method_4_code
def yX10_leastRank : MethodName := ⟨RX10, "leastRank", "()I"⟩
abbrev cX10_endOfLeast : ByteArray := prog_12_method_5_code
def yX10_endOfLeast : MethodName := ⟨RX10, "endOfLeast", "()I"⟩
abbrev cX10_passGap : ByteArray := prog_12_method_6_code
def yX10_passGap : MethodName := ⟨RX10, "passGap", "(I)V"⟩
abbrev cX10_slot : ByteArray := prog_12_method_7_code
def yX10_slot : MethodName := ⟨RX10, "slot", "(I)I"⟩
def RX11 : String := "PackedLists"
def TX11 : u_T := fun k => match k with
  | 0 => ("PackedLists", "lists", "[LPackedLists$CutList;", true)
  | 1 => ("PackedLists", "history", "LPackedLists$History;", true)
  | 2 => ("PackedLists", "cache", "LPackedLists$Cache;", true)
  | 3 => ("PackedLists", "text", "LPackedLists$Row;", true)
  | 4 => ("PackedLists", "view", "LPackedLists$BlockView;", true)
  | 5 => ("PackedLists", "packer", "LPackedLists$Packer;", true)
  | 6 => ("PackedLists", "galloper", "LPackedLists$Galloper;", true)
  | 7 => ("PackedLists", "numberReader", "LPackedLists$NumberReader;", true)
  | 8 => ("PackedLists", "expressionReader", "LPackedLists$ExpressionReader;", true)
  | _ => ("PackedLists", "joiner", "LPackedLists$Joiner;", false)
def tyX11 : Nat → FieldType := fun k => match k with
  | 0 => .array (.object "PackedLists$CutList")
  | 1 => .object "PackedLists$History"
  | 2 => .object "PackedLists$Cache"
  | 3 => .object "PackedLists$Row"
  | 4 => .object "PackedLists$BlockView"
  | 5 => .object "PackedLists$Packer"
  | 6 => .object "PackedLists$Galloper"
  | 7 => .object "PackedLists$NumberReader"
  | 8 => .object "PackedLists$ExpressionReader"
  | _ => .object "PackedLists$Joiner"
abbrev wsX110 : List Cond := u_ws RX11 TX11 10
theorem nmX11 : ∀ a, a < 10 → ∀ b, b < 10 → a ≠ b → (TX11 a).2.1 ≠ (TX11 b).2.1 := by decide +kernel
theorem tyX11_ok : ∀ k, k < 10 → parseFieldDescriptor (TX11 k).2.2.1 = some (tyX11 k) := by decide +kernel
abbrev cX11_init : ByteArray := prog_1_method_1_code
def yX11_init : MethodName := ⟨RX11, "<init>", "()V"⟩
abbrev cX11_add : ByteArray := prog_1_method_2_code
def yX11_add : MethodName := ⟨RX11, "add", "(II)I"⟩
abbrev cX11_remove : ByteArray := prog_1_method_3_code
def yX11_remove : MethodName := ⟨RX11, "remove", "(II)I"⟩
abbrev cX11_pack : ByteArray := prog_1_method_4_code
def yX11_pack : MethodName := ⟨RX11, "pack", "(II)I"⟩
abbrev cX11_load : ByteArray := prog_1_method_5_code
def yX11_load : MethodName := ⟨RX11, "load", "(I)I"⟩
abbrev cX11_store : ByteArray := prog_1_method_6_code
def yX11_store : MethodName := ⟨RX11, "store", "(I)I"⟩
abbrev cX11_clear : ByteArray := prog_1_method_7_code
def yX11_clear : MethodName := ⟨RX11, "clear", "(I)I"⟩
abbrev cX11_undo : ByteArray := prog_1_method_8_code
def yX11_undo : MethodName := ⟨RX11, "undo", "()I"⟩
abbrev cX11_type : ByteArray := prog_1_method_9_code
def yX11_type : MethodName := ⟨RX11, "type", "(I)I"⟩
abbrev cX11_erase : ByteArray := prog_1_method_10_code
def yX11_erase : MethodName := ⟨RX11, "erase", "()I"⟩
abbrev cX11_list : ByteArray := prog_1_method_11_code
def yX11_list : MethodName := ⟨RX11, "list", "(II)I"⟩
abbrev cX11_block : ByteArray := prog_1_method_12_code
def yX11_block : MethodName := ⟨RX11, "block", "(III)I"⟩
abbrev cX11_word : ByteArray := prog_1_method_13_code
def yX11_word : MethodName := ⟨RX11, "word", "(III)J"⟩
abbrev cX11_exception : ByteArray := prog_1_method_14_code
def yX11_exception : MethodName := ⟨RX11, "exception", "(IIII)I"⟩
abbrev cX11_gaps : ByteArray := prog_1_method_15_code
def yX11_gaps : MethodName := ⟨RX11, "gaps", "(II)I"⟩
abbrev cX11_costBy : ByteArray := prog_1_method_16_code
def yX11_costBy : MethodName := ⟨RX11, "costBy", "(II)I"⟩
abbrev cX11_part : ByteArray := prog_1_method_17_code
def yX11_part : MethodName := ⟨RX11, "part", "(IIII)I"⟩
abbrev cX11_at : ByteArray := prog_1_method_18_code
def yX11_at : MethodName := ⟨RX11, "at", "(II)I"⟩
abbrev cX11_find : ByteArray := prog_1_method_19_code
def yX11_find : MethodName := ⟨RX11, "find", "(III)I"⟩
abbrev cX11_cached : ByteArray := prog_1_method_20_code
def yX11_cached : MethodName := ⟨RX11, "cached", "(II)I"⟩
abbrev cX11_query : ByteArray := prog_1_method_21_code
def yX11_query : MethodName := ⟨RX11, "query", "()I"⟩
abbrev cX11_result : ByteArray := prog_1_method_22_code
def yX11_result : MethodName := ⟨RX11, "result", "(I)I"⟩
abbrev cX11_common : ByteArray := prog_1_method_23_code
def yX11_common : MethodName := ⟨RX11, "common", "(III)I"⟩
abbrev cX11_count : ByteArray := prog_1_method_24_code
def yX11_count : MethodName := ⟨RX11, "count", "(I)I"⟩
abbrev cX11_digest : ByteArray := prog_1_method_25_code
def yX11_digest : MethodName := ⟨RX11, "digest", "()J"⟩
abbrev cX11_mix : ByteArray := prog_1_method_26_code
def yX11_mix : MethodName := ⟨RX11, "mix", "(JJ)J"⟩
abbrev cX11_mixRow : ByteArray := prog_1_method_27_code
def yX11_mixRow : MethodName := ⟨RX11, "mixRow", "(JLPackedLists$Row;)J"⟩
abbrev cX11_mixBlocks : ByteArray := prog_1_method_28_code
def yX11_mixBlocks : MethodName := ⟨RX11, "mixBlocks", "(JI)J"⟩
abbrev cX11_mixBlock : ByteArray := prog_1_method_29_code
def yX11_mixBlock : MethodName := ⟨RX11, "mixBlock", "(JLPackedLists$BlockView;)J"⟩
abbrev cX11_isList : ByteArray := prog_1_method_30_code
def yX11_isList : MethodName := ⟨RX11, "isList", "(I)Z"⟩
abbrev cX11_isValue : ByteArray := prog_1_method_31_code
def yX11_isValue : MethodName := ⟨RX11, "isValue", "(I)Z"⟩
abbrev cX11_isPacking : ByteArray := prog_1_method_32_code
def yX11_isPacking : MethodName := ⟨RX11, "isPacking", "(I)Z"⟩
abbrev cX11_isBlock : ByteArray := prog_1_method_33_code
def yX11_isBlock : MethodName := ⟨RX11, "isBlock", "(II)Z"⟩
abbrev cX11_bitsOf : ByteArray := prog_1_method_34_code
def yX11_bitsOf : MethodName := ⟨RX11, "bitsOf", "(I)I"⟩
abbrev cX11_beginChange : ByteArray := prog_1_method_35_code
def yX11_beginChange : MethodName := ⟨RX11, "beginChange", "(I)V"⟩
abbrev cX11_replaceNumbers : ByteArray := prog_1_method_36_code
def yX11_replaceNumbers : MethodName := ⟨RX11, "replaceNumbers", "(ILPackedLists$Row;)V"⟩
abbrev cX11_measured : ByteArray := prog_1_method_37_code
def yX11_measured : MethodName := ⟨RX11, "measured", "(LPackedLists$CutList;I)LPackedLists$BlockView;"⟩
abbrev cX11_sumOfBlocks : ByteArray := prog_1_method_38_code
def yX11_sumOfBlocks : MethodName := ⟨RX11, "sumOfBlocks", "(LPackedLists$CutList;I)I"⟩
def RX12 : String := "PackedListsModel"
def TX12 : u_T := fun k => match k with
  | 0 => ("PackedListsModel", "m", "[I", true)
  | 1 => ("PackedListsModel", "past", "[I", true)
  | 2 => ("PackedListsModel", "undos", "I", false)
  | 3 => ("PackedListsModel", "cacheList", "[I", true)
  | 4 => ("PackedListsModel", "cacheBlock", "[I", true)
  | 5 => ("PackedListsModel", "cacheMany", "I", false)
  | 6 => ("PackedListsModel", "hits", "I", false)
  | 7 => ("PackedListsModel", "misses", "I", false)
  | 8 => ("PackedListsModel", "result", "[I", true)
  | 9 => ("PackedListsModel", "resultMany", "I", false)
  | 10 => ("PackedListsModel", "resultProbes", "I", false)
  | 11 => ("PackedListsModel", "need", "[I", true)
  | 12 => ("PackedListsModel", "cut", "[I", true)
  | 13 => ("PackedListsModel", "cuts", "I", false)
  | 14 => ("PackedListsModel", "costFrom", "[I", true)
  | 15 => ("PackedListsModel", "blocksFrom", "[I", true)
  | 16 => ("PackedListsModel", "firstLength", "[I", true)
  | 17 => ("PackedListsModel", "text", "[I", true)
  | 18 => ("PackedListsModel", "textLength", "I", false)
  | 19 => ("PackedListsModel", "at", "I", false)
  | 20 => ("PackedListsModel", "fault", "I", false)
  | 21 => ("PackedListsModel", "read", "[I", true)
  | 22 => ("PackedListsModel", "reads", "I", false)
  | 23 => ("PackedListsModel", "behind", "I", false)
  | 24 => ("PackedListsModel", "row", "[I", true)
  | 25 => ("PackedListsModel", "rowMany", "[I", true)
  | 26 => ("PackedListsModel", "out", "[I", true)
  | 27 => ("PackedListsModel", "outMany", "I", false)
  | 28 => ("PackedListsModel", "probes", "I", false)
  | 29 => ("PackedListsModel", "order", "[I", true)
  | 30 => ("PackedListsModel", "orders", "I", false)
  | 31 => ("PackedListsModel", "waiting", "[I", true)
  | 32 => ("PackedListsModel", "waits", "I", false)
  | 33 => ("PackedListsModel", "depth", "I", false)
  | _ => ("PackedListsModel", "hash", "J", false)
def tyX12 : Nat → FieldType := fun k => match k with
  | 0 => .array .int
  | 1 => .array .int
  | 2 => .int
  | 3 => .array .int
  | 4 => .array .int
  | 5 => .int
  | 6 => .int
  | 7 => .int
  | 8 => .array .int
  | 9 => .int
  | 10 => .int
  | 11 => .array .int
  | 12 => .array .int
  | 13 => .int
  | 14 => .array .int
  | 15 => .array .int
  | 16 => .array .int
  | 17 => .array .int
  | 18 => .int
  | 19 => .int
  | 20 => .int
  | 21 => .array .int
  | 22 => .int
  | 23 => .int
  | 24 => .array .int
  | 25 => .array .int
  | 26 => .array .int
  | 27 => .int
  | 28 => .int
  | 29 => .array .int
  | 30 => .int
  | 31 => .array .int
  | 32 => .int
  | 33 => .int
  | _ => .long
abbrev wsX120 : List Cond := u_ws RX12 TX12 35
theorem nmX12 : ∀ a, a < 35 → ∀ b, b < 35 → a ≠ b → (TX12 a).2.1 ≠ (TX12 b).2.1 := by decide +kernel
theorem tyX12_ok : ∀ k, k < 35 → parseFieldDescriptor (TX12 k).2.2.1 = some (tyX12 k) := by decide +kernel
abbrev cX12_init : ByteArray := prog_14_method_1_code
def yX12_init : MethodName := ⟨RX12, "<init>", "()V"⟩
abbrev cX12_in : ByteArray := prog_14_method_2_code
def yX12_in : MethodName := ⟨RX12, "in", "(III)Z"⟩
abbrev cX12_isList : ByteArray := prog_14_method_3_code
def yX12_isList : MethodName := ⟨RX12, "isList", "(I)Z"⟩
abbrev cX12_isValue : ByteArray := prog_14_method_4_code
def yX12_isValue : MethodName := ⟨RX12, "isValue", "(I)Z"⟩
abbrev cX12_many : ByteArray := prog_14_method_5_code
def yX12_many : MethodName := ⟨RX12, "many", "(I)I"⟩
abbrev cX12_blocks : ByteArray := prog_14_method_6_code
def yX12_blocks : MethodName := ⟨RX12, "blocks", "(I)I"⟩
abbrev cX12_number : ByteArray := prog_14_method_7_code
def yX12_number : MethodName := ⟨RX12, "number", "(II)I"⟩
abbrev cX12_length : ByteArray := prog_14_method_8_code
def yX12_length : MethodName := ⟨RX12, "length", "(II)I"⟩
abbrev cX12_isBlock : ByteArray := prog_14_method_9_code
def yX12_isBlock : MethodName := ⟨RX12, "isBlock", "(II)Z"⟩
abbrev cX12_begin : ByteArray := prog_14_method_10_code
def yX12_begin : MethodName := ⟨RX12, "begin", "(II)I"⟩
abbrev cX12_blockOf : ByteArray := prog_14_method_11_code
def yX12_blockOf : MethodName := ⟨RX12, "blockOf", "(II)I"⟩
abbrev cX12_keeps : ByteArray := prog_14_method_12_code
def yX12_keeps : MethodName := ⟨RX12, "keeps", "(I)V"⟩
abbrev cX12_undo : ByteArray := prog_14_method_13_code
def yX12_undo : MethodName := ⟨RX12, "undo", "()I"⟩
abbrev cX12_cachePlace : ByteArray := prog_14_method_14_code
def yX12_cachePlace : MethodName := ⟨RX12, "cachePlace", "(II)I"⟩
abbrev cX12_looks : ByteArray := prog_14_method_15_code
def yX12_looks : MethodName := ⟨RX12, "looks", "(II)V"⟩
abbrev cX12_bitsOf : ByteArray := prog_14_method_16_code
def yX12_bitsOf : MethodName := ⟨RX12, "bitsOf", "(I)I"⟩
abbrev cX12_gap : ByteArray := prog_14_method_17_code
def yX12_gap : MethodName := ⟨RX12, "gap", "(II)I"⟩
abbrev cX12_counts : ByteArray := prog_14_method_18_code
def yX12_counts : MethodName := ⟨RX12, "counts", "(III)V"⟩
abbrev cX12_above : ByteArray := prog_14_method_19_code
def yX12_above : MethodName := ⟨RX12, "above", "(I)I"⟩
abbrev cX12_best : ByteArray := prog_14_method_20_code
def yX12_best : MethodName := ⟨RX12, "best", "(I)I"⟩
abbrev cX12_costOf : ByteArray := prog_14_method_21_code
def yX12_costOf : MethodName := ⟨RX12, "costOf", "(II)I"⟩
abbrev cX12_width : ByteArray := prog_14_method_22_code
def yX12_width : MethodName := ⟨RX12, "width", "(II)I"⟩
abbrev cX12_cost : ByteArray := prog_14_method_23_code
def yX12_cost : MethodName := ⟨RX12, "cost", "(II)I"⟩
abbrev cX12_costOfList : ByteArray := prog_14_method_24_code
def yX12_costOfList : MethodName := ⟨RX12, "costOfList", "(I)I"⟩
abbrev cX12_exceptions : ByteArray := prog_14_method_25_code
def yX12_exceptions : MethodName := ⟨RX12, "exceptions", "(II)I"⟩
abbrev cX12_solves : ByteArray := prog_14_method_26_code
def yX12_solves : MethodName := ⟨RX12, "solves", "(II)V"⟩
abbrev cX12_plans : ByteArray := prog_14_method_27_code
def yX12_plans : MethodName := ⟨RX12, "plans", "(II)I"⟩
abbrev cX12_packs : ByteArray := prog_14_method_28_code
def yX12_packs : MethodName := ⟨RX12, "packs", "(II)I"⟩
abbrev cX12_place : ByteArray := prog_14_method_29_code
def yX12_place : MethodName := ⟨RX12, "place", "(II)I"⟩
abbrev cX12_has : ByteArray := prog_14_method_30_code
def yX12_has : MethodName := ⟨RX12, "has", "(II)Z"⟩
abbrev cX12_lastBlock : ByteArray := prog_14_method_31_code
def yX12_lastBlock : MethodName := ⟨RX12, "lastBlock", "(II)I"⟩
abbrev cX12_splits : ByteArray := prog_14_method_32_code
def yX12_splits : MethodName := ⟨RX12, "splits", "(II)V"⟩
abbrev cX12_add : ByteArray := prog_14_method_33_code
def yX12_add : MethodName := ⟨RX12, "add", "(II)I"⟩
abbrev cX12_remove : ByteArray := prog_14_method_34_code
def yX12_remove : MethodName := ⟨RX12, "remove", "(II)I"⟩
abbrev cX12_pack : ByteArray := prog_14_method_35_code
def yX12_pack : MethodName := ⟨RX12, "pack", "(II)I"⟩
abbrev cX12_clear : ByteArray := prog_14_method_36_code
def yX12_clear : MethodName := ⟨RX12, "clear", "(I)I"⟩
abbrev cX12_store : ByteArray := prog_14_method_37_code
def yX12_store : MethodName := ⟨RX12, "store", "(I)I"⟩
abbrev cX12_type : ByteArray := prog_14_method_38_code
def yX12_type : MethodName := ⟨RX12, "type", "(I)I"⟩
abbrev cX12_erase : ByteArray := prog_14_method_39_code
def yX12_erase : MethodName := ⟨RX12, "erase", "()I"⟩
abbrev cX12_next : ByteArray := prog_14_method_40_code
def yX12_next : MethodName := ⟨RX12, "next", "()I"⟩
abbrev cX12_skips : ByteArray := prog_14_method_41_code
def yX12_skips : MethodName := ⟨RX12, "skips", "()V"⟩
abbrev cX12_fails : ByteArray := prog_14_method_42_code
def yX12_fails : MethodName := ⟨RX12, "fails", "(I)V"⟩
abbrev cX12_readsNumber : ByteArray := prog_14_method_43_code
def yX12_readsNumber : MethodName := ⟨RX12, "readsNumber", "(I)I"⟩
abbrev cX12_readsPart : ByteArray := prog_14_method_44_code
def yX12_readsPart : MethodName := ⟨RX12, "readsPart", "(I)I"⟩
abbrev cX12_readsNumbers : ByteArray := prog_14_method_45_code
def yX12_readsNumbers : MethodName := ⟨RX12, "readsNumbers", "()V"⟩
abbrev cX12_load : ByteArray := prog_14_method_46_code
def yX12_load : MethodName := ⟨RX12, "load", "(I)I"⟩
abbrev cX12_exceptionsOf : ByteArray := prog_14_method_47_code
def yX12_exceptionsOf : MethodName := ⟨RX12, "exceptionsOf", "(I)I"⟩
abbrev cX12_listPart : ByteArray := prog_14_method_48_code
def yX12_listPart : MethodName := ⟨RX12, "listPart", "(II)I"⟩
abbrev cX12_list : ByteArray := prog_14_method_49_code
def yX12_list : MethodName := ⟨RX12, "list", "(II)I"⟩
abbrev cX12_words : ByteArray := prog_14_method_50_code
def yX12_words : MethodName := ⟨RX12, "words", "(II)I"⟩
abbrev cX12_block : ByteArray := prog_14_method_51_code
def yX12_block : MethodName := ⟨RX12, "block", "(III)I"⟩
abbrev cX12_word : ByteArray := prog_14_method_52_code
def yX12_word : MethodName := ⟨RX12, "word", "(III)J"⟩
abbrev cX12_exception : ByteArray := prog_14_method_53_code
def yX12_exception : MethodName := ⟨RX12, "exception", "(IIII)I"⟩
abbrev cX12_gaps : ByteArray := prog_14_method_54_code
def yX12_gaps : MethodName := ⟨RX12, "gaps", "(II)I"⟩
abbrev cX12_costBy : ByteArray := prog_14_method_55_code
def yX12_costBy : MethodName := ⟨RX12, "costBy", "(II)I"⟩
abbrev cX12_part : ByteArray := prog_14_method_56_code
def yX12_part : MethodName := ⟨RX12, "part", "(IIII)I"⟩
abbrev cX12_at : ByteArray := prog_14_method_57_code
def yX12_at : MethodName := ⟨RX12, "at", "(II)I"⟩
abbrev cX12_find : ByteArray := prog_14_method_58_code
def yX12_find : MethodName := ⟨RX12, "find", "(III)I"⟩
abbrev cX12_cached : ByteArray := prog_14_method_59_code
def yX12_cached : MethodName := ⟨RX12, "cached", "(II)I"⟩
abbrev cX12_probe : ByteArray := prog_14_method_60_code
def yX12_probe : MethodName := ⟨RX12, "probe", "(III)Z"⟩
abbrev cX12_gallops : ByteArray := prog_14_method_61_code
def yX12_gallops : MethodName := ⟨RX12, "gallops", "(III)I"⟩
abbrev cX12_puts : ByteArray := prog_14_method_62_code
def yX12_puts : MethodName := ⟨RX12, "puts", "(I)V"⟩
abbrev cX12_intersects : ByteArray := prog_14_method_63_code
def yX12_intersects : MethodName := ⟨RX12, "intersects", "(II)V"⟩
abbrev cX12_merges : ByteArray := prog_14_method_64_code
def yX12_merges : MethodName := ⟨RX12, "merges", "(III)V"⟩
abbrev cX12_copies : ByteArray := prog_14_method_65_code
def yX12_copies : MethodName := ⟨RX12, "copies", "(II)V"⟩
abbrev cX12_orders : ByteArray := prog_14_method_66_code
def yX12_orders : MethodName := ⟨RX12, "orders", "(I)V"⟩
abbrev cX12_rank : ByteArray := prog_14_method_67_code
def yX12_rank : MethodName := ⟨RX12, "rank", "(I)I"⟩
abbrev cX12_readsOperand : ByteArray := prog_14_method_68_code
def yX12_readsOperand : MethodName := ⟨RX12, "readsOperand", "()Z"⟩
abbrev cX12_readsSign : ByteArray := prog_14_method_69_code
def yX12_readsSign : MethodName := ⟨RX12, "readsSign", "()Z"⟩
abbrev cX12_readsExpression : ByteArray := prog_14_method_70_code
def yX12_readsExpression : MethodName := ⟨RX12, "readsExpression", "()V"⟩
abbrev cX12_query : ByteArray := prog_14_method_71_code
def yX12_query : MethodName := ⟨RX12, "query", "()I"⟩
abbrev cX12_joins : ByteArray := prog_14_method_72_code
def yX12_joins : MethodName := ⟨RX12, "joins", "(III)V"⟩
abbrev cX12_result : ByteArray := prog_14_method_73_code
def yX12_result : MethodName := ⟨RX12, "result", "(I)I"⟩
abbrev cX12_common : ByteArray := prog_14_method_74_code
def yX12_common : MethodName := ⟨RX12, "common", "(III)I"⟩
abbrev cX12_over : ByteArray := prog_14_method_75_code
def yX12_over : MethodName := ⟨RX12, "over", "(I)I"⟩
abbrev cX12_count : ByteArray := prog_14_method_76_code
def yX12_count : MethodName := ⟨RX12, "count", "(I)I"⟩
abbrev cX12_mixes : ByteArray := prog_14_method_77_code
def yX12_mixes : MethodName := ⟨RX12, "mixes", "(J)V"⟩
abbrev cX12_mixesBlock : ByteArray := prog_14_method_78_code
def yX12_mixesBlock : MethodName := ⟨RX12, "mixesBlock", "(II)V"⟩
abbrev cX12_digest : ByteArray := prog_14_method_79_code
def yX12_digest : MethodName := ⟨RX12, "digest", "()J"⟩
def RJ9 : String := "java/lang/Math"
def TJ9 : u_T := fun k => match k with
  | _ => ("", "", "", false)
def tyJ9 : Nat → FieldType := fun k => match k with
  | _ => .int
theorem nmJ9 : ∀ a, a < 0 → ∀ b, b < 0 → a ≠ b → (TJ9 a).2.1 ≠ (TJ9 b).2.1 := by decide +kernel
theorem tyJ9_ok : ∀ k, k < 0 → parseFieldDescriptor (TJ9 k).2.2.1 = some (tyJ9 k) := by decide +kernel
abbrev cJ9_max_7cf53 : ByteArray := prog_15_method_65_code
def yJ9_max_7cf53 : MethodName := ⟨RJ9, "max", "(II)I"⟩
abbrev cJ9_min_7cf53 : ByteArray := prog_15_method_69_code
def yJ9_min_7cf53 : MethodName := ⟨RJ9, "min", "(II)I"⟩
def RJ10 : String := "java/lang/System"
def TJ10 : u_T := fun k => match k with
  | _ => ("", "", "", false)
def tyJ10 : Nat → FieldType := fun k => match k with
  | _ => .int
theorem nmJ10 : ∀ a, a < 0 → ∀ b, b < 0 → a ≠ b → (TJ10 a).2.1 ≠ (TJ10 b).2.1 := by decide +kernel
theorem tyJ10_ok : ∀ k, k < 0 → parseFieldDescriptor (TJ10 k).2.2.1 = some (tyJ10 k) := by decide +kernel
def RJ7 : String := "java/util/Arrays"
def TJ7 : u_T := fun k => match k with
  | _ => ("", "", "", false)
def tyJ7 : Nat → FieldType := fun k => match k with
  | _ => .int
theorem nmJ7 : ∀ a, a < 0 → ∀ b, b < 0 → a ≠ b → (TJ7 a).2.1 ≠ (TJ7 b).2.1 := by decide +kernel
theorem tyJ7_ok : ∀ k, k < 0 → parseFieldDescriptor (TJ7 k).2.2.1 = some (tyJ7 k) := by decide +kernel
abbrev cJ7_fill_53178 : ByteArray := prog_17_method_103_code
def yJ7_fill_53178 : MethodName := ⟨RJ7, "fill", "([II)V"⟩
def RL : String := "PackedListsLaw"
abbrev cL_law : ByteArray := code
def yL_law : MethodName := ⟨RL, "law", "([I)Z"⟩
abbrev vwCl : List vw_C := [(RX0, TX0, 7), (RX1, TX1, 5), (RX2, TX2, 3), (RX3, TX3, 4), (RX4, TX4, 2), (RX5, TX5, 4), (RX6, TX6, 8), (RX7, TX7, 4), (RX8, TX8, 3), (RX9, TX9, 2), (RX10, TX10, 6), (RX11, TX11, 10), (RX12, TX12, 35)]
end
section
/-! the words of the tables that may be handed on to callees, and each by its place -/
def WL : List Cond := lw_tbl.filter goodWord
theorem WL_tbl {w : Cond} (h : w ∈ WL) : w ∈ lw_tbl := (List.mem_filter.mp h).1
theorem WL_good {w : Cond} (h : w ∈ WL) : (w.onTables && w.keeps) = true ∨ ∃ ty, w = .arrayClass ty := good_of_word (List.mem_filter.mp h).2
theorem WL_of {w : Cond} (h : w ∈ lw_tbl) (hg : goodWord w = true) : w ∈ WL := List.mem_filter.mpr ⟨h, hg⟩
theorem tw_0 {k : Nat} {w : Cond} (h : (k2_sels lw_privs)[k]? = some w) (hg : goodWord w = true) : w ∈ WL := WL_of (List.mem_append_left _ (List.mem_of_getElem? h)) hg
theorem tw_t {w : Cond} (h : w ∈ tables_1) (hg : goodWord w = true) : w ∈ WL := WL_of (List.mem_append_right _ h) hg
theorem tw_1 {k : Nat} {w : Cond} (h : tables_1_1[k]? = some w) (hg : goodWord w = true) : w ∈ WL := tw_t (List.mem_append_left _ (List.mem_of_getElem? h)) hg
theorem tw_2 {k : Nat} {w : Cond} (h : tables_1_2[k]? = some w) (hg : goodWord w = true) : w ∈ WL := tw_t (List.mem_append_right _ (List.mem_append_left _ (List.mem_of_getElem? h))) hg
theorem tw_3 {k : Nat} {w : Cond} (h : tables_1_3[k]? = some w) (hg : goodWord w = true) : w ∈ WL := tw_t (List.mem_append_right _ (List.mem_append_right _ (List.mem_append_left _ (List.mem_of_getElem? h)))) hg
theorem tw_4 {k : Nat} {w : Cond} (h : tables_1_4[k]? = some w) (hg : goodWord w = true) : w ∈ WL := tw_t (List.mem_append_right _ (List.mem_append_right _ (List.mem_append_right _ (List.mem_append_left _ (List.mem_of_getElem? h))))) hg
theorem tw_5 {k : Nat} {w : Cond} (h : tables_1_5[k]? = some w) (hg : goodWord w = true) : w ∈ WL := tw_t (List.mem_append_right _ (List.mem_append_right _ (List.mem_append_right _ (List.mem_append_right _ (List.mem_append_left _ (List.mem_of_getElem? h)))))) hg
theorem tw_6 {k : Nat} {w : Cond} (h : tables_1_6[k]? = some w) (hg : goodWord w = true) : w ∈ WL := tw_t (List.mem_append_right _ (List.mem_append_right _ (List.mem_append_right _ (List.mem_append_right _ (List.mem_append_right _ (List.mem_of_getElem? h)))))) hg
abbrev fM0 : Type := MethodName × ByteArray × Nat × Option FieldType
theorem wN_L : Cond.initialized RL ∈ WL := tw_1 (k := 0) (by decide +kernel) (by decide +kernel)
theorem wN_X11 : Cond.initialized RX11 ∈ WL := tw_1 (k := 1) (by decide +kernel) (by decide +kernel)
theorem wN_X5 : Cond.initialized RX5 ∈ WL := tw_1 (k := 2) (by decide +kernel) (by decide +kernel)
theorem wN_X2 : Cond.initialized RX2 ∈ WL := tw_1 (k := 3) (by decide +kernel) (by decide +kernel)
theorem wN_X9 : Cond.initialized RX9 ∈ WL := tw_1 (k := 4) (by decide +kernel) (by decide +kernel)
theorem wN_J9 : Cond.initialized RJ9 ∈ WL := tw_1 (k := 5) (by decide +kernel) (by decide +kernel)
theorem wN_X1 : Cond.initialized RX1 ∈ WL := tw_1 (k := 6) (by decide +kernel) (by decide +kernel)
theorem wN_X0 : Cond.initialized RX0 ∈ WL := tw_1 (k := 7) (by decide +kernel) (by decide +kernel)
theorem wN_X8 : Cond.initialized RX8 ∈ WL := tw_1 (k := 8) (by decide +kernel) (by decide +kernel)
theorem wN_X10 : Cond.initialized RX10 ∈ WL := tw_1 (k := 9) (by decide +kernel) (by decide +kernel)
theorem wN_X4 : Cond.initialized RX4 ∈ WL := tw_1 (k := 10) (by decide +kernel) (by decide +kernel)
theorem wN_X7 : Cond.initialized RX7 ∈ WL := tw_1 (k := 11) (by decide +kernel) (by decide +kernel)
theorem wN_X3 : Cond.initialized RX3 ∈ WL := tw_1 (k := 12) (by decide +kernel) (by decide +kernel)
theorem wN_X12 : Cond.initialized RX12 ∈ WL := tw_1 (k := 13) (by decide +kernel) (by decide +kernel)
theorem wN_J10 : Cond.initialized RJ10 ∈ WL := tw_1 (k := 14) (by decide +kernel) (by decide +kernel)
theorem wN_J7 : Cond.initialized RJ7 ∈ WL := tw_1 (k := 15) (by decide +kernel) (by decide +kernel)
theorem wN_X6 : Cond.initialized RX6 ∈ WL := tw_1 (k := 16) (by decide +kernel) (by decide +kernel)
theorem wL_L_7 : Cond.classLink RL 7 RX11 ∈ WL := tw_1 (k := 17) (by decide +kernel) (by decide +kernel)
theorem wA_X11 : Cond.instantiable RX11 10 ∈ WL := tw_1 (k := 18) (by decide +kernel) (by decide +kernel)
theorem wM_L_9 : Cond.methodLink RL 9 yX11_init ∈ WL := tw_1 (k := 19) (by decide +kernel) (by decide +kernel)
theorem wI_yX11_init : Cond.instanceMethod yX11_init ∈ WL := tw_1 (k := 20) (by decide +kernel) (by decide +kernel)
theorem wM_X11_1 : Cond.methodLink RX11 1 objectInit ∈ WL := tw_1 (k := 22) (by decide +kernel) (by decide +kernel)
theorem wI_objectInit : Cond.instanceMethod objectInit ∈ WL := tw_1 (k := 23) (by decide +kernel) (by decide +kernel)
theorem wL_X11_9 : Cond.classLink RX11 9 RX2 ∈ WL := tw_1 (k := 25) (by decide +kernel) (by decide +kernel)
theorem wL_X11_15 : Cond.classLink RX11 15 RX5 ∈ WL := tw_1 (k := 27) (by decide +kernel) (by decide +kernel)
theorem wA_X5 : Cond.instantiable RX5 4 ∈ WL := tw_1 (k := 28) (by decide +kernel) (by decide +kernel)
theorem wM_X11_17 : Cond.methodLink RX11 17 yX5_init ∈ WL := tw_1 (k := 29) (by decide +kernel) (by decide +kernel)
theorem wI_yX5_init : Cond.instanceMethod yX5_init ∈ WL := tw_1 (k := 30) (by decide +kernel) (by decide +kernel)
theorem wM_X5_3 : Cond.methodLink RX5 3 objectInit ∈ WL := tw_1 (k := 32) (by decide +kernel) (by decide +kernel)
theorem wL_X5_15 : Cond.classLink RX5 15 RX2 ∈ WL := tw_1 (k := 33) (by decide +kernel) (by decide +kernel)
theorem wA_X2 : Cond.instantiable RX2 3 ∈ WL := tw_1 (k := 34) (by decide +kernel) (by decide +kernel)
theorem wI_yX2_init : Cond.instanceMethod yX2_init ∈ WL := tw_1 (k := 36) (by decide +kernel) (by decide +kernel)
theorem wM_X2_3 : Cond.methodLink RX2 3 objectInit ∈ WL := tw_1 (k := 38) (by decide +kernel) (by decide +kernel)
theorem wL_X2_9 : Cond.classLink RX2 9 RX9 ∈ WL := tw_1 (k := 39) (by decide +kernel) (by decide +kernel)
theorem wA_X9 : Cond.instantiable RX9 2 ∈ WL := tw_1 (k := 40) (by decide +kernel) (by decide +kernel)
theorem wM_X2_11 : Cond.methodLink RX2 11 yX9_init ∈ WL := tw_1 (k := 41) (by decide +kernel) (by decide +kernel)
theorem wI_yX9_init : Cond.instanceMethod yX9_init ∈ WL := tw_1 (k := 42) (by decide +kernel) (by decide +kernel)
theorem wM_X9_3 : Cond.methodLink RX9 3 objectInit ∈ WL := tw_1 (k := 44) (by decide +kernel) (by decide +kernel)
theorem wM_X9_9 : Cond.methodLink RX9 9 yJ9_max_7cf53 ∈ WL := tw_1 (k := 45) (by decide +kernel) (by decide +kernel)
theorem wT_yJ9_max_7cf53 : Cond.static yJ9_max_7cf53 ∈ WL := tw_1 (k := 46) (by decide +kernel) (by decide +kernel)
theorem wF_X9_15 : Cond.fieldLink RX9 15 "PackedLists$Row" "numbers" "[I" ∈ WL := tw_1 (k := 48) (by decide +kernel) (by decide +kernel)
theorem wF_X9_21 : Cond.fieldLink RX9 21 "PackedLists$Row" "size" "I" ∈ WL := tw_1 (k := 49) (by decide +kernel) (by decide +kernel)
theorem wF_X3_23 : Cond.fieldLink RX3 23 "PackedLists$Row" "size" "I" ∈ WL := tw_1 (k := 50) (by decide +kernel) (by decide +kernel)
theorem wF_X4_13 : Cond.fieldLink RX4 13 "PackedLists$Row" "size" "I" ∈ WL := tw_1 (k := 51) (by decide +kernel) (by decide +kernel)
theorem wF_X7_27 : Cond.fieldLink RX7 27 "PackedLists$Row" "size" "I" ∈ WL := tw_1 (k := 52) (by decide +kernel) (by decide +kernel)
theorem wF_X6_55 : Cond.fieldLink RX6 55 "PackedLists$Row" "size" "I" ∈ WL := tw_1 (k := 53) (by decide +kernel) (by decide +kernel)
theorem wF_X2_28 : Cond.fieldLink RX2 28 "PackedLists$Row" "size" "I" ∈ WL := tw_1 (k := 54) (by decide +kernel) (by decide +kernel)
theorem wF_X11_87 : Cond.fieldLink RX11 87 "PackedLists$Row" "size" "I" ∈ WL := tw_1 (k := 55) (by decide +kernel) (by decide +kernel)
theorem wF_X8_41 : Cond.fieldLink RX8 41 "PackedLists$Row" "size" "I" ∈ WL := tw_1 (k := 56) (by decide +kernel) (by decide +kernel)
theorem wR_int : Cond.arrayClass .int ∈ WL := tw_1 (k := 62) (by decide +kernel) (by decide +kernel)
theorem wF_X2_14 : Cond.fieldLink RX2 14 "PackedLists$CutList" "row" "LPackedLists$Row;" ∈ WL := tw_1 (k := 63) (by decide +kernel) (by decide +kernel)
theorem wF_X11_81 : Cond.fieldLink RX11 81 "PackedLists$CutList" "row" "LPackedLists$Row;" ∈ WL := tw_1 (k := 64) (by decide +kernel) (by decide +kernel)
theorem wF_X8_31 : Cond.fieldLink RX8 31 "PackedLists$CutList" "row" "LPackedLists$Row;" ∈ WL := tw_1 (k := 65) (by decide +kernel) (by decide +kernel)
theorem wF_X6_98 : Cond.fieldLink RX6 98 "PackedLists$CutList" "row" "LPackedLists$Row;" ∈ WL := tw_1 (k := 66) (by decide +kernel) (by decide +kernel)
theorem wF_X2_20 : Cond.fieldLink RX2 20 "PackedLists$CutList" "starts" "[I" ∈ WL := tw_1 (k := 67) (by decide +kernel) (by decide +kernel)
theorem wF_X2_24 : Cond.fieldLink RX2 24 "PackedLists$CutList" "blocks" "I" ∈ WL := tw_1 (k := 68) (by decide +kernel) (by decide +kernel)
theorem wF_X8_37 : Cond.fieldLink RX8 37 "PackedLists$CutList" "blocks" "I" ∈ WL := tw_1 (k := 69) (by decide +kernel) (by decide +kernel)
theorem wF_X11_147 : Cond.fieldLink RX11 147 "PackedLists$CutList" "blocks" "I" ∈ WL := tw_1 (k := 70) (by decide +kernel) (by decide +kernel)
theorem wF_X5_9 : Cond.fieldLink RX5 9 "PackedLists$History" "owners" "[I" ∈ WL := tw_1 (k := 78) (by decide +kernel) (by decide +kernel)
theorem wF_X5_17 : Cond.fieldLink RX5 17 "PackedLists$History" "states" "[LPackedLists$CutList;" ∈ WL := tw_1 (k := 79) (by decide +kernel) (by decide +kernel)
theorem wF_X5_22 : Cond.fieldLink RX5 22 "PackedLists$History" "latest" "I" ∈ WL := tw_1 (k := 80) (by decide +kernel) (by decide +kernel)
theorem wF_X5_30 : Cond.fieldLink RX5 30 "PackedLists$History" "size" "I" ∈ WL := tw_1 (k := 81) (by decide +kernel) (by decide +kernel)
theorem wF_X11_136 : Cond.fieldLink RX11 136 "PackedLists$History" "size" "I" ∈ WL := tw_1 (k := 82) (by decide +kernel) (by decide +kernel)
theorem wL_X11_22 : Cond.classLink RX11 22 RX1 ∈ WL := tw_1 (k := 92) (by decide +kernel) (by decide +kernel)
theorem wA_X1 : Cond.instantiable RX1 5 ∈ WL := tw_1 (k := 93) (by decide +kernel) (by decide +kernel)
theorem wI_yX1_init : Cond.instanceMethod yX1_init ∈ WL := tw_1 (k := 95) (by decide +kernel) (by decide +kernel)
theorem wM_X1_3 : Cond.methodLink RX1 3 objectInit ∈ WL := tw_1 (k := 97) (by decide +kernel) (by decide +kernel)
theorem wF_X1_9 : Cond.fieldLink RX1 9 "PackedLists$Cache" "lists" "[I" ∈ WL := tw_1 (k := 98) (by decide +kernel) (by decide +kernel)
theorem wF_X1_15 : Cond.fieldLink RX1 15 "PackedLists$Cache" "blocks" "[I" ∈ WL := tw_1 (k := 99) (by decide +kernel) (by decide +kernel)
theorem wF_X1_18 : Cond.fieldLink RX1 18 "PackedLists$Cache" "size" "I" ∈ WL := tw_1 (k := 100) (by decide +kernel) (by decide +kernel)
theorem wF_X11_243 : Cond.fieldLink RX11 243 "PackedLists$Cache" "size" "I" ∈ WL := tw_1 (k := 101) (by decide +kernel) (by decide +kernel)
theorem wF_X1_26 : Cond.fieldLink RX1 26 "PackedLists$Cache" "hits" "I" ∈ WL := tw_1 (k := 102) (by decide +kernel) (by decide +kernel)
theorem wF_X11_244 : Cond.fieldLink RX11 244 "PackedLists$Cache" "hits" "I" ∈ WL := tw_1 (k := 103) (by decide +kernel) (by decide +kernel)
theorem wF_X1_29 : Cond.fieldLink RX1 29 "PackedLists$Cache" "misses" "I" ∈ WL := tw_1 (k := 104) (by decide +kernel) (by decide +kernel)
theorem wF_X11_247 : Cond.fieldLink RX11 247 "PackedLists$Cache" "misses" "I" ∈ WL := tw_1 (k := 105) (by decide +kernel) (by decide +kernel)
theorem wL_X11_29 : Cond.classLink RX11 29 RX9 ∈ WL := tw_1 (k := 117) (by decide +kernel) (by decide +kernel)
theorem wM_X11_31 : Cond.methodLink RX11 31 yX9_init ∈ WL := tw_1 (k := 118) (by decide +kernel) (by decide +kernel)
theorem wL_X11_38 : Cond.classLink RX11 38 RX0 ∈ WL := tw_1 (k := 119) (by decide +kernel) (by decide +kernel)
theorem wA_X0 : Cond.instantiable RX0 7 ∈ WL := tw_1 (k := 120) (by decide +kernel) (by decide +kernel)
theorem wI_yX0_init : Cond.instanceMethod yX0_init ∈ WL := tw_1 (k := 122) (by decide +kernel) (by decide +kernel)
theorem wM_X0_3 : Cond.methodLink RX0 3 objectInit ∈ WL := tw_1 (k := 124) (by decide +kernel) (by decide +kernel)
theorem wF_X0_9 : Cond.fieldLink RX0 9 "PackedLists$BlockView" "gapsByBits" "[I" ∈ WL := tw_1 (k := 125) (by decide +kernel) (by decide +kernel)
theorem wF_X0_15 : Cond.fieldLink RX0 15 "PackedLists$BlockView" "row" "LPackedLists$Row;" ∈ WL := tw_1 (k := 126) (by decide +kernel) (by decide +kernel)
theorem wF_X0_19 : Cond.fieldLink RX0 19 "PackedLists$BlockView" "start" "I" ∈ WL := tw_1 (k := 127) (by decide +kernel) (by decide +kernel)
theorem wF_X0_23 : Cond.fieldLink RX0 23 "PackedLists$BlockView" "length" "I" ∈ WL := tw_1 (k := 128) (by decide +kernel) (by decide +kernel)
theorem wF_X11_174 : Cond.fieldLink RX11 174 "PackedLists$BlockView" "length" "I" ∈ WL := tw_1 (k := 129) (by decide +kernel) (by decide +kernel)
theorem wF_X0_51 : Cond.fieldLink RX0 51 "PackedLists$BlockView" "width" "I" ∈ WL := tw_1 (k := 130) (by decide +kernel) (by decide +kernel)
theorem wF_X11_202 : Cond.fieldLink RX11 202 "PackedLists$BlockView" "width" "I" ∈ WL := tw_1 (k := 131) (by decide +kernel) (by decide +kernel)
theorem wF_X0_54 : Cond.fieldLink RX0 54 "PackedLists$BlockView" "exceptions" "I" ∈ WL := tw_1 (k := 132) (by decide +kernel) (by decide +kernel)
theorem wF_X11_205 : Cond.fieldLink RX11 205 "PackedLists$BlockView" "exceptions" "I" ∈ WL := tw_1 (k := 133) (by decide +kernel) (by decide +kernel)
theorem wF_X0_60 : Cond.fieldLink RX0 60 "PackedLists$BlockView" "cost" "I" ∈ WL := tw_1 (k := 134) (by decide +kernel) (by decide +kernel)
theorem wF_X11_199 : Cond.fieldLink RX11 199 "PackedLists$BlockView" "cost" "I" ∈ WL := tw_1 (k := 135) (by decide +kernel) (by decide +kernel)
theorem wL_X11_45 : Cond.classLink RX11 45 RX8 ∈ WL := tw_1 (k := 151) (by decide +kernel) (by decide +kernel)
theorem wA_X8 : Cond.instantiable RX8 3 ∈ WL := tw_1 (k := 152) (by decide +kernel) (by decide +kernel)
theorem wM_X11_47 : Cond.methodLink RX11 47 yX8_init ∈ WL := tw_1 (k := 153) (by decide +kernel) (by decide +kernel)
theorem wI_yX8_init : Cond.instanceMethod yX8_init ∈ WL := tw_1 (k := 154) (by decide +kernel) (by decide +kernel)
theorem wM_X8_3 : Cond.methodLink RX8 3 objectInit ∈ WL := tw_1 (k := 156) (by decide +kernel) (by decide +kernel)
theorem wL_X8_18 : Cond.classLink RX8 18 RX10 ∈ WL := tw_1 (k := 157) (by decide +kernel) (by decide +kernel)
theorem wA_X10 : Cond.instantiable RX10 6 ∈ WL := tw_1 (k := 159) (by decide +kernel) (by decide +kernel)
theorem wM_X8_24 : Cond.methodLink RX8 24 yX10_init ∈ WL := tw_1 (k := 160) (by decide +kernel) (by decide +kernel)
theorem wI_yX10_init : Cond.instanceMethod yX10_init ∈ WL := tw_1 (k := 161) (by decide +kernel) (by decide +kernel)
theorem wM_X10_3 : Cond.methodLink RX10 3 objectInit ∈ WL := tw_1 (k := 163) (by decide +kernel) (by decide +kernel)
theorem wF_X10_18 : Cond.fieldLink RX10 18 "PackedLists$Window" "width" "I" ∈ WL := tw_1 (k := 164) (by decide +kernel) (by decide +kernel)
theorem wF_X10_9 : Cond.fieldLink RX10 9 "PackedLists$Window" "ends" "[I" ∈ WL := tw_1 (k := 165) (by decide +kernel) (by decide +kernel)
theorem wF_X10_15 : Cond.fieldLink RX10 15 "PackedLists$Window" "ranks" "[I" ∈ WL := tw_1 (k := 166) (by decide +kernel) (by decide +kernel)
theorem wF_X10_22 : Cond.fieldLink RX10 22 "PackedLists$Window" "first" "I" ∈ WL := tw_1 (k := 167) (by decide +kernel) (by decide +kernel)
theorem wF_X10_25 : Cond.fieldLink RX10 25 "PackedLists$Window" "size" "I" ∈ WL := tw_1 (k := 168) (by decide +kernel) (by decide +kernel)
theorem wF_X10_28 : Cond.fieldLink RX10 28 "PackedLists$Window" "passed" "I" ∈ WL := tw_1 (k := 169) (by decide +kernel) (by decide +kernel)
theorem wF_X8_9 : Cond.fieldLink RX8 9 "PackedLists$Packer" "ranks" "[I" ∈ WL := tw_1 (k := 183) (by decide +kernel) (by decide +kernel)
theorem wF_X8_15 : Cond.fieldLink RX8 15 "PackedLists$Packer" "ends" "[I" ∈ WL := tw_1 (k := 184) (by decide +kernel) (by decide +kernel)
theorem wF_X8_20 : Cond.fieldLink RX8 20 "PackedLists$Packer" "windows" "[LPackedLists$Window;" ∈ WL := tw_1 (k := 185) (by decide +kernel) (by decide +kernel)
theorem wL_X11_52 : Cond.classLink RX11 52 RX4 ∈ WL := tw_1 (k := 193) (by decide +kernel) (by decide +kernel)
theorem wA_X4 : Cond.instantiable RX4 2 ∈ WL := tw_1 (k := 194) (by decide +kernel) (by decide +kernel)
theorem wI_yX4_init : Cond.instanceMethod yX4_init ∈ WL := tw_1 (k := 196) (by decide +kernel) (by decide +kernel)
theorem wM_X4_1 : Cond.methodLink RX4 1 objectInit ∈ WL := tw_1 (k := 198) (by decide +kernel) (by decide +kernel)
theorem wF_X4_7 : Cond.fieldLink RX4 7 "PackedLists$Galloper" "taken" "I" ∈ WL := tw_1 (k := 199) (by decide +kernel) (by decide +kernel)
theorem wF_X11_237 : Cond.fieldLink RX11 237 "PackedLists$Galloper" "taken" "I" ∈ WL := tw_1 (k := 200) (by decide +kernel) (by decide +kernel)
theorem wF_X6_51 : Cond.fieldLink RX6 51 "PackedLists$Galloper" "probes" "I" ∈ WL := tw_1 (k := 201) (by decide +kernel) (by decide +kernel)
theorem wF_X4_36 : Cond.fieldLink RX4 36 "PackedLists$Galloper" "probes" "I" ∈ WL := tw_1 (k := 202) (by decide +kernel) (by decide +kernel)
theorem wF_X11_230 : Cond.fieldLink RX11 230 "PackedLists$Galloper" "probes" "I" ∈ WL := tw_1 (k := 203) (by decide +kernel) (by decide +kernel)
theorem wL_X11_59 : Cond.classLink RX11 59 RX7 ∈ WL := tw_1 (k := 209) (by decide +kernel) (by decide +kernel)
theorem wA_X7 : Cond.instantiable RX7 4 ∈ WL := tw_1 (k := 210) (by decide +kernel) (by decide +kernel)
theorem wI_yX7_init : Cond.instanceMethod yX7_init ∈ WL := tw_1 (k := 212) (by decide +kernel) (by decide +kernel)
theorem wM_X7_3 : Cond.methodLink RX7 3 objectInit ∈ WL := tw_1 (k := 214) (by decide +kernel) (by decide +kernel)
theorem wL_X7_9 : Cond.classLink RX7 9 RX9 ∈ WL := tw_1 (k := 215) (by decide +kernel) (by decide +kernel)
theorem wM_X7_11 : Cond.methodLink RX7 11 yX9_init ∈ WL := tw_1 (k := 216) (by decide +kernel) (by decide +kernel)
theorem wF_X7_14 : Cond.fieldLink RX7 14 "PackedLists$NumberReader" "row" "LPackedLists$Row;" ∈ WL := tw_1 (k := 217) (by decide +kernel) (by decide +kernel)
theorem wF_X11_119 : Cond.fieldLink RX11 119 "PackedLists$NumberReader" "row" "LPackedLists$Row;" ∈ WL := tw_1 (k := 218) (by decide +kernel) (by decide +kernel)
theorem wF_X7_20 : Cond.fieldLink RX7 20 "PackedLists$NumberReader" "text" "LPackedLists$Row;" ∈ WL := tw_1 (k := 219) (by decide +kernel) (by decide +kernel)
theorem wF_X7_23 : Cond.fieldLink RX7 23 "PackedLists$NumberReader" "position" "I" ∈ WL := tw_1 (k := 220) (by decide +kernel) (by decide +kernel)
theorem wF_X7_40 : Cond.fieldLink RX7 40 "PackedLists$NumberReader" "number" "I" ∈ WL := tw_1 (k := 221) (by decide +kernel) (by decide +kernel)
theorem wL_X11_66 : Cond.classLink RX11 66 RX3 ∈ WL := tw_1 (k := 231) (by decide +kernel) (by decide +kernel)
theorem wA_X3 : Cond.instantiable RX3 4 ∈ WL := tw_1 (k := 232) (by decide +kernel) (by decide +kernel)
theorem wI_yX3_init : Cond.instanceMethod yX3_init ∈ WL := tw_1 (k := 234) (by decide +kernel) (by decide +kernel)
theorem wM_X3_3 : Cond.methodLink RX3 3 objectInit ∈ WL := tw_1 (k := 236) (by decide +kernel) (by decide +kernel)
theorem wL_X3_9 : Cond.classLink RX3 9 RX9 ∈ WL := tw_1 (k := 237) (by decide +kernel) (by decide +kernel)
theorem wM_X3_11 : Cond.methodLink RX3 11 yX9_init ∈ WL := tw_1 (k := 238) (by decide +kernel) (by decide +kernel)
theorem wF_X3_14 : Cond.fieldLink RX3 14 "PackedLists$ExpressionReader" "postfix" "LPackedLists$Row;" ∈ WL := tw_1 (k := 239) (by decide +kernel) (by decide +kernel)
theorem wF_X11_223 : Cond.fieldLink RX11 223 "PackedLists$ExpressionReader" "postfix" "LPackedLists$Row;" ∈ WL := tw_2 (k := 0) (by decide +kernel) (by decide +kernel)
theorem wF_X3_20 : Cond.fieldLink RX3 20 "PackedLists$ExpressionReader" "waiting" "LPackedLists$Row;" ∈ WL := tw_2 (k := 1) (by decide +kernel) (by decide +kernel)
theorem wF_X3_27 : Cond.fieldLink RX3 27 "PackedLists$ExpressionReader" "depth" "I" ∈ WL := tw_2 (k := 2) (by decide +kernel) (by decide +kernel)
theorem wF_X3_30 : Cond.fieldLink RX3 30 "PackedLists$ExpressionReader" "factorIsDue" "Z" ∈ WL := tw_2 (k := 3) (by decide +kernel) (by decide +kernel)
theorem wF_X11_11 : Cond.fieldLink RX11 11 "PackedLists" "lists" "[LPackedLists$CutList;" ∈ WL := tw_2 (k := 14) (by decide +kernel) (by decide +kernel)
theorem wF_X11_18 : Cond.fieldLink RX11 18 "PackedLists" "history" "LPackedLists$History;" ∈ WL := tw_2 (k := 15) (by decide +kernel) (by decide +kernel)
theorem wF_X11_25 : Cond.fieldLink RX11 25 "PackedLists" "cache" "LPackedLists$Cache;" ∈ WL := tw_2 (k := 16) (by decide +kernel) (by decide +kernel)
theorem wF_X11_34 : Cond.fieldLink RX11 34 "PackedLists" "text" "LPackedLists$Row;" ∈ WL := tw_2 (k := 17) (by decide +kernel) (by decide +kernel)
theorem wF_X11_41 : Cond.fieldLink RX11 41 "PackedLists" "view" "LPackedLists$BlockView;" ∈ WL := tw_2 (k := 18) (by decide +kernel) (by decide +kernel)
theorem wF_X11_48 : Cond.fieldLink RX11 48 "PackedLists" "packer" "LPackedLists$Packer;" ∈ WL := tw_2 (k := 19) (by decide +kernel) (by decide +kernel)
theorem wF_X11_55 : Cond.fieldLink RX11 55 "PackedLists" "galloper" "LPackedLists$Galloper;" ∈ WL := tw_2 (k := 20) (by decide +kernel) (by decide +kernel)
theorem wF_X11_62 : Cond.fieldLink RX11 62 "PackedLists" "numberReader" "LPackedLists$NumberReader;" ∈ WL := tw_2 (k := 21) (by decide +kernel) (by decide +kernel)
theorem wF_X11_69 : Cond.fieldLink RX11 69 "PackedLists" "expressionReader" "LPackedLists$ExpressionReader;" ∈ WL := tw_2 (k := 22) (by decide +kernel) (by decide +kernel)
theorem wF_X11_124 : Cond.fieldLink RX11 124 "PackedLists" "joiner" "LPackedLists$Joiner;" ∈ WL := tw_2 (k := 23) (by decide +kernel) (by decide +kernel)
theorem wM_L_13 : Cond.methodLink RL 13 yX11_add ∈ WL := tw_2 (k := 45) (by decide +kernel) (by decide +kernel)
theorem wI_yX11_add : Cond.instanceMethod yX11_add ∈ WL := tw_2 (k := 46) (by decide +kernel) (by decide +kernel)
theorem wS_yX11_add : Cond.selects RX11 yX11_add yX11_add ∈ WL := tw_2 (k := 47) (by decide +kernel) (by decide +kernel)
theorem wM_X11_74 : Cond.methodLink RX11 74 yX11_isList ∈ WL := tw_2 (k := 49) (by decide +kernel) (by decide +kernel)
theorem wT_yX11_isList : Cond.static yX11_isList ∈ WL := tw_2 (k := 50) (by decide +kernel) (by decide +kernel)
theorem wM_X11_78 : Cond.methodLink RX11 78 yX11_isValue ∈ WL := tw_2 (k := 52) (by decide +kernel) (by decide +kernel)
theorem wT_yX11_isValue : Cond.static yX11_isValue ∈ WL := tw_2 (k := 53) (by decide +kernel) (by decide +kernel)
theorem wK_X11_277 : Cond.constant RX11 277 (999999) ∈ WL := tw_2 (k := 55) (by decide +kernel) (by decide +kernel)
theorem wM_X11_84 : Cond.methodLink RX11 84 yX9_has ∈ WL := tw_2 (k := 56) (by decide +kernel) (by decide +kernel)
theorem wI_yX9_has : Cond.instanceMethod yX9_has ∈ WL := tw_2 (k := 57) (by decide +kernel) (by decide +kernel)
theorem wS_yX9_has : Cond.selects RX9 yX9_has yX9_has ∈ WL := tw_2 (k := 58) (by decide +kernel) (by decide +kernel)
theorem wM_X9_38 : Cond.methodLink RX9 38 yX9_firstAtLeast ∈ WL := tw_2 (k := 60) (by decide +kernel) (by decide +kernel)
theorem wI_yX9_firstAtLeast : Cond.instanceMethod yX9_firstAtLeast ∈ WL := tw_2 (k := 61) (by decide +kernel) (by decide +kernel)
theorem wS_yX9_firstAtLeast : Cond.selects RX9 yX9_firstAtLeast yX9_firstAtLeast ∈ WL := tw_2 (k := 62) (by decide +kernel) (by decide +kernel)
theorem wM_X9_34 : Cond.methodLink RX9 34 yX9_get ∈ WL := tw_2 (k := 64) (by decide +kernel) (by decide +kernel)
theorem wI_yX9_get : Cond.instanceMethod yX9_get ∈ WL := tw_2 (k := 65) (by decide +kernel) (by decide +kernel)
theorem wS_yX9_get : Cond.selects RX9 yX9_get yX9_get ∈ WL := tw_2 (k := 66) (by decide +kernel) (by decide +kernel)
theorem wM_X11_91 : Cond.methodLink RX11 91 yX11_beginChange ∈ WL := tw_2 (k := 68) (by decide +kernel) (by decide +kernel)
theorem wI_yX11_beginChange : Cond.instanceMethod yX11_beginChange ∈ WL := tw_2 (k := 70) (by decide +kernel) (by decide +kernel)
theorem wM_X11_278 : Cond.methodLink RX11 278 yX5_record ∈ WL := tw_2 (k := 72) (by decide +kernel) (by decide +kernel)
theorem wI_yX5_record : Cond.instanceMethod yX5_record ∈ WL := tw_2 (k := 73) (by decide +kernel) (by decide +kernel)
theorem wS_yX5_record : Cond.selects RX5 yX5_record yX5_record ∈ WL := tw_2 (k := 74) (by decide +kernel) (by decide +kernel)
theorem wM_X5_26 : Cond.methodLink RX5 26 yX2_copyFrom ∈ WL := tw_2 (k := 76) (by decide +kernel) (by decide +kernel)
theorem wI_yX2_copyFrom : Cond.instanceMethod yX2_copyFrom ∈ WL := tw_2 (k := 77) (by decide +kernel) (by decide +kernel)
theorem wS_yX2_copyFrom : Cond.selects RX2 yX2_copyFrom yX2_copyFrom ∈ WL := tw_2 (k := 78) (by decide +kernel) (by decide +kernel)
theorem wM_X2_31 : Cond.methodLink RX2 31 yX9_copyFrom ∈ WL := tw_2 (k := 80) (by decide +kernel) (by decide +kernel)
theorem wI_yX9_copyFrom : Cond.instanceMethod yX9_copyFrom ∈ WL := tw_2 (k := 81) (by decide +kernel) (by decide +kernel)
theorem wS_yX9_copyFrom : Cond.selects RX9 yX9_copyFrom yX9_copyFrom ∈ WL := tw_2 (k := 82) (by decide +kernel) (by decide +kernel)
theorem wM_X9_25 : Cond.methodLink RX9 25 yJ9_min_7cf53 ∈ WL := tw_2 (k := 84) (by decide +kernel) (by decide +kernel)
theorem wT_yJ9_min_7cf53 : Cond.static yJ9_min_7cf53 ∈ WL := tw_2 (k := 85) (by decide +kernel) (by decide +kernel)
theorem wM_X9_28 : Cond.methodLink RX9 28 arraycopyName ∈ WL := tw_2 (k := 87) (by decide +kernel) (by decide +kernel)
theorem wT_arraycopyName : Cond.static arraycopyName ∈ WL := tw_2 (k := 88) (by decide +kernel) (by decide +kernel)
theorem wV_arraycopyName : Cond.native arraycopyName ∈ WL := tw_2 (k := 89) (by decide +kernel) (by decide +kernel)
theorem wM_X2_35 : Cond.methodLink RX2 35 arraycopyName ∈ WL := tw_2 (k := 90) (by decide +kernel) (by decide +kernel)
theorem wM_X5_33 : Cond.methodLink RX5 33 yJ9_min_7cf53 ∈ WL := tw_2 (k := 91) (by decide +kernel) (by decide +kernel)
theorem wM_X11_282 : Cond.methodLink RX11 282 yX1_forget ∈ WL := tw_2 (k := 92) (by decide +kernel) (by decide +kernel)
theorem wI_yX1_forget : Cond.instanceMethod yX1_forget ∈ WL := tw_2 (k := 93) (by decide +kernel) (by decide +kernel)
theorem wS_yX1_forget : Cond.selects RX1 yX1_forget yX1_forget ∈ WL := tw_2 (k := 94) (by decide +kernel) (by decide +kernel)
theorem wM_X11_94 : Cond.methodLink RX11 94 yX2_insert ∈ WL := tw_2 (k := 96) (by decide +kernel) (by decide +kernel)
theorem wI_yX2_insert : Cond.instanceMethod yX2_insert ∈ WL := tw_2 (k := 97) (by decide +kernel) (by decide +kernel)
theorem wS_yX2_insert : Cond.selects RX2 yX2_insert yX2_insert ∈ WL := tw_2 (k := 98) (by decide +kernel) (by decide +kernel)
theorem wM_X2_57 : Cond.methodLink RX2 57 yX2_lastBlockUpTo ∈ WL := tw_2 (k := 100) (by decide +kernel) (by decide +kernel)
theorem wI_yX2_lastBlockUpTo : Cond.instanceMethod yX2_lastBlockUpTo ∈ WL := tw_2 (k := 101) (by decide +kernel) (by decide +kernel)
theorem wS_yX2_lastBlockUpTo : Cond.selects RX2 yX2_lastBlockUpTo yX2_lastBlockUpTo ∈ WL := tw_2 (k := 102) (by decide +kernel) (by decide +kernel)
theorem wM_X2_50 : Cond.methodLink RX2 50 yX2_startOf ∈ WL := tw_2 (k := 104) (by decide +kernel) (by decide +kernel)
theorem wI_yX2_startOf : Cond.instanceMethod yX2_startOf ∈ WL := tw_2 (k := 105) (by decide +kernel) (by decide +kernel)
theorem wS_yX2_startOf : Cond.selects RX2 yX2_startOf yX2_startOf ∈ WL := tw_2 (k := 106) (by decide +kernel) (by decide +kernel)
theorem wM_X2_54 : Cond.methodLink RX2 54 yX9_get ∈ WL := tw_2 (k := 108) (by decide +kernel) (by decide +kernel)
theorem wM_X2_44 : Cond.methodLink RX2 44 yJ9_max_7cf53 ∈ WL := tw_2 (k := 109) (by decide +kernel) (by decide +kernel)
theorem wM_X2_41 : Cond.methodLink RX2 41 yX2_startBlock ∈ WL := tw_2 (k := 110) (by decide +kernel) (by decide +kernel)
theorem wI_yX2_startBlock : Cond.instanceMethod yX2_startBlock ∈ WL := tw_2 (k := 111) (by decide +kernel) (by decide +kernel)
theorem wS_yX2_startBlock : Cond.selects RX2 yX2_startBlock yX2_startBlock ∈ WL := tw_2 (k := 112) (by decide +kernel) (by decide +kernel)
theorem wM_X2_60 : Cond.methodLink RX2 60 yX9_insert ∈ WL := tw_2 (k := 114) (by decide +kernel) (by decide +kernel)
theorem wI_yX9_insert : Cond.instanceMethod yX9_insert ∈ WL := tw_2 (k := 115) (by decide +kernel) (by decide +kernel)
theorem wS_yX9_insert : Cond.selects RX9 yX9_insert yX9_insert ∈ WL := tw_2 (k := 116) (by decide +kernel) (by decide +kernel)
theorem wM_X2_63 : Cond.methodLink RX2 63 yX2_moveStarts ∈ WL := tw_2 (k := 118) (by decide +kernel) (by decide +kernel)
theorem wI_yX2_moveStarts : Cond.instanceMethod yX2_moveStarts ∈ WL := tw_2 (k := 120) (by decide +kernel) (by decide +kernel)
theorem wM_X2_67 : Cond.methodLink RX2 67 yX2_split ∈ WL := tw_2 (k := 122) (by decide +kernel) (by decide +kernel)
theorem wI_yX2_split : Cond.instanceMethod yX2_split ∈ WL := tw_2 (k := 124) (by decide +kernel) (by decide +kernel)
theorem wM_L_18 : Cond.methodLink RL 18 yX11_remove ∈ WL := tw_2 (k := 126) (by decide +kernel) (by decide +kernel)
theorem wI_yX11_remove : Cond.instanceMethod yX11_remove ∈ WL := tw_2 (k := 127) (by decide +kernel) (by decide +kernel)
theorem wS_yX11_remove : Cond.selects RX11 yX11_remove yX11_remove ∈ WL := tw_2 (k := 128) (by decide +kernel) (by decide +kernel)
theorem wM_X11_98 : Cond.methodLink RX11 98 yX2_delete ∈ WL := tw_2 (k := 130) (by decide +kernel) (by decide +kernel)
theorem wI_yX2_delete : Cond.instanceMethod yX2_delete ∈ WL := tw_2 (k := 131) (by decide +kernel) (by decide +kernel)
theorem wS_yX2_delete : Cond.selects RX2 yX2_delete yX2_delete ∈ WL := tw_2 (k := 132) (by decide +kernel) (by decide +kernel)
theorem wM_X2_70 : Cond.methodLink RX2 70 yX9_delete ∈ WL := tw_2 (k := 134) (by decide +kernel) (by decide +kernel)
theorem wI_yX9_delete : Cond.instanceMethod yX9_delete ∈ WL := tw_2 (k := 135) (by decide +kernel) (by decide +kernel)
theorem wS_yX9_delete : Cond.selects RX9 yX9_delete yX9_delete ∈ WL := tw_2 (k := 136) (by decide +kernel) (by decide +kernel)
theorem wM_X2_73 : Cond.methodLink RX2 73 yX2_dropBlock ∈ WL := tw_2 (k := 138) (by decide +kernel) (by decide +kernel)
theorem wI_yX2_dropBlock : Cond.instanceMethod yX2_dropBlock ∈ WL := tw_2 (k := 140) (by decide +kernel) (by decide +kernel)
theorem wM_L_22 : Cond.methodLink RL 22 yX11_pack ∈ WL := tw_2 (k := 142) (by decide +kernel) (by decide +kernel)
theorem wI_yX11_pack : Cond.instanceMethod yX11_pack ∈ WL := tw_2 (k := 143) (by decide +kernel) (by decide +kernel)
theorem wS_yX11_pack : Cond.selects RX11 yX11_pack yX11_pack ∈ WL := tw_2 (k := 144) (by decide +kernel) (by decide +kernel)
theorem wM_X11_101 : Cond.methodLink RX11 101 yX11_isPacking ∈ WL := tw_2 (k := 146) (by decide +kernel) (by decide +kernel)
theorem wT_yX11_isPacking : Cond.static yX11_isPacking ∈ WL := tw_2 (k := 147) (by decide +kernel) (by decide +kernel)
theorem wM_X11_104 : Cond.methodLink RX11 104 yX8_cut ∈ WL := tw_2 (k := 149) (by decide +kernel) (by decide +kernel)
theorem wI_yX8_cut : Cond.instanceMethod yX8_cut ∈ WL := tw_2 (k := 150) (by decide +kernel) (by decide +kernel)
theorem wS_yX8_cut : Cond.selects RX8 yX8_cut yX8_cut ∈ WL := tw_2 (k := 151) (by decide +kernel) (by decide +kernel)
theorem wM_X8_27 : Cond.methodLink RX8 27 yX8_plan ∈ WL := tw_2 (k := 153) (by decide +kernel) (by decide +kernel)
theorem wI_yX8_plan : Cond.instanceMethod yX8_plan ∈ WL := tw_2 (k := 155) (by decide +kernel) (by decide +kernel)
theorem wM_X8_49 : Cond.methodLink RX8 49 yX8_widestOf ∈ WL := tw_2 (k := 157) (by decide +kernel) (by decide +kernel)
theorem wT_yX8_widestOf : Cond.static yX8_widestOf ∈ WL := tw_2 (k := 158) (by decide +kernel) (by decide +kernel)
theorem wM_X8_60 : Cond.methodLink RX8 60 yX9_gapBefore ∈ WL := tw_2 (k := 160) (by decide +kernel) (by decide +kernel)
theorem wI_yX9_gapBefore : Cond.instanceMethod yX9_gapBefore ∈ WL := tw_2 (k := 161) (by decide +kernel) (by decide +kernel)
theorem wS_yX9_gapBefore : Cond.selects RX9 yX9_gapBefore yX9_gapBefore ∈ WL := tw_2 (k := 162) (by decide +kernel) (by decide +kernel)
theorem wT_yX11_bitsOf : Cond.static yX11_bitsOf ∈ WL := tw_2 (k := 165) (by decide +kernel) (by decide +kernel)
theorem wM_X8_70 : Cond.methodLink RX8 70 yJ9_max_7cf53 ∈ WL := tw_2 (k := 167) (by decide +kernel) (by decide +kernel)
theorem wM_X8_53 : Cond.methodLink RX8 53 yX10_makeEmpty ∈ WL := tw_2 (k := 168) (by decide +kernel) (by decide +kernel)
theorem wI_yX10_makeEmpty : Cond.instanceMethod yX10_makeEmpty ∈ WL := tw_2 (k := 169) (by decide +kernel) (by decide +kernel)
theorem wS_yX10_makeEmpty : Cond.selects RX10 yX10_makeEmpty yX10_makeEmpty ∈ WL := tw_2 (k := 170) (by decide +kernel) (by decide +kernel)
theorem wM_X8_56 : Cond.methodLink RX8 56 yX8_chooseEnd ∈ WL := tw_2 (k := 172) (by decide +kernel) (by decide +kernel)
theorem wI_yX8_chooseEnd : Cond.instanceMethod yX8_chooseEnd ∈ WL := tw_2 (k := 174) (by decide +kernel) (by decide +kernel)
theorem wK_X8_78 : Cond.constant RX8 78 (2147483647) ∈ WL := tw_2 (k := 176) (by decide +kernel) (by decide +kernel)
theorem wM_X8_79 : Cond.methodLink RX8 79 yX10_admit ∈ WL := tw_2 (k := 177) (by decide +kernel) (by decide +kernel)
theorem wI_yX10_admit : Cond.instanceMethod yX10_admit ∈ WL := tw_2 (k := 178) (by decide +kernel) (by decide +kernel)
theorem wS_yX10_admit : Cond.selects RX10 yX10_admit yX10_admit ∈ WL := tw_2 (k := 179) (by decide +kernel) (by decide +kernel)
theorem wM_X10_33 : Cond.methodLink RX10 33 yX10_slot ∈ WL := tw_2 (k := 181) (by decide +kernel) (by decide +kernel)
theorem wI_yX10_slot : Cond.instanceMethod yX10_slot ∈ WL := tw_2 (k := 183) (by decide +kernel) (by decide +kernel)
theorem wM_X8_82 : Cond.methodLink RX8 82 yX10_leastRank ∈ WL := tw_2 (k := 185) (by decide +kernel) (by decide +kernel)
theorem wI_yX10_leastRank : Cond.instanceMethod yX10_leastRank ∈ WL := tw_2 (k := 186) (by decide +kernel) (by decide +kernel)
theorem wS_yX10_leastRank : Cond.selects RX10 yX10_leastRank yX10_leastRank ∈ WL := tw_2 (k := 187) (by decide +kernel) (by decide +kernel)
theorem wM_X8_86 : Cond.methodLink RX8 86 yX10_endOfLeast ∈ WL := tw_2 (k := 189) (by decide +kernel) (by decide +kernel)
theorem wI_yX10_endOfLeast : Cond.instanceMethod yX10_endOfLeast ∈ WL := tw_2 (k := 190) (by decide +kernel) (by decide +kernel)
theorem wS_yX10_endOfLeast : Cond.selects RX10 yX10_endOfLeast yX10_endOfLeast ∈ WL := tw_2 (k := 191) (by decide +kernel) (by decide +kernel)
theorem wM_X8_67 : Cond.methodLink RX8 67 yX8_passGap ∈ WL := tw_2 (k := 193) (by decide +kernel) (by decide +kernel)
theorem wI_yX8_passGap : Cond.instanceMethod yX8_passGap ∈ WL := tw_2 (k := 195) (by decide +kernel) (by decide +kernel)
theorem wM_X8_89 : Cond.methodLink RX8 89 yX10_passGap ∈ WL := tw_2 (k := 197) (by decide +kernel) (by decide +kernel)
theorem wI_yX10_passGap : Cond.instanceMethod yX10_passGap ∈ WL := tw_2 (k := 198) (by decide +kernel) (by decide +kernel)
theorem wS_yX10_passGap : Cond.selects RX10 yX10_passGap yX10_passGap ∈ WL := tw_2 (k := 199) (by decide +kernel) (by decide +kernel)
theorem wM_X8_46 : Cond.methodLink RX8 46 yX2_startBlock ∈ WL := tw_2 (k := 201) (by decide +kernel) (by decide +kernel)
theorem wM_X11_108 : Cond.methodLink RX11 108 yX2_cutBy ∈ WL := tw_2 (k := 202) (by decide +kernel) (by decide +kernel)
theorem wI_yX2_cutBy : Cond.instanceMethod yX2_cutBy ∈ WL := tw_2 (k := 203) (by decide +kernel) (by decide +kernel)
theorem wS_yX2_cutBy : Cond.selects RX2 yX2_cutBy yX2_cutBy ∈ WL := tw_2 (k := 204) (by decide +kernel) (by decide +kernel)
theorem wM_X11_111 : Cond.methodLink RX11 111 yX11_sumOfBlocks ∈ WL := tw_2 (k := 206) (by decide +kernel) (by decide +kernel)
theorem wI_yX11_sumOfBlocks : Cond.instanceMethod yX11_sumOfBlocks ∈ WL := tw_2 (k := 208) (by decide +kernel) (by decide +kernel)
theorem wM_X11_157 : Cond.methodLink RX11 157 yX11_measured ∈ WL := tw_2 (k := 210) (by decide +kernel) (by decide +kernel)
theorem wI_yX11_measured : Cond.instanceMethod yX11_measured ∈ WL := tw_2 (k := 212) (by decide +kernel) (by decide +kernel)
theorem wM_X11_289 : Cond.methodLink RX11 289 yX2_startOf ∈ WL := tw_2 (k := 214) (by decide +kernel) (by decide +kernel)
theorem wM_X11_195 : Cond.methodLink RX11 195 yX0_measure ∈ WL := tw_2 (k := 215) (by decide +kernel) (by decide +kernel)
theorem wI_yX0_measure : Cond.instanceMethod yX0_measure ∈ WL := tw_2 (k := 216) (by decide +kernel) (by decide +kernel)
theorem wS_yX0_measure : Cond.selects RX0 yX0_measure yX0_measure ∈ WL := tw_2 (k := 217) (by decide +kernel) (by decide +kernel)
theorem wM_X0_26 : Cond.methodLink RX0 26 yJ7_fill_53178 ∈ WL := tw_2 (k := 219) (by decide +kernel) (by decide +kernel)
theorem wT_yJ7_fill_53178 : Cond.static yJ7_fill_53178 ∈ WL := tw_2 (k := 220) (by decide +kernel) (by decide +kernel)
theorem wM_X0_32 : Cond.methodLink RX0 32 yX9_gapBefore ∈ WL := tw_2 (k := 222) (by decide +kernel) (by decide +kernel)
theorem wM_X0_41 : Cond.methodLink RX0 41 yJ9_max_7cf53 ∈ WL := tw_2 (k := 224) (by decide +kernel) (by decide +kernel)
theorem wM_X0_47 : Cond.methodLink RX0 47 yX0_chooseWidth ∈ WL := tw_2 (k := 225) (by decide +kernel) (by decide +kernel)
theorem wI_yX0_chooseWidth : Cond.instanceMethod yX0_chooseWidth ∈ WL := tw_2 (k := 227) (by decide +kernel) (by decide +kernel)
theorem wM_X0_57 : Cond.methodLink RX0 57 yX0_costWith ∈ WL := tw_2 (k := 229) (by decide +kernel) (by decide +kernel)
theorem wI_yX0_costWith : Cond.instanceMethod yX0_costWith ∈ WL := tw_2 (k := 231) (by decide +kernel) (by decide +kernel)
theorem wM_X11_161 : Cond.methodLink RX11 161 yX0_property ∈ WL := tw_2 (k := 233) (by decide +kernel) (by decide +kernel)
theorem wI_yX0_property : Cond.instanceMethod yX0_property ∈ WL := tw_2 (k := 234) (by decide +kernel) (by decide +kernel)
theorem wS_yX0_property : Cond.selects RX0 yX0_property yX0_property ∈ WL := tw_2 (k := 235) (by decide +kernel) (by decide +kernel)
theorem wM_X0_63 : Cond.methodLink RX0 63 yX9_get ∈ WL := tw_2 (k := 237) (by decide +kernel) (by decide +kernel)
theorem wM_X0_66 : Cond.methodLink RX0 66 yX0_words ∈ WL := tw_2 (k := 238) (by decide +kernel) (by decide +kernel)
theorem wI_yX0_words : Cond.instanceMethod yX0_words ∈ WL := tw_2 (k := 239) (by decide +kernel) (by decide +kernel)
theorem wS_yX0_words : Cond.selects RX0 yX0_words yX0_words ∈ WL := tw_3 (k := 0) (by decide +kernel) (by decide +kernel)
theorem wM_L_26 : Cond.methodLink RL 26 yX11_load ∈ WL := tw_3 (k := 2) (by decide +kernel) (by decide +kernel)
theorem wI_yX11_load : Cond.instanceMethod yX11_load ∈ WL := tw_3 (k := 3) (by decide +kernel) (by decide +kernel)
theorem wS_yX11_load : Cond.selects RX11 yX11_load yX11_load ∈ WL := tw_3 (k := 4) (by decide +kernel) (by decide +kernel)
theorem wM_X11_115 : Cond.methodLink RX11 115 yX7_read ∈ WL := tw_3 (k := 6) (by decide +kernel) (by decide +kernel)
theorem wI_yX7_read : Cond.instanceMethod yX7_read ∈ WL := tw_3 (k := 7) (by decide +kernel) (by decide +kernel)
theorem wS_yX7_read : Cond.selects RX7 yX7_read yX7_read ∈ WL := tw_3 (k := 8) (by decide +kernel) (by decide +kernel)
theorem wM_X7_30 : Cond.methodLink RX7 30 yX7_skipBlanks ∈ WL := tw_3 (k := 10) (by decide +kernel) (by decide +kernel)
theorem wI_yX7_skipBlanks : Cond.instanceMethod yX7_skipBlanks ∈ WL := tw_3 (k := 12) (by decide +kernel) (by decide +kernel)
theorem wM_X7_37 : Cond.methodLink RX7 37 yX9_get ∈ WL := tw_3 (k := 14) (by decide +kernel) (by decide +kernel)
theorem wM_X7_33 : Cond.methodLink RX7 33 yX7_readPart ∈ WL := tw_3 (k := 15) (by decide +kernel) (by decide +kernel)
theorem wI_yX7_readPart : Cond.instanceMethod yX7_readPart ∈ WL := tw_3 (k := 17) (by decide +kernel) (by decide +kernel)
theorem wM_X7_46 : Cond.methodLink RX7 46 yX7_readNumber ∈ WL := tw_3 (k := 19) (by decide +kernel) (by decide +kernel)
theorem wI_yX7_readNumber : Cond.instanceMethod yX7_readNumber ∈ WL := tw_3 (k := 21) (by decide +kernel) (by decide +kernel)
theorem wM_X7_52 : Cond.methodLink RX7 52 yX7_isDigit ∈ WL := tw_3 (k := 23) (by decide +kernel) (by decide +kernel)
theorem wT_yX7_isDigit : Cond.static yX7_isDigit ∈ WL := tw_3 (k := 24) (by decide +kernel) (by decide +kernel)
theorem wM_X7_43 : Cond.methodLink RX7 43 yX7_stepOver ∈ WL := tw_3 (k := 26) (by decide +kernel) (by decide +kernel)
theorem wI_yX7_stepOver : Cond.instanceMethod yX7_stepOver ∈ WL := tw_3 (k := 28) (by decide +kernel) (by decide +kernel)
theorem wM_X7_49 : Cond.methodLink RX7 49 yX9_append ∈ WL := tw_3 (k := 30) (by decide +kernel) (by decide +kernel)
theorem wI_yX9_append : Cond.instanceMethod yX9_append ∈ WL := tw_3 (k := 31) (by decide +kernel) (by decide +kernel)
theorem wS_yX9_append : Cond.selects RX9 yX9_append yX9_append ∈ WL := tw_3 (k := 32) (by decide +kernel) (by decide +kernel)
theorem wM_X11_120 : Cond.methodLink RX11 120 yX11_replaceNumbers ∈ WL := tw_3 (k := 34) (by decide +kernel) (by decide +kernel)
theorem wI_yX11_replaceNumbers : Cond.instanceMethod yX11_replaceNumbers ∈ WL := tw_3 (k := 36) (by decide +kernel) (by decide +kernel)
theorem wM_X11_285 : Cond.methodLink RX11 285 yX9_copyFrom ∈ WL := tw_3 (k := 38) (by decide +kernel) (by decide +kernel)
theorem wM_L_31 : Cond.methodLink RL 31 yX11_store ∈ WL := tw_3 (k := 39) (by decide +kernel) (by decide +kernel)
theorem wI_yX11_store : Cond.instanceMethod yX11_store ∈ WL := tw_3 (k := 40) (by decide +kernel) (by decide +kernel)
theorem wS_yX11_store : Cond.selects RX11 yX11_store yX11_store ∈ WL := tw_3 (k := 41) (by decide +kernel) (by decide +kernel)
theorem wM_L_35 : Cond.methodLink RL 35 yX11_clear ∈ WL := tw_3 (k := 43) (by decide +kernel) (by decide +kernel)
theorem wI_yX11_clear : Cond.instanceMethod yX11_clear ∈ WL := tw_3 (k := 44) (by decide +kernel) (by decide +kernel)
theorem wS_yX11_clear : Cond.selects RX11 yX11_clear yX11_clear ∈ WL := tw_3 (k := 45) (by decide +kernel) (by decide +kernel)
theorem wM_X11_133 : Cond.methodLink RX11 133 yX2_makeEmpty ∈ WL := tw_3 (k := 47) (by decide +kernel) (by decide +kernel)
theorem wI_yX2_makeEmpty : Cond.instanceMethod yX2_makeEmpty ∈ WL := tw_3 (k := 48) (by decide +kernel) (by decide +kernel)
theorem wS_yX2_makeEmpty : Cond.selects RX2 yX2_makeEmpty yX2_makeEmpty ∈ WL := tw_3 (k := 49) (by decide +kernel) (by decide +kernel)
theorem wM_L_39 : Cond.methodLink RL 39 yX11_undo ∈ WL := tw_3 (k := 51) (by decide +kernel) (by decide +kernel)
theorem wI_yX11_undo : Cond.instanceMethod yX11_undo ∈ WL := tw_3 (k := 52) (by decide +kernel) (by decide +kernel)
theorem wS_yX11_undo : Cond.selects RX11 yX11_undo yX11_undo ∈ WL := tw_3 (k := 53) (by decide +kernel) (by decide +kernel)
theorem wM_X11_137 : Cond.methodLink RX11 137 yX5_restoreLatest ∈ WL := tw_3 (k := 55) (by decide +kernel) (by decide +kernel)
theorem wI_yX5_restoreLatest : Cond.instanceMethod yX5_restoreLatest ∈ WL := tw_3 (k := 56) (by decide +kernel) (by decide +kernel)
theorem wS_yX5_restoreLatest : Cond.selects RX5 yX5_restoreLatest yX5_restoreLatest ∈ WL := tw_3 (k := 57) (by decide +kernel) (by decide +kernel)
theorem wM_X11_141 : Cond.methodLink RX11 141 yX1_forgetAll ∈ WL := tw_3 (k := 59) (by decide +kernel) (by decide +kernel)
theorem wI_yX1_forgetAll : Cond.instanceMethod yX1_forgetAll ∈ WL := tw_3 (k := 60) (by decide +kernel) (by decide +kernel)
theorem wS_yX1_forgetAll : Cond.selects RX1 yX1_forgetAll yX1_forgetAll ∈ WL := tw_3 (k := 61) (by decide +kernel) (by decide +kernel)
theorem wM_L_44 : Cond.methodLink RL 44 yX11_type ∈ WL := tw_3 (k := 63) (by decide +kernel) (by decide +kernel)
theorem wI_yX11_type : Cond.instanceMethod yX11_type ∈ WL := tw_3 (k := 64) (by decide +kernel) (by decide +kernel)
theorem wS_yX11_type : Cond.selects RX11 yX11_type yX11_type ∈ WL := tw_3 (k := 65) (by decide +kernel) (by decide +kernel)
theorem wM_X11_144 : Cond.methodLink RX11 144 yX9_append ∈ WL := tw_3 (k := 67) (by decide +kernel) (by decide +kernel)
theorem wM_L_48 : Cond.methodLink RL 48 yX11_erase ∈ WL := tw_3 (k := 68) (by decide +kernel) (by decide +kernel)
theorem wI_yX11_erase : Cond.instanceMethod yX11_erase ∈ WL := tw_3 (k := 69) (by decide +kernel) (by decide +kernel)
theorem wS_yX11_erase : Cond.selects RX11 yX11_erase yX11_erase ∈ WL := tw_3 (k := 70) (by decide +kernel) (by decide +kernel)
theorem wM_L_52 : Cond.methodLink RL 52 yX11_list ∈ WL := tw_3 (k := 72) (by decide +kernel) (by decide +kernel)
theorem wI_yX11_list : Cond.instanceMethod yX11_list ∈ WL := tw_3 (k := 73) (by decide +kernel) (by decide +kernel)
theorem wS_yX11_list : Cond.selects RX11 yX11_list yX11_list ∈ WL := tw_3 (k := 74) (by decide +kernel) (by decide +kernel)
theorem wM_X11_150 : Cond.methodLink RX11 150 yX9_get ∈ WL := tw_3 (k := 76) (by decide +kernel) (by decide +kernel)
theorem wM_L_56 : Cond.methodLink RL 56 yX11_block ∈ WL := tw_3 (k := 77) (by decide +kernel) (by decide +kernel)
theorem wI_yX11_block : Cond.instanceMethod yX11_block ∈ WL := tw_3 (k := 78) (by decide +kernel) (by decide +kernel)
theorem wS_yX11_block : Cond.selects RX11 yX11_block yX11_block ∈ WL := tw_3 (k := 79) (by decide +kernel) (by decide +kernel)
theorem wM_X11_153 : Cond.methodLink RX11 153 yX11_isBlock ∈ WL := tw_3 (k := 81) (by decide +kernel) (by decide +kernel)
theorem wI_yX11_isBlock : Cond.instanceMethod yX11_isBlock ∈ WL := tw_3 (k := 83) (by decide +kernel) (by decide +kernel)
theorem wM_L_61 : Cond.methodLink RL 61 yX11_word ∈ WL := tw_3 (k := 85) (by decide +kernel) (by decide +kernel)
theorem wI_yX11_word : Cond.instanceMethod yX11_word ∈ WL := tw_3 (k := 86) (by decide +kernel) (by decide +kernel)
theorem wS_yX11_word : Cond.selects RX11 yX11_word yX11_word ∈ WL := tw_3 (k := 87) (by decide +kernel) (by decide +kernel)
theorem wK_X11_164 : Cond.constantLong RX11 164 (-2) ∈ WL := tw_3 (k := 89) (by decide +kernel) (by decide +kernel)
theorem wM_X11_166 : Cond.methodLink RX11 166 yX0_words ∈ WL := tw_3 (k := 90) (by decide +kernel) (by decide +kernel)
theorem wM_X11_170 : Cond.methodLink RX11 170 yX0_wordAt ∈ WL := tw_3 (k := 91) (by decide +kernel) (by decide +kernel)
theorem wI_yX0_wordAt : Cond.instanceMethod yX0_wordAt ∈ WL := tw_3 (k := 92) (by decide +kernel) (by decide +kernel)
theorem wS_yX0_wordAt : Cond.selects RX0 yX0_wordAt yX0_wordAt ∈ WL := tw_3 (k := 93) (by decide +kernel) (by decide +kernel)
theorem wK_X0_70 : Cond.constantLong RX0 70 (4294967295) ∈ WL := tw_3 (k := 95) (by decide +kernel) (by decide +kernel)
theorem wM_L_66 : Cond.methodLink RL 66 yX11_exception ∈ WL := tw_3 (k := 96) (by decide +kernel) (by decide +kernel)
theorem wI_yX11_exception : Cond.instanceMethod yX11_exception ∈ WL := tw_3 (k := 97) (by decide +kernel) (by decide +kernel)
theorem wS_yX11_exception : Cond.selects RX11 yX11_exception yX11_exception ∈ WL := tw_3 (k := 98) (by decide +kernel) (by decide +kernel)
theorem wM_X11_177 : Cond.methodLink RX11 177 yX0_highPart ∈ WL := tw_3 (k := 100) (by decide +kernel) (by decide +kernel)
theorem wI_yX0_highPart : Cond.instanceMethod yX0_highPart ∈ WL := tw_3 (k := 101) (by decide +kernel) (by decide +kernel)
theorem wS_yX0_highPart : Cond.selects RX0 yX0_highPart yX0_highPart ∈ WL := tw_3 (k := 102) (by decide +kernel) (by decide +kernel)
theorem wM_L_71 : Cond.methodLink RL 71 yX11_gaps ∈ WL := tw_3 (k := 104) (by decide +kernel) (by decide +kernel)
theorem wI_yX11_gaps : Cond.instanceMethod yX11_gaps ∈ WL := tw_3 (k := 105) (by decide +kernel) (by decide +kernel)
theorem wS_yX11_gaps : Cond.selects RX11 yX11_gaps yX11_gaps ∈ WL := tw_3 (k := 106) (by decide +kernel) (by decide +kernel)
theorem wM_X11_180 : Cond.methodLink RX11 180 yX9_gapBefore ∈ WL := tw_3 (k := 108) (by decide +kernel) (by decide +kernel)
theorem wM_X11_183 : Cond.methodLink RX11 183 yX11_bitsOf ∈ WL := tw_3 (k := 109) (by decide +kernel) (by decide +kernel)
theorem wM_L_75 : Cond.methodLink RL 75 yX11_costBy ∈ WL := tw_3 (k := 110) (by decide +kernel) (by decide +kernel)
theorem wI_yX11_costBy : Cond.instanceMethod yX11_costBy ∈ WL := tw_3 (k := 111) (by decide +kernel) (by decide +kernel)
theorem wS_yX11_costBy : Cond.selects RX11 yX11_costBy yX11_costBy ∈ WL := tw_3 (k := 112) (by decide +kernel) (by decide +kernel)
theorem wM_X11_186 : Cond.methodLink RX11 186 yX8_leastCost ∈ WL := tw_3 (k := 114) (by decide +kernel) (by decide +kernel)
theorem wI_yX8_leastCost : Cond.instanceMethod yX8_leastCost ∈ WL := tw_3 (k := 115) (by decide +kernel) (by decide +kernel)
theorem wS_yX8_leastCost : Cond.selects RX8 yX8_leastCost yX8_leastCost ∈ WL := tw_3 (k := 116) (by decide +kernel) (by decide +kernel)
theorem wM_X11_189 : Cond.methodLink RX11 189 yJ9_min_7cf53 ∈ WL := tw_3 (k := 118) (by decide +kernel) (by decide +kernel)
theorem wM_L_79 : Cond.methodLink RL 79 yX11_part ∈ WL := tw_3 (k := 119) (by decide +kernel) (by decide +kernel)
theorem wI_yX11_part : Cond.instanceMethod yX11_part ∈ WL := tw_3 (k := 120) (by decide +kernel) (by decide +kernel)
theorem wS_yX11_part : Cond.selects RX11 yX11_part yX11_part ∈ WL := tw_3 (k := 121) (by decide +kernel) (by decide +kernel)
theorem wM_L_83 : Cond.methodLink RL 83 yX11_at ∈ WL := tw_3 (k := 123) (by decide +kernel) (by decide +kernel)
theorem wI_yX11_at : Cond.instanceMethod yX11_at ∈ WL := tw_3 (k := 124) (by decide +kernel) (by decide +kernel)
theorem wS_yX11_at : Cond.selects RX11 yX11_at yX11_at ∈ WL := tw_3 (k := 125) (by decide +kernel) (by decide +kernel)
theorem wM_X11_208 : Cond.methodLink RX11 208 yX2_lastBlockUpTo ∈ WL := tw_3 (k := 127) (by decide +kernel) (by decide +kernel)
theorem wM_X11_211 : Cond.methodLink RX11 211 yX1_look ∈ WL := tw_3 (k := 128) (by decide +kernel) (by decide +kernel)
theorem wI_yX1_look : Cond.instanceMethod yX1_look ∈ WL := tw_3 (k := 129) (by decide +kernel) (by decide +kernel)
theorem wS_yX1_look : Cond.selects RX1 yX1_look yX1_look ∈ WL := tw_3 (k := 130) (by decide +kernel) (by decide +kernel)
theorem wM_X1_22 : Cond.methodLink RX1 22 yX1_placeOf ∈ WL := tw_3 (k := 132) (by decide +kernel) (by decide +kernel)
theorem wI_yX1_placeOf : Cond.instanceMethod yX1_placeOf ∈ WL := tw_3 (k := 133) (by decide +kernel) (by decide +kernel)
theorem wS_yX1_placeOf : Cond.selects RX1 yX1_placeOf yX1_placeOf ∈ WL := tw_3 (k := 134) (by decide +kernel) (by decide +kernel)
theorem wM_X1_32 : Cond.methodLink RX1 32 yJ9_min_7cf53 ∈ WL := tw_3 (k := 136) (by decide +kernel) (by decide +kernel)
theorem wM_X1_37 : Cond.methodLink RX1 37 arraycopyName ∈ WL := tw_3 (k := 137) (by decide +kernel) (by decide +kernel)
theorem wM_L_87 : Cond.methodLink RL 87 yX11_find ∈ WL := tw_3 (k := 138) (by decide +kernel) (by decide +kernel)
theorem wI_yX11_find : Cond.instanceMethod yX11_find ∈ WL := tw_3 (k := 139) (by decide +kernel) (by decide +kernel)
theorem wS_yX11_find : Cond.selects RX11 yX11_find yX11_find ∈ WL := tw_3 (k := 140) (by decide +kernel) (by decide +kernel)
theorem wM_X11_215 : Cond.methodLink RX11 215 yX9_firstAtLeast ∈ WL := tw_3 (k := 142) (by decide +kernel) (by decide +kernel)
theorem wM_L_91 : Cond.methodLink RL 91 yX11_cached ∈ WL := tw_3 (k := 143) (by decide +kernel) (by decide +kernel)
theorem wI_yX11_cached : Cond.instanceMethod yX11_cached ∈ WL := tw_3 (k := 144) (by decide +kernel) (by decide +kernel)
theorem wS_yX11_cached : Cond.selects RX11 yX11_cached yX11_cached ∈ WL := tw_3 (k := 145) (by decide +kernel) (by decide +kernel)
theorem wM_X11_218 : Cond.methodLink RX11 218 yX1_placeOf ∈ WL := tw_3 (k := 147) (by decide +kernel) (by decide +kernel)
theorem wM_L_95 : Cond.methodLink RL 95 yX11_query ∈ WL := tw_3 (k := 148) (by decide +kernel) (by decide +kernel)
theorem wI_yX11_query : Cond.instanceMethod yX11_query ∈ WL := tw_3 (k := 149) (by decide +kernel) (by decide +kernel)
theorem wS_yX11_query : Cond.selects RX11 yX11_query yX11_query ∈ WL := tw_3 (k := 150) (by decide +kernel) (by decide +kernel)
theorem wM_X11_221 : Cond.methodLink RX11 221 yX3_read ∈ WL := tw_3 (k := 152) (by decide +kernel) (by decide +kernel)
theorem wI_yX3_read : Cond.instanceMethod yX3_read ∈ WL := tw_3 (k := 153) (by decide +kernel) (by decide +kernel)
theorem wS_yX3_read : Cond.selects RX3 yX3_read yX3_read ∈ WL := tw_3 (k := 154) (by decide +kernel) (by decide +kernel)
theorem wM_X3_34 : Cond.methodLink RX3 34 yX9_get ∈ WL := tw_3 (k := 156) (by decide +kernel) (by decide +kernel)
theorem wM_X3_38 : Cond.methodLink RX3 38 yX3_take ∈ WL := tw_3 (k := 157) (by decide +kernel) (by decide +kernel)
theorem wI_yX3_take : Cond.instanceMethod yX3_take ∈ WL := tw_3 (k := 159) (by decide +kernel) (by decide +kernel)
theorem wM_X3_45 : Cond.methodLink RX3 45 yX3_takeFactor ∈ WL := tw_3 (k := 161) (by decide +kernel) (by decide +kernel)
theorem wI_yX3_takeFactor : Cond.instanceMethod yX3_takeFactor ∈ WL := tw_3 (k := 163) (by decide +kernel) (by decide +kernel)
theorem wM_X3_51 : Cond.methodLink RX3 51 yX9_append ∈ WL := tw_3 (k := 165) (by decide +kernel) (by decide +kernel)
theorem wM_X3_48 : Cond.methodLink RX3 48 yX3_takeSign ∈ WL := tw_3 (k := 166) (by decide +kernel) (by decide +kernel)
theorem wI_yX3_takeSign : Cond.instanceMethod yX3_takeSign ∈ WL := tw_3 (k := 168) (by decide +kernel) (by decide +kernel)
theorem wM_X3_42 : Cond.methodLink RX3 42 yX3_releaseFrom ∈ WL := tw_3 (k := 170) (by decide +kernel) (by decide +kernel)
theorem wI_yX3_releaseFrom : Cond.instanceMethod yX3_releaseFrom ∈ WL := tw_3 (k := 172) (by decide +kernel) (by decide +kernel)
theorem wM_X3_54 : Cond.methodLink RX3 54 yX3_strengthOf ∈ WL := tw_3 (k := 174) (by decide +kernel) (by decide +kernel)
theorem wT_yX3_strengthOf : Cond.static yX3_strengthOf ∈ WL := tw_3 (k := 175) (by decide +kernel) (by decide +kernel)
theorem wL_X11_129 : Cond.classLink RX11 129 RX6 ∈ WL := tw_3 (k := 177) (by decide +kernel) (by decide +kernel)
theorem wA_X6 : Cond.instantiable RX6 8 ∈ WL := tw_3 (k := 178) (by decide +kernel) (by decide +kernel)
theorem wI_yX6_init : Cond.instanceMethod yX6_init ∈ WL := tw_3 (k := 180) (by decide +kernel) (by decide +kernel)
theorem wM_X6_3 : Cond.methodLink RX6 3 objectInit ∈ WL := tw_3 (k := 182) (by decide +kernel) (by decide +kernel)
theorem wL_X6_9 : Cond.classLink RX6 9 RX4 ∈ WL := tw_3 (k := 183) (by decide +kernel) (by decide +kernel)
theorem wL_X6_18 : Cond.classLink RX6 18 RX9 ∈ WL := tw_3 (k := 185) (by decide +kernel) (by decide +kernel)
theorem wM_X6_20 : Cond.methodLink RX6 20 yX9_init ∈ WL := tw_3 (k := 186) (by decide +kernel) (by decide +kernel)
theorem wF_X6_12 : Cond.fieldLink RX6 12 "PackedLists$Joiner" "galloper" "LPackedLists$Galloper;" ∈ WL := tw_3 (k := 187) (by decide +kernel) (by decide +kernel)
theorem wF_X11_250 : Cond.fieldLink RX11 250 "PackedLists$Joiner" "galloper" "LPackedLists$Galloper;" ∈ WL := tw_3 (k := 188) (by decide +kernel) (by decide +kernel)
theorem wF_X6_23 : Cond.fieldLink RX6 23 "PackedLists$Joiner" "result" "LPackedLists$Row;" ∈ WL := tw_3 (k := 189) (by decide +kernel) (by decide +kernel)
theorem wF_X11_128 : Cond.fieldLink RX11 128 "PackedLists$Joiner" "result" "LPackedLists$Row;" ∈ WL := tw_3 (k := 190) (by decide +kernel) (by decide +kernel)
theorem wF_X6_27 : Cond.fieldLink RX6 27 "PackedLists$Joiner" "all" "LPackedLists$Row;" ∈ WL := tw_3 (k := 191) (by decide +kernel) (by decide +kernel)
theorem wF_X6_30 : Cond.fieldLink RX6 30 "PackedLists$Joiner" "sets" "[I" ∈ WL := tw_3 (k := 192) (by decide +kernel) (by decide +kernel)
theorem wF_X6_34 : Cond.fieldLink RX6 34 "PackedLists$Joiner" "left" "LPackedLists$Row;" ∈ WL := tw_3 (k := 193) (by decide +kernel) (by decide +kernel)
theorem wF_X6_37 : Cond.fieldLink RX6 37 "PackedLists$Joiner" "right" "LPackedLists$Row;" ∈ WL := tw_3 (k := 194) (by decide +kernel) (by decide +kernel)
theorem wF_X6_40 : Cond.fieldLink RX6 40 "PackedLists$Joiner" "sides" "[J" ∈ WL := tw_3 (k := 195) (by decide +kernel) (by decide +kernel)
theorem wF_X6_44 : Cond.fieldLink RX6 44 "PackedLists$Joiner" "cursors" "[I" ∈ WL := tw_3 (k := 196) (by decide +kernel) (by decide +kernel)
theorem wR_long : Cond.arrayClass .long ∈ WL := tw_3 (k := 214) (by decide +kernel) (by decide +kernel)
theorem wM_X11_226 : Cond.methodLink RX11 226 yX6_carryOut ∈ WL := tw_3 (k := 215) (by decide +kernel) (by decide +kernel)
theorem wI_yX6_carryOut : Cond.instanceMethod yX6_carryOut ∈ WL := tw_3 (k := 216) (by decide +kernel) (by decide +kernel)
theorem wS_yX6_carryOut : Cond.selects RX6 yX6_carryOut yX6_carryOut ∈ WL := tw_3 (k := 217) (by decide +kernel) (by decide +kernel)
theorem wM_X6_47 : Cond.methodLink RX6 47 yX6_gatherAll ∈ WL := tw_3 (k := 219) (by decide +kernel) (by decide +kernel)
theorem wI_yX6_gatherAll : Cond.instanceMethod yX6_gatherAll ∈ WL := tw_3 (k := 221) (by decide +kernel) (by decide +kernel)
theorem wM_X6_82 : Cond.methodLink RX6 82 yJ7_fill_53178 ∈ WL := tw_3 (k := 223) (by decide +kernel) (by decide +kernel)
theorem wM_X6_88 : Cond.methodLink RX6 88 yX6_leastAtCursors ∈ WL := tw_3 (k := 224) (by decide +kernel) (by decide +kernel)
theorem wI_yX6_leastAtCursors : Cond.instanceMethod yX6_leastAtCursors ∈ WL := tw_3 (k := 226) (by decide +kernel) (by decide +kernel)
theorem wK_X6_97 : Cond.constant RX6 97 (1000000) ∈ WL := tw_3 (k := 228) (by decide +kernel) (by decide +kernel)
theorem wM_X6_58 : Cond.methodLink RX6 58 yX9_get ∈ WL := tw_3 (k := 229) (by decide +kernel) (by decide +kernel)
theorem wM_X6_103 : Cond.methodLink RX6 103 yJ9_min_7cf53 ∈ WL := tw_3 (k := 230) (by decide +kernel) (by decide +kernel)
theorem wK_X6_92 : Cond.constant RX6 92 (999999) ∈ WL := tw_3 (k := 231) (by decide +kernel) (by decide +kernel)
theorem wM_X6_79 : Cond.methodLink RX6 79 yX9_append ∈ WL := tw_3 (k := 232) (by decide +kernel) (by decide +kernel)
theorem wM_X6_93 : Cond.methodLink RX6 93 yX6_passCursors ∈ WL := tw_3 (k := 233) (by decide +kernel) (by decide +kernel)
theorem wI_yX6_passCursors : Cond.instanceMethod yX6_passCursors ∈ WL := tw_3 (k := 235) (by decide +kernel) (by decide +kernel)
theorem wF_X6_62 : Cond.fieldLink RX6 62 "PackedLists$Joiner" "TABLES" "[J" ∈ WL := tw_3 (k := 237) (by decide +kernel) (by decide +kernel)
theorem wM_X6_65 : Cond.methodLink RX6 65 yX6_join ∈ WL := tw_3 (k := 239) (by decide +kernel) (by decide +kernel)
theorem wI_yX6_join : Cond.instanceMethod yX6_join ∈ WL := tw_4 (k := 1) (by decide +kernel) (by decide +kernel)
theorem wK_X6_73 : Cond.constantLong RX6 73 (-1) ∈ WL := tw_4 (k := 3) (by decide +kernel) (by decide +kernel)
theorem wM_X6_69 : Cond.methodLink RX6 69 yX6_makeRow ∈ WL := tw_4 (k := 4) (by decide +kernel) (by decide +kernel)
theorem wI_yX6_makeRow : Cond.instanceMethod yX6_makeRow ∈ WL := tw_4 (k := 6) (by decide +kernel) (by decide +kernel)
theorem wM_X6_75 : Cond.methodLink RX6 75 yX4_intersect ∈ WL := tw_4 (k := 8) (by decide +kernel) (by decide +kernel)
theorem wI_yX4_intersect : Cond.instanceMethod yX4_intersect ∈ WL := tw_4 (k := 9) (by decide +kernel) (by decide +kernel)
theorem wS_yX4_intersect : Cond.selects RX4 yX4_intersect yX4_intersect ∈ WL := tw_4 (k := 10) (by decide +kernel) (by decide +kernel)
theorem wM_X4_18 : Cond.methodLink RX4 18 yX9_get ∈ WL := tw_4 (k := 12) (by decide +kernel) (by decide +kernel)
theorem wM_X4_22 : Cond.methodLink RX4 22 yX4_gallop ∈ WL := tw_4 (k := 13) (by decide +kernel) (by decide +kernel)
theorem wI_yX4_gallop : Cond.instanceMethod yX4_gallop ∈ WL := tw_4 (k := 15) (by decide +kernel) (by decide +kernel)
theorem wM_X4_32 : Cond.methodLink RX4 32 yX4_reaches ∈ WL := tw_4 (k := 17) (by decide +kernel) (by decide +kernel)
theorem wI_yX4_reaches : Cond.instanceMethod yX4_reaches ∈ WL := tw_4 (k := 19) (by decide +kernel) (by decide +kernel)
theorem wM_X4_26 : Cond.methodLink RX4 26 yJ9_max_7cf53 ∈ WL := tw_4 (k := 21) (by decide +kernel) (by decide +kernel)
theorem wM_L_99 : Cond.methodLink RL 99 yX11_result ∈ WL := tw_4 (k := 22) (by decide +kernel) (by decide +kernel)
theorem wI_yX11_result : Cond.instanceMethod yX11_result ∈ WL := tw_4 (k := 23) (by decide +kernel) (by decide +kernel)
theorem wS_yX11_result : Cond.selects RX11 yX11_result yX11_result ∈ WL := tw_4 (k := 24) (by decide +kernel) (by decide +kernel)
theorem wM_L_103 : Cond.methodLink RL 103 yX11_common ∈ WL := tw_4 (k := 26) (by decide +kernel) (by decide +kernel)
theorem wI_yX11_common : Cond.instanceMethod yX11_common ∈ WL := tw_4 (k := 27) (by decide +kernel) (by decide +kernel)
theorem wS_yX11_common : Cond.selects RX11 yX11_common yX11_common ∈ WL := tw_4 (k := 28) (by decide +kernel) (by decide +kernel)
theorem wM_X11_233 : Cond.methodLink RX11 233 yX4_intersect ∈ WL := tw_4 (k := 30) (by decide +kernel) (by decide +kernel)
theorem wM_L_107 : Cond.methodLink RL 107 yX11_count ∈ WL := tw_4 (k := 31) (by decide +kernel) (by decide +kernel)
theorem wI_yX11_count : Cond.instanceMethod yX11_count ∈ WL := tw_4 (k := 32) (by decide +kernel) (by decide +kernel)
theorem wS_yX11_count : Cond.selects RX11 yX11_count yX11_count ∈ WL := tw_4 (k := 33) (by decide +kernel) (by decide +kernel)
theorem wM_X11_240 : Cond.methodLink RX11 240 yX11_list ∈ WL := tw_4 (k := 35) (by decide +kernel) (by decide +kernel)
theorem wM_L_111 : Cond.methodLink RL 111 yX11_digest ∈ WL := tw_4 (k := 36) (by decide +kernel) (by decide +kernel)
theorem wI_yX11_digest : Cond.instanceMethod yX11_digest ∈ WL := tw_4 (k := 37) (by decide +kernel) (by decide +kernel)
theorem wS_yX11_digest : Cond.selects RX11 yX11_digest yX11_digest ∈ WL := tw_4 (k := 38) (by decide +kernel) (by decide +kernel)
theorem wK_X11_251 : Cond.constantLong RX11 251 (619) ∈ WL := tw_4 (k := 40) (by decide +kernel) (by decide +kernel)
theorem wM_X11_253 : Cond.methodLink RX11 253 yX11_count ∈ WL := tw_4 (k := 41) (by decide +kernel) (by decide +kernel)
theorem wM_X11_256 : Cond.methodLink RX11 256 yX11_mix ∈ WL := tw_4 (k := 42) (by decide +kernel) (by decide +kernel)
theorem wT_yX11_mix : Cond.static yX11_mix ∈ WL := tw_4 (k := 43) (by decide +kernel) (by decide +kernel)
theorem wK_X11_268 : Cond.constantLong RX11 268 (31) ∈ WL := tw_4 (k := 45) (by decide +kernel) (by decide +kernel)
theorem wM_X11_260 : Cond.methodLink RX11 260 yX11_mixBlocks ∈ WL := tw_4 (k := 46) (by decide +kernel) (by decide +kernel)
theorem wI_yX11_mixBlocks : Cond.instanceMethod yX11_mixBlocks ∈ WL := tw_4 (k := 48) (by decide +kernel) (by decide +kernel)
theorem wM_X11_270 : Cond.methodLink RX11 270 yX11_mixBlock ∈ WL := tw_4 (k := 50) (by decide +kernel) (by decide +kernel)
theorem wT_yX11_mixBlock : Cond.static yX11_mixBlock ∈ WL := tw_4 (k := 51) (by decide +kernel) (by decide +kernel)
theorem wM_X11_274 : Cond.methodLink RX11 274 yX11_cached ∈ WL := tw_4 (k := 53) (by decide +kernel) (by decide +kernel)
theorem wM_X11_264 : Cond.methodLink RX11 264 yX11_mixRow ∈ WL := tw_4 (k := 54) (by decide +kernel) (by decide +kernel)
theorem wT_yX11_mixRow : Cond.static yX11_mixRow ∈ WL := tw_4 (k := 55) (by decide +kernel) (by decide +kernel)
theorem wL_L_10 : Cond.classLink RL 10 RX12 ∈ WL := tw_4 (k := 57) (by decide +kernel) (by decide +kernel)
theorem wA_X12 : Cond.instantiable RX12 35 ∈ WL := tw_4 (k := 58) (by decide +kernel) (by decide +kernel)
theorem wM_L_12 : Cond.methodLink RL 12 yX12_init ∈ WL := tw_4 (k := 59) (by decide +kernel) (by decide +kernel)
theorem wI_yX12_init : Cond.instanceMethod yX12_init ∈ WL := tw_4 (k := 60) (by decide +kernel) (by decide +kernel)
theorem wM_X12_1 : Cond.methodLink RX12 1 objectInit ∈ WL := tw_4 (k := 62) (by decide +kernel) (by decide +kernel)
theorem wF_X12_7 : Cond.fieldLink RX12 7 "PackedListsModel" "m" "[I" ∈ WL := tw_4 (k := 63) (by decide +kernel) (by decide +kernel)
theorem wF_X12_13 : Cond.fieldLink RX12 13 "PackedListsModel" "past" "[I" ∈ WL := tw_4 (k := 64) (by decide +kernel) (by decide +kernel)
theorem wF_X12_88 : Cond.fieldLink RX12 88 "PackedListsModel" "undos" "I" ∈ WL := tw_4 (k := 65) (by decide +kernel) (by decide +kernel)
theorem wF_X12_16 : Cond.fieldLink RX12 16 "PackedListsModel" "cacheList" "[I" ∈ WL := tw_4 (k := 66) (by decide +kernel) (by decide +kernel)
theorem wF_X12_19 : Cond.fieldLink RX12 19 "PackedListsModel" "cacheBlock" "[I" ∈ WL := tw_4 (k := 67) (by decide +kernel) (by decide +kernel)
theorem wF_X12_91 : Cond.fieldLink RX12 91 "PackedListsModel" "cacheMany" "I" ∈ WL := tw_4 (k := 68) (by decide +kernel) (by decide +kernel)
theorem wF_X12_97 : Cond.fieldLink RX12 97 "PackedListsModel" "hits" "I" ∈ WL := tw_4 (k := 69) (by decide +kernel) (by decide +kernel)
theorem wF_X12_100 : Cond.fieldLink RX12 100 "PackedListsModel" "misses" "I" ∈ WL := tw_4 (k := 70) (by decide +kernel) (by decide +kernel)
theorem wF_X12_22 : Cond.fieldLink RX12 22 "PackedListsModel" "result" "[I" ∈ WL := tw_4 (k := 71) (by decide +kernel) (by decide +kernel)
theorem wF_X12_25 : Cond.fieldLink RX12 25 "PackedListsModel" "resultMany" "I" ∈ WL := tw_4 (k := 72) (by decide +kernel) (by decide +kernel)
theorem wF_X12_29 : Cond.fieldLink RX12 29 "PackedListsModel" "resultProbes" "I" ∈ WL := tw_4 (k := 73) (by decide +kernel) (by decide +kernel)
theorem wF_X12_32 : Cond.fieldLink RX12 32 "PackedListsModel" "need" "[I" ∈ WL := tw_4 (k := 74) (by decide +kernel) (by decide +kernel)
theorem wF_X12_35 : Cond.fieldLink RX12 35 "PackedListsModel" "cut" "[I" ∈ WL := tw_4 (k := 75) (by decide +kernel) (by decide +kernel)
theorem wF_X12_134 : Cond.fieldLink RX12 134 "PackedListsModel" "cuts" "I" ∈ WL := tw_4 (k := 76) (by decide +kernel) (by decide +kernel)
theorem wF_X12_38 : Cond.fieldLink RX12 38 "PackedListsModel" "costFrom" "[I" ∈ WL := tw_4 (k := 77) (by decide +kernel) (by decide +kernel)
theorem wF_X12_41 : Cond.fieldLink RX12 41 "PackedListsModel" "blocksFrom" "[I" ∈ WL := tw_4 (k := 78) (by decide +kernel) (by decide +kernel)
theorem wF_X12_44 : Cond.fieldLink RX12 44 "PackedListsModel" "firstLength" "[I" ∈ WL := tw_4 (k := 79) (by decide +kernel) (by decide +kernel)
theorem wF_X12_47 : Cond.fieldLink RX12 47 "PackedListsModel" "text" "[I" ∈ WL := tw_4 (k := 80) (by decide +kernel) (by decide +kernel)
theorem wF_X12_170 : Cond.fieldLink RX12 170 "PackedListsModel" "textLength" "I" ∈ WL := tw_4 (k := 81) (by decide +kernel) (by decide +kernel)
theorem wF_X12_173 : Cond.fieldLink RX12 173 "PackedListsModel" "at" "I" ∈ WL := tw_4 (k := 82) (by decide +kernel) (by decide +kernel)
theorem wF_X12_180 : Cond.fieldLink RX12 180 "PackedListsModel" "fault" "I" ∈ WL := tw_4 (k := 83) (by decide +kernel) (by decide +kernel)
theorem wF_X12_50 : Cond.fieldLink RX12 50 "PackedListsModel" "read" "[I" ∈ WL := tw_4 (k := 84) (by decide +kernel) (by decide +kernel)
theorem wF_X12_195 : Cond.fieldLink RX12 195 "PackedListsModel" "reads" "I" ∈ WL := tw_4 (k := 85) (by decide +kernel) (by decide +kernel)
theorem wF_X12_186 : Cond.fieldLink RX12 186 "PackedListsModel" "behind" "I" ∈ WL := tw_4 (k := 86) (by decide +kernel) (by decide +kernel)
theorem wF_X12_53 : Cond.fieldLink RX12 53 "PackedListsModel" "row" "[I" ∈ WL := tw_4 (k := 87) (by decide +kernel) (by decide +kernel)
theorem wF_X12_56 : Cond.fieldLink RX12 56 "PackedListsModel" "rowMany" "[I" ∈ WL := tw_4 (k := 88) (by decide +kernel) (by decide +kernel)
theorem wF_X12_59 : Cond.fieldLink RX12 59 "PackedListsModel" "out" "[I" ∈ WL := tw_4 (k := 89) (by decide +kernel) (by decide +kernel)
theorem wF_X12_233 : Cond.fieldLink RX12 233 "PackedListsModel" "outMany" "I" ∈ WL := tw_4 (k := 90) (by decide +kernel) (by decide +kernel)
theorem wF_X12_227 : Cond.fieldLink RX12 227 "PackedListsModel" "probes" "I" ∈ WL := tw_4 (k := 91) (by decide +kernel) (by decide +kernel)
theorem wF_X12_62 : Cond.fieldLink RX12 62 "PackedListsModel" "order" "[I" ∈ WL := tw_4 (k := 92) (by decide +kernel) (by decide +kernel)
theorem wF_X12_243 : Cond.fieldLink RX12 243 "PackedListsModel" "orders" "I" ∈ WL := tw_4 (k := 93) (by decide +kernel) (by decide +kernel)
theorem wF_X12_65 : Cond.fieldLink RX12 65 "PackedListsModel" "waiting" "[I" ∈ WL := tw_4 (k := 94) (by decide +kernel) (by decide +kernel)
theorem wF_X12_249 : Cond.fieldLink RX12 249 "PackedListsModel" "waits" "I" ∈ WL := tw_4 (k := 95) (by decide +kernel) (by decide +kernel)
theorem wF_X12_246 : Cond.fieldLink RX12 246 "PackedListsModel" "depth" "I" ∈ WL := tw_4 (k := 96) (by decide +kernel) (by decide +kernel)
theorem wF_X12_284 : Cond.fieldLink RX12 284 "PackedListsModel" "hash" "J" ∈ WL := tw_4 (k := 97) (by decide +kernel) (by decide +kernel)
theorem wM_L_43 : Cond.methodLink RL 43 yX12_undo ∈ WL := tw_4 (k := 169) (by decide +kernel) (by decide +kernel)
theorem wI_yX12_undo : Cond.instanceMethod yX12_undo ∈ WL := tw_4 (k := 170) (by decide +kernel) (by decide +kernel)
theorem wS_yX12_undo : Cond.selects RX12 yX12_undo yX12_undo ∈ WL := tw_4 (k := 171) (by decide +kernel) (by decide +kernel)
theorem wM_L_17 : Cond.methodLink RL 17 yX12_add ∈ WL := tw_4 (k := 173) (by decide +kernel) (by decide +kernel)
theorem wI_yX12_add : Cond.instanceMethod yX12_add ∈ WL := tw_4 (k := 174) (by decide +kernel) (by decide +kernel)
theorem wS_yX12_add : Cond.selects RX12 yX12_add yX12_add ∈ WL := tw_4 (k := 175) (by decide +kernel) (by decide +kernel)
theorem wM_X12_73 : Cond.methodLink RX12 73 yX12_isList ∈ WL := tw_4 (k := 177) (by decide +kernel) (by decide +kernel)
theorem wT_yX12_isList : Cond.static yX12_isList ∈ WL := tw_4 (k := 178) (by decide +kernel) (by decide +kernel)
theorem wM_X12_68 : Cond.methodLink RX12 68 yX12_in ∈ WL := tw_4 (k := 180) (by decide +kernel) (by decide +kernel)
theorem wT_yX12_in : Cond.static yX12_in ∈ WL := tw_4 (k := 181) (by decide +kernel) (by decide +kernel)
theorem wM_X12_147 : Cond.methodLink RX12 147 yX12_isValue ∈ WL := tw_4 (k := 183) (by decide +kernel) (by decide +kernel)
theorem wT_yX12_isValue : Cond.static yX12_isValue ∈ WL := tw_4 (k := 184) (by decide +kernel) (by decide +kernel)
theorem wK_X12_72 : Cond.constant RX12 72 (999999) ∈ WL := tw_4 (k := 186) (by decide +kernel) (by decide +kernel)
theorem wM_X12_150 : Cond.methodLink RX12 150 yX12_has ∈ WL := tw_4 (k := 187) (by decide +kernel) (by decide +kernel)
theorem wI_yX12_has : Cond.instanceMethod yX12_has ∈ WL := tw_4 (k := 189) (by decide +kernel) (by decide +kernel)
theorem wM_X12_144 : Cond.methodLink RX12 144 yX12_place ∈ WL := tw_4 (k := 191) (by decide +kernel) (by decide +kernel)
theorem wI_yX12_place : Cond.instanceMethod yX12_place ∈ WL := tw_4 (k := 193) (by decide +kernel) (by decide +kernel)
theorem wM_X12_131 : Cond.methodLink RX12 131 yX12_many ∈ WL := tw_4 (k := 195) (by decide +kernel) (by decide +kernel)
theorem wI_yX12_many : Cond.instanceMethod yX12_many ∈ WL := tw_4 (k := 197) (by decide +kernel) (by decide +kernel)
theorem wM_X12_103 : Cond.methodLink RX12 103 yX12_number ∈ WL := tw_4 (k := 199) (by decide +kernel) (by decide +kernel)
theorem wI_yX12_number : Cond.instanceMethod yX12_number ∈ WL := tw_4 (k := 201) (by decide +kernel) (by decide +kernel)
theorem wM_X12_154 : Cond.methodLink RX12 154 yX12_keeps ∈ WL := tw_4 (k := 203) (by decide +kernel) (by decide +kernel)
theorem wI_yX12_keeps : Cond.instanceMethod yX12_keeps ∈ WL := tw_4 (k := 205) (by decide +kernel) (by decide +kernel)
theorem wM_X12_158 : Cond.methodLink RX12 158 yX12_lastBlock ∈ WL := tw_4 (k := 207) (by decide +kernel) (by decide +kernel)
theorem wI_yX12_lastBlock : Cond.instanceMethod yX12_lastBlock ∈ WL := tw_4 (k := 209) (by decide +kernel) (by decide +kernel)
theorem wM_X12_77 : Cond.methodLink RX12 77 yX12_blocks ∈ WL := tw_4 (k := 211) (by decide +kernel) (by decide +kernel)
theorem wI_yX12_blocks : Cond.instanceMethod yX12_blocks ∈ WL := tw_4 (k := 213) (by decide +kernel) (by decide +kernel)
theorem wM_X12_85 : Cond.methodLink RX12 85 yX12_begin ∈ WL := tw_4 (k := 215) (by decide +kernel) (by decide +kernel)
theorem wI_yX12_begin : Cond.instanceMethod yX12_begin ∈ WL := tw_4 (k := 217) (by decide +kernel) (by decide +kernel)
theorem wM_X12_81 : Cond.methodLink RX12 81 yX12_length ∈ WL := tw_4 (k := 219) (by decide +kernel) (by decide +kernel)
theorem wI_yX12_length : Cond.instanceMethod yX12_length ∈ WL := tw_4 (k := 221) (by decide +kernel) (by decide +kernel)
theorem wM_X12_161 : Cond.methodLink RX12 161 yX12_splits ∈ WL := tw_4 (k := 223) (by decide +kernel) (by decide +kernel)
theorem wI_yX12_splits : Cond.instanceMethod yX12_splits ∈ WL := tw_4 (k := 225) (by decide +kernel) (by decide +kernel)
theorem wM_L_21 : Cond.methodLink RL 21 yX12_remove ∈ WL := tw_4 (k := 227) (by decide +kernel) (by decide +kernel)
theorem wI_yX12_remove : Cond.instanceMethod yX12_remove ∈ WL := tw_4 (k := 228) (by decide +kernel) (by decide +kernel)
theorem wS_yX12_remove : Cond.selects RX12 yX12_remove yX12_remove ∈ WL := tw_4 (k := 229) (by decide +kernel) (by decide +kernel)
theorem wM_X12_164 : Cond.methodLink RX12 164 yX12_blockOf ∈ WL := tw_4 (k := 231) (by decide +kernel) (by decide +kernel)
theorem wI_yX12_blockOf : Cond.instanceMethod yX12_blockOf ∈ WL := tw_4 (k := 233) (by decide +kernel) (by decide +kernel)
theorem wM_L_25 : Cond.methodLink RL 25 yX12_pack ∈ WL := tw_4 (k := 235) (by decide +kernel) (by decide +kernel)
theorem wI_yX12_pack : Cond.instanceMethod yX12_pack ∈ WL := tw_4 (k := 236) (by decide +kernel) (by decide +kernel)
theorem wS_yX12_pack : Cond.selects RX12 yX12_pack yX12_pack ∈ WL := tw_4 (k := 237) (by decide +kernel) (by decide +kernel)
theorem wM_X12_167 : Cond.methodLink RX12 167 yX12_packs ∈ WL := tw_4 (k := 239) (by decide +kernel) (by decide +kernel)
theorem wI_yX12_packs : Cond.instanceMethod yX12_packs ∈ WL := tw_5 (k := 1) (by decide +kernel) (by decide +kernel)
theorem wM_X12_141 : Cond.methodLink RX12 141 yX12_plans ∈ WL := tw_5 (k := 3) (by decide +kernel) (by decide +kernel)
theorem wI_yX12_plans : Cond.instanceMethod yX12_plans ∈ WL := tw_5 (k := 5) (by decide +kernel) (by decide +kernel)
theorem wM_X12_137 : Cond.methodLink RX12 137 yX12_solves ∈ WL := tw_5 (k := 7) (by decide +kernel) (by decide +kernel)
theorem wI_yX12_solves : Cond.instanceMethod yX12_solves ∈ WL := tw_5 (k := 9) (by decide +kernel) (by decide +kernel)
theorem wM_X12_106 : Cond.methodLink RX12 106 yX12_gap ∈ WL := tw_5 (k := 11) (by decide +kernel) (by decide +kernel)
theorem wI_yX12_gap : Cond.instanceMethod yX12_gap ∈ WL := tw_5 (k := 13) (by decide +kernel) (by decide +kernel)
theorem wM_X12_109 : Cond.methodLink RX12 109 yX12_bitsOf ∈ WL := tw_5 (k := 15) (by decide +kernel) (by decide +kernel)
theorem wT_yX12_bitsOf : Cond.static yX12_bitsOf ∈ WL := tw_5 (k := 16) (by decide +kernel) (by decide +kernel)
theorem wM_X12_119 : Cond.methodLink RX12 119 yX12_best ∈ WL := tw_5 (k := 18) (by decide +kernel) (by decide +kernel)
theorem wI_yX12_best : Cond.instanceMethod yX12_best ∈ WL := tw_5 (k := 20) (by decide +kernel) (by decide +kernel)
theorem wM_X12_112 : Cond.methodLink RX12 112 yX12_above ∈ WL := tw_5 (k := 22) (by decide +kernel) (by decide +kernel)
theorem wI_yX12_above : Cond.instanceMethod yX12_above ∈ WL := tw_5 (k := 24) (by decide +kernel) (by decide +kernel)
theorem wM_X12_125 : Cond.methodLink RX12 125 yX12_costOf ∈ WL := tw_5 (k := 26) (by decide +kernel) (by decide +kernel)
theorem wI_yX12_costOf : Cond.instanceMethod yX12_costOf ∈ WL := tw_5 (k := 28) (by decide +kernel) (by decide +kernel)
theorem wM_X12_115 : Cond.methodLink RX12 115 yX12_counts ∈ WL := tw_5 (k := 30) (by decide +kernel) (by decide +kernel)
theorem wI_yX12_counts : Cond.instanceMethod yX12_counts ∈ WL := tw_5 (k := 32) (by decide +kernel) (by decide +kernel)
theorem wM_L_38 : Cond.methodLink RL 38 yX12_clear ∈ WL := tw_5 (k := 34) (by decide +kernel) (by decide +kernel)
theorem wI_yX12_clear : Cond.instanceMethod yX12_clear ∈ WL := tw_5 (k := 35) (by decide +kernel) (by decide +kernel)
theorem wS_yX12_clear : Cond.selects RX12 yX12_clear yX12_clear ∈ WL := tw_5 (k := 36) (by decide +kernel) (by decide +kernel)
theorem wM_L_34 : Cond.methodLink RL 34 yX12_store ∈ WL := tw_5 (k := 38) (by decide +kernel) (by decide +kernel)
theorem wI_yX12_store : Cond.instanceMethod yX12_store ∈ WL := tw_5 (k := 39) (by decide +kernel) (by decide +kernel)
theorem wS_yX12_store : Cond.selects RX12 yX12_store yX12_store ∈ WL := tw_5 (k := 40) (by decide +kernel) (by decide +kernel)
theorem wM_L_47 : Cond.methodLink RL 47 yX12_type ∈ WL := tw_5 (k := 42) (by decide +kernel) (by decide +kernel)
theorem wI_yX12_type : Cond.instanceMethod yX12_type ∈ WL := tw_5 (k := 43) (by decide +kernel) (by decide +kernel)
theorem wS_yX12_type : Cond.selects RX12 yX12_type yX12_type ∈ WL := tw_5 (k := 44) (by decide +kernel) (by decide +kernel)
theorem wM_L_51 : Cond.methodLink RL 51 yX12_erase ∈ WL := tw_5 (k := 46) (by decide +kernel) (by decide +kernel)
theorem wI_yX12_erase : Cond.instanceMethod yX12_erase ∈ WL := tw_5 (k := 47) (by decide +kernel) (by decide +kernel)
theorem wS_yX12_erase : Cond.selects RX12 yX12_erase yX12_erase ∈ WL := tw_5 (k := 48) (by decide +kernel) (by decide +kernel)
theorem wM_L_30 : Cond.methodLink RL 30 yX12_load ∈ WL := tw_5 (k := 50) (by decide +kernel) (by decide +kernel)
theorem wI_yX12_load : Cond.instanceMethod yX12_load ∈ WL := tw_5 (k := 51) (by decide +kernel) (by decide +kernel)
theorem wS_yX12_load : Cond.selects RX12 yX12_load yX12_load ∈ WL := tw_5 (k := 52) (by decide +kernel) (by decide +kernel)
theorem wM_X12_201 : Cond.methodLink RX12 201 yX12_readsNumbers ∈ WL := tw_5 (k := 54) (by decide +kernel) (by decide +kernel)
theorem wI_yX12_readsNumbers : Cond.instanceMethod yX12_readsNumbers ∈ WL := tw_5 (k := 56) (by decide +kernel) (by decide +kernel)
theorem wM_X12_189 : Cond.methodLink RX12 189 yX12_skips ∈ WL := tw_5 (k := 58) (by decide +kernel) (by decide +kernel)
theorem wI_yX12_skips : Cond.instanceMethod yX12_skips ∈ WL := tw_5 (k := 60) (by decide +kernel) (by decide +kernel)
theorem wM_X12_176 : Cond.methodLink RX12 176 yX12_next ∈ WL := tw_5 (k := 62) (by decide +kernel) (by decide +kernel)
theorem wI_yX12_next : Cond.instanceMethod yX12_next ∈ WL := tw_5 (k := 64) (by decide +kernel) (by decide +kernel)
theorem wM_X12_198 : Cond.methodLink RX12 198 yX12_readsPart ∈ WL := tw_5 (k := 66) (by decide +kernel) (by decide +kernel)
theorem wI_yX12_readsPart : Cond.instanceMethod yX12_readsPart ∈ WL := tw_5 (k := 68) (by decide +kernel) (by decide +kernel)
theorem wM_X12_192 : Cond.methodLink RX12 192 yX12_readsNumber ∈ WL := tw_5 (k := 70) (by decide +kernel) (by decide +kernel)
theorem wI_yX12_readsNumber : Cond.instanceMethod yX12_readsNumber ∈ WL := tw_5 (k := 72) (by decide +kernel) (by decide +kernel)
theorem wM_X12_183 : Cond.methodLink RX12 183 yX12_fails ∈ WL := tw_5 (k := 74) (by decide +kernel) (by decide +kernel)
theorem wI_yX12_fails : Cond.instanceMethod yX12_fails ∈ WL := tw_5 (k := 76) (by decide +kernel) (by decide +kernel)
theorem wM_L_55 : Cond.methodLink RL 55 yX12_list ∈ WL := tw_5 (k := 78) (by decide +kernel) (by decide +kernel)
theorem wI_yX12_list : Cond.instanceMethod yX12_list ∈ WL := tw_5 (k := 79) (by decide +kernel) (by decide +kernel)
theorem wS_yX12_list : Cond.selects RX12 yX12_list yX12_list ∈ WL := tw_5 (k := 80) (by decide +kernel) (by decide +kernel)
theorem wM_X12_213 : Cond.methodLink RX12 213 yX12_listPart ∈ WL := tw_5 (k := 82) (by decide +kernel) (by decide +kernel)
theorem wI_yX12_listPart : Cond.instanceMethod yX12_listPart ∈ WL := tw_5 (k := 84) (by decide +kernel) (by decide +kernel)
theorem wM_X12_207 : Cond.methodLink RX12 207 yX12_costOfList ∈ WL := tw_5 (k := 86) (by decide +kernel) (by decide +kernel)
theorem wI_yX12_costOfList : Cond.instanceMethod yX12_costOfList ∈ WL := tw_5 (k := 88) (by decide +kernel) (by decide +kernel)
theorem wM_X12_128 : Cond.methodLink RX12 128 yX12_cost ∈ WL := tw_5 (k := 90) (by decide +kernel) (by decide +kernel)
theorem wI_yX12_cost : Cond.instanceMethod yX12_cost ∈ WL := tw_5 (k := 92) (by decide +kernel) (by decide +kernel)
theorem wM_X12_122 : Cond.methodLink RX12 122 yX12_width ∈ WL := tw_5 (k := 94) (by decide +kernel) (by decide +kernel)
theorem wI_yX12_width : Cond.instanceMethod yX12_width ∈ WL := tw_5 (k := 96) (by decide +kernel) (by decide +kernel)
theorem wM_X12_210 : Cond.methodLink RX12 210 yX12_exceptionsOf ∈ WL := tw_5 (k := 98) (by decide +kernel) (by decide +kernel)
theorem wI_yX12_exceptionsOf : Cond.instanceMethod yX12_exceptionsOf ∈ WL := tw_5 (k := 100) (by decide +kernel) (by decide +kernel)
theorem wM_X12_204 : Cond.methodLink RX12 204 yX12_exceptions ∈ WL := tw_5 (k := 102) (by decide +kernel) (by decide +kernel)
theorem wI_yX12_exceptions : Cond.instanceMethod yX12_exceptions ∈ WL := tw_5 (k := 104) (by decide +kernel) (by decide +kernel)
theorem wM_L_60 : Cond.methodLink RL 60 yX12_block ∈ WL := tw_5 (k := 106) (by decide +kernel) (by decide +kernel)
theorem wI_yX12_block : Cond.instanceMethod yX12_block ∈ WL := tw_5 (k := 107) (by decide +kernel) (by decide +kernel)
theorem wS_yX12_block : Cond.selects RX12 yX12_block yX12_block ∈ WL := tw_5 (k := 108) (by decide +kernel) (by decide +kernel)
theorem wM_X12_216 : Cond.methodLink RX12 216 yX12_isBlock ∈ WL := tw_5 (k := 110) (by decide +kernel) (by decide +kernel)
theorem wI_yX12_isBlock : Cond.instanceMethod yX12_isBlock ∈ WL := tw_5 (k := 112) (by decide +kernel) (by decide +kernel)
theorem wM_X12_219 : Cond.methodLink RX12 219 yX12_words ∈ WL := tw_5 (k := 114) (by decide +kernel) (by decide +kernel)
theorem wI_yX12_words : Cond.instanceMethod yX12_words ∈ WL := tw_5 (k := 116) (by decide +kernel) (by decide +kernel)
theorem wM_L_65 : Cond.methodLink RL 65 yX12_word ∈ WL := tw_5 (k := 118) (by decide +kernel) (by decide +kernel)
theorem wI_yX12_word : Cond.instanceMethod yX12_word ∈ WL := tw_5 (k := 119) (by decide +kernel) (by decide +kernel)
theorem wS_yX12_word : Cond.selects RX12 yX12_word yX12_word ∈ WL := tw_5 (k := 120) (by decide +kernel) (by decide +kernel)
theorem wK_X12_222 : Cond.constantLong RX12 222 (-2) ∈ WL := tw_5 (k := 122) (by decide +kernel) (by decide +kernel)
theorem wM_L_70 : Cond.methodLink RL 70 yX12_exception ∈ WL := tw_5 (k := 123) (by decide +kernel) (by decide +kernel)
theorem wI_yX12_exception : Cond.instanceMethod yX12_exception ∈ WL := tw_5 (k := 124) (by decide +kernel) (by decide +kernel)
theorem wS_yX12_exception : Cond.selects RX12 yX12_exception yX12_exception ∈ WL := tw_5 (k := 125) (by decide +kernel) (by decide +kernel)
theorem wM_L_74 : Cond.methodLink RL 74 yX12_gaps ∈ WL := tw_5 (k := 127) (by decide +kernel) (by decide +kernel)
theorem wI_yX12_gaps : Cond.instanceMethod yX12_gaps ∈ WL := tw_5 (k := 128) (by decide +kernel) (by decide +kernel)
theorem wS_yX12_gaps : Cond.selects RX12 yX12_gaps yX12_gaps ∈ WL := tw_5 (k := 129) (by decide +kernel) (by decide +kernel)
theorem wM_L_78 : Cond.methodLink RL 78 yX12_costBy ∈ WL := tw_5 (k := 131) (by decide +kernel) (by decide +kernel)
theorem wI_yX12_costBy : Cond.instanceMethod yX12_costBy ∈ WL := tw_5 (k := 132) (by decide +kernel) (by decide +kernel)
theorem wS_yX12_costBy : Cond.selects RX12 yX12_costBy yX12_costBy ∈ WL := tw_5 (k := 133) (by decide +kernel) (by decide +kernel)
theorem wM_L_82 : Cond.methodLink RL 82 yX12_part ∈ WL := tw_5 (k := 135) (by decide +kernel) (by decide +kernel)
theorem wI_yX12_part : Cond.instanceMethod yX12_part ∈ WL := tw_5 (k := 136) (by decide +kernel) (by decide +kernel)
theorem wS_yX12_part : Cond.selects RX12 yX12_part yX12_part ∈ WL := tw_5 (k := 137) (by decide +kernel) (by decide +kernel)
theorem wM_L_86 : Cond.methodLink RL 86 yX12_at ∈ WL := tw_5 (k := 139) (by decide +kernel) (by decide +kernel)
theorem wI_yX12_at : Cond.instanceMethod yX12_at ∈ WL := tw_5 (k := 140) (by decide +kernel) (by decide +kernel)
theorem wS_yX12_at : Cond.selects RX12 yX12_at yX12_at ∈ WL := tw_5 (k := 141) (by decide +kernel) (by decide +kernel)
theorem wM_X12_224 : Cond.methodLink RX12 224 yX12_looks ∈ WL := tw_5 (k := 143) (by decide +kernel) (by decide +kernel)
theorem wI_yX12_looks : Cond.instanceMethod yX12_looks ∈ WL := tw_5 (k := 145) (by decide +kernel) (by decide +kernel)
theorem wM_X12_94 : Cond.methodLink RX12 94 yX12_cachePlace ∈ WL := tw_5 (k := 147) (by decide +kernel) (by decide +kernel)
theorem wI_yX12_cachePlace : Cond.instanceMethod yX12_cachePlace ∈ WL := tw_5 (k := 149) (by decide +kernel) (by decide +kernel)
theorem wM_L_90 : Cond.methodLink RL 90 yX12_find ∈ WL := tw_5 (k := 151) (by decide +kernel) (by decide +kernel)
theorem wI_yX12_find : Cond.instanceMethod yX12_find ∈ WL := tw_5 (k := 152) (by decide +kernel) (by decide +kernel)
theorem wS_yX12_find : Cond.selects RX12 yX12_find yX12_find ∈ WL := tw_5 (k := 153) (by decide +kernel) (by decide +kernel)
theorem wM_L_94 : Cond.methodLink RL 94 yX12_cached ∈ WL := tw_5 (k := 155) (by decide +kernel) (by decide +kernel)
theorem wI_yX12_cached : Cond.instanceMethod yX12_cached ∈ WL := tw_5 (k := 156) (by decide +kernel) (by decide +kernel)
theorem wS_yX12_cached : Cond.selects RX12 yX12_cached yX12_cached ∈ WL := tw_5 (k := 157) (by decide +kernel) (by decide +kernel)
theorem wM_L_98 : Cond.methodLink RL 98 yX12_query ∈ WL := tw_5 (k := 159) (by decide +kernel) (by decide +kernel)
theorem wI_yX12_query : Cond.instanceMethod yX12_query ∈ WL := tw_5 (k := 160) (by decide +kernel) (by decide +kernel)
theorem wS_yX12_query : Cond.selects RX12 yX12_query yX12_query ∈ WL := tw_5 (k := 161) (by decide +kernel) (by decide +kernel)
theorem wM_X12_264 : Cond.methodLink RX12 264 yX12_readsExpression ∈ WL := tw_5 (k := 163) (by decide +kernel) (by decide +kernel)
theorem wI_yX12_readsExpression : Cond.instanceMethod yX12_readsExpression ∈ WL := tw_5 (k := 165) (by decide +kernel) (by decide +kernel)
theorem wM_X12_257 : Cond.methodLink RX12 257 yX12_readsOperand ∈ WL := tw_5 (k := 167) (by decide +kernel) (by decide +kernel)
theorem wI_yX12_readsOperand : Cond.instanceMethod yX12_readsOperand ∈ WL := tw_5 (k := 169) (by decide +kernel) (by decide +kernel)
theorem wM_X12_252 : Cond.methodLink RX12 252 yX12_orders ∈ WL := tw_5 (k := 171) (by decide +kernel) (by decide +kernel)
theorem wI_yX12_orders : Cond.instanceMethod yX12_orders ∈ WL := tw_5 (k := 173) (by decide +kernel) (by decide +kernel)
theorem wM_X12_261 : Cond.methodLink RX12 261 yX12_readsSign ∈ WL := tw_5 (k := 175) (by decide +kernel) (by decide +kernel)
theorem wI_yX12_readsSign : Cond.instanceMethod yX12_readsSign ∈ WL := tw_5 (k := 177) (by decide +kernel) (by decide +kernel)
theorem wM_X12_254 : Cond.methodLink RX12 254 yX12_rank ∈ WL := tw_5 (k := 179) (by decide +kernel) (by decide +kernel)
theorem wT_yX12_rank : Cond.static yX12_rank ∈ WL := tw_5 (k := 180) (by decide +kernel) (by decide +kernel)
theorem wM_X12_267 : Cond.methodLink RX12 267 yX12_copies ∈ WL := tw_5 (k := 182) (by decide +kernel) (by decide +kernel)
theorem wI_yX12_copies : Cond.instanceMethod yX12_copies ∈ WL := tw_5 (k := 184) (by decide +kernel) (by decide +kernel)
theorem wM_X12_270 : Cond.methodLink RX12 270 yX12_joins ∈ WL := tw_5 (k := 186) (by decide +kernel) (by decide +kernel)
theorem wI_yX12_joins : Cond.instanceMethod yX12_joins ∈ WL := tw_5 (k := 188) (by decide +kernel) (by decide +kernel)
theorem wM_X12_273 : Cond.methodLink RX12 273 yX12_intersects ∈ WL := tw_5 (k := 190) (by decide +kernel) (by decide +kernel)
theorem wI_yX12_intersects : Cond.instanceMethod yX12_intersects ∈ WL := tw_5 (k := 192) (by decide +kernel) (by decide +kernel)
theorem wM_X12_236 : Cond.methodLink RX12 236 yX12_puts ∈ WL := tw_5 (k := 194) (by decide +kernel) (by decide +kernel)
theorem wI_yX12_puts : Cond.instanceMethod yX12_puts ∈ WL := tw_5 (k := 196) (by decide +kernel) (by decide +kernel)
theorem wM_X12_239 : Cond.methodLink RX12 239 yX12_gallops ∈ WL := tw_5 (k := 198) (by decide +kernel) (by decide +kernel)
theorem wI_yX12_gallops : Cond.instanceMethod yX12_gallops ∈ WL := tw_5 (k := 200) (by decide +kernel) (by decide +kernel)
theorem wM_X12_230 : Cond.methodLink RX12 230 yX12_probe ∈ WL := tw_5 (k := 202) (by decide +kernel) (by decide +kernel)
theorem wI_yX12_probe : Cond.instanceMethod yX12_probe ∈ WL := tw_5 (k := 204) (by decide +kernel) (by decide +kernel)
theorem wM_X12_276 : Cond.methodLink RX12 276 yX12_merges ∈ WL := tw_5 (k := 206) (by decide +kernel) (by decide +kernel)
theorem wI_yX12_merges : Cond.instanceMethod yX12_merges ∈ WL := tw_5 (k := 208) (by decide +kernel) (by decide +kernel)
theorem wM_L_102 : Cond.methodLink RL 102 yX12_result ∈ WL := tw_5 (k := 210) (by decide +kernel) (by decide +kernel)
theorem wI_yX12_result : Cond.instanceMethod yX12_result ∈ WL := tw_5 (k := 211) (by decide +kernel) (by decide +kernel)
theorem wS_yX12_result : Cond.selects RX12 yX12_result yX12_result ∈ WL := tw_5 (k := 212) (by decide +kernel) (by decide +kernel)
theorem wM_L_106 : Cond.methodLink RL 106 yX12_common ∈ WL := tw_5 (k := 214) (by decide +kernel) (by decide +kernel)
theorem wI_yX12_common : Cond.instanceMethod yX12_common ∈ WL := tw_5 (k := 215) (by decide +kernel) (by decide +kernel)
theorem wS_yX12_common : Cond.selects RX12 yX12_common yX12_common ∈ WL := tw_5 (k := 216) (by decide +kernel) (by decide +kernel)
theorem wM_L_110 : Cond.methodLink RL 110 yX12_count ∈ WL := tw_5 (k := 218) (by decide +kernel) (by decide +kernel)
theorem wI_yX12_count : Cond.instanceMethod yX12_count ∈ WL := tw_5 (k := 219) (by decide +kernel) (by decide +kernel)
theorem wS_yX12_count : Cond.selects RX12 yX12_count yX12_count ∈ WL := tw_5 (k := 220) (by decide +kernel) (by decide +kernel)
theorem wM_X12_279 : Cond.methodLink RX12 279 yX12_over ∈ WL := tw_5 (k := 222) (by decide +kernel) (by decide +kernel)
theorem wI_yX12_over : Cond.instanceMethod yX12_over ∈ WL := tw_5 (k := 224) (by decide +kernel) (by decide +kernel)
theorem wM_L_115 : Cond.methodLink RL 115 yX12_digest ∈ WL := tw_5 (k := 226) (by decide +kernel) (by decide +kernel)
theorem wI_yX12_digest : Cond.instanceMethod yX12_digest ∈ WL := tw_5 (k := 227) (by decide +kernel) (by decide +kernel)
theorem wS_yX12_digest : Cond.selects RX12 yX12_digest yX12_digest ∈ WL := tw_5 (k := 228) (by decide +kernel) (by decide +kernel)
theorem wK_X12_306 : Cond.constantLong RX12 306 (619) ∈ WL := tw_5 (k := 230) (by decide +kernel) (by decide +kernel)
theorem wM_X12_308 : Cond.methodLink RX12 308 yX12_count ∈ WL := tw_5 (k := 231) (by decide +kernel) (by decide +kernel)
theorem wM_X12_291 : Cond.methodLink RX12 291 yX12_mixes ∈ WL := tw_5 (k := 232) (by decide +kernel) (by decide +kernel)
theorem wI_yX12_mixes : Cond.instanceMethod yX12_mixes ∈ WL := tw_5 (k := 234) (by decide +kernel) (by decide +kernel)
theorem wK_X12_282 : Cond.constantLong RX12 282 (31) ∈ WL := tw_5 (k := 236) (by decide +kernel) (by decide +kernel)
theorem wM_X12_311 : Cond.methodLink RX12 311 yX12_mixesBlock ∈ WL := tw_5 (k := 237) (by decide +kernel) (by decide +kernel)
theorem wI_yX12_mixesBlock : Cond.instanceMethod yX12_mixesBlock ∈ WL := tw_5 (k := 239) (by decide +kernel) (by decide +kernel)
theorem wM_X12_288 : Cond.methodLink RX12 288 yX12_block ∈ WL := tw_6 (k := 1) (by decide +kernel) (by decide +kernel)
theorem wM_X12_295 : Cond.methodLink RX12 295 yX12_word ∈ WL := tw_6 (k := 2) (by decide +kernel) (by decide +kernel)
theorem wM_X12_299 : Cond.methodLink RX12 299 yX12_exception ∈ WL := tw_6 (k := 3) (by decide +kernel) (by decide +kernel)
theorem wM_X12_303 : Cond.methodLink RX12 303 yX12_cached ∈ WL := tw_6 (k := 4) (by decide +kernel) (by decide +kernel)
theorem wS_yX11_beginChange : Cond.selects RX11 yX11_beginChange yX11_beginChange ∈ WL := tw_0 (k := 0) (by decide +kernel) (by decide +kernel)
theorem wS_yX2_moveStarts : Cond.selects RX2 yX2_moveStarts yX2_moveStarts ∈ WL := tw_0 (k := 1) (by decide +kernel) (by decide +kernel)
theorem wS_yX2_split : Cond.selects RX2 yX2_split yX2_split ∈ WL := tw_0 (k := 2) (by decide +kernel) (by decide +kernel)
theorem wS_yX2_dropBlock : Cond.selects RX2 yX2_dropBlock yX2_dropBlock ∈ WL := tw_0 (k := 3) (by decide +kernel) (by decide +kernel)
theorem wS_yX8_plan : Cond.selects RX8 yX8_plan yX8_plan ∈ WL := tw_0 (k := 4) (by decide +kernel) (by decide +kernel)
theorem wS_yX8_chooseEnd : Cond.selects RX8 yX8_chooseEnd yX8_chooseEnd ∈ WL := tw_0 (k := 5) (by decide +kernel) (by decide +kernel)
theorem wS_yX10_slot : Cond.selects RX10 yX10_slot yX10_slot ∈ WL := tw_0 (k := 6) (by decide +kernel) (by decide +kernel)
theorem wS_yX8_passGap : Cond.selects RX8 yX8_passGap yX8_passGap ∈ WL := tw_0 (k := 7) (by decide +kernel) (by decide +kernel)
theorem wS_yX11_sumOfBlocks : Cond.selects RX11 yX11_sumOfBlocks yX11_sumOfBlocks ∈ WL := tw_0 (k := 8) (by decide +kernel) (by decide +kernel)
theorem wS_yX11_measured : Cond.selects RX11 yX11_measured yX11_measured ∈ WL := tw_0 (k := 9) (by decide +kernel) (by decide +kernel)
theorem wS_yX0_chooseWidth : Cond.selects RX0 yX0_chooseWidth yX0_chooseWidth ∈ WL := tw_0 (k := 10) (by decide +kernel) (by decide +kernel)
theorem wS_yX0_costWith : Cond.selects RX0 yX0_costWith yX0_costWith ∈ WL := tw_0 (k := 11) (by decide +kernel) (by decide +kernel)
theorem wS_yX7_skipBlanks : Cond.selects RX7 yX7_skipBlanks yX7_skipBlanks ∈ WL := tw_0 (k := 12) (by decide +kernel) (by decide +kernel)
theorem wS_yX7_readPart : Cond.selects RX7 yX7_readPart yX7_readPart ∈ WL := tw_0 (k := 13) (by decide +kernel) (by decide +kernel)
theorem wS_yX7_readNumber : Cond.selects RX7 yX7_readNumber yX7_readNumber ∈ WL := tw_0 (k := 14) (by decide +kernel) (by decide +kernel)
theorem wS_yX7_stepOver : Cond.selects RX7 yX7_stepOver yX7_stepOver ∈ WL := tw_0 (k := 15) (by decide +kernel) (by decide +kernel)
theorem wS_yX11_replaceNumbers : Cond.selects RX11 yX11_replaceNumbers yX11_replaceNumbers ∈ WL := tw_0 (k := 16) (by decide +kernel) (by decide +kernel)
theorem wS_yX11_isBlock : Cond.selects RX11 yX11_isBlock yX11_isBlock ∈ WL := tw_0 (k := 17) (by decide +kernel) (by decide +kernel)
theorem wS_yX3_take : Cond.selects RX3 yX3_take yX3_take ∈ WL := tw_0 (k := 18) (by decide +kernel) (by decide +kernel)
theorem wS_yX3_takeFactor : Cond.selects RX3 yX3_takeFactor yX3_takeFactor ∈ WL := tw_0 (k := 19) (by decide +kernel) (by decide +kernel)
theorem wS_yX3_takeSign : Cond.selects RX3 yX3_takeSign yX3_takeSign ∈ WL := tw_0 (k := 20) (by decide +kernel) (by decide +kernel)
theorem wS_yX3_releaseFrom : Cond.selects RX3 yX3_releaseFrom yX3_releaseFrom ∈ WL := tw_0 (k := 21) (by decide +kernel) (by decide +kernel)
theorem wS_yX6_gatherAll : Cond.selects RX6 yX6_gatherAll yX6_gatherAll ∈ WL := tw_0 (k := 22) (by decide +kernel) (by decide +kernel)
theorem wS_yX6_leastAtCursors : Cond.selects RX6 yX6_leastAtCursors yX6_leastAtCursors ∈ WL := tw_0 (k := 23) (by decide +kernel) (by decide +kernel)
theorem wS_yX6_passCursors : Cond.selects RX6 yX6_passCursors yX6_passCursors ∈ WL := tw_0 (k := 24) (by decide +kernel) (by decide +kernel)
theorem wS_yX6_join : Cond.selects RX6 yX6_join yX6_join ∈ WL := tw_0 (k := 25) (by decide +kernel) (by decide +kernel)
theorem wS_yX6_makeRow : Cond.selects RX6 yX6_makeRow yX6_makeRow ∈ WL := tw_0 (k := 26) (by decide +kernel) (by decide +kernel)
theorem wS_yX4_gallop : Cond.selects RX4 yX4_gallop yX4_gallop ∈ WL := tw_0 (k := 27) (by decide +kernel) (by decide +kernel)
theorem wS_yX4_reaches : Cond.selects RX4 yX4_reaches yX4_reaches ∈ WL := tw_0 (k := 28) (by decide +kernel) (by decide +kernel)
theorem wS_yX11_mixBlocks : Cond.selects RX11 yX11_mixBlocks yX11_mixBlocks ∈ WL := tw_0 (k := 29) (by decide +kernel) (by decide +kernel)
theorem wS_yX12_has : Cond.selects RX12 yX12_has yX12_has ∈ WL := tw_0 (k := 30) (by decide +kernel) (by decide +kernel)
theorem wS_yX12_place : Cond.selects RX12 yX12_place yX12_place ∈ WL := tw_0 (k := 31) (by decide +kernel) (by decide +kernel)
theorem wS_yX12_many : Cond.selects RX12 yX12_many yX12_many ∈ WL := tw_0 (k := 32) (by decide +kernel) (by decide +kernel)
theorem wS_yX12_number : Cond.selects RX12 yX12_number yX12_number ∈ WL := tw_0 (k := 33) (by decide +kernel) (by decide +kernel)
theorem wS_yX12_keeps : Cond.selects RX12 yX12_keeps yX12_keeps ∈ WL := tw_0 (k := 34) (by decide +kernel) (by decide +kernel)
theorem wS_yX12_lastBlock : Cond.selects RX12 yX12_lastBlock yX12_lastBlock ∈ WL := tw_0 (k := 35) (by decide +kernel) (by decide +kernel)
theorem wS_yX12_blocks : Cond.selects RX12 yX12_blocks yX12_blocks ∈ WL := tw_0 (k := 36) (by decide +kernel) (by decide +kernel)
theorem wS_yX12_begin : Cond.selects RX12 yX12_begin yX12_begin ∈ WL := tw_0 (k := 37) (by decide +kernel) (by decide +kernel)
theorem wS_yX12_length : Cond.selects RX12 yX12_length yX12_length ∈ WL := tw_0 (k := 38) (by decide +kernel) (by decide +kernel)
theorem wS_yX12_splits : Cond.selects RX12 yX12_splits yX12_splits ∈ WL := tw_0 (k := 39) (by decide +kernel) (by decide +kernel)
theorem wS_yX12_blockOf : Cond.selects RX12 yX12_blockOf yX12_blockOf ∈ WL := tw_0 (k := 40) (by decide +kernel) (by decide +kernel)
theorem wS_yX12_packs : Cond.selects RX12 yX12_packs yX12_packs ∈ WL := tw_0 (k := 41) (by decide +kernel) (by decide +kernel)
theorem wS_yX12_plans : Cond.selects RX12 yX12_plans yX12_plans ∈ WL := tw_0 (k := 42) (by decide +kernel) (by decide +kernel)
theorem wS_yX12_solves : Cond.selects RX12 yX12_solves yX12_solves ∈ WL := tw_0 (k := 43) (by decide +kernel) (by decide +kernel)
theorem wS_yX12_gap : Cond.selects RX12 yX12_gap yX12_gap ∈ WL := tw_0 (k := 44) (by decide +kernel) (by decide +kernel)
theorem wS_yX12_best : Cond.selects RX12 yX12_best yX12_best ∈ WL := tw_0 (k := 45) (by decide +kernel) (by decide +kernel)
theorem wS_yX12_above : Cond.selects RX12 yX12_above yX12_above ∈ WL := tw_0 (k := 46) (by decide +kernel) (by decide +kernel)
theorem wS_yX12_costOf : Cond.selects RX12 yX12_costOf yX12_costOf ∈ WL := tw_0 (k := 47) (by decide +kernel) (by decide +kernel)
theorem wS_yX12_counts : Cond.selects RX12 yX12_counts yX12_counts ∈ WL := tw_0 (k := 48) (by decide +kernel) (by decide +kernel)
theorem wS_yX12_readsNumbers : Cond.selects RX12 yX12_readsNumbers yX12_readsNumbers ∈ WL := tw_0 (k := 49) (by decide +kernel) (by decide +kernel)
theorem wS_yX12_skips : Cond.selects RX12 yX12_skips yX12_skips ∈ WL := tw_0 (k := 50) (by decide +kernel) (by decide +kernel)
theorem wS_yX12_next : Cond.selects RX12 yX12_next yX12_next ∈ WL := tw_0 (k := 51) (by decide +kernel) (by decide +kernel)
theorem wS_yX12_readsPart : Cond.selects RX12 yX12_readsPart yX12_readsPart ∈ WL := tw_0 (k := 52) (by decide +kernel) (by decide +kernel)
theorem wS_yX12_readsNumber : Cond.selects RX12 yX12_readsNumber yX12_readsNumber ∈ WL := tw_0 (k := 53) (by decide +kernel) (by decide +kernel)
theorem wS_yX12_fails : Cond.selects RX12 yX12_fails yX12_fails ∈ WL := tw_0 (k := 54) (by decide +kernel) (by decide +kernel)
theorem wS_yX12_listPart : Cond.selects RX12 yX12_listPart yX12_listPart ∈ WL := tw_0 (k := 55) (by decide +kernel) (by decide +kernel)
theorem wS_yX12_costOfList : Cond.selects RX12 yX12_costOfList yX12_costOfList ∈ WL := tw_0 (k := 56) (by decide +kernel) (by decide +kernel)
theorem wS_yX12_cost : Cond.selects RX12 yX12_cost yX12_cost ∈ WL := tw_0 (k := 57) (by decide +kernel) (by decide +kernel)
theorem wS_yX12_width : Cond.selects RX12 yX12_width yX12_width ∈ WL := tw_0 (k := 58) (by decide +kernel) (by decide +kernel)
theorem wS_yX12_exceptionsOf : Cond.selects RX12 yX12_exceptionsOf yX12_exceptionsOf ∈ WL := tw_0 (k := 59) (by decide +kernel) (by decide +kernel)
theorem wS_yX12_exceptions : Cond.selects RX12 yX12_exceptions yX12_exceptions ∈ WL := tw_0 (k := 60) (by decide +kernel) (by decide +kernel)
theorem wS_yX12_isBlock : Cond.selects RX12 yX12_isBlock yX12_isBlock ∈ WL := tw_0 (k := 61) (by decide +kernel) (by decide +kernel)
theorem wS_yX12_words : Cond.selects RX12 yX12_words yX12_words ∈ WL := tw_0 (k := 62) (by decide +kernel) (by decide +kernel)
theorem wS_yX12_looks : Cond.selects RX12 yX12_looks yX12_looks ∈ WL := tw_0 (k := 63) (by decide +kernel) (by decide +kernel)
theorem wS_yX12_cachePlace : Cond.selects RX12 yX12_cachePlace yX12_cachePlace ∈ WL := tw_0 (k := 64) (by decide +kernel) (by decide +kernel)
theorem wS_yX12_readsExpression : Cond.selects RX12 yX12_readsExpression yX12_readsExpression ∈ WL := tw_0 (k := 65) (by decide +kernel) (by decide +kernel)
theorem wS_yX12_readsOperand : Cond.selects RX12 yX12_readsOperand yX12_readsOperand ∈ WL := tw_0 (k := 66) (by decide +kernel) (by decide +kernel)
theorem wS_yX12_orders : Cond.selects RX12 yX12_orders yX12_orders ∈ WL := tw_0 (k := 67) (by decide +kernel) (by decide +kernel)
theorem wS_yX12_readsSign : Cond.selects RX12 yX12_readsSign yX12_readsSign ∈ WL := tw_0 (k := 68) (by decide +kernel) (by decide +kernel)
theorem wS_yX12_copies : Cond.selects RX12 yX12_copies yX12_copies ∈ WL := tw_0 (k := 69) (by decide +kernel) (by decide +kernel)
theorem wS_yX12_joins : Cond.selects RX12 yX12_joins yX12_joins ∈ WL := tw_0 (k := 70) (by decide +kernel) (by decide +kernel)
theorem wS_yX12_intersects : Cond.selects RX12 yX12_intersects yX12_intersects ∈ WL := tw_0 (k := 71) (by decide +kernel) (by decide +kernel)
theorem wS_yX12_puts : Cond.selects RX12 yX12_puts yX12_puts ∈ WL := tw_0 (k := 72) (by decide +kernel) (by decide +kernel)
theorem wS_yX12_gallops : Cond.selects RX12 yX12_gallops yX12_gallops ∈ WL := tw_0 (k := 73) (by decide +kernel) (by decide +kernel)
theorem wS_yX12_probe : Cond.selects RX12 yX12_probe yX12_probe ∈ WL := tw_0 (k := 74) (by decide +kernel) (by decide +kernel)
theorem wS_yX12_merges : Cond.selects RX12 yX12_merges yX12_merges ∈ WL := tw_0 (k := 75) (by decide +kernel) (by decide +kernel)
theorem wS_yX12_over : Cond.selects RX12 yX12_over yX12_over ∈ WL := tw_0 (k := 76) (by decide +kernel) (by decide +kernel)
theorem wS_yX12_mixes : Cond.selects RX12 yX12_mixes yX12_mixes ∈ WL := tw_0 (k := 77) (by decide +kernel) (by decide +kernel)
theorem wS_yX12_mixesBlock : Cond.selects RX12 yX12_mixesBlock yX12_mixesBlock ∈ WL := tw_0 (k := 78) (by decide +kernel) (by decide +kernel)
theorem wC_yX11_init : Cond.code yX11_init cX11_init 2 none ∈ WL := tw_1 (k := 21) (by decide +kernel) (by decide +kernel)
abbrev mX11_init : fM0 := (yX11_init, cX11_init, 2, none)
theorem wC_yX5_init : Cond.code yX5_init cX5_init 2 none ∈ WL := tw_1 (k := 31) (by decide +kernel) (by decide +kernel)
abbrev mX5_init : fM0 := (yX5_init, cX5_init, 2, none)
theorem wC_yX2_init : Cond.code yX2_init cX2_init 1 none ∈ WL := tw_1 (k := 37) (by decide +kernel) (by decide +kernel)
abbrev mX2_init : fM0 := (yX2_init, cX2_init, 1, none)
theorem wC_yX9_init : Cond.code yX9_init cX9_init 2 none ∈ WL := tw_1 (k := 43) (by decide +kernel) (by decide +kernel)
abbrev mX9_init : fM0 := (yX9_init, cX9_init, 2, none)
theorem wC_yJ9_max_7cf53 : Cond.code yJ9_max_7cf53 cJ9_max_7cf53 2 (some .int) ∈ WL := tw_1 (k := 47) (by decide +kernel) (by decide +kernel)
abbrev mJ9_max_7cf53 : fM0 := (yJ9_max_7cf53, cJ9_max_7cf53, 2, (some .int))
theorem wC_yX1_init : Cond.code yX1_init cX1_init 1 none ∈ WL := tw_1 (k := 96) (by decide +kernel) (by decide +kernel)
abbrev mX1_init : fM0 := (yX1_init, cX1_init, 1, none)
theorem wC_yX0_init : Cond.code yX0_init cX0_init 1 none ∈ WL := tw_1 (k := 123) (by decide +kernel) (by decide +kernel)
abbrev mX0_init : fM0 := (yX0_init, cX0_init, 1, none)
theorem wC_yX8_init : Cond.code yX8_init cX8_init 2 none ∈ WL := tw_1 (k := 155) (by decide +kernel) (by decide +kernel)
abbrev mX8_init : fM0 := (yX8_init, cX8_init, 2, none)
theorem wC_yX10_init : Cond.code yX10_init cX10_init 2 none ∈ WL := tw_1 (k := 162) (by decide +kernel) (by decide +kernel)
abbrev mX10_init : fM0 := (yX10_init, cX10_init, 2, none)
theorem wC_yX4_init : Cond.code yX4_init cX4_init 1 none ∈ WL := tw_1 (k := 197) (by decide +kernel) (by decide +kernel)
abbrev mX4_init : fM0 := (yX4_init, cX4_init, 1, none)
theorem wC_yX7_init : Cond.code yX7_init cX7_init 1 none ∈ WL := tw_1 (k := 213) (by decide +kernel) (by decide +kernel)
abbrev mX7_init : fM0 := (yX7_init, cX7_init, 1, none)
theorem wC_yX3_init : Cond.code yX3_init cX3_init 1 none ∈ WL := tw_1 (k := 235) (by decide +kernel) (by decide +kernel)
abbrev mX3_init : fM0 := (yX3_init, cX3_init, 1, none)
theorem wC_yX11_add : Cond.code yX11_add cX11_add 3 (some .int) ∈ WL := tw_2 (k := 48) (by decide +kernel) (by decide +kernel)
abbrev mX11_add : fM0 := (yX11_add, cX11_add, 3, (some .int))
theorem wC_yX11_isList : Cond.code yX11_isList cX11_isList 1 (some .boolean) ∈ WL := tw_2 (k := 51) (by decide +kernel) (by decide +kernel)
abbrev mX11_isList : fM0 := (yX11_isList, cX11_isList, 1, (some .boolean))
theorem wC_yX11_isValue : Cond.code yX11_isValue cX11_isValue 1 (some .boolean) ∈ WL := tw_2 (k := 54) (by decide +kernel) (by decide +kernel)
abbrev mX11_isValue : fM0 := (yX11_isValue, cX11_isValue, 1, (some .boolean))
theorem wC_yX9_has : Cond.code yX9_has cX9_has 3 (some .boolean) ∈ WL := tw_2 (k := 59) (by decide +kernel) (by decide +kernel)
abbrev mX9_has : fM0 := (yX9_has, cX9_has, 3, (some .boolean))
theorem wC_yX9_firstAtLeast : Cond.code yX9_firstAtLeast cX9_firstAtLeast 5 (some .int) ∈ WL := tw_2 (k := 63) (by decide +kernel) (by decide +kernel)
abbrev mX9_firstAtLeast : fM0 := (yX9_firstAtLeast, cX9_firstAtLeast, 5, (some .int))
theorem wC_yX9_get : Cond.code yX9_get cX9_get 2 (some .int) ∈ WL := tw_2 (k := 67) (by decide +kernel) (by decide +kernel)
abbrev mX9_get : fM0 := (yX9_get, cX9_get, 2, (some .int))
theorem wC_yX11_beginChange : Cond.code yX11_beginChange cX11_beginChange 2 none ∈ WL := tw_2 (k := 71) (by decide +kernel) (by decide +kernel)
abbrev mX11_beginChange : fM0 := (yX11_beginChange, cX11_beginChange, 2, none)
theorem wC_yX5_record : Cond.code yX5_record cX5_record 3 none ∈ WL := tw_2 (k := 75) (by decide +kernel) (by decide +kernel)
abbrev mX5_record : fM0 := (yX5_record, cX5_record, 3, none)
theorem wC_yX2_copyFrom : Cond.code yX2_copyFrom cX2_copyFrom 2 none ∈ WL := tw_2 (k := 79) (by decide +kernel) (by decide +kernel)
abbrev mX2_copyFrom : fM0 := (yX2_copyFrom, cX2_copyFrom, 2, none)
theorem wC_yX9_copyFrom : Cond.code yX9_copyFrom cX9_copyFrom 2 none ∈ WL := tw_2 (k := 83) (by decide +kernel) (by decide +kernel)
abbrev mX9_copyFrom : fM0 := (yX9_copyFrom, cX9_copyFrom, 2, none)
theorem wC_yJ9_min_7cf53 : Cond.code yJ9_min_7cf53 cJ9_min_7cf53 2 (some .int) ∈ WL := tw_2 (k := 86) (by decide +kernel) (by decide +kernel)
abbrev mJ9_min_7cf53 : fM0 := (yJ9_min_7cf53, cJ9_min_7cf53, 2, (some .int))
theorem wC_yX1_forget : Cond.code yX1_forget cX1_forget 4 none ∈ WL := tw_2 (k := 95) (by decide +kernel) (by decide +kernel)
abbrev mX1_forget : fM0 := (yX1_forget, cX1_forget, 4, none)
theorem wC_yX2_insert : Cond.code yX2_insert cX2_insert 4 (some .int) ∈ WL := tw_2 (k := 99) (by decide +kernel) (by decide +kernel)
abbrev mX2_insert : fM0 := (yX2_insert, cX2_insert, 4, (some .int))
theorem wC_yX2_lastBlockUpTo : Cond.code yX2_lastBlockUpTo cX2_lastBlockUpTo 5 (some .int) ∈ WL := tw_2 (k := 103) (by decide +kernel) (by decide +kernel)
abbrev mX2_lastBlockUpTo : fM0 := (yX2_lastBlockUpTo, cX2_lastBlockUpTo, 5, (some .int))
theorem wC_yX2_startOf : Cond.code yX2_startOf cX2_startOf 2 (some .int) ∈ WL := tw_2 (k := 107) (by decide +kernel) (by decide +kernel)
abbrev mX2_startOf : fM0 := (yX2_startOf, cX2_startOf, 2, (some .int))
theorem wC_yX2_startBlock : Cond.code yX2_startBlock cX2_startBlock 2 none ∈ WL := tw_2 (k := 113) (by decide +kernel) (by decide +kernel)
abbrev mX2_startBlock : fM0 := (yX2_startBlock, cX2_startBlock, 2, none)
theorem wC_yX9_insert : Cond.code yX9_insert cX9_insert 3 (some .int) ∈ WL := tw_2 (k := 117) (by decide +kernel) (by decide +kernel)
abbrev mX9_insert : fM0 := (yX9_insert, cX9_insert, 3, (some .int))
theorem wC_yX2_moveStarts : Cond.code yX2_moveStarts cX2_moveStarts 4 none ∈ WL := tw_2 (k := 121) (by decide +kernel) (by decide +kernel)
abbrev mX2_moveStarts : fM0 := (yX2_moveStarts, cX2_moveStarts, 4, none)
theorem wC_yX2_split : Cond.code yX2_split cX2_split 3 none ∈ WL := tw_2 (k := 125) (by decide +kernel) (by decide +kernel)
abbrev mX2_split : fM0 := (yX2_split, cX2_split, 3, none)
theorem wC_yX11_remove : Cond.code yX11_remove cX11_remove 3 (some .int) ∈ WL := tw_2 (k := 129) (by decide +kernel) (by decide +kernel)
abbrev mX11_remove : fM0 := (yX11_remove, cX11_remove, 3, (some .int))
theorem wC_yX2_delete : Cond.code yX2_delete cX2_delete 4 (some .int) ∈ WL := tw_2 (k := 133) (by decide +kernel) (by decide +kernel)
abbrev mX2_delete : fM0 := (yX2_delete, cX2_delete, 4, (some .int))
theorem wC_yX9_delete : Cond.code yX9_delete cX9_delete 3 (some .int) ∈ WL := tw_2 (k := 137) (by decide +kernel) (by decide +kernel)
abbrev mX9_delete : fM0 := (yX9_delete, cX9_delete, 3, (some .int))
theorem wC_yX2_dropBlock : Cond.code yX2_dropBlock cX2_dropBlock 2 none ∈ WL := tw_2 (k := 141) (by decide +kernel) (by decide +kernel)
abbrev mX2_dropBlock : fM0 := (yX2_dropBlock, cX2_dropBlock, 2, none)
theorem wC_yX11_pack : Cond.code yX11_pack cX11_pack 3 (some .int) ∈ WL := tw_2 (k := 145) (by decide +kernel) (by decide +kernel)
abbrev mX11_pack : fM0 := (yX11_pack, cX11_pack, 3, (some .int))
theorem wC_yX11_isPacking : Cond.code yX11_isPacking cX11_isPacking 1 (some .boolean) ∈ WL := tw_2 (k := 148) (by decide +kernel) (by decide +kernel)
abbrev mX11_isPacking : fM0 := (yX11_isPacking, cX11_isPacking, 1, (some .boolean))
theorem wC_yX8_cut : Cond.code yX8_cut cX8_cut 4 none ∈ WL := tw_2 (k := 152) (by decide +kernel) (by decide +kernel)
abbrev mX8_cut : fM0 := (yX8_cut, cX8_cut, 4, none)
theorem wC_yX8_plan : Cond.code yX8_plan cX8_plan 4 none ∈ WL := tw_2 (k := 156) (by decide +kernel) (by decide +kernel)
abbrev mX8_plan : fM0 := (yX8_plan, cX8_plan, 4, none)
theorem wC_yX8_widestOf : Cond.code yX8_widestOf cX8_widestOf 3 (some .int) ∈ WL := tw_2 (k := 159) (by decide +kernel) (by decide +kernel)
abbrev mX8_widestOf : fM0 := (yX8_widestOf, cX8_widestOf, 3, (some .int))
theorem wC_yX9_gapBefore : Cond.code yX9_gapBefore cX9_gapBefore 2 (some .int) ∈ WL := tw_2 (k := 163) (by decide +kernel) (by decide +kernel)
abbrev mX9_gapBefore : fM0 := (yX9_gapBefore, cX9_gapBefore, 2, (some .int))
theorem wC_yX11_bitsOf : Cond.code yX11_bitsOf cX11_bitsOf 2 (some .int) ∈ WL := tw_2 (k := 166) (by decide +kernel) (by decide +kernel)
abbrev mX11_bitsOf : fM0 := (yX11_bitsOf, cX11_bitsOf, 2, (some .int))
theorem wC_yX10_makeEmpty : Cond.code yX10_makeEmpty cX10_makeEmpty 1 none ∈ WL := tw_2 (k := 171) (by decide +kernel) (by decide +kernel)
abbrev mX10_makeEmpty : fM0 := (yX10_makeEmpty, cX10_makeEmpty, 1, none)
theorem wC_yX8_chooseEnd : Cond.code yX8_chooseEnd cX8_chooseEnd 8 none ∈ WL := tw_2 (k := 175) (by decide +kernel) (by decide +kernel)
abbrev mX8_chooseEnd : fM0 := (yX8_chooseEnd, cX8_chooseEnd, 8, none)
theorem wC_yX10_admit : Cond.code yX10_admit cX10_admit 4 none ∈ WL := tw_2 (k := 180) (by decide +kernel) (by decide +kernel)
abbrev mX10_admit : fM0 := (yX10_admit, cX10_admit, 4, none)
theorem wC_yX10_slot : Cond.code yX10_slot cX10_slot 2 (some .int) ∈ WL := tw_2 (k := 184) (by decide +kernel) (by decide +kernel)
abbrev mX10_slot : fM0 := (yX10_slot, cX10_slot, 2, (some .int))
theorem wC_yX10_leastRank : Cond.code yX10_leastRank cX10_leastRank 1 (some .int) ∈ WL := tw_2 (k := 188) (by decide +kernel) (by decide +kernel)
abbrev mX10_leastRank : fM0 := (yX10_leastRank, cX10_leastRank, 1, (some .int))
theorem wC_yX10_endOfLeast : Cond.code yX10_endOfLeast cX10_endOfLeast 1 (some .int) ∈ WL := tw_2 (k := 192) (by decide +kernel) (by decide +kernel)
abbrev mX10_endOfLeast : fM0 := (yX10_endOfLeast, cX10_endOfLeast, 1, (some .int))
theorem wC_yX8_passGap : Cond.code yX8_passGap cX8_passGap 4 none ∈ WL := tw_2 (k := 196) (by decide +kernel) (by decide +kernel)
abbrev mX8_passGap : fM0 := (yX8_passGap, cX8_passGap, 4, none)
theorem wC_yX10_passGap : Cond.code yX10_passGap cX10_passGap 2 none ∈ WL := tw_2 (k := 200) (by decide +kernel) (by decide +kernel)
abbrev mX10_passGap : fM0 := (yX10_passGap, cX10_passGap, 2, none)
theorem wC_yX2_cutBy : Cond.code yX2_cutBy cX2_cutBy 3 none ∈ WL := tw_2 (k := 205) (by decide +kernel) (by decide +kernel)
abbrev mX2_cutBy : fM0 := (yX2_cutBy, cX2_cutBy, 3, none)
theorem wC_yX11_sumOfBlocks : Cond.code yX11_sumOfBlocks cX11_sumOfBlocks 5 (some .int) ∈ WL := tw_2 (k := 209) (by decide +kernel) (by decide +kernel)
abbrev mX11_sumOfBlocks : fM0 := (yX11_sumOfBlocks, cX11_sumOfBlocks, 5, (some .int))
theorem wC_yX11_measured : Cond.code yX11_measured cX11_measured 3 (some (.object "PackedLists$BlockView")) ∈ WL := tw_2 (k := 213) (by decide +kernel) (by decide +kernel)
abbrev mX11_measured : fM0 := (yX11_measured, cX11_measured, 3, (some (.object "PackedLists$BlockView")))
theorem wC_yX0_measure : Cond.code yX0_measure cX0_measure 7 none ∈ WL := tw_2 (k := 218) (by decide +kernel) (by decide +kernel)
abbrev mX0_measure : fM0 := (yX0_measure, cX0_measure, 7, none)
theorem wC_yJ7_fill_53178 : Cond.code yJ7_fill_53178 cJ7_fill_53178 4 none ∈ WL := tw_2 (k := 221) (by decide +kernel) (by decide +kernel)
abbrev mJ7_fill_53178 : fM0 := (yJ7_fill_53178, cJ7_fill_53178, 4, none)
theorem wC_yX0_chooseWidth : Cond.code yX0_chooseWidth cX0_chooseWidth 5 none ∈ WL := tw_2 (k := 228) (by decide +kernel) (by decide +kernel)
abbrev mX0_chooseWidth : fM0 := (yX0_chooseWidth, cX0_chooseWidth, 5, none)
theorem wC_yX0_costWith : Cond.code yX0_costWith cX0_costWith 3 (some .int) ∈ WL := tw_2 (k := 232) (by decide +kernel) (by decide +kernel)
abbrev mX0_costWith : fM0 := (yX0_costWith, cX0_costWith, 3, (some .int))
theorem wC_yX0_property : Cond.code yX0_property cX0_property 2 (some .int) ∈ WL := tw_2 (k := 236) (by decide +kernel) (by decide +kernel)
abbrev mX0_property : fM0 := (yX0_property, cX0_property, 2, (some .int))
theorem wC_yX0_words : Cond.code yX0_words cX0_words 1 (some .int) ∈ WL := tw_3 (k := 1) (by decide +kernel) (by decide +kernel)
abbrev mX0_words : fM0 := (yX0_words, cX0_words, 1, (some .int))
theorem wC_yX11_load : Cond.code yX11_load cX11_load 3 (some .int) ∈ WL := tw_3 (k := 5) (by decide +kernel) (by decide +kernel)
abbrev mX11_load : fM0 := (yX11_load, cX11_load, 3, (some .int))
theorem wC_yX7_read : Cond.code yX7_read cX7_read 5 (some .int) ∈ WL := tw_3 (k := 9) (by decide +kernel) (by decide +kernel)
abbrev mX7_read : fM0 := (yX7_read, cX7_read, 5, (some .int))
theorem wC_yX7_skipBlanks : Cond.code yX7_skipBlanks cX7_skipBlanks 1 none ∈ WL := tw_3 (k := 13) (by decide +kernel) (by decide +kernel)
abbrev mX7_skipBlanks : fM0 := (yX7_skipBlanks, cX7_skipBlanks, 1, none)
theorem wC_yX7_readPart : Cond.code yX7_readPart cX7_readPart 6 (some .int) ∈ WL := tw_3 (k := 18) (by decide +kernel) (by decide +kernel)
abbrev mX7_readPart : fM0 := (yX7_readPart, cX7_readPart, 6, (some .int))
theorem wC_yX7_readNumber : Cond.code yX7_readNumber cX7_readNumber 4 (some .int) ∈ WL := tw_3 (k := 22) (by decide +kernel) (by decide +kernel)
abbrev mX7_readNumber : fM0 := (yX7_readNumber, cX7_readNumber, 4, (some .int))
theorem wC_yX7_isDigit : Cond.code yX7_isDigit cX7_isDigit 1 (some .boolean) ∈ WL := tw_3 (k := 25) (by decide +kernel) (by decide +kernel)
abbrev mX7_isDigit : fM0 := (yX7_isDigit, cX7_isDigit, 1, (some .boolean))
theorem wC_yX7_stepOver : Cond.code yX7_stepOver cX7_stepOver 1 none ∈ WL := tw_3 (k := 29) (by decide +kernel) (by decide +kernel)
abbrev mX7_stepOver : fM0 := (yX7_stepOver, cX7_stepOver, 1, none)
theorem wC_yX9_append : Cond.code yX9_append cX9_append 2 none ∈ WL := tw_3 (k := 33) (by decide +kernel) (by decide +kernel)
abbrev mX9_append : fM0 := (yX9_append, cX9_append, 2, none)
theorem wC_yX11_replaceNumbers : Cond.code yX11_replaceNumbers cX11_replaceNumbers 3 none ∈ WL := tw_3 (k := 37) (by decide +kernel) (by decide +kernel)
abbrev mX11_replaceNumbers : fM0 := (yX11_replaceNumbers, cX11_replaceNumbers, 3, none)
theorem wC_yX11_store : Cond.code yX11_store cX11_store 2 (some .int) ∈ WL := tw_3 (k := 42) (by decide +kernel) (by decide +kernel)
abbrev mX11_store : fM0 := (yX11_store, cX11_store, 2, (some .int))
theorem wC_yX11_clear : Cond.code yX11_clear cX11_clear 3 (some .int) ∈ WL := tw_3 (k := 46) (by decide +kernel) (by decide +kernel)
abbrev mX11_clear : fM0 := (yX11_clear, cX11_clear, 3, (some .int))
theorem wC_yX2_makeEmpty : Cond.code yX2_makeEmpty cX2_makeEmpty 1 none ∈ WL := tw_3 (k := 50) (by decide +kernel) (by decide +kernel)
abbrev mX2_makeEmpty : fM0 := (yX2_makeEmpty, cX2_makeEmpty, 1, none)
theorem wC_yX11_undo : Cond.code yX11_undo cX11_undo 1 (some .int) ∈ WL := tw_3 (k := 54) (by decide +kernel) (by decide +kernel)
abbrev mX11_undo : fM0 := (yX11_undo, cX11_undo, 1, (some .int))
theorem wC_yX5_restoreLatest : Cond.code yX5_restoreLatest cX5_restoreLatest 2 none ∈ WL := tw_3 (k := 58) (by decide +kernel) (by decide +kernel)
abbrev mX5_restoreLatest : fM0 := (yX5_restoreLatest, cX5_restoreLatest, 2, none)
theorem wC_yX1_forgetAll : Cond.code yX1_forgetAll cX1_forgetAll 1 none ∈ WL := tw_3 (k := 62) (by decide +kernel) (by decide +kernel)
abbrev mX1_forgetAll : fM0 := (yX1_forgetAll, cX1_forgetAll, 1, none)
theorem wC_yX11_type : Cond.code yX11_type cX11_type 2 (some .int) ∈ WL := tw_3 (k := 66) (by decide +kernel) (by decide +kernel)
abbrev mX11_type : fM0 := (yX11_type, cX11_type, 2, (some .int))
theorem wC_yX11_erase : Cond.code yX11_erase cX11_erase 2 (some .int) ∈ WL := tw_3 (k := 71) (by decide +kernel) (by decide +kernel)
abbrev mX11_erase : fM0 := (yX11_erase, cX11_erase, 2, (some .int))
theorem wC_yX11_list : Cond.code yX11_list cX11_list 4 (some .int) ∈ WL := tw_3 (k := 75) (by decide +kernel) (by decide +kernel)
abbrev mX11_list : fM0 := (yX11_list, cX11_list, 4, (some .int))
theorem wC_yX11_block : Cond.code yX11_block cX11_block 4 (some .int) ∈ WL := tw_3 (k := 80) (by decide +kernel) (by decide +kernel)
abbrev mX11_block : fM0 := (yX11_block, cX11_block, 4, (some .int))
theorem wC_yX11_isBlock : Cond.code yX11_isBlock cX11_isBlock 3 (some .boolean) ∈ WL := tw_3 (k := 84) (by decide +kernel) (by decide +kernel)
abbrev mX11_isBlock : fM0 := (yX11_isBlock, cX11_isBlock, 3, (some .boolean))
theorem wC_yX11_word : Cond.code yX11_word cX11_word 5 (some .long) ∈ WL := tw_3 (k := 88) (by decide +kernel) (by decide +kernel)
abbrev mX11_word : fM0 := (yX11_word, cX11_word, 5, (some .long))
theorem wC_yX0_wordAt : Cond.code yX0_wordAt cX0_wordAt 9 (some .long) ∈ WL := tw_3 (k := 94) (by decide +kernel) (by decide +kernel)
abbrev mX0_wordAt : fM0 := (yX0_wordAt, cX0_wordAt, 9, (some .long))
theorem wC_yX11_exception : Cond.code yX11_exception cX11_exception 9 (some .int) ∈ WL := tw_3 (k := 99) (by decide +kernel) (by decide +kernel)
abbrev mX11_exception : fM0 := (yX11_exception, cX11_exception, 9, (some .int))
theorem wC_yX0_highPart : Cond.code yX0_highPart cX0_highPart 2 (some .int) ∈ WL := tw_3 (k := 103) (by decide +kernel) (by decide +kernel)
abbrev mX0_highPart : fM0 := (yX0_highPart, cX0_highPart, 2, (some .int))
theorem wC_yX11_gaps : Cond.code yX11_gaps cX11_gaps 6 (some .int) ∈ WL := tw_3 (k := 107) (by decide +kernel) (by decide +kernel)
abbrev mX11_gaps : fM0 := (yX11_gaps, cX11_gaps, 6, (some .int))
theorem wC_yX11_costBy : Cond.code yX11_costBy cX11_costBy 6 (some .int) ∈ WL := tw_3 (k := 113) (by decide +kernel) (by decide +kernel)
abbrev mX11_costBy : fM0 := (yX11_costBy, cX11_costBy, 6, (some .int))
theorem wC_yX8_leastCost : Cond.code yX8_leastCost cX8_leastCost 2 (some .int) ∈ WL := tw_3 (k := 117) (by decide +kernel) (by decide +kernel)
abbrev mX8_leastCost : fM0 := (yX8_leastCost, cX8_leastCost, 2, (some .int))
theorem wC_yX11_part : Cond.code yX11_part cX11_part 5 (some .int) ∈ WL := tw_3 (k := 122) (by decide +kernel) (by decide +kernel)
abbrev mX11_part : fM0 := (yX11_part, cX11_part, 5, (some .int))
theorem wC_yX11_at : Cond.code yX11_at cX11_at 4 (some .int) ∈ WL := tw_3 (k := 126) (by decide +kernel) (by decide +kernel)
abbrev mX11_at : fM0 := (yX11_at, cX11_at, 4, (some .int))
theorem wC_yX1_look : Cond.code yX1_look cX1_look 4 none ∈ WL := tw_3 (k := 131) (by decide +kernel) (by decide +kernel)
abbrev mX1_look : fM0 := (yX1_look, cX1_look, 4, none)
theorem wC_yX1_placeOf : Cond.code yX1_placeOf cX1_placeOf 4 (some .int) ∈ WL := tw_3 (k := 135) (by decide +kernel) (by decide +kernel)
abbrev mX1_placeOf : fM0 := (yX1_placeOf, cX1_placeOf, 4, (some .int))
theorem wC_yX11_find : Cond.code yX11_find cX11_find 7 (some .int) ∈ WL := tw_3 (k := 141) (by decide +kernel) (by decide +kernel)
abbrev mX11_find : fM0 := (yX11_find, cX11_find, 7, (some .int))
theorem wC_yX11_cached : Cond.code yX11_cached cX11_cached 3 (some .int) ∈ WL := tw_3 (k := 146) (by decide +kernel) (by decide +kernel)
abbrev mX11_cached : fM0 := (yX11_cached, cX11_cached, 3, (some .int))
theorem wC_yX11_query : Cond.code yX11_query cX11_query 2 (some .int) ∈ WL := tw_3 (k := 151) (by decide +kernel) (by decide +kernel)
abbrev mX11_query : fM0 := (yX11_query, cX11_query, 2, (some .int))
theorem wC_yX3_read : Cond.code yX3_read cX3_read 3 (some .int) ∈ WL := tw_3 (k := 155) (by decide +kernel) (by decide +kernel)
abbrev mX3_read : fM0 := (yX3_read, cX3_read, 3, (some .int))
theorem wC_yX3_take : Cond.code yX3_take cX3_take 2 (some .boolean) ∈ WL := tw_3 (k := 160) (by decide +kernel) (by decide +kernel)
abbrev mX3_take : fM0 := (yX3_take, cX3_take, 2, (some .boolean))
theorem wC_yX3_takeFactor : Cond.code yX3_takeFactor cX3_takeFactor 2 (some .boolean) ∈ WL := tw_3 (k := 164) (by decide +kernel) (by decide +kernel)
abbrev mX3_takeFactor : fM0 := (yX3_takeFactor, cX3_takeFactor, 2, (some .boolean))
theorem wC_yX3_takeSign : Cond.code yX3_takeSign cX3_takeSign 2 (some .boolean) ∈ WL := tw_3 (k := 169) (by decide +kernel) (by decide +kernel)
abbrev mX3_takeSign : fM0 := (yX3_takeSign, cX3_takeSign, 2, (some .boolean))
theorem wC_yX3_releaseFrom : Cond.code yX3_releaseFrom cX3_releaseFrom 2 none ∈ WL := tw_3 (k := 173) (by decide +kernel) (by decide +kernel)
abbrev mX3_releaseFrom : fM0 := (yX3_releaseFrom, cX3_releaseFrom, 2, none)
theorem wC_yX3_strengthOf : Cond.code yX3_strengthOf cX3_strengthOf 1 (some .int) ∈ WL := tw_3 (k := 176) (by decide +kernel) (by decide +kernel)
abbrev mX3_strengthOf : fM0 := (yX3_strengthOf, cX3_strengthOf, 1, (some .int))
theorem wC_yX6_init : Cond.code yX6_init cX6_init 1 none ∈ WL := tw_3 (k := 181) (by decide +kernel) (by decide +kernel)
abbrev mX6_init : fM0 := (yX6_init, cX6_init, 1, none)
theorem wC_yX6_carryOut : Cond.code yX6_carryOut cX6_carryOut 6 none ∈ WL := tw_3 (k := 218) (by decide +kernel) (by decide +kernel)
abbrev mX6_carryOut : fM0 := (yX6_carryOut, cX6_carryOut, 6, none)
theorem wC_yX6_gatherAll : Cond.code yX6_gatherAll cX6_gatherAll 4 none ∈ WL := tw_3 (k := 222) (by decide +kernel) (by decide +kernel)
abbrev mX6_gatherAll : fM0 := (yX6_gatherAll, cX6_gatherAll, 4, none)
theorem wC_yX6_leastAtCursors : Cond.code yX6_leastAtCursors cX6_leastAtCursors 4 (some .int) ∈ WL := tw_3 (k := 227) (by decide +kernel) (by decide +kernel)
abbrev mX6_leastAtCursors : fM0 := (yX6_leastAtCursors, cX6_leastAtCursors, 4, (some .int))
theorem wC_yX6_passCursors : Cond.code yX6_passCursors cX6_passCursors 5 (some .int) ∈ WL := tw_3 (k := 236) (by decide +kernel) (by decide +kernel)
abbrev mX6_passCursors : fM0 := (yX6_passCursors, cX6_passCursors, 5, (some .int))
theorem wC_yX6_join : Cond.code yX6_join cX6_join 6 (some .long) ∈ WL := tw_4 (k := 2) (by decide +kernel) (by decide +kernel)
abbrev mX6_join : fM0 := (yX6_join, cX6_join, 6, (some .long))
theorem wC_yX6_makeRow : Cond.code yX6_makeRow cX6_makeRow 5 none ∈ WL := tw_4 (k := 7) (by decide +kernel) (by decide +kernel)
abbrev mX6_makeRow : fM0 := (yX6_makeRow, cX6_makeRow, 5, none)
theorem wC_yX4_intersect : Cond.code yX4_intersect cX4_intersect 7 none ∈ WL := tw_4 (k := 11) (by decide +kernel) (by decide +kernel)
abbrev mX4_intersect : fM0 := (yX4_intersect, cX4_intersect, 7, none)
theorem wC_yX4_gallop : Cond.code yX4_gallop cX4_gallop 7 (some .int) ∈ WL := tw_4 (k := 16) (by decide +kernel) (by decide +kernel)
abbrev mX4_gallop : fM0 := (yX4_gallop, cX4_gallop, 7, (some .int))
theorem wC_yX4_reaches : Cond.code yX4_reaches cX4_reaches 4 (some .boolean) ∈ WL := tw_4 (k := 20) (by decide +kernel) (by decide +kernel)
abbrev mX4_reaches : fM0 := (yX4_reaches, cX4_reaches, 4, (some .boolean))
theorem wC_yX11_result : Cond.code yX11_result cX11_result 2 (some .int) ∈ WL := tw_4 (k := 25) (by decide +kernel) (by decide +kernel)
abbrev mX11_result : fM0 := (yX11_result, cX11_result, 2, (some .int))
theorem wC_yX11_common : Cond.code yX11_common cX11_common 4 (some .int) ∈ WL := tw_4 (k := 29) (by decide +kernel) (by decide +kernel)
abbrev mX11_common : fM0 := (yX11_common, cX11_common, 4, (some .int))
theorem wC_yX11_count : Cond.code yX11_count cX11_count 4 (some .int) ∈ WL := tw_4 (k := 34) (by decide +kernel) (by decide +kernel)
abbrev mX11_count : fM0 := (yX11_count, cX11_count, 4, (some .int))
theorem wC_yX11_digest : Cond.code yX11_digest cX11_digest 4 (some .long) ∈ WL := tw_4 (k := 39) (by decide +kernel) (by decide +kernel)
abbrev mX11_digest : fM0 := (yX11_digest, cX11_digest, 4, (some .long))
theorem wC_yX11_mix : Cond.code yX11_mix cX11_mix 4 (some .long) ∈ WL := tw_4 (k := 44) (by decide +kernel) (by decide +kernel)
abbrev mX11_mix : fM0 := (yX11_mix, cX11_mix, 4, (some .long))
theorem wC_yX11_mixBlocks : Cond.code yX11_mixBlocks cX11_mixBlocks 7 (some .long) ∈ WL := tw_4 (k := 49) (by decide +kernel) (by decide +kernel)
abbrev mX11_mixBlocks : fM0 := (yX11_mixBlocks, cX11_mixBlocks, 7, (some .long))
theorem wC_yX11_mixBlock : Cond.code yX11_mixBlock cX11_mixBlock 7 (some .long) ∈ WL := tw_4 (k := 52) (by decide +kernel) (by decide +kernel)
abbrev mX11_mixBlock : fM0 := (yX11_mixBlock, cX11_mixBlock, 7, (some .long))
theorem wC_yX11_mixRow : Cond.code yX11_mixRow cX11_mixRow 6 (some .long) ∈ WL := tw_4 (k := 56) (by decide +kernel) (by decide +kernel)
abbrev mX11_mixRow : fM0 := (yX11_mixRow, cX11_mixRow, 6, (some .long))
theorem wC_yX12_init : Cond.code yX12_init cX12_init 1 none ∈ WL := tw_4 (k := 61) (by decide +kernel) (by decide +kernel)
abbrev mX12_init : fM0 := (yX12_init, cX12_init, 1, none)
theorem wC_yX12_undo : Cond.code yX12_undo cX12_undo 2 (some .int) ∈ WL := tw_4 (k := 172) (by decide +kernel) (by decide +kernel)
abbrev mX12_undo : fM0 := (yX12_undo, cX12_undo, 2, (some .int))
theorem wC_yX12_add : Cond.code yX12_add cX12_add 7 (some .int) ∈ WL := tw_4 (k := 176) (by decide +kernel) (by decide +kernel)
abbrev mX12_add : fM0 := (yX12_add, cX12_add, 7, (some .int))
theorem wC_yX12_isList : Cond.code yX12_isList cX12_isList 1 (some .boolean) ∈ WL := tw_4 (k := 179) (by decide +kernel) (by decide +kernel)
abbrev mX12_isList : fM0 := (yX12_isList, cX12_isList, 1, (some .boolean))
theorem wC_yX12_in : Cond.code yX12_in cX12_in 3 (some .boolean) ∈ WL := tw_4 (k := 182) (by decide +kernel) (by decide +kernel)
abbrev mX12_in : fM0 := (yX12_in, cX12_in, 3, (some .boolean))
theorem wC_yX12_isValue : Cond.code yX12_isValue cX12_isValue 1 (some .boolean) ∈ WL := tw_4 (k := 185) (by decide +kernel) (by decide +kernel)
abbrev mX12_isValue : fM0 := (yX12_isValue, cX12_isValue, 1, (some .boolean))
theorem wC_yX12_has : Cond.code yX12_has cX12_has 4 (some .boolean) ∈ WL := tw_4 (k := 190) (by decide +kernel) (by decide +kernel)
abbrev mX12_has : fM0 := (yX12_has, cX12_has, 4, (some .boolean))
theorem wC_yX12_place : Cond.code yX12_place cX12_place 4 (some .int) ∈ WL := tw_4 (k := 194) (by decide +kernel) (by decide +kernel)
abbrev mX12_place : fM0 := (yX12_place, cX12_place, 4, (some .int))
theorem wC_yX12_many : Cond.code yX12_many cX12_many 2 (some .int) ∈ WL := tw_4 (k := 198) (by decide +kernel) (by decide +kernel)
abbrev mX12_many : fM0 := (yX12_many, cX12_many, 2, (some .int))
theorem wC_yX12_number : Cond.code yX12_number cX12_number 3 (some .int) ∈ WL := tw_4 (k := 202) (by decide +kernel) (by decide +kernel)
abbrev mX12_number : fM0 := (yX12_number, cX12_number, 3, (some .int))
theorem wC_yX12_keeps : Cond.code yX12_keeps cX12_keeps 4 none ∈ WL := tw_4 (k := 206) (by decide +kernel) (by decide +kernel)
abbrev mX12_keeps : fM0 := (yX12_keeps, cX12_keeps, 4, none)
theorem wC_yX12_lastBlock : Cond.code yX12_lastBlock cX12_lastBlock 5 (some .int) ∈ WL := tw_4 (k := 210) (by decide +kernel) (by decide +kernel)
abbrev mX12_lastBlock : fM0 := (yX12_lastBlock, cX12_lastBlock, 5, (some .int))
theorem wC_yX12_blocks : Cond.code yX12_blocks cX12_blocks 2 (some .int) ∈ WL := tw_4 (k := 214) (by decide +kernel) (by decide +kernel)
abbrev mX12_blocks : fM0 := (yX12_blocks, cX12_blocks, 2, (some .int))
theorem wC_yX12_begin : Cond.code yX12_begin cX12_begin 5 (some .int) ∈ WL := tw_4 (k := 218) (by decide +kernel) (by decide +kernel)
abbrev mX12_begin : fM0 := (yX12_begin, cX12_begin, 5, (some .int))
theorem wC_yX12_length : Cond.code yX12_length cX12_length 3 (some .int) ∈ WL := tw_4 (k := 222) (by decide +kernel) (by decide +kernel)
abbrev mX12_length : fM0 := (yX12_length, cX12_length, 3, (some .int))
theorem wC_yX12_splits : Cond.code yX12_splits cX12_splits 5 none ∈ WL := tw_4 (k := 226) (by decide +kernel) (by decide +kernel)
abbrev mX12_splits : fM0 := (yX12_splits, cX12_splits, 5, none)
theorem wC_yX12_remove : Cond.code yX12_remove cX12_remove 6 (some .int) ∈ WL := tw_4 (k := 230) (by decide +kernel) (by decide +kernel)
abbrev mX12_remove : fM0 := (yX12_remove, cX12_remove, 6, (some .int))
theorem wC_yX12_blockOf : Cond.code yX12_blockOf cX12_blockOf 4 (some .int) ∈ WL := tw_4 (k := 234) (by decide +kernel) (by decide +kernel)
abbrev mX12_blockOf : fM0 := (yX12_blockOf, cX12_blockOf, 4, (some .int))
theorem wC_yX12_pack : Cond.code yX12_pack cX12_pack 3 (some .int) ∈ WL := tw_4 (k := 238) (by decide +kernel) (by decide +kernel)
abbrev mX12_pack : fM0 := (yX12_pack, cX12_pack, 3, (some .int))
theorem wC_yX12_packs : Cond.code yX12_packs cX12_packs 5 (some .int) ∈ WL := tw_5 (k := 2) (by decide +kernel) (by decide +kernel)
abbrev mX12_packs : fM0 := (yX12_packs, cX12_packs, 5, (some .int))
theorem wC_yX12_plans : Cond.code yX12_plans cX12_plans 7 (some .int) ∈ WL := tw_5 (k := 6) (by decide +kernel) (by decide +kernel)
abbrev mX12_plans : fM0 := (yX12_plans, cX12_plans, 7, (some .int))
theorem wC_yX12_solves : Cond.code yX12_solves cX12_solves 8 none ∈ WL := tw_5 (k := 10) (by decide +kernel) (by decide +kernel)
abbrev mX12_solves : fM0 := (yX12_solves, cX12_solves, 8, none)
theorem wC_yX12_gap : Cond.code yX12_gap cX12_gap 3 (some .int) ∈ WL := tw_5 (k := 14) (by decide +kernel) (by decide +kernel)
abbrev mX12_gap : fM0 := (yX12_gap, cX12_gap, 3, (some .int))
theorem wC_yX12_bitsOf : Cond.code yX12_bitsOf cX12_bitsOf 2 (some .int) ∈ WL := tw_5 (k := 17) (by decide +kernel) (by decide +kernel)
abbrev mX12_bitsOf : fM0 := (yX12_bitsOf, cX12_bitsOf, 2, (some .int))
theorem wC_yX12_best : Cond.code yX12_best cX12_best 7 (some .int) ∈ WL := tw_5 (k := 21) (by decide +kernel) (by decide +kernel)
abbrev mX12_best : fM0 := (yX12_best, cX12_best, 7, (some .int))
theorem wC_yX12_above : Cond.code yX12_above cX12_above 4 (some .int) ∈ WL := tw_5 (k := 25) (by decide +kernel) (by decide +kernel)
abbrev mX12_above : fM0 := (yX12_above, cX12_above, 4, (some .int))
theorem wC_yX12_costOf : Cond.code yX12_costOf cX12_costOf 3 (some .int) ∈ WL := tw_5 (k := 29) (by decide +kernel) (by decide +kernel)
abbrev mX12_costOf : fM0 := (yX12_costOf, cX12_costOf, 3, (some .int))
theorem wC_yX12_counts : Cond.code yX12_counts cX12_counts 5 none ∈ WL := tw_5 (k := 33) (by decide +kernel) (by decide +kernel)
abbrev mX12_counts : fM0 := (yX12_counts, cX12_counts, 5, none)
theorem wC_yX12_clear : Cond.code yX12_clear cX12_clear 3 (some .int) ∈ WL := tw_5 (k := 37) (by decide +kernel) (by decide +kernel)
abbrev mX12_clear : fM0 := (yX12_clear, cX12_clear, 3, (some .int))
theorem wC_yX12_store : Cond.code yX12_store cX12_store 3 (some .int) ∈ WL := tw_5 (k := 41) (by decide +kernel) (by decide +kernel)
abbrev mX12_store : fM0 := (yX12_store, cX12_store, 3, (some .int))
theorem wC_yX12_type : Cond.code yX12_type cX12_type 2 (some .int) ∈ WL := tw_5 (k := 45) (by decide +kernel) (by decide +kernel)
abbrev mX12_type : fM0 := (yX12_type, cX12_type, 2, (some .int))
theorem wC_yX12_erase : Cond.code yX12_erase cX12_erase 2 (some .int) ∈ WL := tw_5 (k := 49) (by decide +kernel) (by decide +kernel)
abbrev mX12_erase : fM0 := (yX12_erase, cX12_erase, 2, (some .int))
theorem wC_yX12_load : Cond.code yX12_load cX12_load 3 (some .int) ∈ WL := tw_5 (k := 53) (by decide +kernel) (by decide +kernel)
abbrev mX12_load : fM0 := (yX12_load, cX12_load, 3, (some .int))
theorem wC_yX12_readsNumbers : Cond.code yX12_readsNumbers cX12_readsNumbers 3 none ∈ WL := tw_5 (k := 57) (by decide +kernel) (by decide +kernel)
abbrev mX12_readsNumbers : fM0 := (yX12_readsNumbers, cX12_readsNumbers, 3, none)
theorem wC_yX12_skips : Cond.code yX12_skips cX12_skips 1 none ∈ WL := tw_5 (k := 61) (by decide +kernel) (by decide +kernel)
abbrev mX12_skips : fM0 := (yX12_skips, cX12_skips, 1, none)
theorem wC_yX12_next : Cond.code yX12_next cX12_next 1 (some .int) ∈ WL := tw_5 (k := 65) (by decide +kernel) (by decide +kernel)
abbrev mX12_next : fM0 := (yX12_next, cX12_next, 1, (some .int))
theorem wC_yX12_readsPart : Cond.code yX12_readsPart cX12_readsPart 5 (some .int) ∈ WL := tw_5 (k := 69) (by decide +kernel) (by decide +kernel)
abbrev mX12_readsPart : fM0 := (yX12_readsPart, cX12_readsPart, 5, (some .int))
theorem wC_yX12_readsNumber : Cond.code yX12_readsNumber cX12_readsNumber 4 (some .int) ∈ WL := tw_5 (k := 73) (by decide +kernel) (by decide +kernel)
abbrev mX12_readsNumber : fM0 := (yX12_readsNumber, cX12_readsNumber, 4, (some .int))
theorem wC_yX12_fails : Cond.code yX12_fails cX12_fails 2 none ∈ WL := tw_5 (k := 77) (by decide +kernel) (by decide +kernel)
abbrev mX12_fails : fM0 := (yX12_fails, cX12_fails, 2, none)
theorem wC_yX12_list : Cond.code yX12_list cX12_list 3 (some .int) ∈ WL := tw_5 (k := 81) (by decide +kernel) (by decide +kernel)
abbrev mX12_list : fM0 := (yX12_list, cX12_list, 3, (some .int))
theorem wC_yX12_listPart : Cond.code yX12_listPart cX12_listPart 3 (some .int) ∈ WL := tw_5 (k := 85) (by decide +kernel) (by decide +kernel)
abbrev mX12_listPart : fM0 := (yX12_listPart, cX12_listPart, 3, (some .int))
theorem wC_yX12_costOfList : Cond.code yX12_costOfList cX12_costOfList 4 (some .int) ∈ WL := tw_5 (k := 89) (by decide +kernel) (by decide +kernel)
abbrev mX12_costOfList : fM0 := (yX12_costOfList, cX12_costOfList, 4, (some .int))
theorem wC_yX12_cost : Cond.code yX12_cost cX12_cost 4 (some .int) ∈ WL := tw_5 (k := 93) (by decide +kernel) (by decide +kernel)
abbrev mX12_cost : fM0 := (yX12_cost, cX12_cost, 4, (some .int))
theorem wC_yX12_width : Cond.code yX12_width cX12_width 4 (some .int) ∈ WL := tw_5 (k := 97) (by decide +kernel) (by decide +kernel)
abbrev mX12_width : fM0 := (yX12_width, cX12_width, 4, (some .int))
theorem wC_yX12_exceptionsOf : Cond.code yX12_exceptionsOf cX12_exceptionsOf 4 (some .int) ∈ WL := tw_5 (k := 101) (by decide +kernel) (by decide +kernel)
abbrev mX12_exceptionsOf : fM0 := (yX12_exceptionsOf, cX12_exceptionsOf, 4, (some .int))
theorem wC_yX12_exceptions : Cond.code yX12_exceptions cX12_exceptions 4 (some .int) ∈ WL := tw_5 (k := 105) (by decide +kernel) (by decide +kernel)
abbrev mX12_exceptions : fM0 := (yX12_exceptions, cX12_exceptions, 4, (some .int))
theorem wC_yX12_block : Cond.code yX12_block cX12_block 4 (some .int) ∈ WL := tw_5 (k := 109) (by decide +kernel) (by decide +kernel)
abbrev mX12_block : fM0 := (yX12_block, cX12_block, 4, (some .int))
theorem wC_yX12_isBlock : Cond.code yX12_isBlock cX12_isBlock 3 (some .boolean) ∈ WL := tw_5 (k := 113) (by decide +kernel) (by decide +kernel)
abbrev mX12_isBlock : fM0 := (yX12_isBlock, cX12_isBlock, 3, (some .boolean))
theorem wC_yX12_words : Cond.code yX12_words cX12_words 3 (some .int) ∈ WL := tw_5 (k := 117) (by decide +kernel) (by decide +kernel)
abbrev mX12_words : fM0 := (yX12_words, cX12_words, 3, (some .int))
theorem wC_yX12_word : Cond.code yX12_word cX12_word 11 (some .long) ∈ WL := tw_5 (k := 121) (by decide +kernel) (by decide +kernel)
abbrev mX12_word : fM0 := (yX12_word, cX12_word, 11, (some .long))
theorem wC_yX12_exception : Cond.code yX12_exception cX12_exception 9 (some .int) ∈ WL := tw_5 (k := 126) (by decide +kernel) (by decide +kernel)
abbrev mX12_exception : fM0 := (yX12_exception, cX12_exception, 9, (some .int))
theorem wC_yX12_gaps : Cond.code yX12_gaps cX12_gaps 3 (some .int) ∈ WL := tw_5 (k := 130) (by decide +kernel) (by decide +kernel)
abbrev mX12_gaps : fM0 := (yX12_gaps, cX12_gaps, 3, (some .int))
theorem wC_yX12_costBy : Cond.code yX12_costBy cX12_costBy 3 (some .int) ∈ WL := tw_5 (k := 134) (by decide +kernel) (by decide +kernel)
abbrev mX12_costBy : fM0 := (yX12_costBy, cX12_costBy, 3, (some .int))
theorem wC_yX12_part : Cond.code yX12_part cX12_part 6 (some .int) ∈ WL := tw_5 (k := 138) (by decide +kernel) (by decide +kernel)
abbrev mX12_part : fM0 := (yX12_part, cX12_part, 6, (some .int))
theorem wC_yX12_at : Cond.code yX12_at cX12_at 3 (some .int) ∈ WL := tw_5 (k := 142) (by decide +kernel) (by decide +kernel)
abbrev mX12_at : fM0 := (yX12_at, cX12_at, 3, (some .int))
theorem wC_yX12_looks : Cond.code yX12_looks cX12_looks 6 none ∈ WL := tw_5 (k := 146) (by decide +kernel) (by decide +kernel)
abbrev mX12_looks : fM0 := (yX12_looks, cX12_looks, 6, none)
theorem wC_yX12_cachePlace : Cond.code yX12_cachePlace cX12_cachePlace 4 (some .int) ∈ WL := tw_5 (k := 150) (by decide +kernel) (by decide +kernel)
abbrev mX12_cachePlace : fM0 := (yX12_cachePlace, cX12_cachePlace, 4, (some .int))
theorem wC_yX12_find : Cond.code yX12_find cX12_find 6 (some .int) ∈ WL := tw_5 (k := 154) (by decide +kernel) (by decide +kernel)
abbrev mX12_find : fM0 := (yX12_find, cX12_find, 6, (some .int))
theorem wC_yX12_cached : Cond.code yX12_cached cX12_cached 3 (some .int) ∈ WL := tw_5 (k := 158) (by decide +kernel) (by decide +kernel)
abbrev mX12_cached : fM0 := (yX12_cached, cX12_cached, 3, (some .int))
theorem wC_yX12_query : Cond.code yX12_query cX12_query 3 (some .int) ∈ WL := tw_5 (k := 162) (by decide +kernel) (by decide +kernel)
abbrev mX12_query : fM0 := (yX12_query, cX12_query, 3, (some .int))
theorem wC_yX12_readsExpression : Cond.code yX12_readsExpression cX12_readsExpression 2 none ∈ WL := tw_5 (k := 166) (by decide +kernel) (by decide +kernel)
abbrev mX12_readsExpression : fM0 := (yX12_readsExpression, cX12_readsExpression, 2, none)
theorem wC_yX12_readsOperand : Cond.code yX12_readsOperand cX12_readsOperand 2 (some .boolean) ∈ WL := tw_5 (k := 170) (by decide +kernel) (by decide +kernel)
abbrev mX12_readsOperand : fM0 := (yX12_readsOperand, cX12_readsOperand, 2, (some .boolean))
theorem wC_yX12_orders : Cond.code yX12_orders cX12_orders 2 none ∈ WL := tw_5 (k := 174) (by decide +kernel) (by decide +kernel)
abbrev mX12_orders : fM0 := (yX12_orders, cX12_orders, 2, none)
theorem wC_yX12_readsSign : Cond.code yX12_readsSign cX12_readsSign 2 (some .boolean) ∈ WL := tw_5 (k := 178) (by decide +kernel) (by decide +kernel)
abbrev mX12_readsSign : fM0 := (yX12_readsSign, cX12_readsSign, 2, (some .boolean))
theorem wC_yX12_rank : Cond.code yX12_rank cX12_rank 1 (some .int) ∈ WL := tw_5 (k := 181) (by decide +kernel) (by decide +kernel)
abbrev mX12_rank : fM0 := (yX12_rank, cX12_rank, 1, (some .int))
theorem wC_yX12_copies : Cond.code yX12_copies cX12_copies 4 none ∈ WL := tw_5 (k := 185) (by decide +kernel) (by decide +kernel)
abbrev mX12_copies : fM0 := (yX12_copies, cX12_copies, 4, none)
theorem wC_yX12_joins : Cond.code yX12_joins cX12_joins 5 none ∈ WL := tw_5 (k := 189) (by decide +kernel) (by decide +kernel)
abbrev mX12_joins : fM0 := (yX12_joins, cX12_joins, 5, none)
theorem wC_yX12_intersects : Cond.code yX12_intersects cX12_intersects 7 none ∈ WL := tw_5 (k := 193) (by decide +kernel) (by decide +kernel)
abbrev mX12_intersects : fM0 := (yX12_intersects, cX12_intersects, 7, none)
theorem wC_yX12_puts : Cond.code yX12_puts cX12_puts 2 none ∈ WL := tw_5 (k := 197) (by decide +kernel) (by decide +kernel)
abbrev mX12_puts : fM0 := (yX12_puts, cX12_puts, 2, none)
theorem wC_yX12_gallops : Cond.code yX12_gallops cX12_gallops 10 (some .int) ∈ WL := tw_5 (k := 201) (by decide +kernel) (by decide +kernel)
abbrev mX12_gallops : fM0 := (yX12_gallops, cX12_gallops, 10, (some .int))
theorem wC_yX12_probe : Cond.code yX12_probe cX12_probe 4 (some .boolean) ∈ WL := tw_5 (k := 205) (by decide +kernel) (by decide +kernel)
abbrev mX12_probe : fM0 := (yX12_probe, cX12_probe, 4, (some .boolean))
theorem wC_yX12_merges : Cond.code yX12_merges cX12_merges 10 none ∈ WL := tw_5 (k := 209) (by decide +kernel) (by decide +kernel)
abbrev mX12_merges : fM0 := (yX12_merges, cX12_merges, 10, none)
theorem wC_yX12_result : Cond.code yX12_result cX12_result 2 (some .int) ∈ WL := tw_5 (k := 213) (by decide +kernel) (by decide +kernel)
abbrev mX12_result : fM0 := (yX12_result, cX12_result, 2, (some .int))
theorem wC_yX12_common : Cond.code yX12_common cX12_common 4 (some .int) ∈ WL := tw_5 (k := 217) (by decide +kernel) (by decide +kernel)
abbrev mX12_common : fM0 := (yX12_common, cX12_common, 4, (some .int))
theorem wC_yX12_count : Cond.code yX12_count cX12_count 2 (some .int) ∈ WL := tw_5 (k := 221) (by decide +kernel) (by decide +kernel)
abbrev mX12_count : fM0 := (yX12_count, cX12_count, 2, (some .int))
theorem wC_yX12_over : Cond.code yX12_over cX12_over 4 (some .int) ∈ WL := tw_5 (k := 225) (by decide +kernel) (by decide +kernel)
abbrev mX12_over : fM0 := (yX12_over, cX12_over, 4, (some .int))
theorem wC_yX12_digest : Cond.code yX12_digest cX12_digest 3 (some .long) ∈ WL := tw_5 (k := 229) (by decide +kernel) (by decide +kernel)
abbrev mX12_digest : fM0 := (yX12_digest, cX12_digest, 3, (some .long))
theorem wC_yX12_mixes : Cond.code yX12_mixes cX12_mixes 3 none ∈ WL := tw_5 (k := 235) (by decide +kernel) (by decide +kernel)
abbrev mX12_mixes : fM0 := (yX12_mixes, cX12_mixes, 3, none)
theorem wC_yX12_mixesBlock : Cond.code yX12_mixesBlock cX12_mixesBlock 6 none ∈ WL := tw_6 (k := 0) (by decide +kernel) (by decide +kernel)
abbrev mX12_mixesBlock : fM0 := (yX12_mixesBlock, cX12_mixesBlock, 6, none)
theorem uw_X0 : u_ws RX0 TX0 7 = [Cond.laysFinal "PackedLists$BlockView" "PackedLists$BlockView" "gapsByBits" "[I", Cond.lays "PackedLists$BlockView" "PackedLists$BlockView" "row" "LPackedLists$Row;", Cond.lays "PackedLists$BlockView" "PackedLists$BlockView" "start" "I", Cond.lays "PackedLists$BlockView" "PackedLists$BlockView" "length" "I", Cond.lays "PackedLists$BlockView" "PackedLists$BlockView" "width" "I", Cond.lays "PackedLists$BlockView" "PackedLists$BlockView" "exceptions" "I", Cond.lays "PackedLists$BlockView" "PackedLists$BlockView" "cost" "I"] := by decide +kernel
theorem iw_X0 : ∀ w ∈ u_ws RX0 TX0 7, w ∈ WL := by rw [uw_X0]; exact List.forall_mem_cons.mpr ⟨tw_1 (k := 136) (by decide +kernel) (by decide +kernel), List.forall_mem_cons.mpr ⟨tw_1 (k := 138) (by decide +kernel) (by decide +kernel), List.forall_mem_cons.mpr ⟨tw_1 (k := 140) (by decide +kernel) (by decide +kernel), List.forall_mem_cons.mpr ⟨tw_1 (k := 142) (by decide +kernel) (by decide +kernel), List.forall_mem_cons.mpr ⟨tw_1 (k := 144) (by decide +kernel) (by decide +kernel), List.forall_mem_cons.mpr ⟨tw_1 (k := 146) (by decide +kernel) (by decide +kernel), List.forall_mem_cons.mpr ⟨tw_1 (k := 148) (by decide +kernel) (by decide +kernel), fun _ h => absurd h List.not_mem_nil⟩⟩⟩⟩⟩⟩⟩
theorem uw_X1 : u_ws RX1 TX1 5 = [Cond.laysFinal "PackedLists$Cache" "PackedLists$Cache" "lists" "[I", Cond.laysFinal "PackedLists$Cache" "PackedLists$Cache" "blocks" "[I", Cond.lays "PackedLists$Cache" "PackedLists$Cache" "size" "I", Cond.lays "PackedLists$Cache" "PackedLists$Cache" "hits" "I", Cond.lays "PackedLists$Cache" "PackedLists$Cache" "misses" "I"] := by decide +kernel
theorem iw_X1 : ∀ w ∈ u_ws RX1 TX1 5, w ∈ WL := by rw [uw_X1]; exact List.forall_mem_cons.mpr ⟨tw_1 (k := 106) (by decide +kernel) (by decide +kernel), List.forall_mem_cons.mpr ⟨tw_1 (k := 108) (by decide +kernel) (by decide +kernel), List.forall_mem_cons.mpr ⟨tw_1 (k := 110) (by decide +kernel) (by decide +kernel), List.forall_mem_cons.mpr ⟨tw_1 (k := 112) (by decide +kernel) (by decide +kernel), List.forall_mem_cons.mpr ⟨tw_1 (k := 114) (by decide +kernel) (by decide +kernel), fun _ h => absurd h List.not_mem_nil⟩⟩⟩⟩⟩
theorem uw_X2 : u_ws RX2 TX2 3 = [Cond.laysFinal "PackedLists$CutList" "PackedLists$CutList" "row" "LPackedLists$Row;", Cond.laysFinal "PackedLists$CutList" "PackedLists$CutList" "starts" "[I", Cond.lays "PackedLists$CutList" "PackedLists$CutList" "blocks" "I"] := by decide +kernel
theorem iw_X2 : ∀ w ∈ u_ws RX2 TX2 3, w ∈ WL := by rw [uw_X2]; exact List.forall_mem_cons.mpr ⟨tw_1 (k := 71) (by decide +kernel) (by decide +kernel), List.forall_mem_cons.mpr ⟨tw_1 (k := 73) (by decide +kernel) (by decide +kernel), List.forall_mem_cons.mpr ⟨tw_1 (k := 75) (by decide +kernel) (by decide +kernel), fun _ h => absurd h List.not_mem_nil⟩⟩⟩
theorem uw_X3 : u_ws RX3 TX3 4 = [Cond.laysFinal "PackedLists$ExpressionReader" "PackedLists$ExpressionReader" "postfix" "LPackedLists$Row;", Cond.laysFinal "PackedLists$ExpressionReader" "PackedLists$ExpressionReader" "waiting" "LPackedLists$Row;", Cond.lays "PackedLists$ExpressionReader" "PackedLists$ExpressionReader" "depth" "I", Cond.lays "PackedLists$ExpressionReader" "PackedLists$ExpressionReader" "factorIsDue" "Z"] := by decide +kernel
theorem iw_X3 : ∀ w ∈ u_ws RX3 TX3 4, w ∈ WL := by rw [uw_X3]; exact List.forall_mem_cons.mpr ⟨tw_2 (k := 4) (by decide +kernel) (by decide +kernel), List.forall_mem_cons.mpr ⟨tw_2 (k := 6) (by decide +kernel) (by decide +kernel), List.forall_mem_cons.mpr ⟨tw_2 (k := 8) (by decide +kernel) (by decide +kernel), List.forall_mem_cons.mpr ⟨tw_2 (k := 10) (by decide +kernel) (by decide +kernel), fun _ h => absurd h List.not_mem_nil⟩⟩⟩⟩
theorem uw_X4 : u_ws RX4 TX4 2 = [Cond.lays "PackedLists$Galloper" "PackedLists$Galloper" "taken" "I", Cond.lays "PackedLists$Galloper" "PackedLists$Galloper" "probes" "I"] := by decide +kernel
theorem iw_X4 : ∀ w ∈ u_ws RX4 TX4 2, w ∈ WL := by rw [uw_X4]; exact List.forall_mem_cons.mpr ⟨tw_1 (k := 204) (by decide +kernel) (by decide +kernel), List.forall_mem_cons.mpr ⟨tw_1 (k := 206) (by decide +kernel) (by decide +kernel), fun _ h => absurd h List.not_mem_nil⟩⟩
theorem uw_X5 : u_ws RX5 TX5 4 = [Cond.laysFinal "PackedLists$History" "PackedLists$History" "owners" "[I", Cond.laysFinal "PackedLists$History" "PackedLists$History" "states" "[LPackedLists$CutList;", Cond.lays "PackedLists$History" "PackedLists$History" "latest" "I", Cond.lays "PackedLists$History" "PackedLists$History" "size" "I"] := by decide +kernel
theorem iw_X5 : ∀ w ∈ u_ws RX5 TX5 4, w ∈ WL := by rw [uw_X5]; exact List.forall_mem_cons.mpr ⟨tw_1 (k := 83) (by decide +kernel) (by decide +kernel), List.forall_mem_cons.mpr ⟨tw_1 (k := 85) (by decide +kernel) (by decide +kernel), List.forall_mem_cons.mpr ⟨tw_1 (k := 87) (by decide +kernel) (by decide +kernel), List.forall_mem_cons.mpr ⟨tw_1 (k := 89) (by decide +kernel) (by decide +kernel), fun _ h => absurd h List.not_mem_nil⟩⟩⟩⟩
theorem uw_X6 : u_ws RX6 TX6 8 = [Cond.laysFinal "PackedLists$Joiner" "PackedLists$Joiner" "galloper" "LPackedLists$Galloper;", Cond.laysFinal "PackedLists$Joiner" "PackedLists$Joiner" "result" "LPackedLists$Row;", Cond.laysFinal "PackedLists$Joiner" "PackedLists$Joiner" "all" "LPackedLists$Row;", Cond.laysFinal "PackedLists$Joiner" "PackedLists$Joiner" "sets" "[I", Cond.laysFinal "PackedLists$Joiner" "PackedLists$Joiner" "left" "LPackedLists$Row;", Cond.laysFinal "PackedLists$Joiner" "PackedLists$Joiner" "right" "LPackedLists$Row;", Cond.laysFinal "PackedLists$Joiner" "PackedLists$Joiner" "sides" "[J", Cond.laysFinal "PackedLists$Joiner" "PackedLists$Joiner" "cursors" "[I"] := by decide +kernel
theorem iw_X6 : ∀ w ∈ u_ws RX6 TX6 8, w ∈ WL := by rw [uw_X6]; exact List.forall_mem_cons.mpr ⟨tw_3 (k := 197) (by decide +kernel) (by decide +kernel), List.forall_mem_cons.mpr ⟨tw_3 (k := 199) (by decide +kernel) (by decide +kernel), List.forall_mem_cons.mpr ⟨tw_3 (k := 201) (by decide +kernel) (by decide +kernel), List.forall_mem_cons.mpr ⟨tw_3 (k := 203) (by decide +kernel) (by decide +kernel), List.forall_mem_cons.mpr ⟨tw_3 (k := 205) (by decide +kernel) (by decide +kernel), List.forall_mem_cons.mpr ⟨tw_3 (k := 207) (by decide +kernel) (by decide +kernel), List.forall_mem_cons.mpr ⟨tw_3 (k := 209) (by decide +kernel) (by decide +kernel), List.forall_mem_cons.mpr ⟨tw_3 (k := 211) (by decide +kernel) (by decide +kernel), fun _ h => absurd h List.not_mem_nil⟩⟩⟩⟩⟩⟩⟩⟩
theorem uw_X7 : u_ws RX7 TX7 4 = [Cond.laysFinal "PackedLists$NumberReader" "PackedLists$NumberReader" "row" "LPackedLists$Row;", Cond.lays "PackedLists$NumberReader" "PackedLists$NumberReader" "text" "LPackedLists$Row;", Cond.lays "PackedLists$NumberReader" "PackedLists$NumberReader" "position" "I", Cond.lays "PackedLists$NumberReader" "PackedLists$NumberReader" "number" "I"] := by decide +kernel
theorem iw_X7 : ∀ w ∈ u_ws RX7 TX7 4, w ∈ WL := by rw [uw_X7]; exact List.forall_mem_cons.mpr ⟨tw_1 (k := 222) (by decide +kernel) (by decide +kernel), List.forall_mem_cons.mpr ⟨tw_1 (k := 224) (by decide +kernel) (by decide +kernel), List.forall_mem_cons.mpr ⟨tw_1 (k := 226) (by decide +kernel) (by decide +kernel), List.forall_mem_cons.mpr ⟨tw_1 (k := 228) (by decide +kernel) (by decide +kernel), fun _ h => absurd h List.not_mem_nil⟩⟩⟩⟩
theorem uw_X8 : u_ws RX8 TX8 3 = [Cond.laysFinal "PackedLists$Packer" "PackedLists$Packer" "ranks" "[I", Cond.laysFinal "PackedLists$Packer" "PackedLists$Packer" "ends" "[I", Cond.laysFinal "PackedLists$Packer" "PackedLists$Packer" "windows" "[LPackedLists$Window;"] := by decide +kernel
theorem iw_X8 : ∀ w ∈ u_ws RX8 TX8 3, w ∈ WL := by rw [uw_X8]; exact List.forall_mem_cons.mpr ⟨tw_1 (k := 186) (by decide +kernel) (by decide +kernel), List.forall_mem_cons.mpr ⟨tw_1 (k := 188) (by decide +kernel) (by decide +kernel), List.forall_mem_cons.mpr ⟨tw_1 (k := 190) (by decide +kernel) (by decide +kernel), fun _ h => absurd h List.not_mem_nil⟩⟩⟩
theorem uw_X9 : u_ws RX9 TX9 2 = [Cond.laysFinal "PackedLists$Row" "PackedLists$Row" "numbers" "[I", Cond.lays "PackedLists$Row" "PackedLists$Row" "size" "I"] := by decide +kernel
theorem iw_X9 : ∀ w ∈ u_ws RX9 TX9 2, w ∈ WL := by rw [uw_X9]; exact List.forall_mem_cons.mpr ⟨tw_1 (k := 57) (by decide +kernel) (by decide +kernel), List.forall_mem_cons.mpr ⟨tw_1 (k := 59) (by decide +kernel) (by decide +kernel), fun _ h => absurd h List.not_mem_nil⟩⟩
theorem uw_X10 : u_ws RX10 TX10 6 = [Cond.laysFinal "PackedLists$Window" "PackedLists$Window" "width" "I", Cond.laysFinal "PackedLists$Window" "PackedLists$Window" "ends" "[I", Cond.laysFinal "PackedLists$Window" "PackedLists$Window" "ranks" "[I", Cond.lays "PackedLists$Window" "PackedLists$Window" "first" "I", Cond.lays "PackedLists$Window" "PackedLists$Window" "size" "I", Cond.lays "PackedLists$Window" "PackedLists$Window" "passed" "I"] := by decide +kernel
theorem iw_X10 : ∀ w ∈ u_ws RX10 TX10 6, w ∈ WL := by rw [uw_X10]; exact List.forall_mem_cons.mpr ⟨tw_1 (k := 170) (by decide +kernel) (by decide +kernel), List.forall_mem_cons.mpr ⟨tw_1 (k := 172) (by decide +kernel) (by decide +kernel), List.forall_mem_cons.mpr ⟨tw_1 (k := 174) (by decide +kernel) (by decide +kernel), List.forall_mem_cons.mpr ⟨tw_1 (k := 176) (by decide +kernel) (by decide +kernel), List.forall_mem_cons.mpr ⟨tw_1 (k := 178) (by decide +kernel) (by decide +kernel), List.forall_mem_cons.mpr ⟨tw_1 (k := 180) (by decide +kernel) (by decide +kernel), fun _ h => absurd h List.not_mem_nil⟩⟩⟩⟩⟩⟩
theorem uw_X11 : u_ws RX11 TX11 10 = [Cond.laysFinal "PackedLists" "PackedLists" "lists" "[LPackedLists$CutList;", Cond.laysFinal "PackedLists" "PackedLists" "history" "LPackedLists$History;", Cond.laysFinal "PackedLists" "PackedLists" "cache" "LPackedLists$Cache;", Cond.laysFinal "PackedLists" "PackedLists" "text" "LPackedLists$Row;", Cond.laysFinal "PackedLists" "PackedLists" "view" "LPackedLists$BlockView;", Cond.laysFinal "PackedLists" "PackedLists" "packer" "LPackedLists$Packer;", Cond.laysFinal "PackedLists" "PackedLists" "galloper" "LPackedLists$Galloper;", Cond.laysFinal "PackedLists" "PackedLists" "numberReader" "LPackedLists$NumberReader;", Cond.laysFinal "PackedLists" "PackedLists" "expressionReader" "LPackedLists$ExpressionReader;", Cond.lays "PackedLists" "PackedLists" "joiner" "LPackedLists$Joiner;"] := by decide +kernel
theorem iw_X11 : ∀ w ∈ u_ws RX11 TX11 10, w ∈ WL := by rw [uw_X11]; exact List.forall_mem_cons.mpr ⟨tw_2 (k := 24) (by decide +kernel) (by decide +kernel), List.forall_mem_cons.mpr ⟨tw_2 (k := 26) (by decide +kernel) (by decide +kernel), List.forall_mem_cons.mpr ⟨tw_2 (k := 28) (by decide +kernel) (by decide +kernel), List.forall_mem_cons.mpr ⟨tw_2 (k := 30) (by decide +kernel) (by decide +kernel), List.forall_mem_cons.mpr ⟨tw_2 (k := 32) (by decide +kernel) (by decide +kernel), List.forall_mem_cons.mpr ⟨tw_2 (k := 34) (by decide +kernel) (by decide +kernel), List.forall_mem_cons.mpr ⟨tw_2 (k := 36) (by decide +kernel) (by decide +kernel), List.forall_mem_cons.mpr ⟨tw_2 (k := 38) (by decide +kernel) (by decide +kernel), List.forall_mem_cons.mpr ⟨tw_2 (k := 40) (by decide +kernel) (by decide +kernel), List.forall_mem_cons.mpr ⟨tw_2 (k := 42) (by decide +kernel) (by decide +kernel), fun _ h => absurd h List.not_mem_nil⟩⟩⟩⟩⟩⟩⟩⟩⟩⟩
theorem uw_X12 : u_ws RX12 TX12 35 = [Cond.laysFinal "PackedListsModel" "PackedListsModel" "m" "[I", Cond.laysFinal "PackedListsModel" "PackedListsModel" "past" "[I", Cond.lays "PackedListsModel" "PackedListsModel" "undos" "I", Cond.laysFinal "PackedListsModel" "PackedListsModel" "cacheList" "[I", Cond.laysFinal "PackedListsModel" "PackedListsModel" "cacheBlock" "[I", Cond.lays "PackedListsModel" "PackedListsModel" "cacheMany" "I", Cond.lays "PackedListsModel" "PackedListsModel" "hits" "I", Cond.lays "PackedListsModel" "PackedListsModel" "misses" "I", Cond.laysFinal "PackedListsModel" "PackedListsModel" "result" "[I", Cond.lays "PackedListsModel" "PackedListsModel" "resultMany" "I", Cond.lays "PackedListsModel" "PackedListsModel" "resultProbes" "I", Cond.laysFinal "PackedListsModel" "PackedListsModel" "need" "[I", Cond.laysFinal "PackedListsModel" "PackedListsModel" "cut" "[I", Cond.lays "PackedListsModel" "PackedListsModel" "cuts" "I", Cond.laysFinal "PackedListsModel" "PackedListsModel" "costFrom" "[I", Cond.laysFinal "PackedListsModel" "PackedListsModel" "blocksFrom" "[I", Cond.laysFinal "PackedListsModel" "PackedListsModel" "firstLength" "[I", Cond.laysFinal "PackedListsModel" "PackedListsModel" "text" "[I", Cond.lays "PackedListsModel" "PackedListsModel" "textLength" "I", Cond.lays "PackedListsModel" "PackedListsModel" "at" "I", Cond.lays "PackedListsModel" "PackedListsModel" "fault" "I", Cond.laysFinal "PackedListsModel" "PackedListsModel" "read" "[I", Cond.lays "PackedListsModel" "PackedListsModel" "reads" "I", Cond.lays "PackedListsModel" "PackedListsModel" "behind" "I", Cond.laysFinal "PackedListsModel" "PackedListsModel" "row" "[I", Cond.laysFinal "PackedListsModel" "PackedListsModel" "rowMany" "[I", Cond.laysFinal "PackedListsModel" "PackedListsModel" "out" "[I", Cond.lays "PackedListsModel" "PackedListsModel" "outMany" "I", Cond.lays "PackedListsModel" "PackedListsModel" "probes" "I", Cond.laysFinal "PackedListsModel" "PackedListsModel" "order" "[I", Cond.lays "PackedListsModel" "PackedListsModel" "orders" "I", Cond.laysFinal "PackedListsModel" "PackedListsModel" "waiting" "[I", Cond.lays "PackedListsModel" "PackedListsModel" "waits" "I", Cond.lays "PackedListsModel" "PackedListsModel" "depth" "I", Cond.lays "PackedListsModel" "PackedListsModel" "hash" "J"] := by decide +kernel
theorem iw_X12 : ∀ w ∈ u_ws RX12 TX12 35, w ∈ WL := by rw [uw_X12]; exact List.forall_mem_cons.mpr ⟨tw_4 (k := 98) (by decide +kernel) (by decide +kernel), List.forall_mem_cons.mpr ⟨tw_4 (k := 100) (by decide +kernel) (by decide +kernel), List.forall_mem_cons.mpr ⟨tw_4 (k := 102) (by decide +kernel) (by decide +kernel), List.forall_mem_cons.mpr ⟨tw_4 (k := 104) (by decide +kernel) (by decide +kernel), List.forall_mem_cons.mpr ⟨tw_4 (k := 106) (by decide +kernel) (by decide +kernel), List.forall_mem_cons.mpr ⟨tw_4 (k := 108) (by decide +kernel) (by decide +kernel), List.forall_mem_cons.mpr ⟨tw_4 (k := 110) (by decide +kernel) (by decide +kernel), List.forall_mem_cons.mpr ⟨tw_4 (k := 112) (by decide +kernel) (by decide +kernel), List.forall_mem_cons.mpr ⟨tw_4 (k := 114) (by decide +kernel) (by decide +kernel), List.forall_mem_cons.mpr ⟨tw_4 (k := 116) (by decide +kernel) (by decide +kernel), List.forall_mem_cons.mpr ⟨tw_4 (k := 118) (by decide +kernel) (by decide +kernel), List.forall_mem_cons.mpr ⟨tw_4 (k := 120) (by decide +kernel) (by decide +kernel), List.forall_mem_cons.mpr ⟨tw_4 (k := 122) (by decide +kernel) (by decide +kernel), List.forall_mem_cons.mpr ⟨tw_4 (k := 124) (by decide +kernel) (by decide +kernel), List.forall_mem_cons.mpr ⟨tw_4 (k := 126) (by decide +kernel) (by decide +kernel), List.forall_mem_cons.mpr ⟨tw_4 (k := 128) (by decide +kernel) (by decide +kernel), List.forall_mem_cons.mpr ⟨tw_4 (k := 130) (by decide +kernel) (by decide +kernel), List.forall_mem_cons.mpr ⟨tw_4 (k := 132) (by decide +kernel) (by decide +kernel), List.forall_mem_cons.mpr ⟨tw_4 (k := 134) (by decide +kernel) (by decide +kernel), List.forall_mem_cons.mpr ⟨tw_4 (k := 136) (by decide +kernel) (by decide +kernel), List.forall_mem_cons.mpr ⟨tw_4 (k := 138) (by decide +kernel) (by decide +kernel), List.forall_mem_cons.mpr ⟨tw_4 (k := 140) (by decide +kernel) (by decide +kernel), List.forall_mem_cons.mpr ⟨tw_4 (k := 142) (by decide +kernel) (by decide +kernel), List.forall_mem_cons.mpr ⟨tw_4 (k := 144) (by decide +kernel) (by decide +kernel), List.forall_mem_cons.mpr ⟨tw_4 (k := 146) (by decide +kernel) (by decide +kernel), List.forall_mem_cons.mpr ⟨tw_4 (k := 148) (by decide +kernel) (by decide +kernel), List.forall_mem_cons.mpr ⟨tw_4 (k := 150) (by decide +kernel) (by decide +kernel), List.forall_mem_cons.mpr ⟨tw_4 (k := 152) (by decide +kernel) (by decide +kernel), List.forall_mem_cons.mpr ⟨tw_4 (k := 154) (by decide +kernel) (by decide +kernel), List.forall_mem_cons.mpr ⟨tw_4 (k := 156) (by decide +kernel) (by decide +kernel), List.forall_mem_cons.mpr ⟨tw_4 (k := 158) (by decide +kernel) (by decide +kernel), List.forall_mem_cons.mpr ⟨tw_4 (k := 160) (by decide +kernel) (by decide +kernel), List.forall_mem_cons.mpr ⟨tw_4 (k := 162) (by decide +kernel) (by decide +kernel), List.forall_mem_cons.mpr ⟨tw_4 (k := 164) (by decide +kernel) (by decide +kernel), List.forall_mem_cons.mpr ⟨tw_4 (k := 166) (by decide +kernel) (by decide +kernel), fun _ h => absurd h List.not_mem_nil⟩⟩⟩⟩⟩⟩⟩⟩⟩⟩⟩⟩⟩⟩⟩⟩⟩⟩⟩⟩⟩⟩⟩⟩⟩⟩⟩⟩⟩⟩⟩⟩⟩⟩⟩
end
section
/-! FLAT MEMORY. The world is a list of cells at x0, x0 + 1, ..; cell a has a kind (0..12 an object of that class of vwCl, 13 int[], 14 long[], 15 CutList[], 16 Window[]), a length, references V a j, ints I a j, longs J a j. -/
abbrev fG : Type := va_G × ClassId × ClassId × ClassId × ClassId × Nat
abbrev fT : Type := Nat × (Nat → Nat) × (Nat → Nat) × (Nat → Nat → Option Nat)
abbrev fI : Type := Nat → Nat → Int32
abbrev fJ : Type := Nat → Nat → Int64
abbrev fM : Type := fM0
def fm_ty (c : Nat) : List Nat := match c with
  | 0 => [1, 1, 0, 0, 0, 0, 0]
  | 1 => [1, 1, 0, 0, 0]
  | 2 => [1, 1, 0]
  | 3 => [1, 1, 0, 0]
  | 4 => [0, 0]
  | 5 => [1, 1, 0, 0]
  | 6 => [1, 1, 1, 1, 1, 1, 1, 1]
  | 7 => [1, 1, 0, 0]
  | 8 => [1, 1, 1]
  | 9 => [1, 0]
  | 10 => [0, 1, 1, 0, 0, 0]
  | 11 => [1, 1, 1, 1, 1, 1, 1, 1, 1, 1]
  | 12 => [1, 1, 0, 1, 1, 0, 0, 0, 1, 0, 0, 1, 1, 0, 1, 1, 1, 1, 0, 0, 0, 1, 0, 0, 1, 1, 1, 0, 0, 1, 0, 1, 0, 0, 2]
  | _ => []
def fm_v (x0 : Nat) (r : Option Nat) (i : Int32) (j : Int64) (t : Nat) : Value := match t with
  | 0 => .int i
  | 1 => va_rf (r.map (fun z => x0 + z))
  | _ => .long j
def fm_fs (x0 : Nat) (v : Nat → Option Nat) (i : Nat → Int32) (j : Nat → Int64) : Nat → List Nat → List Value
  | _, [] => []
  | q, t :: r => fm_v x0 (v q) (i q) (j q) t :: fm_fs x0 v i j (q + 1) r
theorem fm_fs_get (x0 : Nat) (v : Nat → Option Nat) (i : Nat → Int32) (j : Nat → Int64) (ts : List Nat) : ∀ (q k : Nat), (fm_fs x0 v i j q ts)[k]? = ts[k]?.map (fun t => fm_v x0 (v (q + k)) (i (q + k)) (j (q + k)) t) := by
  induction ts with
  | nil => intro q k; simp [fm_fs]
  | cons t r ih =>
    intro q k
    cases k with
    | zero => simp [fm_fs]
    | succ k =>
      simp only [fm_fs, List.getElem?_cons_succ]
      rw [ih (q + 1) k, show q + 1 + k = q + (k + 1) by omega]
theorem fm_fs_len (x0 : Nat) (v : Nat → Option Nat) (i : Nat → Int32) (j : Nat → Int64) (ts : List Nat) : ∀ q : Nat, (fm_fs x0 v i j q ts).length = ts.length := by
  induction ts with
  | nil => intro q; rfl
  | cons t r ih => intro q; simp [fm_fs, ih]
/-- one field written -/
theorem fm_fs_set {x0 : Nat} {v v' : Nat → Option Nat} {i i' : Nat → Int32} {j j' : Nat → Int64} {ts : List Nat} {k t : Nat} {w : Value} (ht : ts[k]? = some t) (hw : fm_v x0 (v' k) (i' k) (j' k) t = w)
    (ho : ∀ q, q ≠ k → v' q = v q ∧ i' q = i q ∧ j' q = j q) : (fm_fs x0 v i j 0 ts).set k w = fm_fs x0 v' i' j' 0 ts := by
  apply List.ext_getElem?
  intro q
  rw [fm_fs_get]
  by_cases hq : q = k
  · subst hq
    rw [List.getElem?_set_self (by rw [fm_fs_len]; exact (List.getElem?_eq_some_iff.mp ht).1), ht]
    simp [hw]
  · rw [List.getElem?_set_ne (Ne.symm hq), fm_fs_get]
    obtain ⟨h1, h2, h3⟩ := ho q hq
    simp [h1, h2, h3]
def fm_E (G : fG) (x0 : Nat) (T : fT) (I : fI) (J : fJ) (a : Nat) : va_E :=
  if T.2.1 a = 13 then .inl (G.2.1, T.2.2.1 a, .inl (I a))
  else if T.2.1 a = 14 then .inl (G.2.2.1, T.2.2.1 a, .inr (.inl (J a)))
  else if T.2.1 a = 15 then .inl (G.2.2.2.1, T.2.2.1 a, .inr (.inr (.inr (.inr (fun j => (T.2.2.2 a j).map (fun z => x0 + z))))))
  else if T.2.1 a = 16 then .inl (G.2.2.2.2.1, T.2.2.1 a, .inr (.inr (.inr (.inr (fun j => (T.2.2.2 a j).map (fun z => x0 + z))))))
  else .inr (T.2.1 a, fm_fs x0 (T.2.2.2 a) (I a) (J a) 0 (fm_ty (T.2.1 a)))
theorem fm_E_obj {G : fG} {x0 : Nat} {T : fT} {I : fI} {J : fJ} {a c : Nat} (h : T.2.1 a = c) (hc : c < 13) : fm_E G x0 T I J a = .inr (c, fm_fs x0 (T.2.2.2 a) (I a) (J a) 0 (fm_ty c)) := by
  unfold fm_E
  rw [if_neg (by omega), if_neg (by omega), if_neg (by omega), if_neg (by omega), h]
theorem fm_E_int {G : fG} {x0 : Nat} {T : fT} {I : fI} {J : fJ} {a : Nat} (h : T.2.1 a = 13) : fm_E G x0 T I J a = .inl (G.2.1, T.2.2.1 a, .inl (I a)) := by
  unfold fm_E
  rw [if_pos h]
theorem fm_E_long {G : fG} {x0 : Nat} {T : fT} {I : fI} {J : fJ} {a : Nat} (h : T.2.1 a = 14) : fm_E G x0 T I J a = .inl (G.2.2.1, T.2.2.1 a, .inr (.inl (J a))) := by
  unfold fm_E
  rw [if_neg (by omega), if_pos h]
theorem fm_E_cut {G : fG} {x0 : Nat} {T : fT} {I : fI} {J : fJ} {a : Nat} (h : T.2.1 a = 15) : fm_E G x0 T I J a = .inl (G.2.2.2.1, T.2.2.1 a, .inr (.inr (.inr (.inr (fun j => (T.2.2.2 a j).map (fun z => x0 + z)))))) := by
  unfold fm_E
  rw [if_neg (by omega), if_neg (by omega), if_pos h]
theorem fm_E_win {G : fG} {x0 : Nat} {T : fT} {I : fI} {J : fJ} {a : Nat} (h : T.2.1 a = 16) : fm_E G x0 T I J a = .inl (G.2.2.2.2.1, T.2.2.1 a, .inr (.inr (.inr (.inr (fun j => (T.2.2.2 a j).map (fun z => x0 + z)))))) := by
  unfold fm_E
  rw [if_neg (by omega), if_neg (by omega), if_neg (by omega), if_pos h]
/-- a cell is the same where what it is made of is the same -/
theorem fm_E_same {G : fG} {x0 : Nat} {T T' : fT} {I I' : fI} {J J' : fJ} {a : Nat} (h1 : T'.2.1 a = T.2.1 a) (h2 : T'.2.2.1 a = T.2.2.1 a) (h3 : T'.2.2.2 a = T.2.2.2 a) (h4 : I' a = I a) (h5 : J' a = J a) : fm_E G x0 T' I' J' a = fm_E G x0 T I J a := by
  unfold fm_E
  rw [h1, h2, h3, h4, h5]
def fm_W (G : fG) (x0 : Nat) (T : fT) (I : fI) (J : fJ) : va_W := (List.range T.1).map (fun a => (x0 + a, fm_E G x0 T I J a))
theorem fm_at {G : fG} {x0 : Nat} {T : fT} {I : fI} {J : fJ} {a : Nat} (h : a < T.1) {e : va_E} (he : fm_E G x0 T I J a = e) : (fm_W G x0 T I J)[a]? = some (x0 + a, e) := by
  unfold fm_W
  rw [List.getElem?_map, List.getElem?_range h, ← he]
  rfl
theorem fm_at_inv {G : fG} {x0 : Nat} {T : fT} {I : fI} {J : fJ} {k : Nat} {q : Nat × va_E} (h : (fm_W G x0 T I J)[k]? = some q) : k < T.1 ∧ q = (x0 + k, fm_E G x0 T I J k) := by
  have hl : k < T.1 := by
    have := (List.getElem?_eq_some_iff.mp h).1
    simpa [fm_W] using this
  have h2 := fm_at (G := G) (x0 := x0) (I := I) (J := J) hl rfl
  exact ⟨hl, Option.some.inj (h.symm.trans h2)⟩
theorem fm_set {G : fG} {x0 : Nat} {T T' : fT} {I I' : fI} {J J' : fJ} {a : Nat} {e : va_E} (h : a < T.1) (hN : T'.1 = T.1) (he : fm_E G x0 T' I' J' a = e) (ho : ∀ b, b ≠ a → fm_E G x0 T' I' J' b = fm_E G x0 T I J b) : (fm_W G x0 T I J).set a (x0 + a, e) = fm_W G x0 T' I' J' := by
  apply List.ext_getElem?
  intro q
  by_cases hq : q = a
  · subst hq
    rw [List.getElem?_set_self (by simpa [fm_W] using h), fm_at (by omega) he]
  · rw [List.getElem?_set_ne (Ne.symm hq)]
    unfold fm_W
    rw [hN, List.getElem?_map, List.getElem?_map]
    by_cases hl : q < T.1
    · rw [List.getElem?_range hl]
      simp [ho q hq]
    · rw [List.getElem?_eq_none (by simp; omega)]
      rfl
theorem fm_push {G : fG} {x0 : Nat} {T T' : fT} {I I' : fI} {J J' : fJ} {e : va_E} (hN : T'.1 = T.1 + 1) (he : fm_E G x0 T' I' J' T.1 = e) (ho : ∀ b, b < T.1 → fm_E G x0 T' I' J' b = fm_E G x0 T I J b) : fm_W G x0 T I J ++ [(x0 + T.1, e)] = fm_W G x0 T' I' J' := by
  unfold fm_W
  rw [hN, List.range_succ, List.map_append]
  congr 1
  · apply List.map_congr_left
    intro b hb
    rw [ho b (List.mem_range.mp hb)]
  · simp [he]
abbrev fm_A (x0 : Nat) : Nat → Prop := fun q => x0 ≤ q
theorem fm_D {G : fG} {x0 : Nat} {T : fT} {I : fI} {J : fJ} : va_D (fm_A x0) (fm_W G x0 T I J) := by
  refine ⟨fun i j p q hi hj hpq => ?_, fun k q hk => ?_⟩
  · obtain ⟨-, rfl⟩ := fm_at_inv hi
    obtain ⟨-, rfl⟩ := fm_at_inv hj
    dsimp only at hpq
    omega
  · obtain ⟨-, rfl⟩ := fm_at_inv hk
    exact Nat.le_add_right _ _
def fm_H (G : fG) (x0 : Nat) (T : fT) (I : fI) (J : fJ) (H : Heap) : Prop := va_P G.1 vwCl (fm_W G x0 T I J) H ∧ H.size = x0 + T.1
abbrev fm_tys (G : fG) : List (ClassId × FieldType) := [(G.2.1, .int), (G.2.2.1, .long), (G.2.2.2.1, .object "PackedLists$CutList"), (G.2.2.2.2.1, .object "PackedLists$Window")]
/-- writes of one int, one array of ints -/
def iu (I : fI) (a j : Nat) (w : Int32) : fI := fun b q => if b = a then (if q = j then w else I b q) else I b q
def ia (I : fI) (a : Nat) (f : Nat → Int32) : fI := fun b => if b = a then f else I b
def ju (J : fJ) (a j : Nat) (w : Int64) : fJ := fun b q => if b = a then (if q = j then w else J b q) else J b q
def ja (J : fJ) (a : Nat) (f : Nat → Int64) : fJ := fun b => if b = a then f else J b
def vu (V : Nat → Nat → Option Nat) (a j : Nat) (w : Option Nat) : Nat → Nat → Option Nat := fun b q => if b = a then (if q = j then w else V b q) else V b q
def vz (V : Nat → Nat → Option Nat) (a : Nat) : Nat → Nat → Option Nat := fun b => if b = a then (fun _ => none) else V b
def ku (K : Nat → Nat) (a c : Nat) : Nat → Nat := fun b => if b = a then c else K b
theorem iu_ne {I : fI} {a j b : Nat} {w : Int32} (h : b ≠ a) : iu I a j w b = I b := by funext q; simp [iu, h]
theorem ia_ne {I : fI} {a b : Nat} {f : Nat → Int32} (h : b ≠ a) : ia I a f b = I b := by simp [ia, h]
theorem ia_eq {I : fI} {a : Nat} {f : Nat → Int32} : ia I a f a = f := by simp [ia]
theorem ju_ne {J : fJ} {a j b : Nat} {w : Int64} (h : b ≠ a) : ju J a j w b = J b := by funext q; simp [ju, h]
theorem ja_ne {J : fJ} {a b : Nat} {f : Nat → Int64} (h : b ≠ a) : ja J a f b = J b := by simp [ja, h]
theorem ja_eq {J : fJ} {a : Nat} {f : Nat → Int64} : ja J a f a = f := by simp [ja]
theorem vu_ne {V : Nat → Nat → Option Nat} {a j b : Nat} {w : Option Nat} (h : b ≠ a) : vu V a j w b = V b := by funext q; simp [vu, h]
theorem vz_ne {V : Nat → Nat → Option Nat} {a b : Nat} (h : b ≠ a) : vz V a b = V b := by simp [vz, h]
theorem vz_eq {V : Nat → Nat → Option Nat} {a : Nat} : vz V a a = fun _ => none := by simp [vz]
theorem ku_ne {K : Nat → Nat} {a b c : Nat} (h : b ≠ a) : ku K a c b = K b := by simp [ku, h]
theorem ku_eq {K : Nat → Nat} {a c : Nat} : ku K a c a = c := by simp [ku]
/-! locals -/
def lk : List (Nat × Value) → Nat → Option Value
  | [], _ => none
  | (j, v) :: r, i => if j = i then some v else lk r i
theorem lk_mem {lv : List (Nat × Value)} {i : Nat} {v : Value} (h : lk lv i = some v) : (i, v) ∈ lv := by
  induction lv with
  | nil => simp [lk] at h
  | cons q r ih =>
    obtain ⟨j, w⟩ := q
    unfold lk at h
    split at h
    · next hj => subst hj; cases h; exact List.mem_cons_self
    · exact List.mem_cons_of_mem _ (ih h)
/-- without the place i, and without a long whose second half is there -/
def rm : List (Nat × Value) → Nat → List (Nat × Value)
  | [], _ => []
  | (j, v) :: r, i => if j = i then rm r i else if j + 1 = i then (if v.category = 2 then rm r i else (j, v) :: rm r i) else (j, v) :: rm r i
def sl : List (Nat × Value) → Nat → Value → List (Nat × Value)
  | [], i, x => [(i, x)]
  | (j, v) :: r, i, x => if j = i then (i, x) :: rm r i else if j + 1 = i then (if v.category = 2 then sl r i x else (j, v) :: sl r i x) else (j, v) :: sl r i x
theorem rm_mem {lv : List (Nat × Value)} {i : Nat} {q : Nat × Value} (h : q ∈ rm lv i) : q ∈ lv ∧ q.1 ≠ i ∧ ¬ (q.1 + 1 = i ∧ q.2.category = 2) := by
  induction lv with
  | nil => simp [rm] at h
  | cons p r ih =>
    obtain ⟨j, w⟩ := p
    unfold rm at h
    split at h
    · exact ⟨List.mem_cons_of_mem _ (ih h).1, (ih h).2⟩
    · next hj =>
      split at h
      · next hj2 =>
        split at h
        · exact ⟨List.mem_cons_of_mem _ (ih h).1, (ih h).2⟩
        · next hc =>
          rcases List.mem_cons.mp h with rfl | h
          · exact ⟨List.mem_cons_self, hj, fun z => hc z.2⟩
          · exact ⟨List.mem_cons_of_mem _ (ih h).1, (ih h).2⟩
      · next hj2 =>
        rcases List.mem_cons.mp h with rfl | h
        · exact ⟨List.mem_cons_self, hj, fun z => hj2 z.1⟩
        · exact ⟨List.mem_cons_of_mem _ (ih h).1, (ih h).2⟩
theorem sl_mem {lv : List (Nat × Value)} {i : Nat} {x : Value} {q : Nat × Value} (h : q ∈ sl lv i x) : q = (i, x) ∨ (q ∈ lv ∧ q.1 ≠ i ∧ ¬ (q.1 + 1 = i ∧ q.2.category = 2)) := by
  induction lv with
  | nil => exact Or.inl (List.mem_singleton.mp h)
  | cons p r ih =>
    obtain ⟨j, w⟩ := p
    have up : ∀ {q : Nat × Value}, (q = (i, x) ∨ (q ∈ r ∧ q.1 ≠ i ∧ ¬ (q.1 + 1 = i ∧ q.2.category = 2))) → (q = (i, x) ∨ (q ∈ (j, w) :: r ∧ q.1 ≠ i ∧ ¬ (q.1 + 1 = i ∧ q.2.category = 2))) := fun h => h.elim Or.inl (fun z => Or.inr ⟨List.mem_cons_of_mem _ z.1, z.2⟩)
    unfold sl at h
    split at h
    · rcases List.mem_cons.mp h with rfl | h
      · exact Or.inl rfl
      · exact up (Or.inr (rm_mem h))
    · next hj =>
      split at h
      · next hj2 =>
        split at h
        · exact up (ih h)
        · next hc =>
          rcases List.mem_cons.mp h with rfl | h
          · exact Or.inr ⟨List.mem_cons_self, hj, fun z => hc z.2⟩
          · exact up (ih h)
      · next hj2 =>
        rcases List.mem_cons.mp h with rfl | h
        · exact Or.inr ⟨List.mem_cons_self, hj, fun z => hj2 z.1⟩
        · exact up (ih h)
theorem sl_has1 {ls : Array Slot} {nL : Nat} {lv : List (Nat × Value)} {i : Nat} {x : Value} (h : lv_has ls nL ((i, x) :: lv.filter (fun q => !(q.1 == i) && !(q.1 + 1 == i && q.2.category == 2)))) : lv_has ls nL (sl lv i x) := by
  refine ⟨h.1, h.2.1, fun q hq => h.2.2 q ?_⟩
  rcases sl_mem hq with rfl | ⟨h1, h2, h3⟩
  · exact List.mem_cons_self
  · refine List.mem_cons_of_mem _ (List.mem_filter.mpr ⟨h1, ?_⟩)
    simp only [Bool.and_eq_true, Bool.not_eq_true', beq_eq_false_iff_ne, ne_eq, Bool.and_eq_false_imp, beq_iff_eq]
    exact ⟨h2, fun z1 z2 => h3 ⟨z1, z2⟩⟩
def sl2 (lv : List (Nat × Value)) (i : Nat) (x : Value) : List (Nat × Value) := sl (rm lv (i + 1)) i x
theorem sl_has2 {ls : Array Slot} {nL : Nat} {lv : List (Nat × Value)} {i : Nat} {x : Value} (h : lv_has ls nL ((i, x) :: lv.filter (fun q => !(q.1 == i) && (!(q.1 == i + 1) && !(q.1 + 1 == i && q.2.category == 2))))) : lv_has ls nL (sl2 lv i x) := by
  refine ⟨h.1, h.2.1, fun q hq => h.2.2 q ?_⟩
  rcases sl_mem hq with rfl | ⟨h1, h2, h3⟩
  · exact List.mem_cons_self
  · obtain ⟨g1, g2, -⟩ := rm_mem h1
    refine List.mem_cons_of_mem _ (List.mem_filter.mpr ⟨g1, ?_⟩)
    simp only [Bool.and_eq_true, Bool.not_eq_true', beq_eq_false_iff_ne, ne_eq, Bool.and_eq_false_imp, beq_iff_eq]
    exact ⟨h2, g2, fun z1 z2 => h3 ⟨z1, z2⟩⟩
def lvs (lv : List (Nat × Value)) : List (Nat × Value) → Prop
  | [] => True
  | (i, v) :: r => lk lv i = some v ∧ lvs lv r
theorem lvs_mem {lv lv' : List (Nat × Value)} (h : lvs lv lv') : ∀ q ∈ lv', q ∈ lv := by
  induction lv' with
  | nil => intro q hq; cases hq
  | cons p r ih =>
    obtain ⟨i, v⟩ := p
    intro q hq
    rcases List.mem_cons.mp hq with rfl | hq
    · exact lk_mem h.1
    · exact ih h.2 q hq
/-! what holds around: nest mates' links, the static table, the classes of arrays of references -/
def fm_nest : List Cond := [.methodLinkNest RX5 21 yX2_init RX11, .methodLinkNest RX11 24 yX1_init RX11, .methodLinkNest RX11 40 yX0_init RX11, .methodLinkNest RX11 54 yX4_init RX11, .methodLinkNest RX11 61 yX7_init RX11, .methodLinkNest RX11 68 yX3_init RX11, .methodLinkNest RX11 73 yX2_init RX11, .methodLinkNest RX8 64 yX11_bitsOf RX11, .methodLinkNest RX0 38 yX11_bitsOf RX11, .methodLinkNest RX11 222 yX6_init RX11, .methodLinkNest RX6 11 yX4_init RX11]
def fm_tab (j : Nat) : Int64 := match j with
  | 0 => -6148914691236517206
  | 1 => -3689348814741910324
  | 2 => -1085102592571150096
  | 3 => -71777214294589696
  | 4 => -281470681808896
  | _ => -4294967296
def fm_X (tt x0 : Nat) (U : State) (H : Heap) : Prop := (∀ w ∈ fm_nest, va_Nw w U) ∧ (va_Z "PackedLists$Joiner" "TABLES" "[J" (.ref tt) (fm_A x0) U H ∧ va_T .long tt 6 (fun j => .long (fm_tab j)) (fm_A x0) U H) ∧ va_AO "PackedLists$CutList" U ∧ va_AO "PackedLists$Window" U
theorem fm_nest_warm {s U : State} (hW : s.WarmedH U.vm) (h : ∀ w ∈ fm_nest, va_Nw w s) : ∀ w ∈ fm_nest, va_Nw w U := by
  intro w hw
  have h1 := h w hw
  simp only [fm_nest, List.mem_cons, List.not_mem_nil, or_false] at hw
  rcases hw with rfl | rfl | rfl | rfl | rfl | rfl | rfl | rfl | rfl | rfl | rfl <;> exact va_Nw.warmM hW h1
theorem fm_nest_on {w : Cond} (hw : w ∈ fm_nest) : w.onTables = true := by
  simp only [fm_nest, List.mem_cons, List.not_mem_nil, or_false] at hw
  rcases hw with rfl | rfl | rfl | rfl | rfl | rfl | rfl | rfl | rfl | rfl | rfl <;> rfl
theorem fm_X_warm {tt x0 : Nat} {s U : State} {H H1 : Heap} (hW : s.WarmedH U.vm) (hk : ∀ a : Nat, a < H.size → ¬ fm_A x0 a → H1[a]? = H[a]?) (h : fm_X tt x0 s H) : fm_X tt x0 U H1 := by
  obtain ⟨h1, ⟨h2, h3⟩, h4, h5⟩ := h
  exact ⟨fm_nest_warm hW h1, ⟨va_Z.moved hW.alike (h2.kept hk), va_T.moved hW.alike (h3.kept hk)⟩, h4.moved hW.alike, h5.moved hW.alike⟩
theorem fm_X_vm {tt x0 : Nat} {s U : State} {H : Heap} (hvm : s.vm = U.vm) (h : fm_X tt x0 s H) : fm_X tt x0 U H := by
  obtain ⟨h1, ⟨h2, h3⟩, h4, h5⟩ := h
  have al : s.vm.Alike U.vm := by rw [hvm]; exact Vm.Alike.refl _
  exact ⟨fun w hw => va_Nw.same (fm_nest_on hw) hvm (h1 w hw), ⟨va_Z.moved al h2, va_T.moved al h3⟩, h4.moved al, h5.moved al⟩
/-! the judgement -/
abbrev fZ : Type := State → Array Value → List Frame → Room → State → Prop
def fm_V (G : fG) (x0 : Nat) (M : fM) (d : Nat) (p : Program) (s : State) (m : MethodId) (args : Array Value) (meth : Method) (c : Code) (R : Room) : Prop :=
  p.tables.exec = Jvm.exec ∧ c.code = M.2.1 ∧ meth.sig.returnType = M.2.2.2 ∧ c.maxLocals = M.2.2.1 ∧ meth.name = M.1.name ∧ s.vm.findClass M.1.cls = some m.cls ∧ (∀ w ∈ WL, w.before args s = true) ∧ meth.locks = false ∧ va_K G.1 vwCl (fm_tys G) s ∧ fm_X G.2.2.2.2.2 x0 s s.heap ∧ x0 ≤ s.heap.size ∧ d ≤ R.frames ∧ 37 * d ≤ R.locals
def PW (G : fG) (x0 : Nat) (l : Launch) (M : fM) (d : Nat) (Z : fZ) (k n pc : Nat) (lv : List (Nat × Value)) (st : List Value) (T : fT) (I : fI) (J : fJ) : Prop :=
  ∀ (p : Program) (e : Env) (s : State) (m : MethodId) (args : Array Value) (below : List Frame) (meth : Method) (c : Code) (R : Room) (H : Heap) (locs : List Loc) (cells slots : Nat) (ls : Array Slot),
    fm_V G x0 M d p s m args meth c R → cells + k ≤ R.cells → slots + n ≤ R.slots → fm_H G x0 T I J H → va_S (fm_A x0) s.heap H locs → lv_has ls M.2.2.1 lv →
    W p l e R s m args below meth c H locs cells slots (Z s args below R) (F0 m pc ls st)
def fm_Q (G : fG) (x0 : Nat) (Q : Option Value → fT → fI → fJ → Prop) : Array Value → State → Outcome → State → Prop := fun _ st oc t => (∃ (r : Option Value) (T : fT) (I : fI) (J : fJ), oc = .returned r ∧ Q r T I J ∧ fm_H G x0 T I J t.heap) ∧ va_F (fm_A x0) st t
def ZM (G : fG) (x0 : Nat) (Q : Option Value → fT → fI → fJ → Prop) : fZ := fun s args below R => MQ below (fm_Q G x0 Q) args s R.cells R.slots (fm_A x0)
section FM
variable {G : fG} {x0 : Nat} {l : Launch} {M : fM} {d : Nat} {Z : fZ} {k n pc : Nat} {lv : List (Nat × Value)} {st : List Value} {T : fT} {I : fI} {J : fJ}
theorem s_lv {lv' : List (Nat × Value)} (h : lvs lv lv') (kk : PW G x0 l M d Z k n pc lv' st T I J) : PW G x0 l M d Z k n pc lv st T I J := fun p e s m args below meth c R H locs cells slots ls hv h1 h2 hH hS hl =>
  kk p e s m args below meth c R H locs cells slots ls hv h1 h2 hH hS ⟨hl.1, hl.2.1, fun q hq => hl.2.2 q (lvs_mem h q hq)⟩
theorem s_kn {k' n' : Nat} (hk : k' ≤ k) (hn : n' ≤ n) (kk : PW G x0 l M d Z k' n' pc lv st T I J) : PW G x0 l M d Z k n pc lv st T I J := fun p e s m args below meth c R H locs cells slots ls hv h1 h2 hH hS hl =>
  kk p e s m args below meth c R H locs cells slots ls hv (by omega) (by omega) hH hS hl
theorem s_d {d' : Nat} (hd : d' ≤ d) (kk : PW G x0 l M d' Z k n pc lv st T I J) : PW G x0 l M d Z k n pc lv st T I J := by
  intro p e s m args below meth c R H locs cells slots ls hv h1 h2 hH hS hl
  obtain ⟨a1, a2, a3, a4, a5, a6, a7, a8, a9, a10, a11, a12, a13⟩ := hv
  exact kk p e s m args below meth c R H locs cells slots ls ⟨a1, a2, a3, a4, a5, a6, a7, a8, a9, a10, a11, by omega, by omega⟩ h1 h2 hH hS hl

theorem s_iconst {z : Int} {v : Int32} (hd : decode M.2.1 pc = .ok (.iconst z, 1)) (hz : Int32.ofInt z = v) (kk : PW G x0 l M d Z k n (pc + 1) lv (.int v :: st) T I J) : PW G x0 l M d Z k n pc lv st T I J := fun p e s m args below meth c R H locs cells slots ls hv h1 h2 hH hS hl => lv_iconst hv.1 hv.2.1 hd hz (kk p e s m args below meth c R H locs cells slots ls hv h1 h2 hH hS hl)
theorem s_bipush {z : Int} {v : Int32} (hd : decode M.2.1 pc = .ok (.bipush z, 2)) (hz : (Int8.ofInt z).toInt32 = v) (kk : PW G x0 l M d Z k n (pc + 2) lv (.int v :: st) T I J) : PW G x0 l M d Z k n pc lv st T I J := fun p e s m args below meth c R H locs cells slots ls hv h1 h2 hH hS hl => lv_bipush hv.1 hv.2.1 hd hz (kk p e s m args below meth c R H locs cells slots ls hv h1 h2 hH hS hl)
theorem s_sipush {z : Int} {v : Int32} (hd : decode M.2.1 pc = .ok (.sipush z, 3)) (hz : (Int16.ofInt z).toInt32 = v) (kk : PW G x0 l M d Z k n (pc + 3) lv (.int v :: st) T I J) : PW G x0 l M d Z k n pc lv st T I J := fun p e s m args below meth c R H locs cells slots ls hv h1 h2 hH hS hl => lv_sipush hv.1 hv.2.1 hd hz (kk p e s m args below meth c R H locs cells slots ls hv h1 h2 hH hS hl)
theorem s_iload_n {q : Fin 4} {i : Nat} {x : Int32} (hd : decode M.2.1 pc = .ok (.iload_n q, 1)) (hi : (q : Nat) = i) (hk : lk lv i = some (.int x)) (kk : PW G x0 l M d Z k n (pc + 1) lv (.int x :: st) T I J) : PW G x0 l M d Z k n pc lv st T I J := fun p e s m args below meth c R H locs cells slots ls hv h1 h2 hH hS hl => lv_iload_n hv.1 hv.2.1 hd hi (hl.2.2 _ (lk_mem hk)) (kk p e s m args below meth c R H locs cells slots ls hv h1 h2 hH hS hl)
theorem s_iload {i : Nat} {x : Int32} (hd : decode M.2.1 pc = .ok (.iload i, 2)) (hk : lk lv i = some (.int x)) (kk : PW G x0 l M d Z k n (pc + 2) lv (.int x :: st) T I J) : PW G x0 l M d Z k n pc lv st T I J := fun p e s m args below meth c R H locs cells slots ls hv h1 h2 hH hS hl => lv_iload hv.1 hv.2.1 hd (hl.2.2 _ (lk_mem hk)) (kk p e s m args below meth c R H locs cells slots ls hv h1 h2 hH hS hl)
theorem s_istore_n {q : Fin 4} {i : Nat} {x : Int32} {lv' : List (Nat × Value)} (hd : decode M.2.1 pc = .ok (.istore_n q, 1)) (hi : (q : Nat) = i) (hn : i < M.2.2.1) (hs : sl lv i (.int x) = lv') (kk : PW G x0 l M d Z k n (pc + 1) lv' st T I J) : PW G x0 l M d Z k n pc lv (.int x :: st) T I J := fun p e s m args below meth c R H locs cells slots ls hv h1 h2 hH hS hl => lv_istore_n hv.1 hv.2.1 hd hi hl hn rfl (fun ls2 hl2 => kk p e s m args below meth c R H locs cells slots ls2 hv h1 h2 hH hS (hs ▸ sl_has1 hl2))
theorem s_istore {i : Nat} {x : Int32} {lv' : List (Nat × Value)} (hd : decode M.2.1 pc = .ok (.istore i, 2)) (hn : i < M.2.2.1) (hs : sl lv i (.int x) = lv') (kk : PW G x0 l M d Z k n (pc + 2) lv' st T I J) : PW G x0 l M d Z k n pc lv (.int x :: st) T I J := fun p e s m args below meth c R H locs cells slots ls hv h1 h2 hH hS hl => lv_istore hv.1 hv.2.1 hd hl hn rfl (fun ls2 hl2 => kk p e s m args below meth c R H locs cells slots ls2 hv h1 h2 hH hS (hs ▸ sl_has1 hl2))
theorem s_lload_n {q : Fin 4} {i : Nat} {x : Int64} (hd : decode M.2.1 pc = .ok (.lload_n q, 1)) (hi : (q : Nat) = i) (hk : lk lv i = some (.long x)) (kk : PW G x0 l M d Z k n (pc + 1) lv (.long x :: st) T I J) : PW G x0 l M d Z k n pc lv st T I J := fun p e s m args below meth c R H locs cells slots ls hv h1 h2 hH hS hl => lv_lload_n hv.1 hv.2.1 hd hi (hl.2.2 _ (lk_mem hk)) (kk p e s m args below meth c R H locs cells slots ls hv h1 h2 hH hS hl)
theorem s_lload {i : Nat} {x : Int64} (hd : decode M.2.1 pc = .ok (.lload i, 2)) (hk : lk lv i = some (.long x)) (kk : PW G x0 l M d Z k n (pc + 2) lv (.long x :: st) T I J) : PW G x0 l M d Z k n pc lv st T I J := fun p e s m args below meth c R H locs cells slots ls hv h1 h2 hH hS hl => lv_lload hv.1 hv.2.1 hd (hl.2.2 _ (lk_mem hk)) (kk p e s m args below meth c R H locs cells slots ls hv h1 h2 hH hS hl)
theorem s_lstore_n {q : Fin 4} {i : Nat} {x : Int64} {lv' : List (Nat × Value)} (hd : decode M.2.1 pc = .ok (.lstore_n q, 1)) (hi : (q : Nat) = i) (hn : i + 1 < M.2.2.1) (hs : sl2 lv i (.long x) = lv') (kk : PW G x0 l M d Z k n (pc + 1) lv' st T I J) : PW G x0 l M d Z k n pc lv (.long x :: st) T I J := fun p e s m args below meth c R H locs cells slots ls hv h1 h2 hH hS hl => lv_lstore_n hv.1 hv.2.1 hd hi hl hn rfl (fun ls2 hl2 => kk p e s m args below meth c R H locs cells slots ls2 hv h1 h2 hH hS (hs ▸ sl_has2 hl2))
theorem s_lstore {i : Nat} {x : Int64} {lv' : List (Nat × Value)} (hd : decode M.2.1 pc = .ok (.lstore i, 2)) (hn : i + 1 < M.2.2.1) (hs : sl2 lv i (.long x) = lv') (kk : PW G x0 l M d Z k n (pc + 2) lv' st T I J) : PW G x0 l M d Z k n pc lv (.long x :: st) T I J := fun p e s m args below meth c R H locs cells slots ls hv h1 h2 hH hS hl => lv_lstore hv.1 hv.2.1 hd hl hn rfl (fun ls2 hl2 => kk p e s m args below meth c R H locs cells slots ls2 hv h1 h2 hH hS (hs ▸ sl_has2 hl2))
theorem s_aload_n {q : Fin 4} {i : Nat} {x : Nat} (hd : decode M.2.1 pc = .ok (.aload_n q, 1)) (hi : (q : Nat) = i) (hk : lk lv i = some (.ref x)) (kk : PW G x0 l M d Z k n (pc + 1) lv (.ref x :: st) T I J) : PW G x0 l M d Z k n pc lv st T I J := fun p e s m args below meth c R H locs cells slots ls hv h1 h2 hH hS hl => lv_aload_n hv.1 hv.2.1 hd hi (hl.2.2 _ (lk_mem hk)) (kk p e s m args below meth c R H locs cells slots ls hv h1 h2 hH hS hl)
theorem s_aload {i : Nat} {x : Nat} (hd : decode M.2.1 pc = .ok (.aload i, 2)) (hk : lk lv i = some (.ref x)) (kk : PW G x0 l M d Z k n (pc + 2) lv (.ref x :: st) T I J) : PW G x0 l M d Z k n pc lv st T I J := fun p e s m args below meth c R H locs cells slots ls hv h1 h2 hH hS hl => lv_aload hv.1 hv.2.1 hd (hl.2.2 _ (lk_mem hk)) (kk p e s m args below meth c R H locs cells slots ls hv h1 h2 hH hS hl)
theorem s_astore_n {q : Fin 4} {i : Nat} {x : Nat} {lv' : List (Nat × Value)} (hd : decode M.2.1 pc = .ok (.astore_n q, 1)) (hi : (q : Nat) = i) (hn : i < M.2.2.1) (hs : sl lv i (.ref x) = lv') (kk : PW G x0 l M d Z k n (pc + 1) lv' st T I J) : PW G x0 l M d Z k n pc lv (.ref x :: st) T I J := fun p e s m args below meth c R H locs cells slots ls hv h1 h2 hH hS hl => lv_astore_n hv.1 hv.2.1 hd hi hl hn rfl (fun ls2 hl2 => kk p e s m args below meth c R H locs cells slots ls2 hv h1 h2 hH hS (hs ▸ sl_has1 hl2))
theorem s_astore {i : Nat} {x : Nat} {lv' : List (Nat × Value)} (hd : decode M.2.1 pc = .ok (.astore i, 2)) (hn : i < M.2.2.1) (hs : sl lv i (.ref x) = lv') (kk : PW G x0 l M d Z k n (pc + 2) lv' st T I J) : PW G x0 l M d Z k n pc lv (.ref x :: st) T I J := fun p e s m args below meth c R H locs cells slots ls hv h1 h2 hH hS hl => lv_astore hv.1 hv.2.1 hd hl hn rfl (fun ls2 hl2 => kk p e s m args below meth c R H locs cells slots ls2 hv h1 h2 hH hS (hs ▸ sl_has1 hl2))
theorem s_iinc {i : Nat} {z : Int} {x v : Int32} {lv' : List (Nat × Value)} (hd : decode M.2.1 pc = .ok (.iinc i z, 3)) (hk : lk lv i = some (.int x)) (hz : x + Int32.ofInt z = v) (hn : i < M.2.2.1) (hs : sl lv i (.int v) = lv') (kk : PW G x0 l M d Z k n (pc + 3) lv' st T I J) : PW G x0 l M d Z k n pc lv st T I J := by
  intro p e s m args below meth c R H locs cells slots ls hv h1 h2 hH hS hl
  obtain ⟨q, hq⟩ := List.getElem?_of_mem (lk_mem hk)
  exact lv_iinc hv.1 hv.2.1 hd hl hq hz hn rfl (fun ls2 hl2 => kk p e s m args below meth c R H locs cells slots ls2 hv h1 h2 hH hS (hs ▸ sl_has1 hl2))
theorem s_iadd {x y : Int32} (hd : decode M.2.1 pc = .ok (.iadd, 1))  (kk : PW G x0 l M d Z k n (pc + 1) lv (.int (x + y) :: st) T I J) : PW G x0 l M d Z k n pc lv (.int y :: .int x :: st) T I J := fun p e s m args below meth c R H locs cells slots ls hv h1 h2 hH hS hl => lv_iadd hv.1 hv.2.1 hd (kk p e s m args below meth c R H locs cells slots ls hv h1 h2 hH hS hl)
theorem s_isub {x y : Int32} (hd : decode M.2.1 pc = .ok (.isub, 1))  (kk : PW G x0 l M d Z k n (pc + 1) lv (.int (x - y) :: st) T I J) : PW G x0 l M d Z k n pc lv (.int y :: .int x :: st) T I J := fun p e s m args below meth c R H locs cells slots ls hv h1 h2 hH hS hl => lv_isub hv.1 hv.2.1 hd (kk p e s m args below meth c R H locs cells slots ls hv h1 h2 hH hS hl)
theorem s_imul {x y : Int32} (hd : decode M.2.1 pc = .ok (.imul, 1))  (kk : PW G x0 l M d Z k n (pc + 1) lv (.int (x * y) :: st) T I J) : PW G x0 l M d Z k n pc lv (.int y :: .int x :: st) T I J := fun p e s m args below meth c R H locs cells slots ls hv h1 h2 hH hS hl => lv_imul hv.1 hv.2.1 hd (kk p e s m args below meth c R H locs cells slots ls hv h1 h2 hH hS hl)
theorem s_iand {x y : Int32} (hd : decode M.2.1 pc = .ok (.iand, 1))  (kk : PW G x0 l M d Z k n (pc + 1) lv (.int (x &&& y) :: st) T I J) : PW G x0 l M d Z k n pc lv (.int y :: .int x :: st) T I J := fun p e s m args below meth c R H locs cells slots ls hv h1 h2 hH hS hl => lv_iand hv.1 hv.2.1 hd (kk p e s m args below meth c R H locs cells slots ls hv h1 h2 hH hS hl)
theorem s_ior {x y : Int32} (hd : decode M.2.1 pc = .ok (.ior, 1))  (kk : PW G x0 l M d Z k n (pc + 1) lv (.int (x ||| y) :: st) T I J) : PW G x0 l M d Z k n pc lv (.int y :: .int x :: st) T I J := fun p e s m args below meth c R H locs cells slots ls hv h1 h2 hH hS hl => lv_ior hv.1 hv.2.1 hd (kk p e s m args below meth c R H locs cells slots ls hv h1 h2 hH hS hl)
theorem s_ishl {x y : Int32} (hd : decode M.2.1 pc = .ok (.ishl, 1))  (kk : PW G x0 l M d Z k n (pc + 1) lv (.int (x <<< (y &&& 31)) :: st) T I J) : PW G x0 l M d Z k n pc lv (.int y :: .int x :: st) T I J := fun p e s m args below meth c R H locs cells slots ls hv h1 h2 hH hS hl => lv_ishl hv.1 hv.2.1 hd (kk p e s m args below meth c R H locs cells slots ls hv h1 h2 hH hS hl)
theorem s_ishr {x y : Int32} (hd : decode M.2.1 pc = .ok (.ishr, 1))  (kk : PW G x0 l M d Z k n (pc + 1) lv (.int (x >>> (y &&& 31)) :: st) T I J) : PW G x0 l M d Z k n pc lv (.int y :: .int x :: st) T I J := fun p e s m args below meth c R H locs cells slots ls hv h1 h2 hH hS hl => lv_ishr hv.1 hv.2.1 hd (kk p e s m args below meth c R H locs cells slots ls hv h1 h2 hH hS hl)
theorem s_idiv {x y : Int32} (hd : decode M.2.1 pc = .ok (.idiv, 1)) (hne : ¬ y = 0) (kk : PW G x0 l M d Z k n (pc + 1) lv (.int (x / y) :: st) T I J) : PW G x0 l M d Z k n pc lv (.int y :: .int x :: st) T I J := fun p e s m args below meth c R H locs cells slots ls hv h1 h2 hH hS hl => lv_idiv hv.1 hv.2.1 hd hne (kk p e s m args below meth c R H locs cells slots ls hv h1 h2 hH hS hl)
theorem s_irem {x y : Int32} (hd : decode M.2.1 pc = .ok (.irem, 1)) (hne : ¬ y = 0) (kk : PW G x0 l M d Z k n (pc + 1) lv (.int (x - x / y * y) :: st) T I J) : PW G x0 l M d Z k n pc lv (.int y :: .int x :: st) T I J := fun p e s m args below meth c R H locs cells slots ls hv h1 h2 hH hS hl => lv_irem hv.1 hv.2.1 hd hne (kk p e s m args below meth c R H locs cells slots ls hv h1 h2 hH hS hl)
theorem s_ineg {x : Int32} (hd : decode M.2.1 pc = .ok (.ineg, 1))  (kk : PW G x0 l M d Z k n (pc + 1) lv (.int (-x) :: st) T I J) : PW G x0 l M d Z k n pc lv (.int x :: st) T I J := fun p e s m args below meth c R H locs cells slots ls hv h1 h2 hH hS hl => lv_ineg hv.1 hv.2.1 hd (kk p e s m args below meth c R H locs cells slots ls hv h1 h2 hH hS hl)
theorem s_i2l {x : Int32} (hd : decode M.2.1 pc = .ok (.i2l, 1))  (kk : PW G x0 l M d Z k n (pc + 1) lv (.long x.toInt64 :: st) T I J) : PW G x0 l M d Z k n pc lv (.int x :: st) T I J := fun p e s m args below meth c R H locs cells slots ls hv h1 h2 hH hS hl => lv_i2l hv.1 hv.2.1 hd rfl (kk p e s m args below meth c R H locs cells slots ls hv h1 h2 hH hS hl)
theorem s_ladd {x y : Int64} (hd : decode M.2.1 pc = .ok (.ladd, 1))  (kk : PW G x0 l M d Z k n (pc + 1) lv (.long (x + y) :: st) T I J) : PW G x0 l M d Z k n pc lv (.long y :: .long x :: st) T I J := fun p e s m args below meth c R H locs cells slots ls hv h1 h2 hH hS hl => lv_ladd hv.1 hv.2.1 hd (kk p e s m args below meth c R H locs cells slots ls hv h1 h2 hH hS hl)
theorem s_lmul {x y : Int64} (hd : decode M.2.1 pc = .ok (.lmul, 1))  (kk : PW G x0 l M d Z k n (pc + 1) lv (.long (x * y) :: st) T I J) : PW G x0 l M d Z k n pc lv (.long y :: .long x :: st) T I J := fun p e s m args below meth c R H locs cells slots ls hv h1 h2 hH hS hl => lv_lmul hv.1 hv.2.1 hd (kk p e s m args below meth c R H locs cells slots ls hv h1 h2 hH hS hl)
theorem s_land {x y : Int64} (hd : decode M.2.1 pc = .ok (.land, 1))  (kk : PW G x0 l M d Z k n (pc + 1) lv (.long (x &&& y) :: st) T I J) : PW G x0 l M d Z k n pc lv (.long y :: .long x :: st) T I J := fun p e s m args below meth c R H locs cells slots ls hv h1 h2 hH hS hl => lv_land hv.1 hv.2.1 hd (kk p e s m args below meth c R H locs cells slots ls hv h1 h2 hH hS hl)
theorem s_lor {x y : Int64} (hd : decode M.2.1 pc = .ok (.lor, 1))  (kk : PW G x0 l M d Z k n (pc + 1) lv (.long (x ||| y) :: st) T I J) : PW G x0 l M d Z k n pc lv (.long y :: .long x :: st) T I J := fun p e s m args below meth c R H locs cells slots ls hv h1 h2 hH hS hl => lv_lor hv.1 hv.2.1 hd (kk p e s m args below meth c R H locs cells slots ls hv h1 h2 hH hS hl)
theorem s_lxor {x y : Int64} (hd : decode M.2.1 pc = .ok (.lxor, 1))  (kk : PW G x0 l M d Z k n (pc + 1) lv (.long (x ^^^ y) :: st) T I J) : PW G x0 l M d Z k n pc lv (.long y :: .long x :: st) T I J := fun p e s m args below meth c R H locs cells slots ls hv h1 h2 hH hS hl => lv_lxor hv.1 hv.2.1 hd (kk p e s m args below meth c R H locs cells slots ls hv h1 h2 hH hS hl)
theorem s_lshl {x : Int64} {y : Int32} (hd : decode M.2.1 pc = .ok (.lshl, 1))  (kk : PW G x0 l M d Z k n (pc + 1) lv (.long (x <<< (y.toInt64 &&& 63)) :: st) T I J) : PW G x0 l M d Z k n pc lv (.int y :: .long x :: st) T I J := fun p e s m args below meth c R H locs cells slots ls hv h1 h2 hH hS hl => lv_lshl hv.1 hv.2.1 hd rfl (kk p e s m args below meth c R H locs cells slots ls hv h1 h2 hH hS hl)
theorem s_lshr {x : Int64} {y : Int32} (hd : decode M.2.1 pc = .ok (.lshr, 1))  (kk : PW G x0 l M d Z k n (pc + 1) lv (.long (x >>> (y.toInt64 &&& 63)) :: st) T I J) : PW G x0 l M d Z k n pc lv (.int y :: .long x :: st) T I J := fun p e s m args below meth c R H locs cells slots ls hv h1 h2 hH hS hl => lv_lshr hv.1 hv.2.1 hd rfl (kk p e s m args below meth c R H locs cells slots ls hv h1 h2 hH hS hl)
theorem s_lushr {x : Int64} {y : Int32} (hd : decode M.2.1 pc = .ok (.lushr, 1))  (kk : PW G x0 l M d Z k n (pc + 1) lv (.long ((x.toUInt64 >>> (y.toInt64.toUInt64 &&& Int64.toUInt64 63)).toInt64) :: st) T I J) : PW G x0 l M d Z k n pc lv (.int y :: .long x :: st) T I J := fun p e s m args below meth c R H locs cells slots ls hv h1 h2 hH hS hl => lv_lushr hv.1 hv.2.1 hd rfl (kk p e s m args below meth c R H locs cells slots ls hv h1 h2 hH hS hl)
theorem s_lcmp {x y : Int64} (hd : decode M.2.1 pc = .ok (.lcmp, 1))  (kk : PW G x0 l M d Z k n (pc + 1) lv (.int (lg_cmp x y) :: st) T I J) : PW G x0 l M d Z k n pc lv (.long y :: .long x :: st) T I J := fun p e s m args below meth c R H locs cells slots ls hv h1 h2 hH hS hl => W.lcmp hv.1 hv.2.1 hd (kk p e s m args below meth c R H locs cells slots ls hv h1 h2 hH hS hl)
theorem s_lconst {z : Fin 2} {v : Int64} (hd : decode M.2.1 pc = .ok (.lconst z, 1)) (hz : Int64.ofNat (z : Nat) = v) (kk : PW G x0 l M d Z k n (pc + 1) lv (.long v :: st) T I J) : PW G x0 l M d Z k n pc lv st T I J := fun p e s m args below meth c R H locs cells slots ls hv h1 h2 hH hS hl => lv_lconst hv.1 hv.2.1 hd hz (kk p e s m args below meth c R H locs cells slots ls hv h1 h2 hH hS hl)
theorem s_dup {va : Value} (hd : decode M.2.1 pc = .ok (.dup, 1)) (hva : va.category = 1) (kk : PW G x0 l M d Z k n (pc + 1) lv (va :: va :: st) T I J) : PW G x0 l M d Z k n pc lv (va :: st) T I J := fun p e s m args below meth c R H locs cells slots ls hv h1 h2 hH hS hl => lv_dup hv.1 hv.2.1 hd hva (kk p e s m args below meth c R H locs cells slots ls hv h1 h2 hH hS hl)
theorem s_dup2 {va vb : Value} (hd : decode M.2.1 pc = .ok (.dup2, 1)) (hva : va.category = 1) (hvb : vb.category = 1) (kk : PW G x0 l M d Z k n (pc + 1) lv (va :: vb :: va :: vb :: st) T I J) : PW G x0 l M d Z k n pc lv (va :: vb :: st) T I J := fun p e s m args below meth c R H locs cells slots ls hv h1 h2 hH hS hl => lv_dup2_11 hv.1 hv.2.1 hd hva hvb (kk p e s m args below meth c R H locs cells slots ls hv h1 h2 hH hS hl)
theorem s_ldc {idx : Nat} {v : Int32} (hd : decode M.2.1 pc = .ok (.ldc idx, 2)) (hw : Cond.constant M.1.cls idx v ∈ WL) (kk : PW G x0 l M d Z k n (pc + 2) lv (.int v :: st) T I J) : PW G x0 l M d Z k n pc lv st T I J := fun p e s m args below meth c R H locs cells slots ls hv h1 h2 hH hS hl => lv_ldc hv.1 hv.2.1 hv.2.2.2.2.2.1 (hv.2.2.2.2.2.2.1 _ hw) hd (kk p e s m args below meth c R H locs cells slots ls hv h1 h2 hH hS hl)
theorem s_ldc2 {idx : Nat} {v : Int64} (hd : decode M.2.1 pc = .ok (.ldc2_w idx, 3)) (hw : Cond.constantLong M.1.cls idx v ∈ WL) (kk : PW G x0 l M d Z k n (pc + 3) lv (.long v :: st) T I J) : PW G x0 l M d Z k n pc lv st T I J := fun p e s m args below meth c R H locs cells slots ls hv h1 h2 hH hS hl => lv_ldc2 hv.1 hv.2.1 hv.2.2.2.2.2.1 (hv.2.2.2.2.2.2.1 _ hw) hd (kk p e s m args below meth c R H locs cells slots ls hv h1 h2 hH hS hl)
theorem s_if_eq {x : Int32} {off : Int} {tgt : Nat} (hd : decode M.2.1 pc = .ok (.ifCond .eq off, 3)) (ht : (pc : Int) + off = (tgt : Int)) (kt : x = 0 → PW G x0 l M d Z k n tgt lv st T I J) (kf : ¬ x = 0 → PW G x0 l M d Z k n (pc + 3) lv st T I J) : PW G x0 l M d Z k n pc lv (.int x :: st) T I J := fun p e s m args below meth c R H locs cells slots ls hv h1 h2 hH hS hl => lv_if_eq hv.1 hv.2.1 hd ht (fun hc => kt hc p e s m args below meth c R H locs cells slots ls hv h1 h2 hH hS hl) (fun hc => kf hc p e s m args below meth c R H locs cells slots ls hv h1 h2 hH hS hl)
theorem s_icmp_eq {x y : Int32} {off : Int} {tgt : Nat} (hd : decode M.2.1 pc = .ok (.if_icmp .eq off, 3)) (ht : (pc : Int) + off = (tgt : Int)) (kt : x = y → PW G x0 l M d Z k n tgt lv st T I J) (kf : ¬ x = y → PW G x0 l M d Z k n (pc + 3) lv st T I J) : PW G x0 l M d Z k n pc lv (.int y :: .int x :: st) T I J := fun p e s m args below meth c R H locs cells slots ls hv h1 h2 hH hS hl => lv_icmp_eq hv.1 hv.2.1 hd ht (fun hc => kt hc p e s m args below meth c R H locs cells slots ls hv h1 h2 hH hS hl) (fun hc => kf hc p e s m args below meth c R H locs cells slots ls hv h1 h2 hH hS hl)
theorem s_if_ne {x : Int32} {off : Int} {tgt : Nat} (hd : decode M.2.1 pc = .ok (.ifCond .ne off, 3)) (ht : (pc : Int) + off = (tgt : Int)) (kt : ¬ x = 0 → PW G x0 l M d Z k n tgt lv st T I J) (kf : x = 0 → PW G x0 l M d Z k n (pc + 3) lv st T I J) : PW G x0 l M d Z k n pc lv (.int x :: st) T I J := fun p e s m args below meth c R H locs cells slots ls hv h1 h2 hH hS hl => lv_if_ne hv.1 hv.2.1 hd ht (fun hc => kt hc p e s m args below meth c R H locs cells slots ls hv h1 h2 hH hS hl) (fun hc => kf hc p e s m args below meth c R H locs cells slots ls hv h1 h2 hH hS hl)
theorem s_icmp_ne {x y : Int32} {off : Int} {tgt : Nat} (hd : decode M.2.1 pc = .ok (.if_icmp .ne off, 3)) (ht : (pc : Int) + off = (tgt : Int)) (kt : ¬ x = y → PW G x0 l M d Z k n tgt lv st T I J) (kf : x = y → PW G x0 l M d Z k n (pc + 3) lv st T I J) : PW G x0 l M d Z k n pc lv (.int y :: .int x :: st) T I J := fun p e s m args below meth c R H locs cells slots ls hv h1 h2 hH hS hl => lv_icmp_ne hv.1 hv.2.1 hd ht (fun hc => kt hc p e s m args below meth c R H locs cells slots ls hv h1 h2 hH hS hl) (fun hc => kf hc p e s m args below meth c R H locs cells slots ls hv h1 h2 hH hS hl)
theorem s_if_lt {x : Int32} {off : Int} {tgt : Nat} (hd : decode M.2.1 pc = .ok (.ifCond .lt off, 3)) (ht : (pc : Int) + off = (tgt : Int)) (kt : x < 0 → PW G x0 l M d Z k n tgt lv st T I J) (kf : ¬ x < 0 → PW G x0 l M d Z k n (pc + 3) lv st T I J) : PW G x0 l M d Z k n pc lv (.int x :: st) T I J := fun p e s m args below meth c R H locs cells slots ls hv h1 h2 hH hS hl => lv_if_lt hv.1 hv.2.1 hd ht (fun hc => kt hc p e s m args below meth c R H locs cells slots ls hv h1 h2 hH hS hl) (fun hc => kf hc p e s m args below meth c R H locs cells slots ls hv h1 h2 hH hS hl)
theorem s_icmp_lt {x y : Int32} {off : Int} {tgt : Nat} (hd : decode M.2.1 pc = .ok (.if_icmp .lt off, 3)) (ht : (pc : Int) + off = (tgt : Int)) (kt : x < y → PW G x0 l M d Z k n tgt lv st T I J) (kf : ¬ x < y → PW G x0 l M d Z k n (pc + 3) lv st T I J) : PW G x0 l M d Z k n pc lv (.int y :: .int x :: st) T I J := fun p e s m args below meth c R H locs cells slots ls hv h1 h2 hH hS hl => lv_icmp_lt hv.1 hv.2.1 hd ht (fun hc => kt hc p e s m args below meth c R H locs cells slots ls hv h1 h2 hH hS hl) (fun hc => kf hc p e s m args below meth c R H locs cells slots ls hv h1 h2 hH hS hl)
theorem s_if_ge {x : Int32} {off : Int} {tgt : Nat} (hd : decode M.2.1 pc = .ok (.ifCond .ge off, 3)) (ht : (pc : Int) + off = (tgt : Int)) (kt : 0 ≤ x → PW G x0 l M d Z k n tgt lv st T I J) (kf : ¬ 0 ≤ x → PW G x0 l M d Z k n (pc + 3) lv st T I J) : PW G x0 l M d Z k n pc lv (.int x :: st) T I J := fun p e s m args below meth c R H locs cells slots ls hv h1 h2 hH hS hl => lv_if_ge hv.1 hv.2.1 hd ht (fun hc => kt hc p e s m args below meth c R H locs cells slots ls hv h1 h2 hH hS hl) (fun hc => kf hc p e s m args below meth c R H locs cells slots ls hv h1 h2 hH hS hl)
theorem s_icmp_ge {x y : Int32} {off : Int} {tgt : Nat} (hd : decode M.2.1 pc = .ok (.if_icmp .ge off, 3)) (ht : (pc : Int) + off = (tgt : Int)) (kt : y ≤ x → PW G x0 l M d Z k n tgt lv st T I J) (kf : ¬ y ≤ x → PW G x0 l M d Z k n (pc + 3) lv st T I J) : PW G x0 l M d Z k n pc lv (.int y :: .int x :: st) T I J := fun p e s m args below meth c R H locs cells slots ls hv h1 h2 hH hS hl => lv_icmp_ge hv.1 hv.2.1 hd ht (fun hc => kt hc p e s m args below meth c R H locs cells slots ls hv h1 h2 hH hS hl) (fun hc => kf hc p e s m args below meth c R H locs cells slots ls hv h1 h2 hH hS hl)
theorem s_if_gt {x : Int32} {off : Int} {tgt : Nat} (hd : decode M.2.1 pc = .ok (.ifCond .gt off, 3)) (ht : (pc : Int) + off = (tgt : Int)) (kt : 0 < x → PW G x0 l M d Z k n tgt lv st T I J) (kf : ¬ 0 < x → PW G x0 l M d Z k n (pc + 3) lv st T I J) : PW G x0 l M d Z k n pc lv (.int x :: st) T I J := fun p e s m args below meth c R H locs cells slots ls hv h1 h2 hH hS hl => lv_if_gt hv.1 hv.2.1 hd ht (fun hc => kt hc p e s m args below meth c R H locs cells slots ls hv h1 h2 hH hS hl) (fun hc => kf hc p e s m args below meth c R H locs cells slots ls hv h1 h2 hH hS hl)
theorem s_icmp_gt {x y : Int32} {off : Int} {tgt : Nat} (hd : decode M.2.1 pc = .ok (.if_icmp .gt off, 3)) (ht : (pc : Int) + off = (tgt : Int)) (kt : y < x → PW G x0 l M d Z k n tgt lv st T I J) (kf : ¬ y < x → PW G x0 l M d Z k n (pc + 3) lv st T I J) : PW G x0 l M d Z k n pc lv (.int y :: .int x :: st) T I J := fun p e s m args below meth c R H locs cells slots ls hv h1 h2 hH hS hl => lv_icmp_gt hv.1 hv.2.1 hd ht (fun hc => kt hc p e s m args below meth c R H locs cells slots ls hv h1 h2 hH hS hl) (fun hc => kf hc p e s m args below meth c R H locs cells slots ls hv h1 h2 hH hS hl)
theorem s_if_le {x : Int32} {off : Int} {tgt : Nat} (hd : decode M.2.1 pc = .ok (.ifCond .le off, 3)) (ht : (pc : Int) + off = (tgt : Int)) (kt : x ≤ 0 → PW G x0 l M d Z k n tgt lv st T I J) (kf : ¬ x ≤ 0 → PW G x0 l M d Z k n (pc + 3) lv st T I J) : PW G x0 l M d Z k n pc lv (.int x :: st) T I J := fun p e s m args below meth c R H locs cells slots ls hv h1 h2 hH hS hl => lv_if_le hv.1 hv.2.1 hd ht (fun hc => kt hc p e s m args below meth c R H locs cells slots ls hv h1 h2 hH hS hl) (fun hc => kf hc p e s m args below meth c R H locs cells slots ls hv h1 h2 hH hS hl)
theorem s_icmp_le {x y : Int32} {off : Int} {tgt : Nat} (hd : decode M.2.1 pc = .ok (.if_icmp .le off, 3)) (ht : (pc : Int) + off = (tgt : Int)) (kt : x ≤ y → PW G x0 l M d Z k n tgt lv st T I J) (kf : ¬ x ≤ y → PW G x0 l M d Z k n (pc + 3) lv st T I J) : PW G x0 l M d Z k n pc lv (.int y :: .int x :: st) T I J := fun p e s m args below meth c R H locs cells slots ls hv h1 h2 hH hS hl => lv_icmp_le hv.1 hv.2.1 hd ht (fun hc => kt hc p e s m args below meth c R H locs cells slots ls hv h1 h2 hH hS hl) (fun hc => kf hc p e s m args below meth c R H locs cells slots ls hv h1 h2 hH hS hl)
theorem s_goto {off : Int} {tgt : Nat} (hd : decode M.2.1 pc = .ok (.goto off, 3)) (ht : (pc : Int) + off = (tgt : Int)) (kk : PW G x0 l M d Z k n tgt lv st T I J) : PW G x0 l M d Z k n pc lv st T I J := fun p e s m args below meth c R H locs cells slots ls hv h1 h2 hH hS hl => lv_goto hv.1 hv.2.1 hd ht (kk p e s m args below meth c R H locs cells slots ls hv h1 h2 hH hS hl)
theorem s_ifnonnull {x : Nat} {off : Int} {tgt : Nat} (hd : decode M.2.1 pc = .ok (.ifnonnull off, 3)) (ht : (pc : Int) + off = (tgt : Int)) (kk : PW G x0 l M d Z k n tgt lv st T I J) : PW G x0 l M d Z k n pc lv (.ref x :: st) T I J := fun p e s m args below meth c R H locs cells slots ls hv h1 h2 hH hS hl => lv_ifnonnull hv.1 hv.2.1 hd ht (kk p e s m args below meth c R H locs cells slots ls hv h1 h2 hH hS hl)
theorem s_ifnonnullN {off : Int} (hd : decode M.2.1 pc = .ok (.ifnonnull off, 3)) (kk : PW G x0 l M d Z k n (pc + 3) lv st T I J) : PW G x0 l M d Z k n pc lv (.null :: st) T I J := fun p e s m args below meth c R H locs cells slots ls hv h1 h2 hH hS hl => lv_ifnonnullN hv.1 hv.2.1 hd (kk p e s m args below meth c R H locs cells slots ls hv h1 h2 hH hS hl)
theorem s_ifnull {x : Nat} {off : Int} (hd : decode M.2.1 pc = .ok (.ifnull off, 3)) (kk : PW G x0 l M d Z k n (pc + 3) lv st T I J) : PW G x0 l M d Z k n pc lv (.ref x :: st) T I J := fun p e s m args below meth c R H locs cells slots ls hv h1 h2 hH hS hl => lv_ifnull hv.1 hv.2.1 hd (kk p e s m args below meth c R H locs cells slots ls hv h1 h2 hH hS hl)
theorem s_ifnullN {off : Int} {tgt : Nat} (hd : decode M.2.1 pc = .ok (.ifnull off, 3)) (ht : (pc : Int) + off = (tgt : Int)) (kk : PW G x0 l M d Z k n tgt lv st T I J) : PW G x0 l M d Z k n pc lv (.null :: st) T I J := fun p e s m args below meth c R H locs cells slots ls hv h1 h2 hH hS hl => lv_ifnullN hv.1 hv.2.1 hd ht (kk p e s m args below meth c R H locs cells slots ls hv h1 h2 hH hS hl)
theorem s_tabOut {dflt lo hi : Int} {offs : Array Int} {len : Nat} {x : Int32} {tgt : Nat} (hd : decode M.2.1 pc = .ok (.tableswitch dflt lo hi offs, len)) (h : x.toInt < lo ∨ hi < x.toInt) (ht : (pc : Int) + dflt = (tgt : Int)) (kk : PW G x0 l M d Z k n tgt lv st T I J) : PW G x0 l M d Z k n pc lv (.int x :: st) T I J := fun p e s m args below meth c R H locs cells slots ls hv h1 h2 hH hS hl => lv_tableOut hv.1 hv.2.1 hd h ht (kk p e s m args below meth c R H locs cells slots ls hv h1 h2 hH hS hl)
theorem s_tabIn {dflt lo hi : Int} {offs : Array Int} {len : Nat} {x : Int32} {off : Int} {tgt : Nat} (hd : decode M.2.1 pc = .ok (.tableswitch dflt lo hi offs, len)) (g1 : ¬ x.toInt < lo) (g2 : ¬ hi < x.toInt) (ho : offs[(x.toInt - lo).toNat]? = some off) (ht : (pc : Int) + off = (tgt : Int)) (kk : PW G x0 l M d Z k n tgt lv st T I J) : PW G x0 l M d Z k n pc lv (.int x :: st) T I J := fun p e s m args below meth c R H locs cells slots ls hv h1 h2 hH hS hl => lv_tableIn hv.1 hv.2.1 hd g1 g2 ho ht (kk p e s m args below meth c R H locs cells slots ls hv h1 h2 hH hS hl)
theorem s_look {dflt : Int} {ps : Array (Int × Int)} {len : Nat} {x : Int32} {off : Int} {tgt : Nat} (hd : decode M.2.1 pc = .ok (.lookupswitch dflt ps, len)) (hp : (ps.toList.zip (ps.toList.drop 1)).all (fun (a, next) => a.1 < next.1) = true) (ho : Op.lookupswitch.offset ps.toList dflt x.toInt = off) (ht : (pc : Int) + off = (tgt : Int)) (kk : PW G x0 l M d Z k n tgt lv st T I J) : PW G x0 l M d Z k n pc lv (.int x :: st) T I J := fun p e s m args below meth c R H locs cells slots ls hv h1 h2 hH hS hl => lv_lookup hv.1 hv.2.1 hd hp ho ht (kk p e s m args below meth c R H locs cells slots ls hv h1 h2 hH hS hl)
/-- a field: own's entry idx is slot j, of kind kd (0 int, 1 reference, 2 long), of class ci -/
def fl (own : String) (idx ci j kd : Nat) : Prop := ∃ (C : String) (Tb : u_T) (N : Nat), vwCl[ci]? = some (C, Tb, N) ∧ j < N ∧ ci < 13 ∧ (∀ w ∈ u_ws C Tb N, w ∈ WL) ∧ Cond.fieldLink own idx (Tb j).1 (Tb j).2.1 (Tb j).2.2.1 ∈ WL ∧ (fm_ty ci)[j]? = some kd
def fp (own : String) (idx ci j kd : Nat) (ty : FieldType) (fin : Bool) : Prop := ∃ (C : String) (Tb : u_T) (N : Nat) (ty0 : Nat → FieldType), vwCl[ci]? = some (C, Tb, N) ∧ j < N ∧ ci < 13 ∧ (∀ w ∈ u_ws C Tb N, w ∈ WL) ∧ Cond.fieldLink own idx (Tb j).1 (Tb j).2.1 (Tb j).2.2.1 ∈ WL ∧ (fm_ty ci)[j]? = some kd ∧ (∀ k, k < N → parseFieldDescriptor (Tb k).2.2.1 = some (ty0 k)) ∧ (∀ a, a < N → ∀ b, b < N → a ≠ b → (Tb a).2.1 ≠ (Tb b).2.1) ∧ (Tb j).2.2.2 = fin ∧ (Tb j).1 = C ∧ parseFieldDescriptor (Tb j).2.2.1 = some ty
theorem s_getV {idx ci j kd a : Nat} (hd : decode M.2.1 pc = .ok (.getfield idx, 3)) (hf : fl M.1.cls idx ci j kd) (ha : a < T.1) (hk : T.2.1 a = ci) (kk : PW G x0 l M d Z k n (pc + 3) lv (fm_v x0 (T.2.2.2 a j) (I a j) (J a j) kd :: st) T I J) : PW G x0 l M d Z k n pc lv (.ref (x0 + a) :: st) T I J := by
  intro p e s m args below meth c R H locs cells slots ls hv h1 h2 hH hS hl
  obtain ⟨C, Tb, N, hc, hj, h13, hin, hlink, hty⟩ := hf
  obtain ⟨hx, hb, hr, hml, hnme, hown, hts, hlk, hK, hX, hx0, hfr, hlo⟩ := id hv
  exact va_get hx hb hts hin hown hK hH.1 a (fm_at ha (fm_E_obj hk h13)) hc j hj (hts _ hlink) (fun _ h => h) (by rw [fm_fs_get, hty]; simp) hd (kk p e s m args below meth c R H locs cells slots ls hv h1 h2 hH hS hl)
theorem s_getI {idx ci j a : Nat} (hd : decode M.2.1 pc = .ok (.getfield idx, 3)) (hf : fl M.1.cls idx ci j 0) (ha : a < T.1) (hk : T.2.1 a = ci) (kk : PW G x0 l M d Z k n (pc + 3) lv (.int (I a j) :: st) T I J) : PW G x0 l M d Z k n pc lv (.ref (x0 + a) :: st) T I J := s_getV hd hf ha hk kk
theorem s_getJ {idx ci j a : Nat} (hd : decode M.2.1 pc = .ok (.getfield idx, 3)) (hf : fl M.1.cls idx ci j 2) (ha : a < T.1) (hk : T.2.1 a = ci) (kk : PW G x0 l M d Z k n (pc + 3) lv (.long (J a j) :: st) T I J) : PW G x0 l M d Z k n pc lv (.ref (x0 + a) :: st) T I J := s_getV hd hf ha hk kk
theorem s_getR {idx ci j a v : Nat} (hd : decode M.2.1 pc = .ok (.getfield idx, 3)) (hf : fl M.1.cls idx ci j 1) (ha : a < T.1) (hk : T.2.1 a = ci) (hr : T.2.2.2 a j = some v) (kk : PW G x0 l M d Z k n (pc + 3) lv (.ref (x0 + v) :: st) T I J) : PW G x0 l M d Z k n pc lv (.ref (x0 + a) :: st) T I J := s_getV hd hf ha hk (by rw [hr]; exact kk)
theorem s_getN {idx ci j a : Nat} (hd : decode M.2.1 pc = .ok (.getfield idx, 3)) (hf : fl M.1.cls idx ci j 1) (ha : a < T.1) (hk : T.2.1 a = ci) (hr : T.2.2.2 a j = none) (kk : PW G x0 l M d Z k n (pc + 3) lv (.null :: st) T I J) : PW G x0 l M d Z k n pc lv (.ref (x0 + a) :: st) T I J := s_getV hd hf ha hk (by rw [hr]; exact kk)
/-- a field written, in any way that changes nothing else -/
theorem s_put {idx ci j kd a : Nat} {w : Value} {T' : fT} {I' : fI} {J' : fJ} {ty : FieldType} {fin : Bool} (hd : decode M.2.1 pc = .ok (.putfield idx, 3)) (hf : fp M.1.cls idx ci j kd ty fin) (hfin : fin = false ∨ (M.1.name = "<init>" ∧ (vwCl[ci]?.map (fun q => q.1)) = some M.1.cls)) (ha : a < T.1) (hk : T.2.1 a = ci) (hn : narrow ty w = w) (hft : fits ty w = true)
    (g1 : T'.1 = T.1) (g2 : T'.2.1 = T.2.1) (g3 : T'.2.2.1 = T.2.2.1) (ho : ∀ b, b ≠ a → T'.2.2.2 b = T.2.2.2 b ∧ I' b = I b ∧ J' b = J b) (hoj : ∀ q, q ≠ j → T'.2.2.2 a q = T.2.2.2 a q ∧ I' a q = I a q ∧ J' a q = J a q) (hw : fm_v x0 (T'.2.2.2 a j) (I' a j) (J' a j) kd = w)
    (kk : PW G x0 l M d Z k n (pc + 3) lv st T' I' J') : PW G x0 l M d Z k n pc lv (w :: .ref (x0 + a) :: st) T I J := by
  intro p e s m args below meth c R H locs cells slots ls hv h1 h2 hH hS hl
  obtain ⟨C, Tb, N, ty0, hc, hj, h13, hin, hlink, hkd, hty, hnm, hfi, hdecl, hpd⟩ := hf
  obtain ⟨hx, hb, hr, hml, hnme, hown, hts, hlk, hK, hX, hx0, hfr, hlo⟩ := id hv
  have he := fm_at (G := G) (x0 := x0) (I := I) (J := J) ha (fm_E_obj hk h13)
  have hap := va_apart (own := M.1.cls) hts hin ty0 hty hnm hK hc
  obtain ⟨r, gg1, cell, q1, q2, q3, q4⟩ := hH.1 a _ he
  have hr' : r = (C, Tb, N) := Option.some.inj (gg1.symm.trans hc)
  subst hr'
  obtain ⟨hSl, hfc, kC, hkC, hkind⟩ := hK.1 ci _ hc
  obtain ⟨cf, kf, fi, f, hi, hsl⟩ := hSl j hj
  have hlay := hts _ (hin _ (u_in_lay hj))
  have hst := (u_facts hfc hkC (u_lays hts hin hj) hi).1
  have hlen : j < (fm_fs x0 (T.2.2.2 a) (I a) (J a) 0 (fm_ty ci)).length := by rw [fm_fs_len]; exact (List.getElem?_eq_some_iff.mp hkd).1
  have fin2 : ∀ (H' : Heap) (locs' : List Loc), H'[x0 + a]? = some (cell.setSlot f.slot w) → H'.size = H.size → (∀ q, q ≠ x0 + a → H'[q]? = H[q]?) → va_S (fm_A x0) s.heap H' locs' → W p l e R s m args below meth c H' locs' cells slots (Z s args below R) (F0 m (pc + 3) ls st) := by
    intro H' locs' e1 e2 e3 hS2
    rw [hsl] at e1
    have hP2 : va_P G.1 vwCl ((fm_W G x0 T I J).set a (x0 + a, .inr (ci, (fm_fs x0 (T.2.2.2 a) (I a) (J a) 0 (fm_ty ci)).set j w))) H' := hH.1.set fm_D he ⟨_, hc, t_OB.to (V := updV (vp_V (fm_fs x0 (T.2.2.2 a) (I a) (J a) 0 (fm_ty ci))) j w) ⟨_, e1, q2, q3, t_set q4 hap hj w⟩ (fun q _ => vp_updV_set hlen w q)⟩ e3
    rw [fm_fs_set hkd hw hoj, fm_set (T' := T') (I' := I') (J' := J') ha g1 (fm_E_obj (by rw [g2]; exact hk) h13) (fun b hb => fm_E_same (by rw [g2]) (by rw [g3]) (ho b hb).1 (ho b hb).2.1 (ho b hb).2.2)] at hP2
    exact kk p e s m args below meth c R H' locs' cells slots ls hv h1 h2 ⟨hP2, by rw [e2, g1]; exact hH.2⟩ hS2 hl
  rcases hfin with hf0 | ⟨hin2, hcl⟩
  · unfold u_lay at hlay
    rw [if_neg (by rw [hfi, hf0]; decide)] at hlay
    have h6 := u_store hfc hkC hkind hlay hi hpd hn hft
    exact W.putK hx hb (f := f) ⟨hown, hts _ hlink, ⟨_, _, _, hi⟩, hst⟩ (by rw [q2]; exact h6) q1 q3 (by rw [hsl]; exact k2_hasslot (q4 j hj)) rfl rfl hd fun H' e1 e2 e3 => fin2 H' _ e1 e2 e3 (hS.put e2 e3 (Nat.le_add_right _ _))
  · cases fin with
    | false =>
      unfold u_lay at hlay
      rw [if_neg (by rw [hfi]; decide)] at hlay
      have h6 := u_store hfc hkC hkind hlay hi hpd hn hft
      exact W.putK hx hb (f := f) ⟨hown, hts _ hlink, ⟨_, _, _, hi⟩, hst⟩ (by rw [q2]; exact h6) q1 q3 (by rw [hsl]; exact k2_hasslot (q4 j hj)) rfl rfl hd fun H' e1 e2 e3 => fin2 H' _ e1 e2 e3 (hS.put e2 e3 (Nat.le_add_right _ _))
    | true =>
      unfold u_lay at hlay
      rw [if_pos hfi] at hlay
      have hCo : C = M.1.cls := by rw [hc] at hcl; exact Option.some.inj hcl
      have hcf : m.cls = cf := by
        obtain ⟨_, _, c', _, _, _, -, -, hf', -, -, -, hown2, -⟩ := Cond.laysFinal_spec hlay
        have e1 : c' = cf := by have := hi.symm.trans hf'; simp at this; exact this.1.symm
        rw [hdecl, hCo] at hown2
        rw [← e1]; exact Option.some.inj (hown.symm.trans hown2)
      have h6 := u_fits hfc hkC hkind (Or.inr hlay) hi hpd hn hft
      exact W.putFinK hx hb hown (hts _ hlink) hi hst hcf (hnme.trans hin2) (by rw [q2]; exact h6) q1 q3 (by rw [hsl]; exact k2_hasslot (q4 j hj)) rfl rfl hd fun H' e1 e2 e3 => fin2 H' _ e1 e2 e3 (hS.put e2 e3 (Nat.le_add_right _ _))
theorem s_putI {idx ci j a : Nat} {x : Int32} (hd : decode M.2.1 pc = .ok (.putfield idx, 3)) (hf : fp M.1.cls idx ci j 0 .int false) (ha : a < T.1) (hk : T.2.1 a = ci) (kk : PW G x0 l M d Z k n (pc + 3) lv st T (iu I a j x) J) : PW G x0 l M d Z k n pc lv (.int x :: .ref (x0 + a) :: st) T I J :=
  s_put (T' := T) (I' := iu I a j x) (J' := J) hd hf (Or.inl rfl) ha hk rfl rfl rfl rfl rfl (fun b hb => ⟨rfl, iu_ne hb, rfl⟩) (fun q hq => ⟨rfl, by simp [iu, hq], rfl⟩) (by simp [fm_v, iu]) kk
theorem s_putFI {idx ci j a : Nat} {x : Int32} (hd : decode M.2.1 pc = .ok (.putfield idx, 3)) (hf : fp M.1.cls idx ci j 0 .int true) (hfin : M.1.name = "<init>" ∧ (vwCl[ci]?.map (fun q => q.1)) = some M.1.cls) (ha : a < T.1) (hk : T.2.1 a = ci) (kk : PW G x0 l M d Z k n (pc + 3) lv st T (iu I a j x) J) : PW G x0 l M d Z k n pc lv (.int x :: .ref (x0 + a) :: st) T I J :=
  s_put (T' := T) (I' := iu I a j x) (J' := J) hd hf (Or.inr hfin) ha hk rfl rfl rfl rfl rfl (fun b hb => ⟨rfl, iu_ne hb, rfl⟩) (fun q hq => ⟨rfl, by simp [iu, hq], rfl⟩) (by simp [fm_v, iu]) kk
theorem s_putZ {idx ci j a : Nat} {x : Int32} (hd : decode M.2.1 pc = .ok (.putfield idx, 3)) (hf : fp M.1.cls idx ci j 0 .boolean false) (hx : x = 0 ∨ x = 1) (ha : a < T.1) (hk : T.2.1 a = ci) (kk : PW G x0 l M d Z k n (pc + 3) lv st T (iu I a j x) J) : PW G x0 l M d Z k n pc lv (.int x :: .ref (x0 + a) :: st) T I J :=
  s_put (T' := T) (I' := iu I a j x) (J' := J) hd hf (Or.inl rfl) ha hk (by rcases hx with rfl | rfl <;> decide) (by rcases hx with rfl | rfl <;> decide) rfl rfl rfl (fun b hb => ⟨rfl, iu_ne hb, rfl⟩) (fun q hq => ⟨rfl, by simp [iu, hq], rfl⟩) (by simp [fm_v, iu]) kk
theorem s_putJ {idx ci j a : Nat} {x : Int64} (hd : decode M.2.1 pc = .ok (.putfield idx, 3)) (hf : fp M.1.cls idx ci j 2 .long false) (ha : a < T.1) (hk : T.2.1 a = ci) (kk : PW G x0 l M d Z k n (pc + 3) lv st T I (ju J a j x)) : PW G x0 l M d Z k n pc lv (.long x :: .ref (x0 + a) :: st) T I J :=
  s_put (T' := T) (I' := I) (J' := ju J a j x) hd hf (Or.inl rfl) ha hk rfl rfl rfl rfl rfl (fun b hb => ⟨rfl, rfl, ju_ne hb⟩) (fun q hq => ⟨rfl, rfl, by simp [ju, hq]⟩) (by simp [fm_v, ju]) kk
theorem s_putR {idx ci j a v : Nat} {ty : FieldType} {fin : Bool} (hd : decode M.2.1 pc = .ok (.putfield idx, 3)) (hf : fp M.1.cls idx ci j 1 ty fin) (hfin : fin = false ∨ (M.1.name = "<init>" ∧ (vwCl[ci]?.map (fun q => q.1)) = some M.1.cls)) (hty : narrow ty (.ref (x0 + v)) = .ref (x0 + v)) (hft : fits ty (.ref (x0 + v)) = true) (ha : a < T.1) (hk : T.2.1 a = ci) (kk : PW G x0 l M d Z k n (pc + 3) lv st (T.1, T.2.1, T.2.2.1, vu T.2.2.2 a j (some v)) I J) : PW G x0 l M d Z k n pc lv (.ref (x0 + v) :: .ref (x0 + a) :: st) T I J :=
  s_put (T' := (T.1, T.2.1, T.2.2.1, vu T.2.2.2 a j (some v))) (I' := I) (J' := J) hd hf hfin ha hk hty hft rfl rfl rfl (fun b hb => ⟨vu_ne hb, rfl, rfl⟩) (fun q hq => ⟨by simp [vu, hq], rfl, rfl⟩) (by simp [fm_v, vu, va_rf]) kk
theorem s_iald {a : Nat} {i : Int32} (hd : decode M.2.1 pc = .ok (.iaload, 1)) (ha : a < T.1) (hk : T.2.1 a = 13) (hin : vp_in i (T.2.2.1 a)) (kk : PW G x0 l M d Z k n (pc + 1) lv (.int (I a i.toNatClampNeg) :: st) T I J) : PW G x0 l M d Z k n pc lv (.int i :: .ref (x0 + a) :: st) T I J := fun p e s m args below meth c R H locs cells slots ls hv h1 h2 hH hS hl =>
  va_iald hv.1 hv.2.1 hv.2.2.2.2.2.2.2.2.1 hH.1 a 0 (fm_at ha (fm_E_int hk)) rfl hin hd (kk p e s m args below meth c R H locs cells slots ls hv h1 h2 hH hS hl)
theorem s_lald {a : Nat} {i : Int32} (hd : decode M.2.1 pc = .ok (.laload, 1)) (ha : a < T.1) (hk : T.2.1 a = 14) (hin : vp_in i (T.2.2.1 a)) (kk : PW G x0 l M d Z k n (pc + 1) lv (.long (J a i.toNatClampNeg) :: st) T I J) : PW G x0 l M d Z k n pc lv (.int i :: .ref (x0 + a) :: st) T I J := fun p e s m args below meth c R H locs cells slots ls hv h1 h2 hH hS hl =>
  va_lald hv.1 hv.2.1 hv.2.2.2.2.2.2.2.2.1 hH.1 a 1 (fm_at ha (fm_E_long hk)) rfl hin hd (kk p e s m args below meth c R H locs cells slots ls hv h1 h2 hH hS hl)
theorem s_aldC {a v : Nat} {i : Int32} (hd : decode M.2.1 pc = .ok (.aaload, 1)) (ha : a < T.1) (hk : T.2.1 a = 15) (hin : vp_in i (T.2.2.1 a)) (hr : T.2.2.2 a i.toNatClampNeg = some v) (kk : PW G x0 l M d Z k n (pc + 1) lv (.ref (x0 + v) :: st) T I J) : PW G x0 l M d Z k n pc lv (.int i :: .ref (x0 + a) :: st) T I J := fun p e s m args below meth c R H locs cells slots ls hv h1 h2 hH hS hl =>
  va_aldq hv.1 hv.2.1 hv.2.2.2.2.2.2.2.2.1 hH.1 a 2 (fm_at ha (fm_E_cut hk)) rfl hin hd (by simp only [hr]; exact kk p e s m args below meth c R H locs cells slots ls hv h1 h2 hH hS hl)
theorem s_aldW {a v : Nat} {i : Int32} (hd : decode M.2.1 pc = .ok (.aaload, 1)) (ha : a < T.1) (hk : T.2.1 a = 16) (hin : vp_in i (T.2.2.1 a)) (hr : T.2.2.2 a i.toNatClampNeg = some v) (kk : PW G x0 l M d Z k n (pc + 1) lv (.ref (x0 + v) :: st) T I J) : PW G x0 l M d Z k n pc lv (.int i :: .ref (x0 + a) :: st) T I J := fun p e s m args below meth c R H locs cells slots ls hv h1 h2 hH hS hl =>
  va_aldq hv.1 hv.2.1 hv.2.2.2.2.2.2.2.2.1 hH.1 a 3 (fm_at ha (fm_E_win hk)) rfl hin hd (by simp only [hr]; exact kk p e s m args below meth c R H locs cells slots ls hv h1 h2 hH hS hl)
theorem s_alen {a : Nat} {v : Int32} (hd : decode M.2.1 pc = .ok (.arraylength, 1)) (ha : a < T.1) (hk : 13 ≤ T.2.1 a ∧ T.2.1 a ≤ 16) (hlen : Int32.ofNat (T.2.2.1 a) = v) (kk : PW G x0 l M d Z k n (pc + 1) lv (.int v :: st) T I J) : PW G x0 l M d Z k n pc lv (.ref (x0 + a) :: st) T I J := by
  intro p e s m args below meth c R H locs cells slots ls hv h1 h2 hH hS hl
  have hK := hv.2.2.2.2.2.2.2.2.1
  rcases (show T.2.1 a = 13 ∨ T.2.1 a = 14 ∨ T.2.1 a = 15 ∨ T.2.1 a = 16 by omega) with hk | hk | hk | hk
  · exact va_alen hv.1 hv.2.1 hK hH.1 a 0 (fm_at ha (fm_E_int hk)) rfl hlen hd (kk p e s m args below meth c R H locs cells slots ls hv h1 h2 hH hS hl)
  · exact va_alen hv.1 hv.2.1 hK hH.1 a 1 (fm_at ha (fm_E_long hk)) rfl hlen hd (kk p e s m args below meth c R H locs cells slots ls hv h1 h2 hH hS hl)
  · exact va_alen hv.1 hv.2.1 hK hH.1 a 2 (fm_at ha (fm_E_cut hk)) rfl hlen hd (kk p e s m args below meth c R H locs cells slots ls hv h1 h2 hH hS hl)
  · exact va_alen hv.1 hv.2.1 hK hH.1 a 3 (fm_at ha (fm_E_win hk)) rfl hlen hd (kk p e s m args below meth c R H locs cells slots ls hv h1 h2 hH hS hl)
theorem s_iast {a : Nat} {i x : Int32} (hd : decode M.2.1 pc = .ok (.iastore, 1)) (ha : a < T.1) (hk : T.2.1 a = 13) (hin : vp_in i (T.2.2.1 a)) (kk : PW G x0 l M d Z k n (pc + 1) lv st T (iu I a i.toNatClampNeg x) J) : PW G x0 l M d Z k n pc lv (.int x :: .int i :: .ref (x0 + a) :: st) T I J := by
  intro p e s m args below meth c R H locs cells slots ls hv h1 h2 hH hS hl
  obtain ⟨hx, hb, hr, hml, hnme, hown, hts, hlk, hK, hX, hx0, hfr, hlo⟩ := id hv
  have he := fm_at (G := G) (x0 := x0) (I := I) (J := J) ha (fm_E_int hk)
  refine W.iast hx hb (hH.1 a _ he) ((hK.2 0 _ rfl).1 (T.2.2.1 a) (fun j => .int (I a j))) (fun q => by cases q) (by show ¬ (i < 0 ∨ (arrV _ _ _).slots.size ≤ _); rw [arrV_size]; exact hin) rfl rfl hd fun H1 e1 z oq => ?_
  have hP2 : va_P G.1 vwCl ((fm_W G x0 T I J).set a (x0 + a, .inl (G.2.1, T.2.2.1 a, .inl (iu I a i.toNatClampNeg x a)))) H1 := by
    refine hH.1.set fm_D he ?_ oq
    show H1[x0 + a]? = some (vp_cell _ _)
    rw [e1]
    rw [vp_cell_i, vp_cell_i, arrV_store]
    congr 2
    funext q
    by_cases hq : q = i.toNatClampNeg
    · subst hq
      simp [updV, iu]
    · simp [updV, iu, hq]
  rw [fm_set (T' := T) (I' := iu I a i.toNatClampNeg x) (J' := J) ha rfl (fm_E_int hk) (fun b hb => fm_E_same rfl rfl rfl (iu_ne hb) rfl)] at hP2
  exact kk p e s m args below meth c R H1 _ cells slots ls hv h1 h2 ⟨hP2, by rw [z]; exact hH.2⟩ (hS.put z oq (Nat.le_add_right _ _)) hl
theorem s_last {a : Nat} {i : Int32} {x : Int64} (hd : decode M.2.1 pc = .ok (.lastore, 1)) (ha : a < T.1) (hk : T.2.1 a = 14) (hin : vp_in i (T.2.2.1 a)) (kk : PW G x0 l M d Z k n (pc + 1) lv st T I (ju J a i.toNatClampNeg x)) : PW G x0 l M d Z k n pc lv (.long x :: .int i :: .ref (x0 + a) :: st) T I J := by
  intro p e s m args below meth c R H locs cells slots ls hv h1 h2 hH hS hl
  obtain ⟨hx, hb, hr, hml, hnme, hown, hts, hlk, hK, hX, hx0, hfr, hlo⟩ := id hv
  have he := fm_at (G := G) (x0 := x0) (I := I) (J := J) ha (fm_E_long hk)
  refine W.last hx hb (hH.1 a _ he) ((hK.2 1 _ rfl).1 (T.2.2.1 a) (fun j => .long (J a j))) (fun q => by cases q) (by show ¬ (i < 0 ∨ (arrV _ _ _).slots.size ≤ _); rw [arrV_size]; exact hin) rfl rfl hd fun H1 e1 z oq => ?_
  have hP2 : va_P G.1 vwCl ((fm_W G x0 T I J).set a (x0 + a, .inl (G.2.2.1, T.2.2.1 a, .inr (.inl (ju J a i.toNatClampNeg x a))))) H1 := by
    refine hH.1.set fm_D he ?_ oq
    show H1[x0 + a]? = some (vp_cell _ _)
    rw [e1]
    rw [vp_cell_l, vp_cell_l, arrV_store]
    congr 2
    funext q
    by_cases hq : q = i.toNatClampNeg
    · subst hq
      simp [updV, ju]
    · simp [updV, ju, hq]
  rw [fm_set (T' := T) (I' := I) (J' := ju J a i.toNatClampNeg x) ha rfl (fm_E_long hk) (fun b hb => fm_E_same rfl rfl rfl rfl (ju_ne hb))] at hP2
  exact kk p e s m args below meth c R H1 _ cells slots ls hv h1 h2 ⟨hP2, by rw [z]; exact hH.2⟩ (hS.put z oq (Nat.le_add_right _ _)) hl
end FM
end
section
theorem wC_objectInit : Cond.code objectInit ⟨#[0xb1]⟩ 1 none ∈ WL := tw_1 (k := 24) (by decide +kernel) (by decide +kernel)
theorem wC_max : Cond.code Lib.Math.max.name Lib.Math.max.code 2 (some .int) ∈ WL := tw_1 (k := 47) (by decide +kernel) (by decide +kernel)
theorem wC_min : Cond.code Lib.Math.min.name Lib.Math.min.code 2 (some .int) ∈ WL := tw_2 (k := 86) (by decide +kernel) (by decide +kernel)
section FMC
variable {G : fG} {x0 : Nat} {l : Launch} {M : fM} {d : Nat} {Z : fZ} {k n pc : Nat} {lv : List (Nat × Value)} {st : List Value} {T : fT} {I : fI} {J : fJ}
theorem fm_alloc {T' : fT} {I' : fI} {J' : fJ} {H H1 : Heap} {e : va_E} (hH : fm_H G x0 T I J H) (o1 : ∀ q, q < x0 + T.1 → H1[q]? = H[q]?) (z1 : H1.size = x0 + T.1 + 1) (hat : va_at G.1 vwCl (x0 + T.1, e) H1) (hN : T'.1 = T.1 + 1) (he : fm_E G x0 T' I' J' T.1 = e) (ho : ∀ b, b < T.1 → fm_E G x0 T' I' J' b = fm_E G x0 T I J b) : fm_H G x0 T' I' J' H1 := by
  have hk : ∀ (q : Nat) (x : Nat × va_E), (fm_W G x0 T I J)[q]? = some x → H1[x.1]? = H[x.1]? := fun q x hx => o1 x.1 (by have := (hH.1 q x hx).lt; rw [hH.2] at this; exact this)
  have hP2 : va_P G.1 vwCl (fm_W G x0 T I J ++ [(x0 + T.1, e)]) H1 := by
    refine (hH.1.kept hk).app (fun q x hx => ?_)
    have hz : q < 1 := (List.getElem?_eq_some_iff.mp hx).1
    rw [show q = 0 by omega] at hx
    cases hx
    exact hat
  rw [fm_push hN he ho] at hP2
  exact ⟨hP2, by rw [z1, hN]; omega⟩
theorem fm_S_grow {s : State} {H H1 : Heap} {locs : List Loc} (hS : va_S (fm_A x0) s.heap H locs) (hz : H.size = x0 + T.1) (o1 : ∀ q, q < x0 + T.1 → H1[q]? = H[q]?) (z1 : H1.size = x0 + T.1 + 1) : va_S (fm_A x0) s.heap H1 locs :=
  ⟨Nat.le_trans hS.1 (by omega), fun q g1 g2 => (o1 q (by have := hS.1; omega)).trans (hS.2.1 q g1 g2), hS.2.2⟩
theorem s_newI {nn : Int32} {N' : Nat} (hd : decode M.2.1 pc = .ok (.newarray .int, 2)) (hn : ¬ nn < 0) (hN : nn.toNatClampNeg = N') (hby : N' * 4 ≤ 536870912) (kk : PW G x0 l M d Z k n (pc + 2) lv (.ref (x0 + T.1) :: st) (T.1 + 1, ku T.2.1 T.1 13, ku T.2.2.1 T.1 N', vz T.2.2.2 T.1) (ia I T.1 (fun _ => 0)) (ja J T.1 (fun _ => 0))) : PW G x0 l M d Z (k + 1) (n + N') pc lv (.int nn :: st) T I J := by
  intro p e s m args below meth c R H locs cells slots ls hv h1 h2 hH hS hl
  obtain ⟨hx, hb, hr, hml, hnme, hown, hts, hlk, hK, hX, hx0, hfr, hlo⟩ := id hv
  refine va_newaK (atype := .int) hx hb (hts _ wR_int) rfl hd rfl hn hN hby (by omega) (by omega) hH.2 fun H1 cA e1 z1 o1 hAr hNm => ?_
  have hcA : cA = G.2.1 := Option.some.inj (hNm.symm.trans (hK.2 0 _ rfl).2)
  subst hcA
  have hH2 := fm_alloc (T' := (T.1 + 1, ku T.2.1 T.1 13, ku T.2.2.1 T.1 N', vz T.2.2.2 T.1)) (I' := ia I T.1 (fun _ => 0)) (J' := ja J T.1 (fun _ => 0)) (e := .inl (G.2.1, N', .inl (fun _ => 0))) hH o1 z1 (by show H1[x0 + T.1]? = some (vp_cell _ _); rw [e1, vp_cell_i]; rfl) rfl (by rw [fm_E_int ku_eq]; simp only [ku_eq, ia_eq]) (fun b hb => fm_E_same (ku_ne (by omega)) (ku_ne (by omega)) (vz_ne (by omega)) (ia_ne (by omega)) (ja_ne (by omega)))
  exact kk p e s m args below meth c R H1 locs (cells + 1) (slots + N') ls hv (by omega) (by omega) hH2 (fm_S_grow hS hH.2 o1 z1) hl
theorem s_newJ {nn : Int32} {N' : Nat} (hd : decode M.2.1 pc = .ok (.newarray .long, 2)) (hn : ¬ nn < 0) (hN : nn.toNatClampNeg = N') (hby : N' * 8 ≤ 536870912) (kk : PW G x0 l M d Z k n (pc + 2) lv (.ref (x0 + T.1) :: st) (T.1 + 1, ku T.2.1 T.1 14, ku T.2.2.1 T.1 N', vz T.2.2.2 T.1) (ia I T.1 (fun _ => 0)) (ja J T.1 (fun _ => 0))) : PW G x0 l M d Z (k + 1) (n + N') pc lv (.int nn :: st) T I J := by
  intro p e s m args below meth c R H locs cells slots ls hv h1 h2 hH hS hl
  obtain ⟨hx, hb, hr, hml, hnme, hown, hts, hlk, hK, hX, hx0, hfr, hlo⟩ := id hv
  refine va_newaK (atype := .long) hx hb (hts _ wR_long) rfl hd rfl hn hN hby (by omega) (by omega) hH.2 fun H1 cA e1 z1 o1 hAr hNm => ?_
  have hcA : cA = G.2.2.1 := Option.some.inj (hNm.symm.trans (hK.2 1 _ rfl).2)
  subst hcA
  have hH2 := fm_alloc (T' := (T.1 + 1, ku T.2.1 T.1 14, ku T.2.2.1 T.1 N', vz T.2.2.2 T.1)) (I' := ia I T.1 (fun _ => 0)) (J' := ja J T.1 (fun _ => 0)) (e := .inl (G.2.2.1, N', .inr (.inl (fun _ => 0)))) hH o1 z1 (by show H1[x0 + T.1]? = some (vp_cell _ _); rw [e1, vp_cell_l]; rfl) rfl (by rw [fm_E_long ku_eq]; simp only [ku_eq, ja_eq]) (fun b hb => fm_E_same (ku_ne (by omega)) (ku_ne (by omega)) (vz_ne (by omega)) (ia_ne (by omega)) (ja_ne (by omega)))
  exact kk p e s m args below meth c R H1 locs (cells + 1) (slots + N') ls hv (by omega) (by omega) hH2 (fm_S_grow hS hH.2 o1 z1) hl

theorem s_newAC {idx : Nat} {nn : Int32} {N' : Nat} (hd : decode M.2.1 pc = .ok (.anewarray idx, 3)) (hcl : Cond.classLink M.1.cls idx "PackedLists$CutList" ∈ WL) (hn : ¬ nn < 0) (hN : nn.toNatClampNeg = N') (hby : N' * 4 ≤ 536870912) (kk : PW G x0 l M d Z k n (pc + 3) lv (.ref (x0 + T.1) :: st) (T.1 + 1, ku T.2.1 T.1 15, ku T.2.2.1 T.1 N', vz T.2.2.2 T.1) (ia I T.1 (fun _ => 0)) (ja J T.1 (fun _ => 0))) : PW G x0 l M d Z (k + 1) (n + N') pc lv (.int nn :: st) T I J := by
  intro p e s m args below meth c R H locs cells slots ls hv h1 h2 hH hS hl
  obtain ⟨hx, hb, hr, hml, hnme, hown, hts, hlk, hK, hX, hx0, hfr, hlo⟩ := id hv
  subst hN
  refine W.anew hx hb hown (hts _ hcl) (va_AO.use hX.2.2.1) rfl hd rfl hn hby (by omega) (by omega) fun cA kA comp f1 f2 f3 f4 => ?_
  generalize hH1 : H.push ({ cls := cA, slots := Array.replicate nn.toNatClampNeg .null, vm := .none } : Cell) = H1
  have z1 : H1.size = x0 + T.1 + 1 := by rw [← hH1, Array.size_push, hH.2]
  have e1 : H1[x0 + T.1]? = some (arrV cA nn.toNatClampNeg (fun _ => .null)) := by rw [← hH1, ← hH.2, Array.getElem?_push_size, ← arrV_new]
  have o1 : ∀ q : Nat, q < x0 + T.1 → H1[q]? = H[q]? := fun q hq => by rw [← hH1, Array.getElem?_push, if_neg (Nat.ne_of_lt (by rw [hH.2]; exact hq))]
  have hcA : cA = G.2.2.2.1 := by
    obtain ⟨_, _, _, _, _, g⟩ := (hK.2 2 _ rfl).2
    exact Option.some.inj (f1.symm.trans g)
  subst hcA
  have hH2 := fm_alloc (T' := (T.1 + 1, ku T.2.1 T.1 15, ku T.2.2.1 T.1 nn.toNatClampNeg, vz T.2.2.2 T.1)) (I' := ia I T.1 (fun _ => 0)) (J' := ja J T.1 (fun _ => 0)) (e := .inl (G.2.2.2.1, nn.toNatClampNeg, .inr (.inr (.inr (.inr (fun _ => none)))))) hH o1 z1 (by show H1[x0 + T.1]? = some (vp_cell _ _); rw [e1]; rfl) rfl (by rw [fm_E_cut ku_eq]; simp only [ku_eq, vz_eq]; rfl) (fun b hb => fm_E_same (ku_ne (by omega)) (ku_ne (by omega)) (vz_ne (by omega)) (ia_ne (by omega)) (ja_ne (by omega)))
  rw [hH.2]
  exact kk p e s m args below meth c R H1 locs (cells + 1) (slots + nn.toNatClampNeg) ls hv (by omega) (by omega) hH2 (fm_S_grow hS hH.2 o1 z1) hl
theorem s_astC {a v : Nat} {i : Int32} (hd : decode M.2.1 pc = .ok (.aastore, 1)) (ha : a < T.1) (hk : T.2.1 a = 15) (hva : v < T.1) (hkv : T.2.1 v = 2) (hin : vp_in i (T.2.2.1 a)) (kk : PW G x0 l M d Z k n (pc + 1) lv st (T.1, T.2.1, T.2.2.1, vu T.2.2.2 a i.toNatClampNeg (some v)) I J) : PW G x0 l M d Z k n pc lv (.ref (x0 + v) :: .int i :: .ref (x0 + a) :: st) T I J := by
  intro p e s m args below meth c R H locs cells slots ls hv h1 h2 hH hS hl
  obtain ⟨hx, hb, hr, hml, hnme, hown, hts, hlk, hK, hX, hx0, hfr, hlo⟩ := id hv
  have he := fm_at (G := G) (x0 := x0) (I := I) (J := J) ha (fm_E_cut hk)
  have hlt : i.toNatClampNeg < T.2.2.1 a := Nat.not_le.mp fun q => hin (Or.inr q)
  have h0 : ¬ i < 0 := fun q => hin (Or.inl q)
  obtain ⟨r', hr', cellV, g1, g2, g3, -⟩ := hH.1 v _ (fm_at hva (fm_E_obj hkv (by omega)))
  have hcls := (hK.1 2 _ rfl).2
  obtain ⟨kA, comp, k1, k2, k3, -⟩ := (hK.2 2 _ rfl).2
  have hcomp : comp = G.1.1 2 := Option.some.inj (k3.symm.trans hcls.1)
  subst hcomp
  obtain ⟨kC, hkC, -⟩ := hcls.2
  refine W.aast hx hb (hH.1 a _ he) (fun q h => by cases h) (fun h => by cases h) k1 k2 rfl hkC ⟨h0, by show _ < (arrV _ _ _).slots.size; rw [arrV_size]; exact hlt⟩ g1 (fun q h => by rw [g3] at h; cases h) (by rw [g2]; exact hkC) (by rw [g2]; exact va_assign hcls) rfl rfl hd fun H1 e1 z oq => ?_
  have hP2 : va_P G.1 vwCl ((fm_W G x0 T I J).set a (x0 + a, .inl (G.2.2.2.1, T.2.2.1 a, .inr (.inr (.inr (.inr (fun j => (vu T.2.2.2 a i.toNatClampNeg (some v) a j).map (fun z => x0 + z)))))))) H1 := by
    refine hH.1.set fm_D he ?_ oq
    show H1[x0 + a]? = some (vp_cell _ _)
    rw [e1]
    rw [vp_cell_q, vp_cell_q, arrV_store]
    congr 2
    funext q
    by_cases hq : q = i.toNatClampNeg
    · subst hq
      simp [updV, vu, va_rf]
    · simp [updV, vu, hq]
  rw [fm_set (T' := (T.1, T.2.1, T.2.2.1, vu T.2.2.2 a i.toNatClampNeg (some v))) (I' := I) (J' := J) ha rfl (fm_E_cut hk) (fun b hb => fm_E_same rfl rfl (vu_ne hb) rfl rfl)] at hP2
  exact kk p e s m args below meth c R H1 _ cells slots ls hv h1 h2 ⟨hP2, by rw [z]; exact hH.2⟩ (hS.put z oq (Nat.le_add_right _ _)) hl

theorem s_newAW {idx : Nat} {nn : Int32} {N' : Nat} (hd : decode M.2.1 pc = .ok (.anewarray idx, 3)) (hcl : Cond.classLink M.1.cls idx "PackedLists$Window" ∈ WL) (hn : ¬ nn < 0) (hN : nn.toNatClampNeg = N') (hby : N' * 4 ≤ 536870912) (kk : PW G x0 l M d Z k n (pc + 3) lv (.ref (x0 + T.1) :: st) (T.1 + 1, ku T.2.1 T.1 16, ku T.2.2.1 T.1 N', vz T.2.2.2 T.1) (ia I T.1 (fun _ => 0)) (ja J T.1 (fun _ => 0))) : PW G x0 l M d Z (k + 1) (n + N') pc lv (.int nn :: st) T I J := by
  intro p e s m args below meth c R H locs cells slots ls hv h1 h2 hH hS hl
  obtain ⟨hx, hb, hr, hml, hnme, hown, hts, hlk, hK, hX, hx0, hfr, hlo⟩ := id hv
  subst hN
  refine W.anew hx hb hown (hts _ hcl) (va_AO.use hX.2.2.2) rfl hd rfl hn hby (by omega) (by omega) fun cA kA comp f1 f2 f3 f4 => ?_
  generalize hH1 : H.push ({ cls := cA, slots := Array.replicate nn.toNatClampNeg .null, vm := .none } : Cell) = H1
  have z1 : H1.size = x0 + T.1 + 1 := by rw [← hH1, Array.size_push, hH.2]
  have e1 : H1[x0 + T.1]? = some (arrV cA nn.toNatClampNeg (fun _ => .null)) := by rw [← hH1, ← hH.2, Array.getElem?_push_size, ← arrV_new]
  have o1 : ∀ q : Nat, q < x0 + T.1 → H1[q]? = H[q]? := fun q hq => by rw [← hH1, Array.getElem?_push, if_neg (Nat.ne_of_lt (by rw [hH.2]; exact hq))]
  have hcA : cA = G.2.2.2.2.1 := by
    obtain ⟨_, _, _, _, _, g⟩ := (hK.2 3 _ rfl).2
    exact Option.some.inj (f1.symm.trans g)
  subst hcA
  have hH2 := fm_alloc (T' := (T.1 + 1, ku T.2.1 T.1 16, ku T.2.2.1 T.1 nn.toNatClampNeg, vz T.2.2.2 T.1)) (I' := ia I T.1 (fun _ => 0)) (J' := ja J T.1 (fun _ => 0)) (e := .inl (G.2.2.2.2.1, nn.toNatClampNeg, .inr (.inr (.inr (.inr (fun _ => none)))))) hH o1 z1 (by show H1[x0 + T.1]? = some (vp_cell _ _); rw [e1]; rfl) rfl (by rw [fm_E_win ku_eq]; simp only [ku_eq, vz_eq]; rfl) (fun b hb => fm_E_same (ku_ne (by omega)) (ku_ne (by omega)) (vz_ne (by omega)) (ia_ne (by omega)) (ja_ne (by omega)))
  rw [hH.2]
  exact kk p e s m args below meth c R H1 locs (cells + 1) (slots + nn.toNatClampNeg) ls hv (by omega) (by omega) hH2 (fm_S_grow hS hH.2 o1 z1) hl
theorem s_astW {a v : Nat} {i : Int32} (hd : decode M.2.1 pc = .ok (.aastore, 1)) (ha : a < T.1) (hk : T.2.1 a = 16) (hva : v < T.1) (hkv : T.2.1 v = 10) (hin : vp_in i (T.2.2.1 a)) (kk : PW G x0 l M d Z k n (pc + 1) lv st (T.1, T.2.1, T.2.2.1, vu T.2.2.2 a i.toNatClampNeg (some v)) I J) : PW G x0 l M d Z k n pc lv (.ref (x0 + v) :: .int i :: .ref (x0 + a) :: st) T I J := by
  intro p e s m args below meth c R H locs cells slots ls hv h1 h2 hH hS hl
  obtain ⟨hx, hb, hr, hml, hnme, hown, hts, hlk, hK, hX, hx0, hfr, hlo⟩ := id hv
  have he := fm_at (G := G) (x0 := x0) (I := I) (J := J) ha (fm_E_win hk)
  have hlt : i.toNatClampNeg < T.2.2.1 a := Nat.not_le.mp fun q => hin (Or.inr q)
  have h0 : ¬ i < 0 := fun q => hin (Or.inl q)
  obtain ⟨r', hr', cellV, g1, g2, g3, -⟩ := hH.1 v _ (fm_at hva (fm_E_obj hkv (by omega)))
  have hcls := (hK.1 10 _ rfl).2
  obtain ⟨kA, comp, k1, k2, k3, -⟩ := (hK.2 3 _ rfl).2
  have hcomp : comp = G.1.1 10 := Option.some.inj (k3.symm.trans hcls.1)
  subst hcomp
  obtain ⟨kC, hkC, -⟩ := hcls.2
  refine W.aast hx hb (hH.1 a _ he) (fun q h => by cases h) (fun h => by cases h) k1 k2 rfl hkC ⟨h0, by show _ < (arrV _ _ _).slots.size; rw [arrV_size]; exact hlt⟩ g1 (fun q h => by rw [g3] at h; cases h) (by rw [g2]; exact hkC) (by rw [g2]; exact va_assign hcls) rfl rfl hd fun H1 e1 z oq => ?_
  have hP2 : va_P G.1 vwCl ((fm_W G x0 T I J).set a (x0 + a, .inl (G.2.2.2.2.1, T.2.2.1 a, .inr (.inr (.inr (.inr (fun j => (vu T.2.2.2 a i.toNatClampNeg (some v) a j).map (fun z => x0 + z)))))))) H1 := by
    refine hH.1.set fm_D he ?_ oq
    show H1[x0 + a]? = some (vp_cell _ _)
    rw [e1]
    rw [vp_cell_q, vp_cell_q, arrV_store]
    congr 2
    funext q
    by_cases hq : q = i.toNatClampNeg
    · subst hq
      simp [updV, vu, va_rf]
    · simp [updV, vu, hq]
  rw [fm_set (T' := (T.1, T.2.1, T.2.2.1, vu T.2.2.2 a i.toNatClampNeg (some v))) (I' := I) (J' := J) ha rfl (fm_E_win hk) (fun b hb => fm_E_same rfl rfl (vu_ne hb) rfl rfl)] at hP2
  exact kk p e s m args below meth c R H1 _ cells slots ls hv h1 h2 ⟨hP2, by rw [z]; exact hH.2⟩ (hS.put z oq (Nat.le_add_right _ _)) hl

/-- a class whose objects can be made -/
def cf (ci N : Nat) (C : String) : Prop := ∃ (Tb : u_T) (ty : Nat → FieldType), vwCl[ci]? = some (C, Tb, N) ∧ ci < 13 ∧ (∀ w ∈ u_ws C Tb N, w ∈ WL) ∧ (∀ k, k < N → parseFieldDescriptor (Tb k).2.2.1 = some (ty k)) ∧ Cond.instantiable C N ∈ WL ∧ Cond.initialized C ∈ WL ∧ ∀ j, j < N → defaultValue (ty j) = vp_V (fm_fs 0 (fun _ => none) (fun _ => 0) (fun _ => 0) 0 (fm_ty ci)) j
theorem fm_fs_x0 (x0 : Nat) (ts : List Nat) : ∀ q : Nat, fm_fs x0 (fun _ => none) (fun _ => 0) (fun _ => 0) q ts = fm_fs 0 (fun _ => none) (fun _ => 0) (fun _ => 0) q ts := by
  induction ts with
  | nil => intro q; rfl
  | cons t r ih => intro q; simp only [fm_fs, ih]; congr 1
theorem s_new {idx ci N : Nat} {C : String} (hd : decode M.2.1 pc = .ok (.new idx, 3)) (hcl : Cond.classLink M.1.cls idx C ∈ WL) (hcf : cf ci N C) (kk : PW G x0 l M d Z k n (pc + 3) lv (.ref (x0 + T.1) :: st) (T.1 + 1, ku T.2.1 T.1 ci, ku T.2.2.1 T.1 0, vz T.2.2.2 T.1) (ia I T.1 (fun _ => 0)) (ja J T.1 (fun _ => 0))) : PW G x0 l M d Z (k + 1) (n + N) pc lv st T I J := by
  intro p e s m args below meth c R H locs cells slots ls hv h1 h2 hH hS hl
  obtain ⟨hx, hb, hr, hml, hnme, hown, hts, hlk, hK, hX, hx0, hfr, hlo⟩ := id hv
  obtain ⟨Tb, ty, hc, h13, hin, hty, hia, hii, hfs⟩ := hcf
  have hKn := hK.1 ci _ hc
  refine W.newcK hx hb hown (hts _ hcl) (hts _ hia) (hts _ hii) rfl hd (by omega) (by omega) hKn.2.1 hH.2 fun H1 kC hkC e1 z1 o1 => ?_
  have hH2 := fm_alloc (T' := (T.1 + 1, ku T.2.1 T.1 ci, ku T.2.2.1 T.1 0, vz T.2.2.2 T.1)) (I' := ia I T.1 (fun _ => 0)) (J' := ja J T.1 (fun _ => 0)) (e := .inr (ci, fm_fs x0 (fun _ => none) (fun _ => 0) (fun _ => 0) 0 (fm_ty ci))) hH o1 z1 ⟨_, hc, (u_born ty hts hin hKn hkC e1 hty).to (by rw [fm_fs_x0]; exact hfs)⟩ rfl (by rw [fm_E_obj ku_eq h13]; simp only [vz_eq, ia_eq, ja_eq]) (fun b hb => fm_E_same (ku_ne (by omega)) (ku_ne (by omega)) (vz_ne (by omega)) (ia_ne (by omega)) (ja_ne (by omega)))
  exact kk p e s m args below meth c R H1 locs (cells + 1) (slots + N) ls hv (by omega) (by omega) hH2 (fm_S_grow hS hH.2 o1 z1) hl
/-- System.arraycopy of ints -/
theorem s_copy {idx a0 a : Nat} {sp dp nn : Int32} (hd : decode M.2.1 pc = .ok (.invokestatic idx, 3)) (hw : Cond.methodLink M.1.cls idx arraycopyName ∈ WL) (ha0 : a0 < T.1) (hk0 : T.2.1 a0 = 13) (ha : a < T.1) (hk : T.2.1 a = 13) (g1 : ¬ sp < 0) (g2 : ¬ dp < 0) (g3 : ¬ nn < 0) (g4 : sp.toNatClampNeg + nn.toNatClampNeg ≤ T.2.2.1 a0) (g5 : dp.toNatClampNeg + nn.toNatClampNeg ≤ T.2.2.1 a) (hst : (st.map fun v => v.category).sum ≤ 8)
    (kk : PW G x0 l M (d + 1) Z k n (pc + 3) lv st T (ia I a (va_cpy (I a0) (I a) sp.toNatClampNeg dp.toNatClampNeg nn.toNatClampNeg)) J) : PW G x0 l M (d + 1) Z k n pc lv (.int nn :: .int dp :: .ref (x0 + a) :: .int sp :: .ref (x0 + a0) :: st) T I J := by
  intro p e s m args below meth c R H locs cells slots ls hv h1 h2 hH hS hl
  obtain ⟨hx, hb, hr, hml, hnme, hown, hts, hlk, hK, hX, hx0, hfr, hlo⟩ := id hv
  have he0 := fm_at (G := G) (x0 := x0) (I := I) (J := J) ha0 (fm_E_int hk0)
  have he := fm_at (G := G) (x0 := x0) (I := I) (J := J) ha (fm_E_int hk)
  have nz : ∀ z : Int32, ¬ z < 0 → z.toInt = (z.toNatClampNeg : Int) := by
    intro z hz
    have hz0 : (0 : Int) ≤ z.toInt := by
      have := Int32.not_lt.mp hz
      simpa using Int32.le_iff_toInt_le.mp this
    show z.toInt = ((z.toInt.toNat : Nat) : Int)
    omega
  intro T0 hT X
  have hc0 : H[x0 + a0]? = some (vp_cell G.2.1 (T.2.2.1 a0, .inl (I a0))) := hH.1 a0 _ he0
  have hc1 : H[x0 + a]? = some (vp_cell G.2.1 (T.2.2.1 a, .inl (I a))) := hH.1 a _ he
  obtain ⟨-, k0, hkk0, cm0, hkd0⟩ := (hK.2 0 _ rfl).1 (T.2.2.1 a0) (fun j => .int (I a0 j))
  obtain ⟨-, k1, hkk1, cm1, hkd1⟩ := (hK.2 0 _ rfl).1 (T.2.2.1 a) (fun j => .int (I a j))
  obtain ⟨vm', X', step⟩ := X.arraycopy hx hown (hts _ hw) (hts _ wV_arraycopyName) (hts _ wT_arraycopyName) (hts _ wN_J10) (src := x0 + a0) (dst := x0 + a) (cs := vp_cell G.2.1 (T.2.2.1 a0, .inl (I a0))) (cd := vp_cell G.2.1 (T.2.2.1 a, .inl (I a))) (srcPos := sp) (destPos := dp) (n := nn) (by rw [hT]; exact hc0) (by rw [hT]; exact hc1)
    (fun _ h => by cases h) (fun _ h => by cases h) (fun h => by cases h) (fun h => by cases h) hkk0 hkk1 hkd0 hkd1 (by rfl) g1 g2 g3
    (by rw [nz sp g1, nz nn g3]; show ¬ _ > ((arrV G.2.1 (T.2.2.1 a0) (fun j => .int (I a0 j))).slots.size : Int); rw [arrV_size]; omega)
    (by rw [nz dp g2, nz nn g3]; show ¬ _ > ((arrV G.2.1 (T.2.2.1 a) (fun j => .int (I a j))).slots.size : Int); rw [arrV_size]; omega)
    (fun vm₁ _ i hi => by
      have e0 : (vp_cell G.2.1 (T.2.2.1 a0, .inl (I a0))).slots.getD (sp.toNatClampNeg + i) .null = .int (I a0 (sp.toNatClampNeg + i)) := by
        show (arrV G.2.1 (T.2.2.1 a0) (fun j => .int (I a0 j))).slots.getD _ _ = _
        rw [Array.getD_eq_getD_getElem?, arrV_read _ _ (by omega)]
        rfl
      refine ⟨?_, ?_⟩
      · rw [e0]; rfl
      · rw [e0]; exact trivial)
    (g := F0 m pc ls (.int nn :: .int dp :: .ref (x0 + a) :: .int sp :: .ref (x0 + a0) :: st)) rfl (by rw [hml]; exact hl.1) (rest := st) rfl (by rw [hb]; exact hd) (by omega) (by show 2 * 0 + _ + (nativeFrameWords "java/lang/System" "arraycopy" 5 + 11) ≤ _; have hnw : nativeFrameWords "java/lang/System" "arraycopy" 5 = 7 := (by decide +kernel); rw [hnw]; omega)
  have e1 : copied (vp_cell G.2.1 (T.2.2.1 a0, .inl (I a0))) (vp_cell G.2.1 (T.2.2.1 a, .inl (I a))) sp dp nn = vp_cell G.2.1 (T.2.2.1 a, .inl (va_cpy (I a0) (I a) sp.toNatClampNeg dp.toNatClampNeg nn.toNatClampNeg)) := va_copied (fun z => .int z) G.2.1 G.2.1 (I a0) (I a) g4
  rw [e1] at X' step
  have hlt : x0 + a < H.size := (Array.getElem?_eq_some_iff.mp hc1).1
  generalize hce : vp_cell G.2.1 (T.2.2.1 a, .inl (va_cpy (I a0) (I a) sp.toNatClampNeg dp.toNatClampNeg nn.toNatClampNeg)) = cell at X' step
  have hheap : ((T0.setVm vm').setCell (x0 + a) cell).heap = H.setIfInBounds (x0 + a) cell := by rw [← hT]; rfl
  have oq : ∀ q : Nat, q ≠ x0 + a → (H.setIfInBounds (x0 + a) cell)[q]? = H[q]? := fun q hq => by simp [Array.getElem?_setIfInBounds, Ne.symm hq]
  have hP2 : va_P G.1 vwCl ((fm_W G x0 T I J).set a (x0 + a, .inl (G.2.1, T.2.2.1 a, .inl (va_cpy (I a0) (I a) sp.toNatClampNeg dp.toNatClampNeg nn.toNatClampNeg)))) (H.setIfInBounds (x0 + a) cell) := hH.1.set fm_D he (show (H.setIfInBounds (x0 + a) cell)[x0 + a]? = some _ by rw [hce]; simp [Array.getElem?_setIfInBounds, hlt]) oq
  rw [fm_set (T' := T) (I' := ia I a (va_cpy (I a0) (I a) sp.toNatClampNeg dp.toNatClampNeg nn.toNatClampNeg)) (J' := J) ha rfl (by rw [fm_E_int hk, ia_eq]) (fun b hb => fm_E_same rfl rfl rfl (ia_ne hb) rfl)] at hP2
  obtain ⟨t, a1, b1⟩ := kk p e s m args below meth c R _ _ cells slots ls hv h1 h2 ⟨hP2, by simp; exact hH.2⟩ ⟨by simp; exact hS.1, fun q y1 y2 => by
      rw [oq q (fun e => y2 (by rw [e]; exact Nat.le_add_right _ _))]
      exact hS.2.1 q y1 y2, fun q hq => by
      rcases List.mem_append.mp hq with h | h
      · exact hS.2.2 q h
      · obtain ⟨z, -, hz⟩ := List.mem_map.mp h
        rw [← hz]
        exact Nat.le_add_right _ _⟩ hl _ hheap X'
  exact ⟨t, step t a1, b1⟩
theorem s_max {idx : Nat} {x y : Int32} (hd : decode M.2.1 pc = .ok (.invokestatic idx, 3)) (hw : Cond.methodLink M.1.cls idx yJ9_max_7cf53 ∈ WL) (hst : (st.map fun v => v.category).sum ≤ 8) (kk : PW G x0 l M (d + 1) Z k n (pc + 3) lv (.int (if x < y then y else x) :: st) T I J) : PW G x0 l M (d + 1) Z k n pc lv (.int y :: .int x :: st) T I J := by
  intro p e s m args below meth c R H locs cells slots ls hv h1 h2 hH hS hl
  obtain ⟨hx, hb, hr, hml, hnme, hown, hts, hlk, hK, hX, hx0, hfr, hlo⟩ := id hv
  exact va_mmax hx hb (by rw [hml]; exact hl.1.symm) hown (hts _ hw) (hts _ wT_yJ9_max_7cf53) (hts _ wN_J9) (hts _ wC_max) (by omega) (by omega) (by omega) (by omega) hd (kk p e s m args below meth c R H locs cells slots ls hv h1 h2 hH hS hl)
theorem s_min {idx : Nat} {x y : Int32} (hd : decode M.2.1 pc = .ok (.invokestatic idx, 3)) (hw : Cond.methodLink M.1.cls idx yJ9_min_7cf53 ∈ WL) (hst : (st.map fun v => v.category).sum ≤ 8) (kk : PW G x0 l M (d + 1) Z k n (pc + 3) lv (.int (if x > y then y else x) :: st) T I J) : PW G x0 l M (d + 1) Z k n pc lv (.int y :: .int x :: st) T I J := by
  intro p e s m args below meth c R H locs cells slots ls hv h1 h2 hH hS hl
  obtain ⟨hx, hb, hr, hml, hnme, hown, hts, hlk, hK, hX, hx0, hfr, hlo⟩ := id hv
  exact va_mmin hx hb (by rw [hml]; exact hl.1.symm) hown (hts _ hw) (hts _ wT_yJ9_min_7cf53) (hts _ wN_J9) (hts _ wC_min) (by omega) (by omega) (by omega) (by omega) hd (kk p e s m args below meth c R H locs cells slots ls hv h1 h2 hH hS hl)
theorem s_objInit {idx a : Nat} (hd : decode M.2.1 pc = .ok (.invokespecial idx, 3)) (hw : Cond.methodLink M.1.cls idx objectInit ∈ WL) (hst : (st.map fun v => v.category).sum ≤ 8) (kk : PW G x0 l M (d + 1) Z k n (pc + 3) lv st T I J) : PW G x0 l M (d + 1) Z k n pc lv (.ref a :: st) T I J := by
  intro p e s m args below meth c R H locs cells slots ls hv h1 h2 hH hS hl
  obtain ⟨hx, hb, hr, hml, hnme, hown, hts, hlk, hK, hX, hx0, hfr, hlo⟩ := id hv
  exact W.objInit hx hb hown (hts _ hw) (hts _ wI_objectInit) (hts _ wC_objectInit) rfl (by rw [hml]; exact hl.1) rfl hd (by omega) (by show 2 * 0 + _ + 12 ≤ _; omega) (kk p e s m args below meth c R H locs cells slots ls hv h1 h2 hH hS hl)
/-- the static table of Joiner, and a word of it -/
theorem s_gets {idx : Nat} (hd : decode M.2.1 pc = .ok (.getstatic idx, 3)) (hw : Cond.fieldLink M.1.cls idx "PackedLists$Joiner" "TABLES" "[J" ∈ WL) (kk : PW G x0 l M d Z k n (pc + 3) lv (.ref G.2.2.2.2.2 :: st) T I J) : PW G x0 l M d Z k n pc lv st T I J := by
  intro p e s m args below meth c R H locs cells slots ls hv h1 h2 hH hS hl
  obtain ⟨hx, hb, hr, hml, hnme, hown, hts, hlk, hK, hX, hx0, hfr, hlo⟩ := id hv
  exact va_gets hx hb hX.2.1.1 hS hown (hts _ hw) (fun _ h => h) hd (kk p e s m args below meth c R H locs cells slots ls hv h1 h2 hH hS hl)
theorem s_tabld {i : Int32} (hd : decode M.2.1 pc = .ok (.laload, 1)) (hin : vp_in i 6) (kk : PW G x0 l M d Z k n (pc + 1) lv (.long (fm_tab i.toNatClampNeg) :: st) T I J) : PW G x0 l M d Z k n pc lv (.int i :: .ref G.2.2.2.2.2 :: st) T I J := fun p e s m args below meth c R H locs cells slots ls hv h1 h2 hH hS hl =>
  va_tl hv.1 hv.2.1 hv.2.2.2.2.2.2.2.2.2.1.2.1.2 hS hin rfl hd (kk p e s m args below meth c R H locs cells slots ls hv h1 h2 hH hS hl)
/-! returns -/
theorem fm_end {Q : Option Value → fT → fI → fJ → Prop} {s : State} {H : Heap} {locs : List Loc} {r : Option Value} (hH : fm_H G x0 T I J H) (hS : va_S (fm_A x0) s.heap H locs) (hq : Q r T I J) {args : Array Value} : ∀ t : State, t.heap = H → s.WarmedH t.vm → fm_Q G x0 Q args s (.returned r) t := fun t ht _ => ⟨⟨r, T, I, J, rfl, hq, by rw [ht]; exact hH⟩, hS.F ht⟩
theorem s_iret {Q : Option Value → fT → fI → fJ → Prop} {v : Int32} (hd : decode M.2.1 pc = .ok (.ireturn, 1)) (hr : M.2.2.2 = some .int) (hq : Q (some (.int v)) T I J) : PW G x0 l M d (ZM G x0 Q) k n pc lv [.int v] T I J := fun p e s m args below meth c R H locs cells slots ls hv h1 h2 hH hS hl =>
  W.widen (by omega) (by omega) (W.iret hv.1 hv.2.1 (hv.2.2.1.trans hr) (fm_end hH hS hq) hS.2.2 hd hv.2.2.2.2.2.2.2.1)
theorem s_zret {Q : Option Value → fT → fI → fJ → Prop} {v : Int32} (hd : decode M.2.1 pc = .ok (.ireturn, 1)) (hr : M.2.2.2 = some .boolean) (hz : v = 0 ∨ v = 1) (hq : Q (some (.int v)) T I J) : PW G x0 l M d (ZM G x0 Q) k n pc lv [.int v] T I J := fun p e s m args below meth c R H locs cells slots ls hv h1 h2 hH hS hl =>
  W.widen (by omega) (by omega) (W.zret hv.1 hv.2.1 (hv.2.2.1.trans hr) (by rcases hz with rfl | rfl <;> decide) (fm_end hH hS hq) hS.2.2 hd hv.2.2.2.2.2.2.2.1)
theorem s_lret {Q : Option Value → fT → fI → fJ → Prop} {v : Int64} (hd : decode M.2.1 pc = .ok (.lreturn, 1)) (hr : M.2.2.2 = some .long) (hq : Q (some (.long v)) T I J) : PW G x0 l M d (ZM G x0 Q) k n pc lv [.long v] T I J := fun p e s m args below meth c R H locs cells slots ls hv h1 h2 hH hS hl =>
  W.widen (by omega) (by omega) (W.lret hv.1 hv.2.1 (hv.2.2.1.trans hr) (fm_end hH hS hq) hS.2.2 hd hv.2.2.2.2.2.2.2.1)
theorem s_ret {Q : Option Value → fT → fI → fJ → Prop} (hd : decode M.2.1 pc = .ok (.return_, 1)) (hr : M.2.2.2 = none) (hq : Q none T I J) : PW G x0 l M d (ZM G x0 Q) k n pc lv [] T I J := fun p e s m args below meth c R H locs cells slots ls hv h1 h2 hH hS hl =>
  W.widen (by omega) (by omega) (W.vret hv.1 hv.2.1 (hv.2.2.1.trans hr) (fm_end hH hS hq) hS.2.2 hd hv.2.2.2.2.2.2.2.1)
theorem s_aret {Q : Option Value → fT → fI → fJ → Prop} {a : Nat} {nm : String} (hd : decode M.2.1 pc = .ok (.areturn, 1)) (hr : M.2.2.2 = some (.object nm)) (hq : Q (some (.ref a)) T I J) : PW G x0 l M d (ZM G x0 Q) k n pc lv [.ref a] T I J := fun p e s m args below meth c R H locs cells slots ls hv h1 h2 hH hS hl =>
  W.widen (by omega) (by omega) (W.aret hv.1 hv.2.1 (hv.2.2.1.trans hr) (Or.inl ⟨_, rfl⟩) (Or.inr ⟨_, rfl⟩) (fm_end hH hS hq) hS.2.2 hd hv.2.2.2.2.2.2.2.1)
/-! calls -/
def rts (r : Option Value) (st : List Value) : List Value := match r with
  | none => st
  | some v => v :: st
def fm_P (G : fG) (x0 : Nat) (args : List Value) (T : fT) (I : fI) (J : fJ) : Array Value → State → Prop := va_Pc args (fun U => fm_H G x0 T I J U.heap ∧ va_K G.1 vwCl (fm_tys G) U ∧ fm_X G.2.2.2.2.2 x0 U U.heap ∧ x0 ≤ U.heap.size)
abbrev fm_room (d k n : Nat) : Room := { frames := d, cells := k, slots := n, locals := 37 * d }
abbrev fm_ws (M : fM) : List Cond := Cond.code M.1 M.2.1 M.2.2.1 M.2.2.2 :: WL
theorem fq_met {args : List Value} {Q : Option Value → fT → fI → fJ → Prop} (hy : plainName M.1.cls = true) (hargs : (lg_sl args).length ≤ M.2.2.1) (h : PW G x0 l M d (ZM G x0 Q) k n 0 (lv_args 0 args) [] T I J) : Met l M.1 (fm_ws M) (fm_room d k n) (fm_P G x0 args T I J) (fm_Q G x0 Q) k n (fm_A x0) := by
  refine Met.ofW (cc := M.2.1) (maxL := M.2.2.1) (ret := M.2.2.2) hy rfl ?_
  intro p e s m args' below meth c s₁ B hml hv
  obtain ⟨rfl, hH, hK, hX, hx0⟩ := hv
  have hts := atoms_spec (ws := fm_ws M) B.pre
  have hown : s.vm.findClass M.1.cls = some m.cls := findClass_of_methodNamed B.named
  have hnm : meth.name = M.1.name := (name_of_methodNamed B.named B.method).1
  rw [lg_entry_eq]
  exact h p e s m _ below meth c _ s.heap [] 0 0 _ ⟨B.exec, B.bytes, B.returns, hml, hnm, hown, fun w hw => hts w (List.mem_cons_of_mem _ hw), B.notSynchronized, hK, hX, hx0, Nat.le_refl _, Nat.le_refl _⟩ (Nat.le_of_eq (Nat.zero_add _)) (Nat.le_of_eq (Nat.zero_add _)) hH va_S.rf (lv_entry args hargs)
theorem fm_blind {args : List Value} : FrameBlind (fm_P G x0 args T I J) := fun a U g mk q => ⟨q.1, q.2.1, va_K.moved (u := U) (U := U.calling g mk a) (Vm.Alike.refl U.vm) q.2.2.1, fm_X_vm (s := U) (U := U.calling g mk a) rfl q.2.2.2.1, q.2.2.2.2⟩
theorem fm_call {p : Program} {e : Env} {s : State} {m : MethodId} {args : Array Value} {below : List Frame} {meth : Method} {c : Code} {R : Room} {H : Heap} {locs : List Loc} {cells slots mc ms : Nat} {ls : Array Slot} {st0 : List Value} {a : Array Value} {Q' : Option Value → fT → fI → fJ → Prop} {Qz : State → Prop} (hr : va_Run p l e R s m args below meth c H locs cells slots mc ms (F0 m pc ls st0) st (fm_Q G x0 Q' a) (fm_A x0)) (hS : va_S (fm_A x0) s.heap H locs)
    (kk : ∀ (v : Option Value) (T1 : fT) (I1 : fI) (J1 : fJ) (H1 : Heap) (locs1 : List Loc), Q' v T1 I1 J1 → fm_H G x0 T1 I1 J1 H1 → va_S (fm_A x0) s.heap H1 locs1 → W p l e R s m args below meth c H1 locs1 (cells + mc) (slots + ms) Qz (F0 m (pc + 3) ls (rts v st))) : W p l e R s m args below meth c H locs cells slots Qz (F0 m pc ls st0) := by
  intro T0 hT X
  obtain ⟨v, st₀, t, T', L, h0, X', hL, e1, e2, ⟨⟨r, T1, I1, J1, hv, hq, hH⟩, hz, hk⟩, stp⟩ := hr T0 hT X
  cases hv
  rw [h0] at hz hk
  obtain ⟨t2, a1, b1⟩ := kk v T1 I1 J1 T'.heap (locs ++ L) hq (by rw [e1]; exact hH) ⟨Nat.le_trans hS.1 (by rw [e1]; exact hz), fun q h1 h2 => by rw [e1, hk q (Nat.lt_of_lt_of_le h1 hS.1) h2]; exact hS.2.1 q h1 h2, fun q hq => by
      rcases List.mem_append.mp hq with h | h
      · exact hS.2.2 q h
      · exact hL q h⟩ T' rfl X'
  refine ⟨t2, stp t2 ?_, b1⟩
  cases v <;> exact a1
/-- what a call site rests on -/
def cb (My : fM) (na : Nat) : Prop := Cond.initialized My.1.cls ∈ WL ∧ Cond.code My.1 My.2.1 My.2.2.1 My.2.2.2 ∈ WL ∧ My.1.cls ≠ "java/lang/invoke/MethodHandle" ∧ My.1.cls ≠ "java/lang/invoke/VarHandle" ∧ (parseMethodDescriptor My.1.desc).map (fun d => d.parameters.length) = some na ∧ plainName My.1.cls = true ∧ My.2.2.1 ≤ 18
def ci (My : fM) (c : Nat) : Prop := Cond.instanceMethod My.1 ∈ WL ∧ Cond.selects My.1.cls My.1 My.1 ∈ WL ∧ c < 13 ∧ ∃ (Tb : u_T) (N : Nat), vwCl[c]? = some (My.1.cls, Tb, N)
theorem fm_good {My : fM} {na : Nat} (h : cb My na) : GoodIn WL (fm_ws My) := by
  intro w hw
  rcases List.mem_cons.mp hw with rfl | hw
  · exact ⟨h.2.1, WL_good h.2.1⟩
  · exact ⟨hw, WL_good hw⟩
theorem s_callV {idx c b na k' n' : Nat} {My : fM} {As : List Value} (hd : decode M.2.1 pc = .ok (.invokevirtual idx, 3)) (hw : Cond.methodLink M.1.cls idx My.1 ∈ WL) (hc : cb My na) (hi : ci My c) (hb : b < T.1) (hk : T.2.1 b = c) (hna : As.length = na) (hst : (st.map fun v => v.category).sum ≤ 8) (hargs : (lg_sl (.ref (x0 + b) :: As)).length ≤ My.2.2.1)
    (h : PW G x0 l My d (ZM G x0 (fun r T I J => PW G x0 l M (d + 1) Z k n (pc + 3) lv (rts r st) T I J)) k' n' 0 (lv_args 0 (.ref (x0 + b) :: As)) [] T I J) : PW G x0 l M (d + 1) Z (k + k') (n + n') pc lv (As.reverse ++ .ref (x0 + b) :: st) T I J := by
  intro p e s m args below meth c0 R H locs cells slots ls hv h1 h2 hH hS hl
  obtain ⟨hx, hb0, hr, hml, hnme, hown, hts, hlk, hK, hX, hx0, hfr, hlo⟩ := id hv
  obtain ⟨hi1, hi2, h13, Tb, N, hcl⟩ := hi
  have hM := fq_met hc.2.2.2.2.2.1 hargs h
  have hcb : CallB R s args M.1.cls idx My.1 My.2.1 My.2.2.1 My.2.2.2 (fm_ws My) (fm_room d k' n') k' n' na := callB_of na hts (fm_good hc) rfl rfl rfl (hts _ hc.1) (hts _ hw) ⟨hc.2.2.1, hc.2.2.2.1, hc.2.2.2.2.1⟩ ⟨by show d + 1 ≤ _; omega, by have := hc.2.2.2.2.2.2; show 8 + (My.2.2.1 + 11) + 37 * d ≤ _; omega⟩
  refine fm_call (va_runV (As := As) (rest := st) ⟨hx, hb0, hml, hown, hts⟩ hM ⟨hcb, hts _ hi1, hts _ hi2⟩ ⟨fm_blind, va_recv hK hH.1 hcl (fm_at hb (fm_E_obj hk h13)), fun U hU hW => ⟨rfl, by rw [hU]; exact hH, va_K.moved hW.alike hK, ?_, ?_⟩⟩ rfl hna hl.1 rfl (lv_room hst) hd ⟨by omega, by omega⟩) hS (fun v T1 I1 J1 H1 locs1 hq hH1 hS1 => hq p e s m args below meth c0 R H1 locs1 _ _ ls hv (by omega) (by omega) hH1 hS1 hl)
  · rw [hU]; exact fm_X_warm hW (fun a g1 g2 => hS.2.1 a g1 g2) hX
  · rw [hU, hH.2]; exact Nat.le_add_right _ _
theorem s_callS {idx na k' n' : Nat} {My : fM} {As : List Value} (hd : decode M.2.1 pc = .ok (.invokestatic idx, 3)) (hw : Cond.methodLink M.1.cls idx My.1 ∈ WL) (hc : cb My na) (hs : Cond.static My.1 ∈ WL) (hna : As.length = na) (hst : (st.map fun v => v.category).sum ≤ 8) (hargs : (lg_sl As).length ≤ My.2.2.1)
    (h : PW G x0 l My d (ZM G x0 (fun r T I J => PW G x0 l M (d + 1) Z k n (pc + 3) lv (rts r st) T I J)) k' n' 0 (lv_args 0 As) [] T I J) : PW G x0 l M (d + 1) Z (k + k') (n + n') pc lv (As.reverse ++ st) T I J := by
  intro p e s m args below meth c0 R H locs cells slots ls hv h1 h2 hH hS hl
  obtain ⟨hx, hb0, hr, hml, hnme, hown, hts, hlk, hK, hX, hx0, hfr, hlo⟩ := id hv
  have hM := fq_met hc.2.2.2.2.2.1 hargs h
  have hcb : CallB R s args M.1.cls idx My.1 My.2.1 My.2.2.1 My.2.2.2 (fm_ws My) (fm_room d k' n') k' n' na := callB_of na hts (fm_good hc) rfl rfl rfl (hts _ hc.1) (hts _ hw) ⟨hc.2.2.1, hc.2.2.2.1, hc.2.2.2.2.1⟩ ⟨by show d + 1 ≤ _; omega, by have := hc.2.2.2.2.2.2; show 8 + (My.2.2.1 + 11) + 37 * d ≤ _; omega⟩
  refine fm_call (va_runS (As := As) (rest := st) ⟨hx, hb0, hml, hown, hts⟩ hM ⟨hcb, hts _ hs⟩ ⟨fm_blind, fun U hU hW => ⟨rfl, by rw [hU]; exact hH, va_K.moved hW.alike hK, ?_, ?_⟩⟩ rfl hna hl.1 rfl (lv_room hst) hd ⟨by omega, by omega⟩) hS (fun v T1 I1 J1 H1 locs1 hq hH1 hS1 => hq p e s m args below meth c0 R H1 locs1 _ _ ls hv (by omega) (by omega) hH1 hS1 hl)
  · rw [hU]; exact fm_X_warm hW (fun a g1 g2 => hS.2.1 a g1 g2) hX
  · rw [hU, hH.2]; exact Nat.le_add_right _ _
theorem s_callI {idx b na k' n' : Nat} {My : fM} {As : List Value} (hd : decode M.2.1 pc = .ok (.invokespecial idx, 3)) (hw : Cond.methodLink M.1.cls idx My.1 ∈ WL) (hc : cb My na) (hi : Cond.instanceMethod My.1 ∈ WL) (hnm : My.1.name = "<init>") (hrt : My.2.2.2 = none) (hna : As.length = na) (hst : (st.map fun v => v.category).sum ≤ 8) (hargs : (lg_sl (.ref (x0 + b) :: As)).length ≤ My.2.2.1)
    (h : PW G x0 l My d (ZM G x0 (fun r T I J => PW G x0 l M (d + 1) Z k n (pc + 3) lv (rts r st) T I J)) k' n' 0 (lv_args 0 (.ref (x0 + b) :: As)) [] T I J) : PW G x0 l M (d + 1) Z (k + k') (n + n') pc lv (As.reverse ++ .ref (x0 + b) :: st) T I J := by
  intro p e s m args below meth c0 R H locs cells slots ls hv h1 h2 hH hS hl
  obtain ⟨hx, hb0, hr, hml, hnme, hown, hts, hlk, hK, hX, hx0, hfr, hlo⟩ := id hv
  have hM := fq_met hc.2.2.2.2.2.1 hargs h
  have hcb : CallB R s args M.1.cls idx My.1 My.2.1 My.2.2.1 My.2.2.2 (fm_ws My) (fm_room d k' n') k' n' na := callB_of na hts (fm_good hc) rfl rfl rfl (hts _ hc.1) (hts _ hw) ⟨hc.2.2.1, hc.2.2.2.1, hc.2.2.2.2.1⟩ ⟨by show d + 1 ≤ _; omega, by have := hc.2.2.2.2.2.2; show 8 + (My.2.2.1 + 11) + 37 * d ≤ _; omega⟩
  rw [hrt] at hcb
  refine fm_call (va_runI (As := As) (rest := st) ⟨hx, hb0, hml, hown, hts⟩ hM ⟨hcb, hnm, hts _ hi⟩ ⟨fm_blind, fun U hU hW => ⟨rfl, by rw [hU]; exact hH, va_K.moved hW.alike hK, ?_, ?_⟩⟩ rfl hna hl.1 rfl (lv_room hst) hd ⟨by omega, by omega⟩) hS (fun v T1 I1 J1 H1 locs1 hq hH1 hS1 => hq p e s m args below meth c0 R H1 locs1 _ _ ls hv (by omega) (by omega) hH1 hS1 hl)
  · rw [hU]; exact fm_X_warm hW (fun a g1 g2 => hS.2.1 a g1 g2) hX
  · rw [hU, hH.2]; exact Nat.le_add_right _ _
theorem s_callIN {idx b na k' n' : Nat} {My : fM} {host : String} {As : List Value} (hd : decode M.2.1 pc = .ok (.invokespecial idx, 3)) (hw : Cond.methodLinkNest M.1.cls idx My.1 host ∈ fm_nest) (hc : cb My na) (hi : Cond.instanceMethod My.1 ∈ WL) (hnm : My.1.name = "<init>") (hrt : My.2.2.2 = none) (hna : As.length = na) (hst : (st.map fun v => v.category).sum ≤ 8) (hargs : (lg_sl (.ref (x0 + b) :: As)).length ≤ My.2.2.1)
    (h : PW G x0 l My d (ZM G x0 (fun r T I J => PW G x0 l M (d + 1) Z k n (pc + 3) lv (rts r st) T I J)) k' n' 0 (lv_args 0 (.ref (x0 + b) :: As)) [] T I J) : PW G x0 l M (d + 1) Z (k + k') (n + n') pc lv (As.reverse ++ .ref (x0 + b) :: st) T I J := by
  intro p e s m args below meth c0 R H locs cells slots ls hv h1 h2 hH hS hl
  obtain ⟨hx, hb0, hr, hml, hnme, hown, hts, hlk, hK, hX, hx0, hfr, hlo⟩ := id hv
  have hM := fq_met hc.2.2.2.2.2.1 hargs h
  have hcb : va_CN R s args M.1.cls idx My.1 host My.2.1 My.2.2.1 My.2.2.2 (fm_ws My) (fm_room d k' n') k' n' na := va_cnB na hts (fm_good hc) rfl rfl rfl (hX.1 _ hw) (hts _ hc.1) ⟨hc.2.2.1, hc.2.2.2.1, hc.2.2.2.2.1⟩ ⟨by show d + 1 ≤ _; omega, by have := hc.2.2.2.2.2.2; show 8 + (My.2.2.1 + 11) + 37 * d ≤ _; omega⟩
  rw [hrt] at hcb
  refine fm_call (va_runIN (As := As) (rest := st) ⟨hx, hb0, hml, hown, hts⟩ hM ⟨hcb, hnm, hts _ hi⟩ ⟨fm_blind, fun U hU hW => ⟨rfl, by rw [hU]; exact hH, va_K.moved hW.alike hK, ?_, ?_⟩⟩ rfl hna hl.1 rfl (lv_room hst) hd ⟨by omega, by omega⟩) hS (fun v T1 I1 J1 H1 locs1 hq hH1 hS1 => hq p e s m args below meth c0 R H1 locs1 _ _ ls hv (by omega) (by omega) hH1 hS1 hl)
  · rw [hU]; exact fm_X_warm hW (fun a g1 g2 => hS.2.1 a g1 g2) hX
  · rw [hU, hH.2]; exact Nat.le_add_right _ _
theorem s_callSN {idx na k' n' : Nat} {My : fM} {host : String} {As : List Value} (hd : decode M.2.1 pc = .ok (.invokestatic idx, 3)) (hw : Cond.methodLinkNest M.1.cls idx My.1 host ∈ fm_nest) (hc : cb My na) (hs : Cond.static My.1 ∈ WL) (hna : As.length = na) (hst : (st.map fun v => v.category).sum ≤ 8) (hargs : (lg_sl As).length ≤ My.2.2.1)
    (h : PW G x0 l My d (ZM G x0 (fun r T I J => PW G x0 l M (d + 1) Z k n (pc + 3) lv (rts r st) T I J)) k' n' 0 (lv_args 0 As) [] T I J) : PW G x0 l M (d + 1) Z (k + k') (n + n') pc lv (As.reverse ++ st) T I J := by
  intro p e s m args below meth c0 R H locs cells slots ls hv h1 h2 hH hS hl
  obtain ⟨hx, hb0, hr, hml, hnme, hown, hts, hlk, hK, hX, hx0, hfr, hlo⟩ := id hv
  have hM := fq_met hc.2.2.2.2.2.1 hargs h
  have hcb : va_CN R s args M.1.cls idx My.1 host My.2.1 My.2.2.1 My.2.2.2 (fm_ws My) (fm_room d k' n') k' n' na := va_cnB na hts (fm_good hc) rfl rfl rfl (hX.1 _ hw) (hts _ hc.1) ⟨hc.2.2.1, hc.2.2.2.1, hc.2.2.2.2.1⟩ ⟨by show d + 1 ≤ _; omega, by have := hc.2.2.2.2.2.2; show 8 + (My.2.2.1 + 11) + 37 * d ≤ _; omega⟩
  refine fm_call (va_runSN (As := As) (rest := st) ⟨hx, hb0, hml, hown, hts⟩ hM ⟨hcb, hts _ hs, trivial⟩ ⟨fm_blind, fun U hU hW => ⟨rfl, by rw [hU]; exact hH, va_K.moved hW.alike hK, ?_, ?_⟩⟩ rfl hna hl.1 rfl (lv_room hst) hd ⟨by omega, by omega⟩) hS (fun v T1 I1 J1 H1 locs1 hq hH1 hS1 => hq p e s m args below meth c0 R H1 locs1 _ _ ls hv (by omega) (by omega) hH1 hS1 hl)
  · rw [hU]; exact fm_X_warm hW (fun a g1 g2 => hS.2.1 a g1 g2) hX
  · rw [hU, hH.2]; exact Nat.le_add_right _ _
end FMC
end
