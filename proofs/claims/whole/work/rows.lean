section
-- ===== PART A: goes FIRST, ahead of the names: the tables' words, and 'selects' of the private methods out of them =====
/-- a private method of a class that the tables say can be made, by its rows of tables_1 -/
def lw_okq (q : MethodName × Nat) : Prop := (q.1.cls ≠ "java/lang/invoke/MethodHandle" ∧ q.1.cls ≠ "java/lang/invoke/VarHandle") ∧ Cond.instantiable q.1.cls q.2 ∈ tables_1 ∧ Cond.privateMethod q.1 ∈ tables_1 ∧ Cond.instanceMethod q.1 ∈ tables_1
theorem lw_p0 : lw_okq (⟨"OneWordWrong$Text", "itemEnd", "(I)I"⟩, 4) := ⟨⟨by decide +kernel, by decide +kernel⟩, List.mem_of_getElem? (i := 28) (by decide +kernel), List.mem_of_getElem? (i := 362) (by decide +kernel), List.mem_of_getElem? (i := 363) (by decide +kernel)⟩
theorem lw_p1 : lw_okq (⟨"OneWordWrong$Text", "isFigure", "(I)Z"⟩, 4) := ⟨⟨by decide +kernel, by decide +kernel⟩, List.mem_of_getElem? (i := 28) (by decide +kernel), List.mem_of_getElem? (i := 366) (by decide +kernel), List.mem_of_getElem? (i := 367) (by decide +kernel)⟩
theorem lw_p2 : lw_okq (⟨"OneWordWrong$Grammar", "addWord", "([I)Z"⟩, 12) := ⟨⟨by decide +kernel, by decide +kernel⟩, List.mem_of_getElem? (i := 49) (by decide +kernel), List.mem_of_getElem? (i := 380) (by decide +kernel), List.mem_of_getElem? (i := 381) (by decide +kernel)⟩
theorem lw_p3 : lw_okq (⟨"OneWordWrong$Grammar", "addRule", "([I)Z"⟩, 12) := ⟨⟨by decide +kernel, by decide +kernel⟩, List.mem_of_getElem? (i := 49) (by decide +kernel), List.mem_of_getElem? (i := 386) (by decide +kernel), List.mem_of_getElem? (i := 387) (by decide +kernel)⟩
theorem lw_p4 : lw_okq (⟨"OneWordWrong$Grammar", "tellPrice", "([I)Z"⟩, 12) := ⟨⟨by decide +kernel, by decide +kernel⟩, List.mem_of_getElem? (i := 49) (by decide +kernel), List.mem_of_getElem? (i := 392) (by decide +kernel), List.mem_of_getElem? (i := 393) (by decide +kernel)⟩
theorem lw_p5 : lw_okq (⟨"OneWordWrong", "priceOf", "(IZ)I"⟩, 14) := ⟨⟨by decide +kernel, by decide +kernel⟩, List.mem_of_getElem? (i := 20) (by decide +kernel), List.mem_of_getElem? (i := 408) (by decide +kernel), List.mem_of_getElem? (i := 409) (by decide +kernel)⟩
theorem lw_p6 : lw_okq (⟨"OneWordWrong$Lanes", "anyAt", "(I)J"⟩, 2) := ⟨⟨by decide +kernel, by decide +kernel⟩, List.mem_of_getElem? (i := 175) (by decide +kernel), List.mem_of_getElem? (i := 469) (by decide +kernel), List.mem_of_getElem? (i := 470) (by decide +kernel)⟩
theorem lw_p7 : lw_okq (⟨"OneWordWrong$TreeTable", "sumAt", "(I)J"⟩, 1) := ⟨⟨by decide +kernel, by decide +kernel⟩, List.mem_of_getElem? (i := 147) (by decide +kernel), List.mem_of_getElem? (i := 477) (by decide +kernel), List.mem_of_getElem? (i := 478) (by decide +kernel)⟩
theorem lw_p8 : lw_okq (⟨"OneWordWrong$PriceTable", "fillEmptyRuns", "(LOneWordWrong$Grammar;II)V"⟩, 1) := ⟨⟨by decide +kernel, by decide +kernel⟩, List.mem_of_getElem? (i := 165) (by decide +kernel), List.mem_of_getElem? (i := 501) (by decide +kernel), List.mem_of_getElem? (i := 502) (by decide +kernel)⟩
theorem lw_p9 : lw_okq (⟨"OneWordWrong$PriceTable", "forbidAll", "(I)V"⟩, 1) := ⟨⟨by decide +kernel, by decide +kernel⟩, List.mem_of_getElem? (i := 165) (by decide +kernel), List.mem_of_getElem? (i := 508) (by decide +kernel), List.mem_of_getElem? (i := 509) (by decide +kernel)⟩
theorem lw_p10 : lw_okq (⟨"OneWordWrong$PriceTable", "joinCells", "(LOneWordWrong$Grammar;III)Z"⟩, 1) := ⟨⟨by decide +kernel, by decide +kernel⟩, List.mem_of_getElem? (i := 165) (by decide +kernel), List.mem_of_getElem? (i := 513) (by decide +kernel), List.mem_of_getElem? (i := 514) (by decide +kernel)⟩
theorem lw_p11 : lw_okq (⟨"OneWordWrong$PriceTable", "joinByRule", "(LOneWordWrong$Grammar;IIII)Z"⟩, 1) := ⟨⟨by decide +kernel, by decide +kernel⟩, List.mem_of_getElem? (i := 165) (by decide +kernel), List.mem_of_getElem? (i := 517) (by decide +kernel), List.mem_of_getElem? (i := 518) (by decide +kernel)⟩
theorem lw_p12 : lw_okq (⟨"OneWordWrong$PriceTable", "cheapestAt", "(I)I"⟩, 1) := ⟨⟨by decide +kernel, by decide +kernel⟩, List.mem_of_getElem? (i := 165) (by decide +kernel), List.mem_of_getElem? (i := 521) (by decide +kernel), List.mem_of_getElem? (i := 522) (by decide +kernel)⟩
theorem lw_p13 : lw_okq (⟨"OneWordWrong$PriceTable", "lower", "(II)Z"⟩, 1) := ⟨⟨by decide +kernel, by decide +kernel⟩, List.mem_of_getElem? (i := 165) (by decide +kernel), List.mem_of_getElem? (i := 528) (by decide +kernel), List.mem_of_getElem? (i := 529) (by decide +kernel)⟩
theorem lw_p14 : lw_okq (⟨"OneWordWrong$PriceTable", "startRun", "(LOneWordWrong$Grammar;LOneWordWrong$Row;[III)V"⟩, 1) := ⟨⟨by decide +kernel, by decide +kernel⟩, List.mem_of_getElem? (i := 165) (by decide +kernel), List.mem_of_getElem? (i := 533) (by decide +kernel), List.mem_of_getElem? (i := 534) (by decide +kernel)⟩
theorem lw_p15 : lw_okq (⟨"OneWordWrong$PriceTable", "putChanged", "(LOneWordWrong$Grammar;LOneWordWrong$Row;[II)V"⟩, 1) := ⟨⟨by decide +kernel, by decide +kernel⟩, List.mem_of_getElem? (i := 165) (by decide +kernel), List.mem_of_getElem? (i := 537) (by decide +kernel), List.mem_of_getElem? (i := 538) (by decide +kernel)⟩
def lw_privs_1 : List (MethodName × Nat) := [(⟨"OneWordWrong$Text", "itemEnd", "(I)I"⟩, 4), (⟨"OneWordWrong$Text", "isFigure", "(I)Z"⟩, 4), (⟨"OneWordWrong$Grammar", "addWord", "([I)Z"⟩, 12), (⟨"OneWordWrong$Grammar", "addRule", "([I)Z"⟩, 12), (⟨"OneWordWrong$Grammar", "tellPrice", "([I)Z"⟩, 12), (⟨"OneWordWrong", "priceOf", "(IZ)I"⟩, 14), (⟨"OneWordWrong$Lanes", "anyAt", "(I)J"⟩, 2), (⟨"OneWordWrong$TreeTable", "sumAt", "(I)J"⟩, 1), (⟨"OneWordWrong$PriceTable", "fillEmptyRuns", "(LOneWordWrong$Grammar;II)V"⟩, 1), (⟨"OneWordWrong$PriceTable", "forbidAll", "(I)V"⟩, 1), (⟨"OneWordWrong$PriceTable", "joinCells", "(LOneWordWrong$Grammar;III)Z"⟩, 1), (⟨"OneWordWrong$PriceTable", "joinByRule", "(LOneWordWrong$Grammar;IIII)Z"⟩, 1), (⟨"OneWordWrong$PriceTable", "cheapestAt", "(I)I"⟩, 1), (⟨"OneWordWrong$PriceTable", "lower", "(II)Z"⟩, 1), (⟨"OneWordWrong$PriceTable", "startRun", "(LOneWordWrong$Grammar;LOneWordWrong$Row;[III)V"⟩, 1), (⟨"OneWordWrong$PriceTable", "putChanged", "(LOneWordWrong$Grammar;LOneWordWrong$Row;[II)V"⟩, 1)]
theorem lw_r1 : ∀ q ∈ lw_privs_1, lw_okq q := List.forall_mem_cons.mpr ⟨lw_p0, List.forall_mem_cons.mpr ⟨lw_p1, List.forall_mem_cons.mpr ⟨lw_p2, List.forall_mem_cons.mpr ⟨lw_p3, List.forall_mem_cons.mpr ⟨lw_p4, List.forall_mem_cons.mpr ⟨lw_p5, List.forall_mem_cons.mpr ⟨lw_p6, List.forall_mem_cons.mpr ⟨lw_p7, List.forall_mem_cons.mpr ⟨lw_p8, List.forall_mem_cons.mpr ⟨lw_p9, List.forall_mem_cons.mpr ⟨lw_p10, List.forall_mem_cons.mpr ⟨lw_p11, List.forall_mem_cons.mpr ⟨lw_p12, List.forall_mem_cons.mpr ⟨lw_p13, List.forall_mem_cons.mpr ⟨lw_p14, List.forall_mem_cons.mpr ⟨lw_p15, fun _ h => absurd h List.not_mem_nil⟩⟩⟩⟩⟩⟩⟩⟩⟩⟩⟩⟩⟩⟩⟩⟩
theorem lw_p16 : lw_okq (⟨"OneWordWrong$PriceTable", "lowerAll", "(III)V"⟩, 1) := ⟨⟨by decide +kernel, by decide +kernel⟩, List.mem_of_getElem? (i := 165) (by decide +kernel), List.mem_of_getElem? (i := 549) (by decide +kernel), List.mem_of_getElem? (i := 550) (by decide +kernel)⟩
theorem lw_p17 : lw_okq (⟨"OneWordWrong$PriceTable", "joinInside", "(LOneWordWrong$Grammar;II)V"⟩, 1) := ⟨⟨by decide +kernel, by decide +kernel⟩, List.mem_of_getElem? (i := 165) (by decide +kernel), List.mem_of_getElem? (i := 553) (by decide +kernel), List.mem_of_getElem? (i := 554) (by decide +kernel)⟩
theorem lw_p18 : lw_okq (⟨"OneWordWrong$PriceTable", "joinWithPutIn", "(LOneWordWrong$Grammar;II)V"⟩, 1) := ⟨⟨by decide +kernel, by decide +kernel⟩, List.mem_of_getElem? (i := 165) (by decide +kernel), List.mem_of_getElem? (i := 557) (by decide +kernel), List.mem_of_getElem? (i := 558) (by decide +kernel)⟩
theorem lw_p19 : lw_okq (⟨"OneWordWrong", "canBeMended", "(LOneWordWrong$Row;)Z"⟩, 14) := ⟨⟨by decide +kernel, by decide +kernel⟩, List.mem_of_getElem? (i := 20) (by decide +kernel), List.mem_of_getElem? (i := 565) (by decide +kernel), List.mem_of_getElem? (i := 566) (by decide +kernel)⟩
theorem lw_p20 : lw_okq (⟨"OneWordWrong", "isRead", "(LOneWordWrong$Row;)Z"⟩, 14) := ⟨⟨by decide +kernel, by decide +kernel⟩, List.mem_of_getElem? (i := 20) (by decide +kernel), List.mem_of_getElem? (i := 569) (by decide +kernel), List.mem_of_getElem? (i := 570) (by decide +kernel)⟩
theorem lw_p21 : lw_okq (⟨"OneWordWrong", "findMends", "(I)V"⟩, 14) := ⟨⟨by decide +kernel, by decide +kernel⟩, List.mem_of_getElem? (i := 20) (by decide +kernel), List.mem_of_getElem? (i := 573) (by decide +kernel), List.mem_of_getElem? (i := 574) (by decide +kernel)⟩
theorem lw_p22 : lw_okq (⟨"OneWordWrong$Mends", "addSwaps", "(LOneWordWrong$Grammar;LOneWordWrong$Row;I)V"⟩, 9) := ⟨⟨by decide +kernel, by decide +kernel⟩, List.mem_of_getElem? (i := 199) (by decide +kernel), List.mem_of_getElem? (i := 582) (by decide +kernel), List.mem_of_getElem? (i := 583) (by decide +kernel)⟩
theorem lw_p23 : lw_okq (⟨"OneWordWrong$Mends", "nextTry", "(I)LOneWordWrong$Row;"⟩, 9) := ⟨⟨by decide +kernel, by decide +kernel⟩, List.mem_of_getElem? (i := 199) (by decide +kernel), List.mem_of_getElem? (i := 587) (by decide +kernel), List.mem_of_getElem? (i := 588) (by decide +kernel)⟩
theorem lw_p24 : lw_okq (⟨"OneWordWrong$Mends", "readTries", "(LOneWordWrong$Grammar;LOneWordWrong$Lanes;I)V"⟩, 9) := ⟨⟨by decide +kernel, by decide +kernel⟩, List.mem_of_getElem? (i := 199) (by decide +kernel), List.mem_of_getElem? (i := 601) (by decide +kernel), List.mem_of_getElem? (i := 602) (by decide +kernel)⟩
theorem lw_p25 : lw_okq (⟨"OneWordWrong$Mends", "insert", "(LOneWordWrong$Row;I)V"⟩, 9) := ⟨⟨by decide +kernel, by decide +kernel⟩, List.mem_of_getElem? (i := 199) (by decide +kernel), List.mem_of_getElem? (i := 624) (by decide +kernel), List.mem_of_getElem? (i := 625) (by decide +kernel)⟩
theorem lw_p26 : lw_okq (⟨"OneWordWrong$Mends", "orderAt", "(ILOneWordWrong$Row;I)I"⟩, 9) := ⟨⟨by decide +kernel, by decide +kernel⟩, List.mem_of_getElem? (i := 199) (by decide +kernel), List.mem_of_getElem? (i := 628) (by decide +kernel), List.mem_of_getElem? (i := 629) (by decide +kernel)⟩
theorem lw_p27 : lw_okq (⟨"OneWordWrong$Mends", "isHeaped", "(LOneWordWrong$Grammar;LOneWordWrong$Row;)Z"⟩, 9) := ⟨⟨by decide +kernel, by decide +kernel⟩, List.mem_of_getElem? (i := 199) (by decide +kernel), List.mem_of_getElem? (i := 654) (by decide +kernel), List.mem_of_getElem? (i := 655) (by decide +kernel)⟩
theorem lw_p28 : lw_okq (⟨"OneWordWrong$Mends", "greatestAt", "(LOneWordWrong$Grammar;I)I"⟩, 9) := ⟨⟨by decide +kernel, by decide +kernel⟩, List.mem_of_getElem? (i := 199) (by decide +kernel), List.mem_of_getElem? (i := 674) (by decide +kernel), List.mem_of_getElem? (i := 675) (by decide +kernel)⟩
theorem lw_p29 : lw_okq (⟨"OneWordWrong$BarFinder", "fewestOf", "(IILOneWordWrong$Grammar;LOneWordWrong$Row;LOneWordWrong$Lanes;)I"⟩, 2) := ⟨⟨by decide +kernel, by decide +kernel⟩, List.mem_of_getElem? (i := 186) (by decide +kernel), List.mem_of_getElem? (i := 696) (by decide +kernel), List.mem_of_getElem? (i := 697) (by decide +kernel)⟩
theorem lw_p30 : lw_okq (⟨"OneWordWrong$BarFinder", "addSet", "(I)V"⟩, 2) := ⟨⟨by decide +kernel, by decide +kernel⟩, List.mem_of_getElem? (i := 186) (by decide +kernel), List.mem_of_getElem? (i := 700) (by decide +kernel), List.mem_of_getElem? (i := 701) (by decide +kernel)⟩
theorem lw_p31 : lw_okq (⟨"OneWordWrong$BarFinder", "freeingLanes", "(LOneWordWrong$Grammar;LOneWordWrong$Row;LOneWordWrong$Lanes;)J"⟩, 2) := ⟨⟨by decide +kernel, by decide +kernel⟩, List.mem_of_getElem? (i := 186) (by decide +kernel), List.mem_of_getElem? (i := 713) (by decide +kernel), List.mem_of_getElem? (i := 714) (by decide +kernel)⟩
def lw_privs_2 : List (MethodName × Nat) := [(⟨"OneWordWrong$PriceTable", "lowerAll", "(III)V"⟩, 1), (⟨"OneWordWrong$PriceTable", "joinInside", "(LOneWordWrong$Grammar;II)V"⟩, 1), (⟨"OneWordWrong$PriceTable", "joinWithPutIn", "(LOneWordWrong$Grammar;II)V"⟩, 1), (⟨"OneWordWrong", "canBeMended", "(LOneWordWrong$Row;)Z"⟩, 14), (⟨"OneWordWrong", "isRead", "(LOneWordWrong$Row;)Z"⟩, 14), (⟨"OneWordWrong", "findMends", "(I)V"⟩, 14), (⟨"OneWordWrong$Mends", "addSwaps", "(LOneWordWrong$Grammar;LOneWordWrong$Row;I)V"⟩, 9), (⟨"OneWordWrong$Mends", "nextTry", "(I)LOneWordWrong$Row;"⟩, 9), (⟨"OneWordWrong$Mends", "readTries", "(LOneWordWrong$Grammar;LOneWordWrong$Lanes;I)V"⟩, 9), (⟨"OneWordWrong$Mends", "insert", "(LOneWordWrong$Row;I)V"⟩, 9), (⟨"OneWordWrong$Mends", "orderAt", "(ILOneWordWrong$Row;I)I"⟩, 9), (⟨"OneWordWrong$Mends", "isHeaped", "(LOneWordWrong$Grammar;LOneWordWrong$Row;)Z"⟩, 9), (⟨"OneWordWrong$Mends", "greatestAt", "(LOneWordWrong$Grammar;I)I"⟩, 9), (⟨"OneWordWrong$BarFinder", "fewestOf", "(IILOneWordWrong$Grammar;LOneWordWrong$Row;LOneWordWrong$Lanes;)I"⟩, 2), (⟨"OneWordWrong$BarFinder", "addSet", "(I)V"⟩, 2), (⟨"OneWordWrong$BarFinder", "freeingLanes", "(LOneWordWrong$Grammar;LOneWordWrong$Row;LOneWordWrong$Lanes;)J"⟩, 2)]
theorem lw_r2 : ∀ q ∈ lw_privs_2, lw_okq q := List.forall_mem_cons.mpr ⟨lw_p16, List.forall_mem_cons.mpr ⟨lw_p17, List.forall_mem_cons.mpr ⟨lw_p18, List.forall_mem_cons.mpr ⟨lw_p19, List.forall_mem_cons.mpr ⟨lw_p20, List.forall_mem_cons.mpr ⟨lw_p21, List.forall_mem_cons.mpr ⟨lw_p22, List.forall_mem_cons.mpr ⟨lw_p23, List.forall_mem_cons.mpr ⟨lw_p24, List.forall_mem_cons.mpr ⟨lw_p25, List.forall_mem_cons.mpr ⟨lw_p26, List.forall_mem_cons.mpr ⟨lw_p27, List.forall_mem_cons.mpr ⟨lw_p28, List.forall_mem_cons.mpr ⟨lw_p29, List.forall_mem_cons.mpr ⟨lw_p30, List.forall_mem_cons.mpr ⟨lw_p31, fun _ h => absurd h List.not_mem_nil⟩⟩⟩⟩⟩⟩⟩⟩⟩⟩⟩⟩⟩⟩⟩⟩
theorem lw_p32 : lw_okq (⟨"OneWordWrong", "wordsOfSentences", "()I"⟩, 14) := ⟨⟨by decide +kernel, by decide +kernel⟩, List.mem_of_getElem? (i := 20) (by decide +kernel), List.mem_of_getElem? (i := 787) (by decide +kernel), List.mem_of_getElem? (i := 788) (by decide +kernel)⟩
theorem lw_p33 : lw_okq (⟨"OneWordWrongModel", "noPrices", "(I)V"⟩, 27) := ⟨⟨by decide +kernel, by decide +kernel⟩, List.mem_of_getElem? (i := 791) (by decide +kernel), List.mem_of_getElem? (i := 797) (by decide +kernel), List.mem_of_getElem? (i := 798) (by decide +kernel)⟩
theorem lw_p34 : lw_okq (⟨"OneWordWrongModel", "readAll", "()I"⟩, 27) := ⟨⟨by decide +kernel, by decide +kernel⟩, List.mem_of_getElem? (i := 791) (by decide +kernel), List.mem_of_getElem? (i := 900) (by decide +kernel), List.mem_of_getElem? (i := 901) (by decide +kernel)⟩
theorem lw_p35 : lw_okq (⟨"OneWordWrongModel", "wordItem", "()Z"⟩, 27) := ⟨⟨by decide +kernel, by decide +kernel⟩, List.mem_of_getElem? (i := 791) (by decide +kernel), List.mem_of_getElem? (i := 904) (by decide +kernel), List.mem_of_getElem? (i := 905) (by decide +kernel)⟩
theorem lw_p36 : lw_okq (⟨"OneWordWrongModel", "figures", "(I)Z"⟩, 27) := ⟨⟨by decide +kernel, by decide +kernel⟩, List.mem_of_getElem? (i := 791) (by decide +kernel), List.mem_of_getElem? (i := 908) (by decide +kernel), List.mem_of_getElem? (i := 909) (by decide +kernel)⟩
theorem lw_p37 : lw_okq (⟨"OneWordWrongModel", "ruleItem", "()Z"⟩, 27) := ⟨⟨by decide +kernel, by decide +kernel⟩, List.mem_of_getElem? (i := 791) (by decide +kernel), List.mem_of_getElem? (i := 915) (by decide +kernel), List.mem_of_getElem? (i := 916) (by decide +kernel)⟩
theorem lw_p38 : lw_okq (⟨"OneWordWrongModel", "priceItem", "()Z"⟩, 27) := ⟨⟨by decide +kernel, by decide +kernel⟩, List.mem_of_getElem? (i := 791) (by decide +kernel), List.mem_of_getElem? (i := 919) (by decide +kernel), List.mem_of_getElem? (i := 920) (by decide +kernel)⟩
theorem lw_p39 : lw_okq (⟨"OneWordWrongModel", "fitted", "(I)I"⟩, 27) := ⟨⟨by decide +kernel, by decide +kernel⟩, List.mem_of_getElem? (i := 791) (by decide +kernel), List.mem_of_getElem? (i := 935) (by decide +kernel), List.mem_of_getElem? (i := 936) (by decide +kernel)⟩
theorem lw_p40 : lw_okq (⟨"OneWordWrongModel", "layCounts", "(I)V"⟩, 27) := ⟨⟨by decide +kernel, by decide +kernel⟩, List.mem_of_getElem? (i := 791) (by decide +kernel), List.mem_of_getElem? (i := 962) (by decide +kernel), List.mem_of_getElem? (i := 963) (by decide +kernel)⟩
theorem lw_p41 : lw_okq (⟨"OneWordWrongModel", "addTrees", "(IIII)V"⟩, 27) := ⟨⟨by decide +kernel, by decide +kernel⟩, List.mem_of_getElem? (i := 791) (by decide +kernel), List.mem_of_getElem? (i := 966) (by decide +kernel), List.mem_of_getElem? (i := 967) (by decide +kernel)⟩
theorem lw_p42 : lw_okq (⟨"OneWordWrongModel", "laySpans", "(II)V"⟩, 27) := ⟨⟨by decide +kernel, by decide +kernel⟩, List.mem_of_getElem? (i := 791) (by decide +kernel), List.mem_of_getElem? (i := 975) (by decide +kernel), List.mem_of_getElem? (i := 976) (by decide +kernel)⟩
theorem lw_p43 : lw_okq (⟨"OneWordWrongModel", "marksOf", "(III)I"⟩, 27) := ⟨⟨by decide +kernel, by decide +kernel⟩, List.mem_of_getElem? (i := 791) (by decide +kernel), List.mem_of_getElem? (i := 979) (by decide +kernel), List.mem_of_getElem? (i := 980) (by decide +kernel)⟩
theorem lw_p44 : lw_okq (⟨"OneWordWrongModel", "layLeaves", "(III)V"⟩, 27) := ⟨⟨by decide +kernel, by decide +kernel⟩, List.mem_of_getElem? (i := 791) (by decide +kernel), List.mem_of_getElem? (i := 991) (by decide +kernel), List.mem_of_getElem? (i := 992) (by decide +kernel)⟩
theorem lw_p45 : lw_okq (⟨"OneWordWrongModel", "costAt", "(II)I"⟩, 27) := ⟨⟨by decide +kernel, by decide +kernel⟩, List.mem_of_getElem? (i := 791) (by decide +kernel), List.mem_of_getElem? (i := 995) (by decide +kernel), List.mem_of_getElem? (i := 996) (by decide +kernel)⟩
theorem lw_p46 : lw_okq (⟨"OneWordWrongModel", "changes", "(II)I"⟩, 27) := ⟨⟨by decide +kernel, by decide +kernel⟩, List.mem_of_getElem? (i := 791) (by decide +kernel), List.mem_of_getElem? (i := 1000) (by decide +kernel), List.mem_of_getElem? (i := 1001) (by decide +kernel)⟩
theorem lw_p47 : lw_okq (⟨"OneWordWrongModel", "goOver", "(III)Z"⟩, 27) := ⟨⟨by decide +kernel, by decide +kernel⟩, List.mem_of_getElem? (i := 791) (by decide +kernel), List.mem_of_getElem? (i := 1004) (by decide +kernel), List.mem_of_getElem? (i := 1005) (by decide +kernel)⟩
def lw_privs_3 : List (MethodName × Nat) := [(⟨"OneWordWrong", "wordsOfSentences", "()I"⟩, 14), (⟨"OneWordWrongModel", "noPrices", "(I)V"⟩, 27), (⟨"OneWordWrongModel", "readAll", "()I"⟩, 27), (⟨"OneWordWrongModel", "wordItem", "()Z"⟩, 27), (⟨"OneWordWrongModel", "figures", "(I)Z"⟩, 27), (⟨"OneWordWrongModel", "ruleItem", "()Z"⟩, 27), (⟨"OneWordWrongModel", "priceItem", "()Z"⟩, 27), (⟨"OneWordWrongModel", "fitted", "(I)I"⟩, 27), (⟨"OneWordWrongModel", "layCounts", "(I)V"⟩, 27), (⟨"OneWordWrongModel", "addTrees", "(IIII)V"⟩, 27), (⟨"OneWordWrongModel", "laySpans", "(II)V"⟩, 27), (⟨"OneWordWrongModel", "marksOf", "(III)I"⟩, 27), (⟨"OneWordWrongModel", "layLeaves", "(III)V"⟩, 27), (⟨"OneWordWrongModel", "costAt", "(II)I"⟩, 27), (⟨"OneWordWrongModel", "changes", "(II)I"⟩, 27), (⟨"OneWordWrongModel", "goOver", "(III)Z"⟩, 27)]
theorem lw_r3 : ∀ q ∈ lw_privs_3, lw_okq q := List.forall_mem_cons.mpr ⟨lw_p32, List.forall_mem_cons.mpr ⟨lw_p33, List.forall_mem_cons.mpr ⟨lw_p34, List.forall_mem_cons.mpr ⟨lw_p35, List.forall_mem_cons.mpr ⟨lw_p36, List.forall_mem_cons.mpr ⟨lw_p37, List.forall_mem_cons.mpr ⟨lw_p38, List.forall_mem_cons.mpr ⟨lw_p39, List.forall_mem_cons.mpr ⟨lw_p40, List.forall_mem_cons.mpr ⟨lw_p41, List.forall_mem_cons.mpr ⟨lw_p42, List.forall_mem_cons.mpr ⟨lw_p43, List.forall_mem_cons.mpr ⟨lw_p44, List.forall_mem_cons.mpr ⟨lw_p45, List.forall_mem_cons.mpr ⟨lw_p46, List.forall_mem_cons.mpr ⟨lw_p47, fun _ h => absurd h List.not_mem_nil⟩⟩⟩⟩⟩⟩⟩⟩⟩⟩⟩⟩⟩⟩⟩⟩
theorem lw_p48 : lw_okq (⟨"OneWordWrongModel", "cheaper", "(II)Z"⟩, 27) := ⟨⟨by decide +kernel, by decide +kernel⟩, List.mem_of_getElem? (i := 791) (by decide +kernel), List.mem_of_getElem? (i := 1008) (by decide +kernel), List.mem_of_getElem? (i := 1009) (by decide +kernel)⟩
theorem lw_p49 : lw_okq (⟨"OneWordWrongModel", "isRead", "(II)Z"⟩, 27) := ⟨⟨by decide +kernel, by decide +kernel⟩, List.mem_of_getElem? (i := 791) (by decide +kernel), List.mem_of_getElem? (i := 1016) (by decide +kernel), List.mem_of_getElem? (i := 1017) (by decide +kernel)⟩
theorem lw_p50 : lw_okq (⟨"OneWordWrongModel", "layMends", "(I)V"⟩, 27) := ⟨⟨by decide +kernel, by decide +kernel⟩, List.mem_of_getElem? (i := 791) (by decide +kernel), List.mem_of_getElem? (i := 1020) (by decide +kernel), List.mem_of_getElem? (i := 1021) (by decide +kernel)⟩
theorem lw_p51 : lw_okq (⟨"OneWordWrongModel", "layTried", "(IIIZ)V"⟩, 27) := ⟨⟨by decide +kernel, by decide +kernel⟩, List.mem_of_getElem? (i := 791) (by decide +kernel), List.mem_of_getElem? (i := 1024) (by decide +kernel), List.mem_of_getElem? (i := 1025) (by decide +kernel)⟩
theorem lw_p52 : lw_okq (⟨"OneWordWrongModel", "tryRow", "(I)V"⟩, 27) := ⟨⟨by decide +kernel, by decide +kernel⟩, List.mem_of_getElem? (i := 791) (by decide +kernel), List.mem_of_getElem? (i := 1028) (by decide +kernel), List.mem_of_getElem? (i := 1029) (by decide +kernel)⟩
theorem lw_p53 : lw_okq (⟨"OneWordWrongModel", "order", "(II)I"⟩, 27) := ⟨⟨by decide +kernel, by decide +kernel⟩, List.mem_of_getElem? (i := 791) (by decide +kernel), List.mem_of_getElem? (i := 1032) (by decide +kernel), List.mem_of_getElem? (i := 1033) (by decide +kernel)⟩
theorem lw_p54 : lw_okq (⟨"OneWordWrongModel", "layHeaps", "()V"⟩, 27) := ⟨⟨by decide +kernel, by decide +kernel⟩, List.mem_of_getElem? (i := 791) (by decide +kernel), List.mem_of_getElem? (i := 1041) (by decide +kernel), List.mem_of_getElem? (i := 1042) (by decide +kernel)⟩
theorem lw_p55 : lw_okq (⟨"OneWordWrongModel", "familyAt", "(II)I"⟩, 27) := ⟨⟨by decide +kernel, by decide +kernel⟩, List.mem_of_getElem? (i := 791) (by decide +kernel), List.mem_of_getElem? (i := 1045) (by decide +kernel), List.mem_of_getElem? (i := 1046) (by decide +kernel)⟩
theorem lw_p56 : lw_okq (⟨"OneWordWrongModel", "asked", "()I"⟩, 27) := ⟨⟨by decide +kernel, by decide +kernel⟩, List.mem_of_getElem? (i := 791) (by decide +kernel), List.mem_of_getElem? (i := 1049) (by decide +kernel), List.mem_of_getElem? (i := 1050) (by decide +kernel)⟩
theorem lw_p57 : lw_okq (⟨"OneWordWrongModel", "isAgreeing", "(I)Z"⟩, 27) := ⟨⟨by decide +kernel, by decide +kernel⟩, List.mem_of_getElem? (i := 791) (by decide +kernel), List.mem_of_getElem? (i := 1057) (by decide +kernel), List.mem_of_getElem? (i := 1058) (by decide +kernel)⟩
theorem lw_p58 : lw_okq (⟨"OneWordWrongModel", "lesser", "(III)I"⟩, 27) := ⟨⟨by decide +kernel, by decide +kernel⟩, List.mem_of_getElem? (i := 791) (by decide +kernel), List.mem_of_getElem? (i := 1061) (by decide +kernel), List.mem_of_getElem? (i := 1062) (by decide +kernel)⟩
theorem lw_p59 : lw_okq (⟨"OneWordWrongModel", "look", "(I)V"⟩, 27) := ⟨⟨by decide +kernel, by decide +kernel⟩, List.mem_of_getElem? (i := 791) (by decide +kernel), List.mem_of_getElem? (i := 1073) (by decide +kernel), List.mem_of_getElem? (i := 1074) (by decide +kernel)⟩
theorem lw_p60 : lw_okq (⟨"OneWordWrongModel", "isRight", "(I)Z"⟩, 27) := ⟨⟨by decide +kernel, by decide +kernel⟩, List.mem_of_getElem? (i := 791) (by decide +kernel), List.mem_of_getElem? (i := 1077) (by decide +kernel), List.mem_of_getElem? (i := 1078) (by decide +kernel)⟩
theorem lw_p61 : lw_okq (⟨"OneWordWrongModel", "placeOf", "(I)I"⟩, 27) := ⟨⟨by decide +kernel, by decide +kernel⟩, List.mem_of_getElem? (i := 791) (by decide +kernel), List.mem_of_getElem? (i := 1081) (by decide +kernel), List.mem_of_getElem? (i := 1082) (by decide +kernel)⟩
def lw_privs_4 : List (MethodName × Nat) := [(⟨"OneWordWrongModel", "cheaper", "(II)Z"⟩, 27), (⟨"OneWordWrongModel", "isRead", "(II)Z"⟩, 27), (⟨"OneWordWrongModel", "layMends", "(I)V"⟩, 27), (⟨"OneWordWrongModel", "layTried", "(IIIZ)V"⟩, 27), (⟨"OneWordWrongModel", "tryRow", "(I)V"⟩, 27), (⟨"OneWordWrongModel", "order", "(II)I"⟩, 27), (⟨"OneWordWrongModel", "layHeaps", "()V"⟩, 27), (⟨"OneWordWrongModel", "familyAt", "(II)I"⟩, 27), (⟨"OneWordWrongModel", "asked", "()I"⟩, 27), (⟨"OneWordWrongModel", "isAgreeing", "(I)Z"⟩, 27), (⟨"OneWordWrongModel", "lesser", "(III)I"⟩, 27), (⟨"OneWordWrongModel", "look", "(I)V"⟩, 27), (⟨"OneWordWrongModel", "isRight", "(I)Z"⟩, 27), (⟨"OneWordWrongModel", "placeOf", "(I)I"⟩, 27)]
theorem lw_r4 : ∀ q ∈ lw_privs_4, lw_okq q := List.forall_mem_cons.mpr ⟨lw_p48, List.forall_mem_cons.mpr ⟨lw_p49, List.forall_mem_cons.mpr ⟨lw_p50, List.forall_mem_cons.mpr ⟨lw_p51, List.forall_mem_cons.mpr ⟨lw_p52, List.forall_mem_cons.mpr ⟨lw_p53, List.forall_mem_cons.mpr ⟨lw_p54, List.forall_mem_cons.mpr ⟨lw_p55, List.forall_mem_cons.mpr ⟨lw_p56, List.forall_mem_cons.mpr ⟨lw_p57, List.forall_mem_cons.mpr ⟨lw_p58, List.forall_mem_cons.mpr ⟨lw_p59, List.forall_mem_cons.mpr ⟨lw_p60, List.forall_mem_cons.mpr ⟨lw_p61, fun _ h => absurd h List.not_mem_nil⟩⟩⟩⟩⟩⟩⟩⟩⟩⟩⟩⟩⟩⟩
def lw_privs : List (MethodName × Nat) := lw_privs_1 ++ (lw_privs_2 ++ (lw_privs_3 ++ (lw_privs_4)))
def lw_tbl : List Cond := k2_sels lw_privs ++ tables_1
theorem lw_privs_ok : ∀ q ∈ lw_privs, lw_okq q := by
  show ∀ q ∈ lw_privs_1 ++ (lw_privs_2 ++ (lw_privs_3 ++ (lw_privs_4))), lw_okq q
  exact List.forall_mem_append.mpr ⟨lw_r1, List.forall_mem_append.mpr ⟨lw_r2, List.forall_mem_append.mpr ⟨lw_r3, lw_r4⟩⟩⟩
end
section
def RX0 : String := "OneWordWrong$BarFinder"
def TX0 : u_T := fun k => match k with
  | 0 => ("OneWordWrong$BarFinder", "sets", "[I", true)
  | _ => ("OneWordWrong$BarFinder", "size", "I", false)
def tyX0 : Nat → FieldType := fun k => match k with
  | 0 => .array .int
  | _ => .int
abbrev wsX00 : List Cond := u_ws RX0 TX0 2
theorem nmX0 : ∀ a, a < 2 → ∀ b, b < 2 → a ≠ b → (TX0 a).2.1 ≠ (TX0 b).2.1 := by decide +kernel
theorem tyX0_ok : ∀ k, k < 2 → parseFieldDescriptor (TX0 k).2.2.1 = some (tyX0 k) := by decide +kernel
abbrev cX0_init : ByteArray := prog_2_method_1_code
def yX0_init : MethodName := ⟨RX0, "<init>", "()V"⟩
abbrev cX0_fewest : ByteArray := prog_2_method_2_code
def yX0_fewest : MethodName := ⟨RX0, "fewest", "(LOneWordWrong$Grammar;LOneWordWrong$Row;LOneWordWrong$Lanes;)I"⟩
abbrev cX0_singleRules : ByteArray := prog_2_method_3_code
def yX0_singleRules : MethodName := ⟨RX0, "singleRules", "(LOneWordWrong$Grammar;LOneWordWrong$Row;LOneWordWrong$Lanes;)I"⟩
abbrev cX0_agreeingRules : ByteArray := prog_2_method_4_code
def yX0_agreeingRules : MethodName := ⟨RX0, "agreeingRules", "(LOneWordWrong$Grammar;)I"⟩
abbrev cX0_fewestOf : ByteArray := prog_2_method_5_code
def yX0_fewestOf : MethodName := ⟨RX0, "fewestOf", "(IILOneWordWrong$Grammar;LOneWordWrong$Row;LOneWordWrong$Lanes;)I"⟩
abbrev cX0_addSet : ByteArray := prog_2_method_6_code
def yX0_addSet : MethodName := ⟨RX0, "addSet", "(I)V"⟩
abbrev cX0_nextSet : ByteArray := prog_2_method_7_code
def yX0_nextSet : MethodName := ⟨RX0, "nextSet", "(I)I"⟩
abbrev cX0_freeingLanes : ByteArray := prog_2_method_8_code
def yX0_freeingLanes : MethodName := ⟨RX0, "freeingLanes", "(LOneWordWrong$Grammar;LOneWordWrong$Row;LOneWordWrong$Lanes;)J"⟩
def RX1 : String := "OneWordWrong$Grammar"
def TX1 : u_T := fun k => match k with
  | 0 => ("OneWordWrong$Grammar", "kinds", "[I", true)
  | 1 => ("OneWordWrong$Grammar", "marks", "[I", true)
  | 2 => ("OneWordWrong$Grammar", "families", "[I", true)
  | 3 => ("OneWordWrong$Grammar", "sounds", "[I", true)
  | 4 => ("OneWordWrong$Grammar", "words", "I", false)
  | 5 => ("OneWordWrong$Grammar", "wholes", "[I", true)
  | 6 => ("OneWordWrong$Grammar", "firsts", "[I", true)
  | 7 => ("OneWordWrong$Grammar", "seconds", "[I", true)
  | 8 => ("OneWordWrong$Grammar", "agree", "[Z", true)
  | 9 => ("OneWordWrong$Grammar", "markOfSecond", "[Z", true)
  | 10 => ("OneWordWrong$Grammar", "rules", "I", false)
  | _ => ("OneWordWrong$Grammar", "told", "[I", true)
def tyX1 : Nat → FieldType := fun k => match k with
  | 0 => .array .int
  | 1 => .array .int
  | 2 => .array .int
  | 3 => .array .int
  | 4 => .int
  | 5 => .array .int
  | 6 => .array .int
  | 7 => .array .int
  | 8 => .array .boolean
  | 9 => .array .boolean
  | 10 => .int
  | _ => .array .int
abbrev wsX10 : List Cond := u_ws RX1 TX1 12
theorem nmX1 : ∀ a, a < 12 → ∀ b, b < 12 → a ≠ b → (TX1 a).2.1 ≠ (TX1 b).2.1 := by decide +kernel
theorem tyX1_ok : ∀ k, k < 12 → parseFieldDescriptor (TX1 k).2.2.1 = some (tyX1 k) := by decide +kernel
abbrev cX1_init : ByteArray := prog_3_method_1_code
def yX1_init : MethodName := ⟨RX1, "<init>", "()V"⟩
abbrev cX1_restart : ByteArray := prog_3_method_2_code
def yX1_restart : MethodName := ⟨RX1, "restart", "()V"⟩
abbrev cX1_takeItem : ByteArray := prog_3_method_3_code
def yX1_takeItem : MethodName := ⟨RX1, "takeItem", "(I[II)Z"⟩
abbrev cX1_areWithin : ByteArray := prog_3_method_4_code
def yX1_areWithin : MethodName := ⟨RX1, "areWithin", "([II[I)Z"⟩
abbrev cX1_addWord : ByteArray := prog_3_method_5_code
def yX1_addWord : MethodName := ⟨RX1, "addWord", "([I)Z"⟩
abbrev cX1_addRule : ByteArray := prog_3_method_6_code
def yX1_addRule : MethodName := ⟨RX1, "addRule", "([I)Z"⟩
abbrev cX1_tellPrice : ByteArray := prog_3_method_7_code
def yX1_tellPrice : MethodName := ⟨RX1, "tellPrice", "([I)Z"⟩
abbrev cX1_stateOf : ByteArray := prog_3_method_8_code
def yX1_stateOf : MethodName := ⟨RX1, "stateOf", "(I)I"⟩
abbrev cX1_swapPrice : ByteArray := prog_3_method_9_code
def yX1_swapPrice : MethodName := ⟨RX1, "swapPrice", "(II[I)I"⟩
def RX2 : String := "OneWordWrong$Hand"
def TX2 : u_T := fun k => match k with
  | 0 => ("OneWordWrong$Hand", "errors", "[I", true)
  | _ => ("OneWordWrong$Hand", "size", "I", false)
def tyX2 : Nat → FieldType := fun k => match k with
  | 0 => .array .int
  | _ => .int
abbrev wsX20 : List Cond := u_ws RX2 TX2 2
theorem nmX2 : ∀ a, a < 2 → ∀ b, b < 2 → a ≠ b → (TX2 a).2.1 ≠ (TX2 b).2.1 := by decide +kernel
theorem tyX2_ok : ∀ k, k < 2 → parseFieldDescriptor (TX2 k).2.2.1 = some (tyX2 k) := by decide +kernel
abbrev cX2_init : ByteArray := prog_4_method_1_code
def yX2_init : MethodName := ⟨RX2, "<init>", "()V"⟩
abbrev cX2_append : ByteArray := prog_4_method_2_code
def yX2_append : MethodName := ⟨RX2, "append", "(I)V"⟩
abbrev cX2_fittedPrice : ByteArray := prog_4_method_3_code
def yX2_fittedPrice : MethodName := ⟨RX2, "fittedPrice", "(I)I"⟩
abbrev cX2_cameSince : ByteArray := prog_4_method_4_code
def yX2_cameSince : MethodName := ⟨RX2, "cameSince", "(II)Z"⟩
def RX3 : String := "OneWordWrong$KeptOne"
def TX3 : u_T := fun k => match k with
  | 0 => ("OneWordWrong$KeptOne", "right", "Z", false)
  | 1 => ("OneWordWrong$KeptOne", "read", "Z", false)
  | 2 => ("OneWordWrong$KeptOne", "place", "I", false)
  | _ => ("OneWordWrong$KeptOne", "freeing", "I", false)
def tyX3 : Nat → FieldType := fun k => match k with
  | 0 => .boolean
  | 1 => .boolean
  | 2 => .int
  | _ => .int
abbrev wsX30 : List Cond := u_ws RX3 TX3 4
theorem nmX3 : ∀ a, a < 4 → ∀ b, b < 4 → a ≠ b → (TX3 a).2.1 ≠ (TX3 b).2.1 := by decide +kernel
theorem tyX3_ok : ∀ k, k < 4 → parseFieldDescriptor (TX3 k).2.2.1 = some (tyX3 k) := by decide +kernel
abbrev cX3_init : ByteArray := prog_5_method_1_code
def yX3_init : MethodName := ⟨RX3, "<init>", "()V"⟩
abbrev cX3_isWronged : ByteArray := prog_5_method_2_code
def yX3_isWronged : MethodName := ⟨RX3, "isWronged", "()Z"⟩
abbrev cX3_isChangedUnread : ByteArray := prog_5_method_3_code
def yX3_isChangedUnread : MethodName := ⟨RX3, "isChangedUnread", "()Z"⟩
def RX4 : String := "OneWordWrong$Lanes"
def TX4 : u_T := fun k => match k with
  | 0 => ("OneWordWrong$SpanTable", "cells", "[J", true)
  | _ => ("OneWordWrong$Lanes", "free", "[J", true)
def tyX4 : Nat → FieldType := fun k => match k with
  | 0 => .array .long
  | _ => .array .long
abbrev wsX40 : List Cond := u_ws RX4 TX4 2
theorem nmX4 : ∀ a, a < 2 → ∀ b, b < 2 → a ≠ b → (TX4 a).2.1 ≠ (TX4 b).2.1 := by decide +kernel
theorem tyX4_ok : ∀ k, k < 2 → parseFieldDescriptor (TX4 k).2.2.1 = some (tyX4 k) := by decide +kernel
abbrev cX4_init : ByteArray := prog_6_method_1_code
def yX4_init : MethodName := ⟨RX4, "<init>", "()V"⟩
abbrev cX4_restart : ByteArray := prog_6_method_2_code
def yX4_restart : MethodName := ⟨RX4, "restart", "()V"⟩
abbrev cX4_putRow : ByteArray := prog_6_method_3_code
def yX4_putRow : MethodName := ⟨RX4, "putRow", "(LOneWordWrong$Grammar;LOneWordWrong$Row;J)V"⟩
abbrev cX4_freeRule : ByteArray := prog_6_method_4_code
def yX4_freeRule : MethodName := ⟨RX4, "freeRule", "(IJ)V"⟩
abbrev cX4_readLanes : ByteArray := prog_6_method_5_code
def yX4_readLanes : MethodName := ⟨RX4, "readLanes", "(I)J"⟩
abbrev cX4_joinSpans : ByteArray := prog_6_method_6_code
def yX4_joinSpans : MethodName := ⟨RX4, "joinSpans", "(LOneWordWrong$Grammar;III)V"⟩
abbrev cX4_anyAt : ByteArray := prog_6_method_7_code
def yX4_anyAt : MethodName := ⟨RX4, "anyAt", "(I)J"⟩
def RX5 : String := "OneWordWrong$Mends"
def TX5 : u_T := fun k => match k with
  | 0 => ("OneWordWrong$Mends", "rows", "[LOneWordWrong$Row;", true)
  | 1 => ("OneWordWrong$Mends", "costs", "[I", true)
  | 2 => ("OneWordWrong$Mends", "size", "I", false)
  | 3 => ("OneWordWrong$Mends", "tries", "[LOneWordWrong$Row;", true)
  | 4 => ("OneWordWrong$Mends", "tryCosts", "[I", true)
  | 5 => ("OneWordWrong$Mends", "triesSize", "I", false)
  | 6 => ("OneWordWrong$Mends", "heapFirsts", "[I", true)
  | 7 => ("OneWordWrong$Mends", "heapsSize", "I", false)
  | _ => ("OneWordWrong$Mends", "tally", "[I", true)
def tyX5 : Nat → FieldType := fun k => match k with
  | 0 => .array (.object "OneWordWrong$Row")
  | 1 => .array .int
  | 2 => .int
  | 3 => .array (.object "OneWordWrong$Row")
  | 4 => .array .int
  | 5 => .int
  | 6 => .array .int
  | 7 => .int
  | _ => .array .int
abbrev wsX50 : List Cond := u_ws RX5 TX5 9
theorem nmX5 : ∀ a, a < 9 → ∀ b, b < 9 → a ≠ b → (TX5 a).2.1 ≠ (TX5 b).2.1 := by decide +kernel
theorem tyX5_ok : ∀ k, k < 9 → parseFieldDescriptor (TX5 k).2.2.1 = some (tyX5 k) := by decide +kernel
abbrev cX5_init : ByteArray := prog_7_method_1_code
def yX5_init : MethodName := ⟨RX5, "<init>", "()V"⟩
abbrev cX5_find : ByteArray := prog_7_method_2_code
def yX5_find : MethodName := ⟨RX5, "find", "(LOneWordWrong$Grammar;LOneWordWrong$Row;ILOneWordWrong$Lanes;)V"⟩
abbrev cX5_placeOf : ByteArray := prog_7_method_3_code
def yX5_placeOf : MethodName := ⟨RX5, "placeOf", "(LOneWordWrong$Row;)I"⟩
abbrev cX5_addSwaps : ByteArray := prog_7_method_4_code
def yX5_addSwaps : MethodName := ⟨RX5, "addSwaps", "(LOneWordWrong$Grammar;LOneWordWrong$Row;I)V"⟩
abbrev cX5_nextTry : ByteArray := prog_7_method_5_code
def yX5_nextTry : MethodName := ⟨RX5, "nextTry", "(I)LOneWordWrong$Row;"⟩
abbrev cX5_readTries : ByteArray := prog_7_method_6_code
def yX5_readTries : MethodName := ⟨RX5, "readTries", "(LOneWordWrong$Grammar;LOneWordWrong$Lanes;I)V"⟩
abbrev cX5_insert : ByteArray := prog_7_method_7_code
def yX5_insert : MethodName := ⟨RX5, "insert", "(LOneWordWrong$Row;I)V"⟩
abbrev cX5_orderAt : ByteArray := prog_7_method_8_code
def yX5_orderAt : MethodName := ⟨RX5, "orderAt", "(ILOneWordWrong$Row;I)I"⟩
abbrev cX5_gatherHeaps : ByteArray := prog_7_method_9_code
def yX5_gatherHeaps : MethodName := ⟨RX5, "gatherHeaps", "(LOneWordWrong$Grammar;)V"⟩
abbrev cX5_isHeaped : ByteArray := prog_7_method_10_code
def yX5_isHeaped : MethodName := ⟨RX5, "isHeaped", "(LOneWordWrong$Grammar;LOneWordWrong$Row;)Z"⟩
abbrev cX5_firstStandsOut : ByteArray := prog_7_method_11_code
def yX5_firstStandsOut : MethodName := ⟨RX5, "firstStandsOut", "(I)Z"⟩
abbrev cX5_askedPlace : ByteArray := prog_7_method_12_code
def yX5_askedPlace : MethodName := ⟨RX5, "askedPlace", "(LOneWordWrong$Grammar;)I"⟩
abbrev cX5_greatestAt : ByteArray := prog_7_method_13_code
def yX5_greatestAt : MethodName := ⟨RX5, "greatestAt", "(LOneWordWrong$Grammar;I)I"⟩
def RX6 : String := "OneWordWrong$PriceTable"
def TX6 : u_T := fun k => match k with
  | _ => ("OneWordWrong$PriceTable", "sums", "[I", true)
def tyX6 : Nat → FieldType := fun k => match k with
  | _ => .array .int
abbrev wsX60 : List Cond := u_ws RX6 TX6 1
theorem nmX6 : ∀ a, a < 1 → ∀ b, b < 1 → a ≠ b → (TX6 a).2.1 ≠ (TX6 b).2.1 := by decide +kernel
theorem tyX6_ok : ∀ k, k < 1 → parseFieldDescriptor (TX6 k).2.2.1 = some (tyX6 k) := by decide +kernel
abbrev cX6_init : ByteArray := prog_8_method_1_code
def yX6_init : MethodName := ⟨RX6, "<init>", "()V"⟩
abbrev cX6_leastSum : ByteArray := prog_8_method_2_code
def yX6_leastSum : MethodName := ⟨RX6, "leastSum", "(LOneWordWrong$Grammar;LOneWordWrong$Row;[I)I"⟩
abbrev cX6_run : ByteArray := prog_8_method_3_code
def yX6_run : MethodName := ⟨RX6, "run", "(II)I"⟩
abbrev cX6_fillEmptyRuns : ByteArray := prog_8_method_4_code
def yX6_fillEmptyRuns : MethodName := ⟨RX6, "fillEmptyRuns", "(LOneWordWrong$Grammar;II)V"⟩
abbrev cX6_startRun : ByteArray := prog_8_method_5_code
def yX6_startRun : MethodName := ⟨RX6, "startRun", "(LOneWordWrong$Grammar;LOneWordWrong$Row;[III)V"⟩
abbrev cX6_putChanged : ByteArray := prog_8_method_6_code
def yX6_putChanged : MethodName := ⟨RX6, "putChanged", "(LOneWordWrong$Grammar;LOneWordWrong$Row;[II)V"⟩
abbrev cX6_forbidAll : ByteArray := prog_8_method_7_code
def yX6_forbidAll : MethodName := ⟨RX6, "forbidAll", "(I)V"⟩
abbrev cX6_lowerAll : ByteArray := prog_8_method_8_code
def yX6_lowerAll : MethodName := ⟨RX6, "lowerAll", "(III)V"⟩
abbrev cX6_lower : ByteArray := prog_8_method_9_code
def yX6_lower : MethodName := ⟨RX6, "lower", "(II)Z"⟩
abbrev cX6_joinInside : ByteArray := prog_8_method_10_code
def yX6_joinInside : MethodName := ⟨RX6, "joinInside", "(LOneWordWrong$Grammar;II)V"⟩
abbrev cX6_joinWithPutIn : ByteArray := prog_8_method_11_code
def yX6_joinWithPutIn : MethodName := ⟨RX6, "joinWithPutIn", "(LOneWordWrong$Grammar;II)V"⟩
abbrev cX6_joinCells : ByteArray := prog_8_method_12_code
def yX6_joinCells : MethodName := ⟨RX6, "joinCells", "(LOneWordWrong$Grammar;III)Z"⟩
abbrev cX6_joinByRule : ByteArray := prog_8_method_13_code
def yX6_joinByRule : MethodName := ⟨RX6, "joinByRule", "(LOneWordWrong$Grammar;IIII)Z"⟩
abbrev cX6_cheapestAt : ByteArray := prog_8_method_14_code
def yX6_cheapestAt : MethodName := ⟨RX6, "cheapestAt", "(I)I"⟩
def RX7 : String := "OneWordWrong$Row"
def TX7 : u_T := fun k => match k with
  | 0 => ("OneWordWrong$Row", "words", "[I", true)
  | 1 => ("OneWordWrong$Row", "size", "I", false)
  | _ => ("OneWordWrong$Row", "quoted", "I", false)
def tyX7 : Nat → FieldType := fun k => match k with
  | 0 => .array .int
  | 1 => .int
  | _ => .int
abbrev wsX70 : List Cond := u_ws RX7 TX7 3
theorem nmX7 : ∀ a, a < 3 → ∀ b, b < 3 → a ≠ b → (TX7 a).2.1 ≠ (TX7 b).2.1 := by decide +kernel
theorem tyX7_ok : ∀ k, k < 3 → parseFieldDescriptor (TX7 k).2.2.1 = some (tyX7 k) := by decide +kernel
abbrev cX7_init : ByteArray := prog_9_method_1_code
def yX7_init : MethodName := ⟨RX7, "<init>", "()V"⟩
abbrev cX7_restart : ByteArray := prog_9_method_2_code
def yX7_restart : MethodName := ⟨RX7, "restart", "()V"⟩
abbrev cX7_append : ByteArray := prog_9_method_3_code
def yX7_append : MethodName := ⟨RX7, "append", "(I)V"⟩
abbrev cX7_copyOf : ByteArray := prog_9_method_4_code
def yX7_copyOf : MethodName := ⟨RX7, "copyOf", "(LOneWordWrong$Row;)V"⟩
abbrev cX7_copySwapped : ByteArray := prog_9_method_5_code
def yX7_copySwapped : MethodName := ⟨RX7, "copySwapped", "(LOneWordWrong$Row;II)V"⟩
abbrev cX7_copyWithout : ByteArray := prog_9_method_6_code
def yX7_copyWithout : MethodName := ⟨RX7, "copyWithout", "(LOneWordWrong$Row;I)V"⟩
abbrev cX7_copyWith : ByteArray := prog_9_method_7_code
def yX7_copyWith : MethodName := ⟨RX7, "copyWith", "(LOneWordWrong$Row;II)V"⟩
abbrev cX7_orderTo : ByteArray := prog_9_method_8_code
def yX7_orderTo : MethodName := ⟨RX7, "orderTo", "(LOneWordWrong$Row;)I"⟩
abbrev cX7_familyAt : ByteArray := prog_9_method_9_code
def yX7_familyAt : MethodName := ⟨RX7, "familyAt", "(LOneWordWrong$Grammar;I)I"⟩
abbrev cX7_hasFamiliesOf : ByteArray := prog_9_method_10_code
def yX7_hasFamiliesOf : MethodName := ⟨RX7, "hasFamiliesOf", "(LOneWordWrong$Grammar;LOneWordWrong$Row;)Z"⟩
def RX8 : String := "OneWordWrong$SpanTable"
def TX8 : u_T := fun k => match k with
  | _ => ("", "", "", false)
def tyX8 : Nat → FieldType := fun k => match k with
  | _ => .int
abbrev wsX80 : List Cond := u_ws RX8 TX8 0
theorem nmX8 : ∀ a, a < 0 → ∀ b, b < 0 → a ≠ b → (TX8 a).2.1 ≠ (TX8 b).2.1 := by decide +kernel
theorem tyX8_ok : ∀ k, k < 0 → parseFieldDescriptor (TX8 k).2.2.1 = some (tyX8 k) := by decide +kernel
abbrev cX8_init : ByteArray := prog_10_method_1_code
def yX8_init : MethodName := ⟨RX8, "<init>", "()V"⟩
abbrev cX8_span : ByteArray := prog_10_method_2_code
def yX8_span : MethodName := ⟨RX8, "span", "(II)I"⟩
abbrev cX8_joinAll : ByteArray := prog_10_method_4_code
def yX8_joinAll : MethodName := ⟨RX8, "joinAll", "(LOneWordWrong$Grammar;I)V"⟩
def RX9 : String := "OneWordWrong$Text"
def TX9 : u_T := fun k => match k with
  | 0 => ("OneWordWrong$Text", "bytes", "[I", true)
  | 1 => ("OneWordWrong$Text", "size", "I", false)
  | 2 => ("OneWordWrong$Text", "numbers", "[I", true)
  | _ => ("OneWordWrong$Text", "numbersSize", "I", false)
def tyX9 : Nat → FieldType := fun k => match k with
  | 0 => .array .int
  | 1 => .int
  | 2 => .array .int
  | _ => .int
abbrev wsX90 : List Cond := u_ws RX9 TX9 4
theorem nmX9 : ∀ a, a < 4 → ∀ b, b < 4 → a ≠ b → (TX9 a).2.1 ≠ (TX9 b).2.1 := by decide +kernel
theorem tyX9_ok : ∀ k, k < 4 → parseFieldDescriptor (TX9 k).2.2.1 = some (tyX9 k) := by decide +kernel
abbrev cX9_init : ByteArray := prog_11_method_1_code
def yX9_init : MethodName := ⟨RX9, "<init>", "()V"⟩
abbrev cX9_append : ByteArray := prog_11_method_2_code
def yX9_append : MethodName := ⟨RX9, "append", "(I)V"⟩
abbrev cX9_tellTo : ByteArray := prog_11_method_3_code
def yX9_tellTo : MethodName := ⟨RX9, "tellTo", "(LOneWordWrong$Grammar;)I"⟩
abbrev cX9_itemEnd : ByteArray := prog_11_method_4_code
def yX9_itemEnd : MethodName := ⟨RX9, "itemEnd", "(I)I"⟩
abbrev cX9_isFigure : ByteArray := prog_11_method_5_code
def yX9_isFigure : MethodName := ⟨RX9, "isFigure", "(I)Z"⟩
def RX10 : String := "OneWordWrong$TreeTable"
def TX10 : u_T := fun k => match k with
  | _ => ("OneWordWrong$SpanTable", "cells", "[J", true)
def tyX10 : Nat → FieldType := fun k => match k with
  | _ => .array .long
abbrev wsX100 : List Cond := u_ws RX10 TX10 1
theorem nmX10 : ∀ a, a < 1 → ∀ b, b < 1 → a ≠ b → (TX10 a).2.1 ≠ (TX10 b).2.1 := by decide +kernel
theorem tyX10_ok : ∀ k, k < 1 → parseFieldDescriptor (TX10 k).2.2.1 = some (tyX10 k) := by decide +kernel
abbrev cX10_init : ByteArray := prog_12_method_1_code
def yX10_init : MethodName := ⟨RX10, "<init>", "()V"⟩
abbrev cX10_fill : ByteArray := prog_12_method_2_code
def yX10_fill : MethodName := ⟨RX10, "fill", "(LOneWordWrong$Grammar;LOneWordWrong$Row;)V"⟩
abbrev cX10_treesOver : ByteArray := prog_12_method_3_code
def yX10_treesOver : MethodName := ⟨RX10, "treesOver", "(IIII)J"⟩
abbrev cX10_overAll : ByteArray := prog_12_method_4_code
def yX10_overAll : MethodName := ⟨RX10, "overAll", "(I)J"⟩
abbrev cX10_joinSpans : ByteArray := prog_12_method_5_code
def yX10_joinSpans : MethodName := ⟨RX10, "joinSpans", "(LOneWordWrong$Grammar;III)V"⟩
abbrev cX10_sumAt : ByteArray := prog_12_method_6_code
def yX10_sumAt : MethodName := ⟨RX10, "sumAt", "(I)J"⟩
def RX11 : String := "OneWordWrong"
def TX11 : u_T := fun k => match k with
  | 0 => ("OneWordWrong", "text", "LOneWordWrong$Text;", true)
  | 1 => ("OneWordWrong", "laid", "LOneWordWrong$Grammar;", false)
  | 2 => ("OneWordWrong", "trial", "LOneWordWrong$Grammar;", false)
  | 3 => ("OneWordWrong", "sentences", "[LOneWordWrong$Row;", true)
  | 4 => ("OneWordWrong", "keptOnes", "[LOneWordWrong$KeptOne;", true)
  | 5 => ("OneWordWrong", "keptSize", "I", false)
  | 6 => ("OneWordWrong", "hand", "LOneWordWrong$Hand;", true)
  | 7 => ("OneWordWrong", "prices", "[I", true)
  | 8 => ("OneWordWrong", "treeTable", "LOneWordWrong$TreeTable;", true)
  | 9 => ("OneWordWrong", "priceTable", "LOneWordWrong$PriceTable;", true)
  | 10 => ("OneWordWrong", "lanes", "LOneWordWrong$Lanes;", true)
  | 11 => ("OneWordWrong", "barFinder", "LOneWordWrong$BarFinder;", true)
  | 12 => ("OneWordWrong", "mends", "LOneWordWrong$Mends;", true)
  | _ => ("OneWordWrong", "mendsOf", "I", false)
def tyX11 : Nat → FieldType := fun k => match k with
  | 0 => .object "OneWordWrong$Text"
  | 1 => .object "OneWordWrong$Grammar"
  | 2 => .object "OneWordWrong$Grammar"
  | 3 => .array (.object "OneWordWrong$Row")
  | 4 => .array (.object "OneWordWrong$KeptOne")
  | 5 => .int
  | 6 => .object "OneWordWrong$Hand"
  | 7 => .array .int
  | 8 => .object "OneWordWrong$TreeTable"
  | 9 => .object "OneWordWrong$PriceTable"
  | 10 => .object "OneWordWrong$Lanes"
  | 11 => .object "OneWordWrong$BarFinder"
  | 12 => .object "OneWordWrong$Mends"
  | _ => .int
abbrev wsX110 : List Cond := u_ws RX11 TX11 14
theorem nmX11 : ∀ a, a < 14 → ∀ b, b < 14 → a ≠ b → (TX11 a).2.1 ≠ (TX11 b).2.1 := by decide +kernel
theorem tyX11_ok : ∀ k, k < 14 → parseFieldDescriptor (TX11 k).2.2.1 = some (tyX11 k) := by decide +kernel
abbrev cX11_init : ByteArray := prog_1_method_1_code
def yX11_init : MethodName := ⟨RX11, "<init>", "()V"⟩
abbrev cX11_write : ByteArray := prog_1_method_2_code
def yX11_write : MethodName := ⟨RX11, "write", "(IJ)I"⟩
abbrev cX11_wipe : ByteArray := prog_1_method_3_code
def yX11_wipe : MethodName := ⟨RX11, "wipe", "()I"⟩
abbrev cX11_fault : ByteArray := prog_1_method_4_code
def yX11_fault : MethodName := ⟨RX11, "fault", "()I"⟩
abbrev cX11_lay : ByteArray := prog_1_method_5_code
def yX11_lay : MethodName := ⟨RX11, "lay", "()I"⟩
abbrev cX11_price : ByteArray := prog_1_method_6_code
def yX11_price : MethodName := ⟨RX11, "price", "(IZ)I"⟩
abbrev cX11_word : ByteArray := prog_1_method_7_code
def yX11_word : MethodName := ⟨RX11, "word", "(II)I"⟩
abbrev cX11_clear : ByteArray := prog_1_method_8_code
def yX11_clear : MethodName := ⟨RX11, "clear", "(I)I"⟩
abbrev cX11_quote : ByteArray := prog_1_method_9_code
def yX11_quote : MethodName := ⟨RX11, "quote", "(II)I"⟩
abbrev cX11_trees : ByteArray := prog_1_method_10_code
def yX11_trees : MethodName := ⟨RX11, "trees", "(II)J"⟩
abbrev cX11_part : ByteArray := prog_1_method_11_code
def yX11_part : MethodName := ⟨RX11, "part", "(IIIII)I"⟩
abbrev cX11_least : ByteArray := prog_1_method_12_code
def yX11_least : MethodName := ⟨RX11, "least", "(IZ)I"⟩
abbrev cX11_mend : ByteArray := prog_1_method_13_code
def yX11_mend : MethodName := ⟨RX11, "mend", "(III)I"⟩
abbrev cX11_heaps : ByteArray := prog_1_method_14_code
def yX11_heaps : MethodName := ⟨RX11, "heaps", "(III)I"⟩
abbrev cX11_bars : ByteArray := prog_1_method_15_code
def yX11_bars : MethodName := ⟨RX11, "bars", "(I)I"⟩
abbrev cX11_keep : ByteArray := prog_1_method_16_code
def yX11_keep : MethodName := ⟨RX11, "keep", "(II)I"⟩
abbrev cX11_kept : ByteArray := prog_1_method_17_code
def yX11_kept : MethodName := ⟨RX11, "kept", "(I)I"⟩
abbrev cX11_byRule : ByteArray := prog_1_method_18_code
def yX11_byRule : MethodName := ⟨RX11, "byRule", "(I)I"⟩
abbrev cX11_theirs : ByteArray := prog_1_method_19_code
def yX11_theirs : MethodName := ⟨RX11, "theirs", "(I)I"⟩
abbrev cX11_err : ByteArray := prog_1_method_20_code
def yX11_err : MethodName := ⟨RX11, "err", "(I)I"⟩
abbrev cX11_gone : ByteArray := prog_1_method_21_code
def yX11_gone : MethodName := ⟨RX11, "gone", "(II)I"⟩
abbrev cX11_count : ByteArray := prog_1_method_22_code
def yX11_count : MethodName := ⟨RX11, "count", "(I)I"⟩
abbrev cX11_isWithin : ByteArray := prog_1_method_23_code
def yX11_isWithin : MethodName := ⟨RX11, "isWithin", "(III)Z"⟩
abbrev cX11_isSentence : ByteArray := prog_1_method_24_code
def yX11_isSentence : MethodName := ⟨RX11, "isSentence", "(I)Z"⟩
abbrev cX11_hasBit : ByteArray := prog_1_method_25_code
def yX11_hasBit : MethodName := ⟨RX11, "hasBit", "(II)Z"⟩
abbrev cX11_priceOf : ByteArray := prog_1_method_26_code
def yX11_priceOf : MethodName := ⟨RX11, "priceOf", "(IZ)I"⟩
abbrev cX11_isRead : ByteArray := prog_1_method_27_code
def yX11_isRead : MethodName := ⟨RX11, "isRead", "(LOneWordWrong$Row;)Z"⟩
abbrev cX11_canBeMended : ByteArray := prog_1_method_28_code
def yX11_canBeMended : MethodName := ⟨RX11, "canBeMended", "(LOneWordWrong$Row;)Z"⟩
abbrev cX11_findMends : ByteArray := prog_1_method_29_code
def yX11_findMends : MethodName := ⟨RX11, "findMends", "(I)V"⟩
abbrev cX11_wordsOfSentences : ByteArray := prog_1_method_30_code
def yX11_wordsOfSentences : MethodName := ⟨RX11, "wordsOfSentences", "()I"⟩
def RX12 : String := "OneWordWrongModel"
def TX12 : u_T := fun k => match k with
  | 0 => ("OneWordWrongModel", "length", "I", false)
  | 1 => ("OneWordWrongModel", "text", "[I", true)
  | 2 => ("OneWordWrongModel", "wordMany", "[I", true)
  | 3 => ("OneWordWrongModel", "words", "[I", true)
  | 4 => ("OneWordWrongModel", "ruleMany", "[I", true)
  | 5 => ("OneWordWrongModel", "rules", "[I", true)
  | 6 => ("OneWordWrongModel", "prices", "[I", true)
  | 7 => ("OneWordWrongModel", "longs", "[I", true)
  | 8 => ("OneWordWrongModel", "rows", "[I", true)
  | 9 => ("OneWordWrongModel", "quoted", "[I", true)
  | 10 => ("OneWordWrongModel", "keptMany", "I", false)
  | 11 => ("OneWordWrongModel", "keptLong", "[I", true)
  | 12 => ("OneWordWrongModel", "keptRows", "[I", true)
  | 13 => ("OneWordWrongModel", "errorMany", "I", false)
  | 14 => ("OneWordWrongModel", "errors", "[I", true)
  | 15 => ("OneWordWrongModel", "at", "I", false)
  | 16 => ("OneWordWrongModel", "numbers", "[I", true)
  | 17 => ("OneWordWrongModel", "spans", "[J", true)
  | 18 => ("OneWordWrongModel", "counts", "[J", true)
  | 19 => ("OneWordWrongModel", "costs", "[I", true)
  | 20 => ("OneWordWrongModel", "pays", "[I", true)
  | 21 => ("OneWordWrongModel", "mendMany", "I", false)
  | 22 => ("OneWordWrongModel", "mendPrice", "[I", true)
  | 23 => ("OneWordWrongModel", "mendLong", "[I", true)
  | 24 => ("OneWordWrongModel", "mendRows", "[I", true)
  | 25 => ("OneWordWrongModel", "heapMany", "I", false)
  | _ => ("OneWordWrongModel", "heapFirst", "[I", true)
def tyX12 : Nat → FieldType := fun k => match k with
  | 0 => .int
  | 1 => .array .int
  | 2 => .array .int
  | 3 => .array .int
  | 4 => .array .int
  | 5 => .array .int
  | 6 => .array .int
  | 7 => .array .int
  | 8 => .array .int
  | 9 => .array .int
  | 10 => .int
  | 11 => .array .int
  | 12 => .array .int
  | 13 => .int
  | 14 => .array .int
  | 15 => .int
  | 16 => .array .int
  | 17 => .array .long
  | 18 => .array .long
  | 19 => .array .int
  | 20 => .array .int
  | 21 => .int
  | 22 => .array .int
  | 23 => .array .int
  | 24 => .array .int
  | 25 => .int
  | _ => .array .int
abbrev wsX120 : List Cond := u_ws RX12 TX12 27
theorem nmX12 : ∀ a, a < 27 → ∀ b, b < 27 → a ≠ b → (TX12 a).2.1 ≠ (TX12 b).2.1 := by decide +kernel
theorem tyX12_ok : ∀ k, k < 27 → parseFieldDescriptor (TX12 k).2.2.1 = some (tyX12 k) := by decide +kernel
abbrev cX12_init : ByteArray := prog_14_method_1_code
def yX12_init : MethodName := ⟨RX12, "<init>", "()V"⟩
abbrev cX12_in : ByteArray := prog_14_method_2_code
def yX12_in : MethodName := ⟨RX12, "in", "(JJJ)Z"⟩
abbrev cX12_has : ByteArray := prog_14_method_3_code
def yX12_has : MethodName := ⟨RX12, "has", "(II)Z"⟩
abbrev cX12_noPrices : ByteArray := prog_14_method_5_code
def yX12_noPrices : MethodName := ⟨RX12, "noPrices", "(I)V"⟩
abbrev cX12_write : ByteArray := prog_14_method_6_code
def yX12_write : MethodName := ⟨RX12, "write", "(IJ)I"⟩
abbrev cX12_wipe : ByteArray := prog_14_method_7_code
def yX12_wipe : MethodName := ⟨RX12, "wipe", "()I"⟩
abbrev cX12_figures : ByteArray := prog_14_method_8_code
def yX12_figures : MethodName := ⟨RX12, "figures", "(I)Z"⟩
abbrev cX12_wordItem : ByteArray := prog_14_method_9_code
def yX12_wordItem : MethodName := ⟨RX12, "wordItem", "()Z"⟩
abbrev cX12_ruleItem : ByteArray := prog_14_method_10_code
def yX12_ruleItem : MethodName := ⟨RX12, "ruleItem", "()Z"⟩
abbrev cX12_priceItem : ByteArray := prog_14_method_11_code
def yX12_priceItem : MethodName := ⟨RX12, "priceItem", "()Z"⟩
abbrev cX12_readAll : ByteArray := prog_14_method_12_code
def yX12_readAll : MethodName := ⟨RX12, "readAll", "()I"⟩
abbrev cX12_fault : ByteArray := prog_14_method_13_code
def yX12_fault : MethodName := ⟨RX12, "fault", "()I"⟩
abbrev cX12_lay : ByteArray := prog_14_method_14_code
def yX12_lay : MethodName := ⟨RX12, "lay", "()I"⟩
abbrev cX12_fitted : ByteArray := prog_14_method_15_code
def yX12_fitted : MethodName := ⟨RX12, "fitted", "(I)I"⟩
abbrev cX12_isChange : ByteArray := prog_14_method_16_code
def yX12_isChange : MethodName := ⟨RX12, "isChange", "(I)Z"⟩
abbrev cX12_price : ByteArray := prog_14_method_17_code
def yX12_price : MethodName := ⟨RX12, "price", "(IZ)I"⟩
abbrev cX12_isSentence : ByteArray := prog_14_method_18_code
def yX12_isSentence : MethodName := ⟨RX12, "isSentence", "(I)Z"⟩
abbrev cX12_word : ByteArray := prog_14_method_19_code
def yX12_word : MethodName := ⟨RX12, "word", "(II)I"⟩
abbrev cX12_clear : ByteArray := prog_14_method_20_code
def yX12_clear : MethodName := ⟨RX12, "clear", "(I)I"⟩
abbrev cX12_quote : ByteArray := prog_14_method_21_code
def yX12_quote : MethodName := ⟨RX12, "quote", "(II)I"⟩
abbrev cX12_marksOf : ByteArray := prog_14_method_22_code
def yX12_marksOf : MethodName := ⟨RX12, "marksOf", "(III)I"⟩
abbrev cX12_laySpans : ByteArray := prog_14_method_23_code
def yX12_laySpans : MethodName := ⟨RX12, "laySpans", "(II)V"⟩
abbrev cX12_isRead : ByteArray := prog_14_method_24_code
def yX12_isRead : MethodName := ⟨RX12, "isRead", "(II)Z"⟩
abbrev cX12_layCounts : ByteArray := prog_14_method_25_code
def yX12_layCounts : MethodName := ⟨RX12, "layCounts", "(I)V"⟩
abbrev cX12_addTrees : ByteArray := prog_14_method_26_code
def yX12_addTrees : MethodName := ⟨RX12, "addTrees", "(IIII)V"⟩
abbrev cX12_trees : ByteArray := prog_14_method_27_code
def yX12_trees : MethodName := ⟨RX12, "trees", "(II)J"⟩
abbrev cX12_part : ByteArray := prog_14_method_28_code
def yX12_part : MethodName := ⟨RX12, "part", "(IIIII)I"⟩
abbrev cX12_changes : ByteArray := prog_14_method_29_code
def yX12_changes : MethodName := ⟨RX12, "changes", "(II)I"⟩
abbrev cX12_costAt : ByteArray := prog_14_method_30_code
def yX12_costAt : MethodName := ⟨RX12, "costAt", "(II)I"⟩
abbrev cX12_layLeaves : ByteArray := prog_14_method_31_code
def yX12_layLeaves : MethodName := ⟨RX12, "layLeaves", "(III)V"⟩
abbrev cX12_cheaper : ByteArray := prog_14_method_32_code
def yX12_cheaper : MethodName := ⟨RX12, "cheaper", "(II)Z"⟩
abbrev cX12_goOver : ByteArray := prog_14_method_33_code
def yX12_goOver : MethodName := ⟨RX12, "goOver", "(III)Z"⟩
abbrev cX12_least : ByteArray := prog_14_method_34_code
def yX12_least : MethodName := ⟨RX12, "least", "(IZ)I"⟩
abbrev cX12_order : ByteArray := prog_14_method_35_code
def yX12_order : MethodName := ⟨RX12, "order", "(II)I"⟩
abbrev cX12_tryRow : ByteArray := prog_14_method_36_code
def yX12_tryRow : MethodName := ⟨RX12, "tryRow", "(I)V"⟩
abbrev cX12_layTried : ByteArray := prog_14_method_37_code
def yX12_layTried : MethodName := ⟨RX12, "layTried", "(IIIZ)V"⟩
abbrev cX12_layMends : ByteArray := prog_14_method_38_code
def yX12_layMends : MethodName := ⟨RX12, "layMends", "(I)V"⟩
abbrev cX12_mend : ByteArray := prog_14_method_39_code
def yX12_mend : MethodName := ⟨RX12, "mend", "(III)I"⟩
abbrev cX12_familyAt : ByteArray := prog_14_method_40_code
def yX12_familyAt : MethodName := ⟨RX12, "familyAt", "(II)I"⟩
abbrev cX12_layHeaps : ByteArray := prog_14_method_41_code
def yX12_layHeaps : MethodName := ⟨RX12, "layHeaps", "()V"⟩
abbrev cX12_asked : ByteArray := prog_14_method_42_code
def yX12_asked : MethodName := ⟨RX12, "asked", "()I"⟩
abbrev cX12_heaps : ByteArray := prog_14_method_43_code
def yX12_heaps : MethodName := ⟨RX12, "heaps", "(III)I"⟩
abbrev cX12_isAgreeing : ByteArray := prog_14_method_44_code
def yX12_isAgreeing : MethodName := ⟨RX12, "isAgreeing", "(I)Z"⟩
abbrev cX12_lesser : ByteArray := prog_14_method_45_code
def yX12_lesser : MethodName := ⟨RX12, "lesser", "(III)I"⟩
abbrev cX12_bars : ByteArray := prog_14_method_46_code
def yX12_bars : MethodName := ⟨RX12, "bars", "(I)I"⟩
abbrev cX12_keep : ByteArray := prog_14_method_47_code
def yX12_keep : MethodName := ⟨RX12, "keep", "(II)I"⟩
abbrev cX12_look : ByteArray := prog_14_method_48_code
def yX12_look : MethodName := ⟨RX12, "look", "(I)V"⟩
abbrev cX12_isRight : ByteArray := prog_14_method_49_code
def yX12_isRight : MethodName := ⟨RX12, "isRight", "(I)Z"⟩
abbrev cX12_placeOf : ByteArray := prog_14_method_50_code
def yX12_placeOf : MethodName := ⟨RX12, "placeOf", "(I)I"⟩
abbrev cX12_kept : ByteArray := prog_14_method_51_code
def yX12_kept : MethodName := ⟨RX12, "kept", "(I)I"⟩
abbrev cX12_byRule : ByteArray := prog_14_method_52_code
def yX12_byRule : MethodName := ⟨RX12, "byRule", "(I)I"⟩
abbrev cX12_theirs : ByteArray := prog_14_method_53_code
def yX12_theirs : MethodName := ⟨RX12, "theirs", "(I)I"⟩
abbrev cX12_err : ByteArray := prog_14_method_54_code
def yX12_err : MethodName := ⟨RX12, "err", "(I)I"⟩
abbrev cX12_gone : ByteArray := prog_14_method_55_code
def yX12_gone : MethodName := ⟨RX12, "gone", "(II)I"⟩
abbrev cX12_count : ByteArray := prog_14_method_56_code
def yX12_count : MethodName := ⟨RX12, "count", "(I)I"⟩
def RJx8e188 : String := "java/lang/Cloneable"
def TJx8e188 : u_T := fun k => match k with
  | _ => ("", "", "", false)
def tyJx8e188 : Nat → FieldType := fun k => match k with
  | _ => .int
abbrev wsJx8e1880 : List Cond := u_ws RJx8e188 TJx8e188 0
theorem nmJx8e188 : ∀ a, a < 0 → ∀ b, b < 0 → a ≠ b → (TJx8e188 a).2.1 ≠ (TJx8e188 b).2.1 := by decide +kernel
theorem tyJx8e188_ok : ∀ k, k < 0 → parseFieldDescriptor (TJx8e188 k).2.2.1 = some (tyJx8e188 k) := by decide +kernel
def RJ6 : String := "java/lang/Integer"
def TJ6 : u_T := fun k => match k with
  | _ => ("", "", "", false)
def tyJ6 : Nat → FieldType := fun k => match k with
  | _ => .int
abbrev wsJ60 : List Cond := u_ws RJ6 TJ6 0
theorem nmJ6 : ∀ a, a < 0 → ∀ b, b < 0 → a ≠ b → (TJ6 a).2.1 ≠ (TJ6 b).2.1 := by decide +kernel
theorem tyJ6_ok : ∀ k, k < 0 → parseFieldDescriptor (TJ6 k).2.2.1 = some (tyJ6 k) := by decide +kernel
abbrev cJ6_bitCount_0f7a4 : ByteArray := prog_16_method_49_code
def yJ6_bitCount_0f7a4 : MethodName := ⟨RJ6, "bitCount", "(I)I"⟩
def RJ13 : String := "java/lang/Long"
def TJ13 : u_T := fun k => match k with
  | _ => ("", "", "", false)
def tyJ13 : Nat → FieldType := fun k => match k with
  | _ => .int
abbrev wsJ130 : List Cond := u_ws RJ13 TJ13 0
theorem nmJ13 : ∀ a, a < 0 → ∀ b, b < 0 → a ≠ b → (TJ13 a).2.1 ≠ (TJ13 b).2.1 := by decide +kernel
theorem tyJ13_ok : ∀ k, k < 0 → parseFieldDescriptor (TJ13 k).2.2.1 = some (tyJ13 k) := by decide +kernel
abbrev cJ13_bitCount_95d88 : ByteArray := prog_17_method_50_code
def yJ13_bitCount_95d88 : MethodName := ⟨RJ13, "bitCount", "(J)I"⟩
def RJ9 : String := "java/lang/Math"
def TJ9 : u_T := fun k => match k with
  | _ => ("", "", "", false)
def tyJ9 : Nat → FieldType := fun k => match k with
  | _ => .int
abbrev wsJ90 : List Cond := u_ws RJ9 TJ9 0
theorem nmJ9 : ∀ a, a < 0 → ∀ b, b < 0 → a ≠ b → (TJ9 a).2.1 ≠ (TJ9 b).2.1 := by decide +kernel
theorem tyJ9_ok : ∀ k, k < 0 → parseFieldDescriptor (TJ9 k).2.2.1 = some (tyJ9 k) := by decide +kernel
abbrev cJ9_max_7cf53 : ByteArray := prog_18_method_65_code
def yJ9_max_7cf53 : MethodName := ⟨RJ9, "max", "(II)I"⟩
abbrev cJ9_min_7cf53 : ByteArray := prog_18_method_69_code
def yJ9_min_7cf53 : MethodName := ⟨RJ9, "min", "(II)I"⟩
def RJ10 : String := "java/lang/System"
def TJ10 : u_T := fun k => match k with
  | _ => ("", "", "", false)
def tyJ10 : Nat → FieldType := fun k => match k with
  | _ => .int
abbrev wsJ100 : List Cond := u_ws RJ10 TJ10 0
theorem nmJ10 : ∀ a, a < 0 → ∀ b, b < 0 → a ≠ b → (TJ10 a).2.1 ≠ (TJ10 b).2.1 := by decide +kernel
theorem tyJ10_ok : ∀ k, k < 0 → parseFieldDescriptor (TJ10 k).2.2.1 = some (tyJ10 k) := by decide +kernel
def RJ7 : String := "java/util/Arrays"
def TJ7 : u_T := fun k => match k with
  | _ => ("", "", "", false)
def tyJ7 : Nat → FieldType := fun k => match k with
  | _ => .int
abbrev wsJ70 : List Cond := u_ws RJ7 TJ7 0
theorem nmJ7 : ∀ a, a < 0 → ∀ b, b < 0 → a ≠ b → (TJ7 a).2.1 ≠ (TJ7 b).2.1 := by decide +kernel
theorem tyJ7_ok : ∀ k, k < 0 → parseFieldDescriptor (TJ7 k).2.2.1 = some (tyJ7 k) := by decide +kernel
abbrev cJ7_fill_d0a16 : ByteArray := prog_20_method_101_code
def yJ7_fill_d0a16 : MethodName := ⟨RJ7, "fill", "([JJ)V"⟩
abbrev cJ7_fill_53178 : ByteArray := prog_20_method_103_code
def yJ7_fill_53178 : MethodName := ⟨RJ7, "fill", "([II)V"⟩
def RL : String := "OneWordWrongLaw"
abbrev cL_law : ByteArray := code
def yL_law : MethodName := ⟨RL, "law", "([I)Z"⟩
theorem inX8 : ∀ w ∈ wsX80, w ∈ lw_tbl := by decide +kernel
theorem inJx8e188 : ∀ w ∈ wsJx8e1880, w ∈ lw_tbl := by decide +kernel
theorem inJ6 : ∀ w ∈ wsJ60, w ∈ lw_tbl := by decide +kernel
theorem inJ13 : ∀ w ∈ wsJ130, w ∈ lw_tbl := by decide +kernel
theorem inJ9 : ∀ w ∈ wsJ90, w ∈ lw_tbl := by decide +kernel
theorem inJ10 : ∀ w ∈ wsJ100, w ∈ lw_tbl := by decide +kernel
theorem inJ7 : ∀ w ∈ wsJ70, w ∈ lw_tbl := by decide +kernel
end
section
theorem dX0_init_0 : decode cX0_init 0 = .ok (.aload_n 0, 1) := by decide +kernel
theorem dX0_init_1 : decode cX0_init 1 = .ok (.invokespecial 3, 3) := by decide +kernel
theorem dX0_init_4 : decode cX0_init 4 = .ok (.aload_n 0, 1) := by decide +kernel
theorem dX0_init_5 : decode cX0_init 5 = .ok (.bipush 64, 2) := by decide +kernel
theorem dX0_init_7 : decode cX0_init 7 = .ok (.newarray .int, 2) := by decide +kernel
theorem dX0_init_9 : decode cX0_init 9 = .ok (.putfield 9, 3) := by decide +kernel
theorem dX0_init_12 : decode cX0_init 12 = .ok (.aload_n 0, 1) := by decide +kernel
theorem dX0_init_13 : decode cX0_init 13 = .ok (.iconst 0, 1) := by decide +kernel
theorem dX0_init_14 : decode cX0_init 14 = .ok (.putfield 15, 3) := by decide +kernel
theorem dX0_init_17 : decode cX0_init 17 = .ok (.return_, 1) := by decide +kernel
theorem dX0_fewest_0 : decode cX0_fewest 0 = .ok (.aload_n 1, 1) := by decide +kernel
theorem dX0_fewest_1 : decode cX0_fewest 1 = .ok (.invokestatic 19, 3) := by decide +kernel
theorem dX0_fewest_4 : decode cX0_fewest 4 = .ok (.istore 4, 2) := by decide +kernel
theorem dX0_fewest_6 : decode cX0_fewest 6 = .ok (.iconst 1, 1) := by decide +kernel
theorem dX0_fewest_7 : decode cX0_fewest 7 = .ok (.istore 5, 2) := by decide +kernel
theorem dX0_fewest_9 : decode cX0_fewest 9 = .ok (.iload 5, 2) := by decide +kernel
theorem dX0_fewest_11 : decode cX0_fewest 11 = .ok (.iconst 3, 1) := by decide +kernel
theorem dX0_fewest_12 : decode cX0_fewest 12 = .ok (.if_icmp .gt 32, 3) := by decide +kernel
theorem dX0_fewest_15 : decode cX0_fewest 15 = .ok (.aload_n 0, 1) := by decide +kernel
theorem dX0_fewest_16 : decode cX0_fewest 16 = .ok (.iload 5, 2) := by decide +kernel
theorem dX0_fewest_18 : decode cX0_fewest 18 = .ok (.iload 4, 2) := by decide +kernel
theorem dX0_fewest_20 : decode cX0_fewest 20 = .ok (.aload_n 1, 1) := by decide +kernel
theorem dX0_fewest_21 : decode cX0_fewest 21 = .ok (.aload_n 2, 1) := by decide +kernel
theorem dX0_fewest_22 : decode cX0_fewest 22 = .ok (.aload_n 3, 1) := by decide +kernel
theorem dX0_fewest_23 : decode cX0_fewest 23 = .ok (.invokevirtual 23, 3) := by decide +kernel
theorem dX0_fewest_26 : decode cX0_fewest 26 = .ok (.istore 6, 2) := by decide +kernel
theorem dX0_fewest_28 : decode cX0_fewest 28 = .ok (.iload 6, 2) := by decide +kernel
theorem dX0_fewest_30 : decode cX0_fewest 30 = .ok (.bipush (-4), 2) := by decide +kernel
theorem dX0_fewest_32 : decode cX0_fewest 32 = .ok (.if_icmp .eq 6, 3) := by decide +kernel
theorem dX0_fewest_35 : decode cX0_fewest 35 = .ok (.iload 6, 2) := by decide +kernel
theorem dX0_fewest_37 : decode cX0_fewest 37 = .ok (.ireturn, 1) := by decide +kernel
theorem dX0_fewest_38 : decode cX0_fewest 38 = .ok (.iinc 5 1, 3) := by decide +kernel
theorem dX0_fewest_41 : decode cX0_fewest 41 = .ok (.goto (-32), 3) := by decide +kernel
theorem dX0_fewest_44 : decode cX0_fewest 44 = .ok (.bipush (-4), 2) := by decide +kernel
theorem dX0_fewest_46 : decode cX0_fewest 46 = .ok (.ireturn, 1) := by decide +kernel
theorem dX0_singleRules_0 : decode cX0_singleRules 0 = .ok (.aload_n 0, 1) := by decide +kernel
theorem dX0_singleRules_1 : decode cX0_singleRules 1 = .ok (.iconst 0, 1) := by decide +kernel
theorem dX0_singleRules_2 : decode cX0_singleRules 2 = .ok (.putfield 15, 3) := by decide +kernel
theorem dX0_singleRules_5 : decode cX0_singleRules 5 = .ok (.iconst 0, 1) := by decide +kernel
theorem dX0_singleRules_6 : decode cX0_singleRules 6 = .ok (.istore 4, 2) := by decide +kernel
theorem dX0_singleRules_8 : decode cX0_singleRules 8 = .ok (.iload 4, 2) := by decide +kernel
theorem dX0_singleRules_10 : decode cX0_singleRules 10 = .ok (.aload_n 1, 1) := by decide +kernel
theorem dX0_singleRules_11 : decode cX0_singleRules 11 = .ok (.getfield 27, 3) := by decide +kernel
theorem dX0_singleRules_14 : decode cX0_singleRules 14 = .ok (.if_icmp .ge 17, 3) := by decide +kernel
theorem dX0_singleRules_17 : decode cX0_singleRules 17 = .ok (.aload_n 0, 1) := by decide +kernel
theorem dX0_singleRules_18 : decode cX0_singleRules 18 = .ok (.iconst 1, 1) := by decide +kernel
theorem dX0_singleRules_19 : decode cX0_singleRules 19 = .ok (.iload 4, 2) := by decide +kernel
theorem dX0_singleRules_21 : decode cX0_singleRules 21 = .ok (.ishl, 1) := by decide +kernel
theorem dX0_singleRules_22 : decode cX0_singleRules 22 = .ok (.invokevirtual 32, 3) := by decide +kernel
theorem dX0_singleRules_25 : decode cX0_singleRules 25 = .ok (.iinc 4 1, 3) := by decide +kernel
theorem dX0_singleRules_28 : decode cX0_singleRules 28 = .ok (.goto (-20), 3) := by decide +kernel
theorem dX0_singleRules_31 : decode cX0_singleRules 31 = .ok (.aload_n 0, 1) := by decide +kernel
theorem dX0_singleRules_32 : decode cX0_singleRules 32 = .ok (.aload_n 1, 1) := by decide +kernel
theorem dX0_singleRules_33 : decode cX0_singleRules 33 = .ok (.aload_n 2, 1) := by decide +kernel
theorem dX0_singleRules_34 : decode cX0_singleRules 34 = .ok (.aload_n 3, 1) := by decide +kernel
theorem dX0_singleRules_35 : decode cX0_singleRules 35 = .ok (.invokevirtual 36, 3) := by decide +kernel
theorem dX0_singleRules_38 : decode cX0_singleRules 38 = .ok (.l2i, 1) := by decide +kernel
theorem dX0_singleRules_39 : decode cX0_singleRules 39 = .ok (.ireturn, 1) := by decide +kernel
theorem dX0_agreeingRules_0 : decode cX0_agreeingRules 0 = .ok (.iconst 0, 1) := by decide +kernel
theorem dX0_agreeingRules_1 : decode cX0_agreeingRules 1 = .ok (.istore_n 1, 1) := by decide +kernel
theorem dX0_agreeingRules_2 : decode cX0_agreeingRules 2 = .ok (.iconst 0, 1) := by decide +kernel
theorem dX0_agreeingRules_3 : decode cX0_agreeingRules 3 = .ok (.istore_n 2, 1) := by decide +kernel
theorem dX0_agreeingRules_4 : decode cX0_agreeingRules 4 = .ok (.iload_n 2, 1) := by decide +kernel
theorem dX0_agreeingRules_5 : decode cX0_agreeingRules 5 = .ok (.aload_n 0, 1) := by decide +kernel
theorem dX0_agreeingRules_6 : decode cX0_agreeingRules 6 = .ok (.getfield 27, 3) := by decide +kernel
theorem dX0_agreeingRules_9 : decode cX0_agreeingRules 9 = .ok (.if_icmp .ge 24, 3) := by decide +kernel
theorem dX0_agreeingRules_12 : decode cX0_agreeingRules 12 = .ok (.aload_n 0, 1) := by decide +kernel
theorem dX0_agreeingRules_13 : decode cX0_agreeingRules 13 = .ok (.getfield 40, 3) := by decide +kernel
theorem dX0_agreeingRules_16 : decode cX0_agreeingRules 16 = .ok (.iload_n 2, 1) := by decide +kernel
theorem dX0_agreeingRules_17 : decode cX0_agreeingRules 17 = .ok (.baload, 1) := by decide +kernel
theorem dX0_agreeingRules_18 : decode cX0_agreeingRules 18 = .ok (.ifCond .eq 9, 3) := by decide +kernel
theorem dX0_agreeingRules_21 : decode cX0_agreeingRules 21 = .ok (.iload_n 1, 1) := by decide +kernel
theorem dX0_agreeingRules_22 : decode cX0_agreeingRules 22 = .ok (.iconst 1, 1) := by decide +kernel
theorem dX0_agreeingRules_23 : decode cX0_agreeingRules 23 = .ok (.iload_n 2, 1) := by decide +kernel
theorem dX0_agreeingRules_24 : decode cX0_agreeingRules 24 = .ok (.ishl, 1) := by decide +kernel
theorem dX0_agreeingRules_25 : decode cX0_agreeingRules 25 = .ok (.ior, 1) := by decide +kernel
theorem dX0_agreeingRules_26 : decode cX0_agreeingRules 26 = .ok (.istore_n 1, 1) := by decide +kernel
theorem dX0_agreeingRules_27 : decode cX0_agreeingRules 27 = .ok (.iinc 2 1, 3) := by decide +kernel
theorem dX0_agreeingRules_30 : decode cX0_agreeingRules 30 = .ok (.goto (-26), 3) := by decide +kernel
theorem dX0_agreeingRules_33 : decode cX0_agreeingRules 33 = .ok (.iload_n 1, 1) := by decide +kernel
theorem dX0_agreeingRules_34 : decode cX0_agreeingRules 34 = .ok (.ireturn, 1) := by decide +kernel
theorem dX0_fewestOf_0 : decode cX0_fewestOf 0 = .ok (.aload_n 0, 1) := by decide +kernel
theorem dX0_fewestOf_1 : decode cX0_fewestOf 1 = .ok (.iconst 0, 1) := by decide +kernel
theorem dX0_fewestOf_2 : decode cX0_fewestOf 2 = .ok (.putfield 15, 3) := by decide +kernel
theorem dX0_fewestOf_5 : decode cX0_fewestOf 5 = .ok (.iconst 1, 1) := by decide +kernel
theorem dX0_fewestOf_6 : decode cX0_fewestOf 6 = .ok (.iload_n 1, 1) := by decide +kernel
theorem dX0_fewestOf_7 : decode cX0_fewestOf 7 = .ok (.ishl, 1) := by decide +kernel
theorem dX0_fewestOf_8 : decode cX0_fewestOf 8 = .ok (.iconst 1, 1) := by decide +kernel
theorem dX0_fewestOf_9 : decode cX0_fewestOf 9 = .ok (.isub, 1) := by decide +kernel
theorem dX0_fewestOf_10 : decode cX0_fewestOf 10 = .ok (.istore 6, 2) := by decide +kernel
theorem dX0_fewestOf_12 : decode cX0_fewestOf 12 = .ok (.iconst 0, 1) := by decide +kernel
theorem dX0_fewestOf_13 : decode cX0_fewestOf 13 = .ok (.istore 7, 2) := by decide +kernel
theorem dX0_fewestOf_15 : decode cX0_fewestOf 15 = .ok (.iload 7, 2) := by decide +kernel
theorem dX0_fewestOf_17 : decode cX0_fewestOf 17 = .ok (.sipush 2024, 3) := by decide +kernel
theorem dX0_fewestOf_20 : decode cX0_fewestOf 20 = .ok (.if_icmp .ge 98, 3) := by decide +kernel
theorem dX0_fewestOf_23 : decode cX0_fewestOf 23 = .ok (.iload 6, 2) := by decide +kernel
theorem dX0_fewestOf_25 : decode cX0_fewestOf 25 = .ok (.iload_n 2, 1) := by decide +kernel
theorem dX0_fewestOf_26 : decode cX0_fewestOf 26 = .ok (.if_icmp .gt 92, 3) := by decide +kernel
theorem dX0_fewestOf_29 : decode cX0_fewestOf 29 = .ok (.iload 6, 2) := by decide +kernel
theorem dX0_fewestOf_31 : decode cX0_fewestOf 31 = .ok (.iload_n 2, 1) := by decide +kernel
theorem dX0_fewestOf_32 : decode cX0_fewestOf 32 = .ok (.iand, 1) := by decide +kernel
theorem dX0_fewestOf_33 : decode cX0_fewestOf 33 = .ok (.iload 6, 2) := by decide +kernel
theorem dX0_fewestOf_35 : decode cX0_fewestOf 35 = .ok (.if_icmp .ne 9, 3) := by decide +kernel
theorem dX0_fewestOf_38 : decode cX0_fewestOf 38 = .ok (.aload_n 0, 1) := by decide +kernel
theorem dX0_fewestOf_39 : decode cX0_fewestOf 39 = .ok (.iload 6, 2) := by decide +kernel
theorem dX0_fewestOf_41 : decode cX0_fewestOf 41 = .ok (.invokevirtual 32, 3) := by decide +kernel
theorem dX0_fewestOf_44 : decode cX0_fewestOf 44 = .ok (.iload 6, 2) := by decide +kernel
theorem dX0_fewestOf_46 : decode cX0_fewestOf 46 = .ok (.invokestatic 44, 3) := by decide +kernel
theorem dX0_fewestOf_49 : decode cX0_fewestOf 49 = .ok (.istore 6, 2) := by decide +kernel
theorem dX0_fewestOf_51 : decode cX0_fewestOf 51 = .ok (.aload_n 0, 1) := by decide +kernel
theorem dX0_fewestOf_52 : decode cX0_fewestOf 52 = .ok (.getfield 15, 3) := by decide +kernel
theorem dX0_fewestOf_55 : decode cX0_fewestOf 55 = .ok (.bipush 64, 2) := by decide +kernel
theorem dX0_fewestOf_57 : decode cX0_fewestOf 57 = .ok (.if_icmp .eq 9, 3) := by decide +kernel
theorem dX0_fewestOf_60 : decode cX0_fewestOf 60 = .ok (.iload 6, 2) := by decide +kernel
theorem dX0_fewestOf_62 : decode cX0_fewestOf 62 = .ok (.iload_n 2, 1) := by decide +kernel
theorem dX0_fewestOf_63 : decode cX0_fewestOf 63 = .ok (.if_icmp .le 49, 3) := by decide +kernel
theorem dX0_fewestOf_66 : decode cX0_fewestOf 66 = .ok (.aload_n 0, 1) := by decide +kernel
theorem dX0_fewestOf_67 : decode cX0_fewestOf 67 = .ok (.aload_n 3, 1) := by decide +kernel
theorem dX0_fewestOf_68 : decode cX0_fewestOf 68 = .ok (.aload 4, 2) := by decide +kernel
theorem dX0_fewestOf_70 : decode cX0_fewestOf 70 = .ok (.aload 5, 2) := by decide +kernel
theorem dX0_fewestOf_72 : decode cX0_fewestOf 72 = .ok (.invokevirtual 36, 3) := by decide +kernel
theorem dX0_fewestOf_75 : decode cX0_fewestOf 75 = .ok (.lstore 8, 2) := by decide +kernel
theorem dX0_fewestOf_77 : decode cX0_fewestOf 77 = .ok (.lload 8, 2) := by decide +kernel
theorem dX0_fewestOf_79 : decode cX0_fewestOf 79 = .ok (.lload 8, 2) := by decide +kernel
theorem dX0_fewestOf_81 : decode cX0_fewestOf 81 = .ok (.lneg, 1) := by decide +kernel
theorem dX0_fewestOf_82 : decode cX0_fewestOf 82 = .ok (.land, 1) := by decide +kernel
theorem dX0_fewestOf_83 : decode cX0_fewestOf 83 = .ok (.lconst 1, 1) := by decide +kernel
theorem dX0_fewestOf_84 : decode cX0_fewestOf 84 = .ok (.lsub, 1) := by decide +kernel
theorem dX0_fewestOf_85 : decode cX0_fewestOf 85 = .ok (.invokestatic 48, 3) := by decide +kernel
theorem dX0_fewestOf_88 : decode cX0_fewestOf 88 = .ok (.istore 10, 2) := by decide +kernel
theorem dX0_fewestOf_90 : decode cX0_fewestOf 90 = .ok (.iload 10, 2) := by decide +kernel
theorem dX0_fewestOf_92 : decode cX0_fewestOf 92 = .ok (.aload_n 0, 1) := by decide +kernel
theorem dX0_fewestOf_93 : decode cX0_fewestOf 93 = .ok (.getfield 15, 3) := by decide +kernel
theorem dX0_fewestOf_96 : decode cX0_fewestOf 96 = .ok (.if_icmp .ge 11, 3) := by decide +kernel
theorem dX0_fewestOf_99 : decode cX0_fewestOf 99 = .ok (.aload_n 0, 1) := by decide +kernel
theorem dX0_fewestOf_100 : decode cX0_fewestOf 100 = .ok (.getfield 9, 3) := by decide +kernel
theorem dX0_fewestOf_103 : decode cX0_fewestOf 103 = .ok (.iload 10, 2) := by decide +kernel
theorem dX0_fewestOf_105 : decode cX0_fewestOf 105 = .ok (.iaload, 1) := by decide +kernel
theorem dX0_fewestOf_106 : decode cX0_fewestOf 106 = .ok (.ireturn, 1) := by decide +kernel
theorem dX0_fewestOf_107 : decode cX0_fewestOf 107 = .ok (.aload_n 0, 1) := by decide +kernel
theorem dX0_fewestOf_108 : decode cX0_fewestOf 108 = .ok (.iconst 0, 1) := by decide +kernel
theorem dX0_fewestOf_109 : decode cX0_fewestOf 109 = .ok (.putfield 15, 3) := by decide +kernel
theorem dX0_fewestOf_112 : decode cX0_fewestOf 112 = .ok (.iinc 7 1, 3) := by decide +kernel
theorem dX0_fewestOf_115 : decode cX0_fewestOf 115 = .ok (.goto (-100), 3) := by decide +kernel
theorem dX0_fewestOf_118 : decode cX0_fewestOf 118 = .ok (.bipush (-4), 2) := by decide +kernel
theorem dX0_fewestOf_120 : decode cX0_fewestOf 120 = .ok (.ireturn, 1) := by decide +kernel
theorem dX0_addSet_0 : decode cX0_addSet 0 = .ok (.aload_n 0, 1) := by decide +kernel
theorem dX0_addSet_1 : decode cX0_addSet 1 = .ok (.getfield 15, 3) := by decide +kernel
theorem dX0_addSet_4 : decode cX0_addSet 4 = .ok (.bipush 64, 2) := by decide +kernel
theorem dX0_addSet_6 : decode cX0_addSet 6 = .ok (.if_icmp .ge 23, 3) := by decide +kernel
theorem dX0_addSet_9 : decode cX0_addSet 9 = .ok (.aload_n 0, 1) := by decide +kernel
theorem dX0_addSet_10 : decode cX0_addSet 10 = .ok (.getfield 9, 3) := by decide +kernel
theorem dX0_addSet_13 : decode cX0_addSet 13 = .ok (.aload_n 0, 1) := by decide +kernel
theorem dX0_addSet_14 : decode cX0_addSet 14 = .ok (.getfield 15, 3) := by decide +kernel
theorem dX0_addSet_17 : decode cX0_addSet 17 = .ok (.iload_n 1, 1) := by decide +kernel
theorem dX0_addSet_18 : decode cX0_addSet 18 = .ok (.iastore, 1) := by decide +kernel
theorem dX0_addSet_19 : decode cX0_addSet 19 = .ok (.aload_n 0, 1) := by decide +kernel
theorem dX0_addSet_20 : decode cX0_addSet 20 = .ok (.dup, 1) := by decide +kernel
theorem dX0_addSet_21 : decode cX0_addSet 21 = .ok (.getfield 15, 3) := by decide +kernel
theorem dX0_addSet_24 : decode cX0_addSet 24 = .ok (.iconst 1, 1) := by decide +kernel
theorem dX0_addSet_25 : decode cX0_addSet 25 = .ok (.iadd, 1) := by decide +kernel
theorem dX0_addSet_26 : decode cX0_addSet 26 = .ok (.putfield 15, 3) := by decide +kernel
theorem dX0_addSet_29 : decode cX0_addSet 29 = .ok (.return_, 1) := by decide +kernel
theorem dX0_nextSet_0 : decode cX0_nextSet 0 = .ok (.iload_n 0, 1) := by decide +kernel
theorem dX0_nextSet_1 : decode cX0_nextSet 1 = .ok (.iload_n 0, 1) := by decide +kernel
theorem dX0_nextSet_2 : decode cX0_nextSet 2 = .ok (.ineg, 1) := by decide +kernel
theorem dX0_nextSet_3 : decode cX0_nextSet 3 = .ok (.iand, 1) := by decide +kernel
theorem dX0_nextSet_4 : decode cX0_nextSet 4 = .ok (.istore_n 1, 1) := by decide +kernel
theorem dX0_nextSet_5 : decode cX0_nextSet 5 = .ok (.iload_n 0, 1) := by decide +kernel
theorem dX0_nextSet_6 : decode cX0_nextSet 6 = .ok (.iload_n 1, 1) := by decide +kernel
theorem dX0_nextSet_7 : decode cX0_nextSet 7 = .ok (.iadd, 1) := by decide +kernel
theorem dX0_nextSet_8 : decode cX0_nextSet 8 = .ok (.istore_n 2, 1) := by decide +kernel
theorem dX0_nextSet_9 : decode cX0_nextSet 9 = .ok (.iload_n 2, 1) := by decide +kernel
theorem dX0_nextSet_10 : decode cX0_nextSet 10 = .ok (.iload_n 0, 1) := by decide +kernel
theorem dX0_nextSet_11 : decode cX0_nextSet 11 = .ok (.iload_n 2, 1) := by decide +kernel
theorem dX0_nextSet_12 : decode cX0_nextSet 12 = .ok (.ixor, 1) := by decide +kernel
theorem dX0_nextSet_13 : decode cX0_nextSet 13 = .ok (.iconst 2, 1) := by decide +kernel
theorem dX0_nextSet_14 : decode cX0_nextSet 14 = .ok (.iload_n 1, 1) := by decide +kernel
theorem dX0_nextSet_15 : decode cX0_nextSet 15 = .ok (.iconst 1, 1) := by decide +kernel
theorem dX0_nextSet_16 : decode cX0_nextSet 16 = .ok (.isub, 1) := by decide +kernel
theorem dX0_nextSet_17 : decode cX0_nextSet 17 = .ok (.invokestatic 54, 3) := by decide +kernel
theorem dX0_nextSet_20 : decode cX0_nextSet 20 = .ok (.iadd, 1) := by decide +kernel
theorem dX0_nextSet_21 : decode cX0_nextSet 21 = .ok (.iushr, 1) := by decide +kernel
theorem dX0_nextSet_22 : decode cX0_nextSet 22 = .ok (.ior, 1) := by decide +kernel
theorem dX0_nextSet_23 : decode cX0_nextSet 23 = .ok (.ireturn, 1) := by decide +kernel
theorem dX0_freeingLanes_0 : decode cX0_freeingLanes 0 = .ok (.aload_n 3, 1) := by decide +kernel
theorem dX0_freeingLanes_1 : decode cX0_freeingLanes 1 = .ok (.invokevirtual 58, 3) := by decide +kernel
theorem dX0_freeingLanes_4 : decode cX0_freeingLanes 4 = .ok (.iconst 0, 1) := by decide +kernel
theorem dX0_freeingLanes_5 : decode cX0_freeingLanes 5 = .ok (.istore 4, 2) := by decide +kernel
theorem dX0_freeingLanes_7 : decode cX0_freeingLanes 7 = .ok (.iload 4, 2) := by decide +kernel
theorem dX0_freeingLanes_9 : decode cX0_freeingLanes 9 = .ok (.aload_n 0, 1) := by decide +kernel
theorem dX0_freeingLanes_10 : decode cX0_freeingLanes 10 = .ok (.getfield 15, 3) := by decide +kernel
theorem dX0_freeingLanes_13 : decode cX0_freeingLanes 13 = .ok (.if_icmp .ge 62, 3) := by decide +kernel
theorem dX0_freeingLanes_16 : decode cX0_freeingLanes 16 = .ok (.aload_n 3, 1) := by decide +kernel
theorem dX0_freeingLanes_17 : decode cX0_freeingLanes 17 = .ok (.aload_n 1, 1) := by decide +kernel
theorem dX0_freeingLanes_18 : decode cX0_freeingLanes 18 = .ok (.aload_n 2, 1) := by decide +kernel
theorem dX0_freeingLanes_19 : decode cX0_freeingLanes 19 = .ok (.lconst 1, 1) := by decide +kernel
theorem dX0_freeingLanes_20 : decode cX0_freeingLanes 20 = .ok (.iload 4, 2) := by decide +kernel
theorem dX0_freeingLanes_22 : decode cX0_freeingLanes 22 = .ok (.lshl, 1) := by decide +kernel
theorem dX0_freeingLanes_23 : decode cX0_freeingLanes 23 = .ok (.invokevirtual 63, 3) := by decide +kernel
theorem dX0_freeingLanes_26 : decode cX0_freeingLanes 26 = .ok (.iconst 0, 1) := by decide +kernel
theorem dX0_freeingLanes_27 : decode cX0_freeingLanes 27 = .ok (.istore 5, 2) := by decide +kernel
theorem dX0_freeingLanes_29 : decode cX0_freeingLanes 29 = .ok (.iload 5, 2) := by decide +kernel
theorem dX0_freeingLanes_31 : decode cX0_freeingLanes 31 = .ok (.aload_n 1, 1) := by decide +kernel
theorem dX0_freeingLanes_32 : decode cX0_freeingLanes 32 = .ok (.getfield 27, 3) := by decide +kernel
theorem dX0_freeingLanes_35 : decode cX0_freeingLanes 35 = .ok (.if_icmp .ge 34, 3) := by decide +kernel
theorem dX0_freeingLanes_38 : decode cX0_freeingLanes 38 = .ok (.aload_n 0, 1) := by decide +kernel
theorem dX0_freeingLanes_39 : decode cX0_freeingLanes 39 = .ok (.getfield 9, 3) := by decide +kernel
theorem dX0_freeingLanes_42 : decode cX0_freeingLanes 42 = .ok (.iload 4, 2) := by decide +kernel
theorem dX0_freeingLanes_44 : decode cX0_freeingLanes 44 = .ok (.iaload, 1) := by decide +kernel
theorem dX0_freeingLanes_45 : decode cX0_freeingLanes 45 = .ok (.iload 5, 2) := by decide +kernel
theorem dX0_freeingLanes_47 : decode cX0_freeingLanes 47 = .ok (.invokestatic 67, 3) := by decide +kernel
theorem dX0_freeingLanes_50 : decode cX0_freeingLanes 50 = .ok (.ifCond .eq 13, 3) := by decide +kernel
theorem dX0_freeingLanes_53 : decode cX0_freeingLanes 53 = .ok (.aload_n 3, 1) := by decide +kernel
theorem dX0_freeingLanes_54 : decode cX0_freeingLanes 54 = .ok (.iload 5, 2) := by decide +kernel
theorem dX0_freeingLanes_56 : decode cX0_freeingLanes 56 = .ok (.lconst 1, 1) := by decide +kernel
theorem dX0_freeingLanes_57 : decode cX0_freeingLanes 57 = .ok (.iload 4, 2) := by decide +kernel
theorem dX0_freeingLanes_59 : decode cX0_freeingLanes 59 = .ok (.lshl, 1) := by decide +kernel
theorem dX0_freeingLanes_60 : decode cX0_freeingLanes 60 = .ok (.invokevirtual 71, 3) := by decide +kernel
theorem dX0_freeingLanes_63 : decode cX0_freeingLanes 63 = .ok (.iinc 5 1, 3) := by decide +kernel
theorem dX0_freeingLanes_66 : decode cX0_freeingLanes 66 = .ok (.goto (-37), 3) := by decide +kernel
theorem dX0_freeingLanes_69 : decode cX0_freeingLanes 69 = .ok (.iinc 4 1, 3) := by decide +kernel
theorem dX0_freeingLanes_72 : decode cX0_freeingLanes 72 = .ok (.goto (-65), 3) := by decide +kernel
theorem dX0_freeingLanes_75 : decode cX0_freeingLanes 75 = .ok (.aload_n 3, 1) := by decide +kernel
theorem dX0_freeingLanes_76 : decode cX0_freeingLanes 76 = .ok (.aload_n 1, 1) := by decide +kernel
theorem dX0_freeingLanes_77 : decode cX0_freeingLanes 77 = .ok (.aload_n 2, 1) := by decide +kernel
theorem dX0_freeingLanes_78 : decode cX0_freeingLanes 78 = .ok (.getfield 75, 3) := by decide +kernel
theorem dX0_freeingLanes_81 : decode cX0_freeingLanes 81 = .ok (.invokevirtual 78, 3) := by decide +kernel
theorem dX0_freeingLanes_84 : decode cX0_freeingLanes 84 = .ok (.aload_n 3, 1) := by decide +kernel
theorem dX0_freeingLanes_85 : decode cX0_freeingLanes 85 = .ok (.aload_n 2, 1) := by decide +kernel
theorem dX0_freeingLanes_86 : decode cX0_freeingLanes 86 = .ok (.getfield 75, 3) := by decide +kernel
theorem dX0_freeingLanes_89 : decode cX0_freeingLanes 89 = .ok (.invokevirtual 82, 3) := by decide +kernel
theorem dX0_freeingLanes_92 : decode cX0_freeingLanes 92 = .ok (.lreturn, 1) := by decide +kernel
theorem dX1_init_0 : decode cX1_init 0 = .ok (.aload_n 0, 1) := by decide +kernel
theorem dX1_init_1 : decode cX1_init 1 = .ok (.invokespecial 3, 3) := by decide +kernel
theorem dX1_init_4 : decode cX1_init 4 = .ok (.aload_n 0, 1) := by decide +kernel
theorem dX1_init_5 : decode cX1_init 5 = .ok (.bipush 16, 2) := by decide +kernel
theorem dX1_init_7 : decode cX1_init 7 = .ok (.newarray .int, 2) := by decide +kernel
theorem dX1_init_9 : decode cX1_init 9 = .ok (.putfield 9, 3) := by decide +kernel
theorem dX1_init_12 : decode cX1_init 12 = .ok (.aload_n 0, 1) := by decide +kernel
theorem dX1_init_13 : decode cX1_init 13 = .ok (.bipush 16, 2) := by decide +kernel
theorem dX1_init_15 : decode cX1_init 15 = .ok (.newarray .int, 2) := by decide +kernel
theorem dX1_init_17 : decode cX1_init 17 = .ok (.putfield 15, 3) := by decide +kernel
theorem dX1_init_20 : decode cX1_init 20 = .ok (.aload_n 0, 1) := by decide +kernel
theorem dX1_init_21 : decode cX1_init 21 = .ok (.bipush 16, 2) := by decide +kernel
theorem dX1_init_23 : decode cX1_init 23 = .ok (.newarray .int, 2) := by decide +kernel
theorem dX1_init_25 : decode cX1_init 25 = .ok (.putfield 18, 3) := by decide +kernel
theorem dX1_init_28 : decode cX1_init 28 = .ok (.aload_n 0, 1) := by decide +kernel
theorem dX1_init_29 : decode cX1_init 29 = .ok (.bipush 16, 2) := by decide +kernel
theorem dX1_init_31 : decode cX1_init 31 = .ok (.newarray .int, 2) := by decide +kernel
theorem dX1_init_33 : decode cX1_init 33 = .ok (.putfield 21, 3) := by decide +kernel
theorem dX1_init_36 : decode cX1_init 36 = .ok (.aload_n 0, 1) := by decide +kernel
theorem dX1_init_37 : decode cX1_init 37 = .ok (.iconst 0, 1) := by decide +kernel
theorem dX1_init_38 : decode cX1_init 38 = .ok (.putfield 24, 3) := by decide +kernel
theorem dX1_init_41 : decode cX1_init 41 = .ok (.aload_n 0, 1) := by decide +kernel
theorem dX1_init_42 : decode cX1_init 42 = .ok (.bipush 24, 2) := by decide +kernel
theorem dX1_init_44 : decode cX1_init 44 = .ok (.newarray .int, 2) := by decide +kernel
theorem dX1_init_46 : decode cX1_init 46 = .ok (.putfield 28, 3) := by decide +kernel
theorem dX1_init_49 : decode cX1_init 49 = .ok (.aload_n 0, 1) := by decide +kernel
theorem dX1_init_50 : decode cX1_init 50 = .ok (.bipush 24, 2) := by decide +kernel
theorem dX1_init_52 : decode cX1_init 52 = .ok (.newarray .int, 2) := by decide +kernel
theorem dX1_init_54 : decode cX1_init 54 = .ok (.putfield 31, 3) := by decide +kernel
theorem dX1_init_57 : decode cX1_init 57 = .ok (.aload_n 0, 1) := by decide +kernel
theorem dX1_init_58 : decode cX1_init 58 = .ok (.bipush 24, 2) := by decide +kernel
theorem dX1_init_60 : decode cX1_init 60 = .ok (.newarray .int, 2) := by decide +kernel
theorem dX1_init_62 : decode cX1_init 62 = .ok (.putfield 34, 3) := by decide +kernel
theorem dX1_init_65 : decode cX1_init 65 = .ok (.aload_n 0, 1) := by decide +kernel
theorem dX1_init_66 : decode cX1_init 66 = .ok (.bipush 24, 2) := by decide +kernel
theorem dX1_init_68 : decode cX1_init 68 = .ok (.newarray .boolean, 2) := by decide +kernel
theorem dX1_init_70 : decode cX1_init 70 = .ok (.putfield 37, 3) := by decide +kernel
theorem dX1_init_73 : decode cX1_init 73 = .ok (.aload_n 0, 1) := by decide +kernel
theorem dX1_init_74 : decode cX1_init 74 = .ok (.bipush 24, 2) := by decide +kernel
theorem dX1_init_76 : decode cX1_init 76 = .ok (.newarray .boolean, 2) := by decide +kernel
theorem dX1_init_78 : decode cX1_init 78 = .ok (.putfield 41, 3) := by decide +kernel
theorem dX1_init_81 : decode cX1_init 81 = .ok (.aload_n 0, 1) := by decide +kernel
theorem dX1_init_82 : decode cX1_init 82 = .ok (.iconst 0, 1) := by decide +kernel
theorem dX1_init_83 : decode cX1_init 83 = .ok (.putfield 44, 3) := by decide +kernel
theorem dX1_init_86 : decode cX1_init 86 = .ok (.aload_n 0, 1) := by decide +kernel
theorem dX1_init_87 : decode cX1_init 87 = .ok (.getstatic 47, 3) := by decide +kernel
theorem dX1_init_90 : decode cX1_init 90 = .ok (.invokevirtual 50, 3) := by decide +kernel
theorem dX1_init_93 : decode cX1_init 93 = .ok (.checkcast 51, 3) := by decide +kernel
theorem dX1_init_96 : decode cX1_init 96 = .ok (.putfield 55, 3) := by decide +kernel
theorem dX1_init_99 : decode cX1_init 99 = .ok (.return_, 1) := by decide +kernel
theorem dX1_restart_0 : decode cX1_restart 0 = .ok (.aload_n 0, 1) := by decide +kernel
theorem dX1_restart_1 : decode cX1_restart 1 = .ok (.iconst 0, 1) := by decide +kernel
theorem dX1_restart_2 : decode cX1_restart 2 = .ok (.putfield 24, 3) := by decide +kernel
theorem dX1_restart_5 : decode cX1_restart 5 = .ok (.aload_n 0, 1) := by decide +kernel
theorem dX1_restart_6 : decode cX1_restart 6 = .ok (.iconst 0, 1) := by decide +kernel
theorem dX1_restart_7 : decode cX1_restart 7 = .ok (.putfield 44, 3) := by decide +kernel
theorem dX1_restart_10 : decode cX1_restart 10 = .ok (.getstatic 47, 3) := by decide +kernel
theorem dX1_restart_13 : decode cX1_restart 13 = .ok (.iconst 0, 1) := by decide +kernel
theorem dX1_restart_14 : decode cX1_restart 14 = .ok (.aload_n 0, 1) := by decide +kernel
theorem dX1_restart_15 : decode cX1_restart 15 = .ok (.getfield 55, 3) := by decide +kernel
theorem dX1_restart_18 : decode cX1_restart 18 = .ok (.iconst 0, 1) := by decide +kernel
theorem dX1_restart_19 : decode cX1_restart 19 = .ok (.iconst 5, 1) := by decide +kernel
theorem dX1_restart_20 : decode cX1_restart 20 = .ok (.invokestatic 58, 3) := by decide +kernel
theorem dX1_restart_23 : decode cX1_restart 23 = .ok (.return_, 1) := by decide +kernel
theorem dX1_takeItem_0 : decode cX1_takeItem 0 = .ok (.iload_n 1, 1) := by decide +kernel
theorem dX1_takeItem_1 : decode cX1_takeItem 1 = .ok (.lookupswitch 128 #[(112, 103), (114, 69), (119, 35)], 35) := by decide +kernel
theorem dX1_takeItem_36 : decode cX1_takeItem 36 = .ok (.aload_n 0, 1) := by decide +kernel
theorem dX1_takeItem_37 : decode cX1_takeItem 37 = .ok (.getfield 24, 3) := by decide +kernel
theorem dX1_takeItem_40 : decode cX1_takeItem 40 = .ok (.bipush 16, 2) := by decide +kernel
theorem dX1_takeItem_42 : decode cX1_takeItem 42 = .ok (.if_icmp .ge 26, 3) := by decide +kernel
theorem dX1_takeItem_45 : decode cX1_takeItem 45 = .ok (.aload_n 2, 1) := by decide +kernel
theorem dX1_takeItem_46 : decode cX1_takeItem 46 = .ok (.iload_n 3, 1) := by decide +kernel
theorem dX1_takeItem_47 : decode cX1_takeItem 47 = .ok (.getstatic 64, 3) := by decide +kernel
theorem dX1_takeItem_50 : decode cX1_takeItem 50 = .ok (.invokestatic 67, 3) := by decide +kernel
theorem dX1_takeItem_53 : decode cX1_takeItem 53 = .ok (.ifCond .eq 15, 3) := by decide +kernel
theorem dX1_takeItem_56 : decode cX1_takeItem 56 = .ok (.aload_n 0, 1) := by decide +kernel
theorem dX1_takeItem_57 : decode cX1_takeItem 57 = .ok (.aload_n 2, 1) := by decide +kernel
theorem dX1_takeItem_58 : decode cX1_takeItem 58 = .ok (.invokevirtual 71, 3) := by decide +kernel
theorem dX1_takeItem_61 : decode cX1_takeItem 61 = .ok (.ifCond .eq 7, 3) := by decide +kernel
theorem dX1_takeItem_64 : decode cX1_takeItem 64 = .ok (.iconst 1, 1) := by decide +kernel
theorem dX1_takeItem_65 : decode cX1_takeItem 65 = .ok (.goto 4, 3) := by decide +kernel
theorem dX1_takeItem_68 : decode cX1_takeItem 68 = .ok (.iconst 0, 1) := by decide +kernel
theorem dX1_takeItem_69 : decode cX1_takeItem 69 = .ok (.ireturn, 1) := by decide +kernel
theorem dX1_takeItem_70 : decode cX1_takeItem 70 = .ok (.aload_n 0, 1) := by decide +kernel
theorem dX1_takeItem_71 : decode cX1_takeItem 71 = .ok (.getfield 44, 3) := by decide +kernel
theorem dX1_takeItem_74 : decode cX1_takeItem 74 = .ok (.bipush 24, 2) := by decide +kernel
theorem dX1_takeItem_76 : decode cX1_takeItem 76 = .ok (.if_icmp .ge 26, 3) := by decide +kernel
theorem dX1_takeItem_79 : decode cX1_takeItem 79 = .ok (.aload_n 2, 1) := by decide +kernel
theorem dX1_takeItem_80 : decode cX1_takeItem 80 = .ok (.iload_n 3, 1) := by decide +kernel
theorem dX1_takeItem_81 : decode cX1_takeItem 81 = .ok (.getstatic 75, 3) := by decide +kernel
theorem dX1_takeItem_84 : decode cX1_takeItem 84 = .ok (.invokestatic 67, 3) := by decide +kernel
theorem dX1_takeItem_87 : decode cX1_takeItem 87 = .ok (.ifCond .eq 15, 3) := by decide +kernel
theorem dX1_takeItem_90 : decode cX1_takeItem 90 = .ok (.aload_n 0, 1) := by decide +kernel
theorem dX1_takeItem_91 : decode cX1_takeItem 91 = .ok (.aload_n 2, 1) := by decide +kernel
theorem dX1_takeItem_92 : decode cX1_takeItem 92 = .ok (.invokevirtual 78, 3) := by decide +kernel
theorem dX1_takeItem_95 : decode cX1_takeItem 95 = .ok (.ifCond .eq 7, 3) := by decide +kernel
theorem dX1_takeItem_98 : decode cX1_takeItem 98 = .ok (.iconst 1, 1) := by decide +kernel
theorem dX1_takeItem_99 : decode cX1_takeItem 99 = .ok (.goto 4, 3) := by decide +kernel
theorem dX1_takeItem_102 : decode cX1_takeItem 102 = .ok (.iconst 0, 1) := by decide +kernel
theorem dX1_takeItem_103 : decode cX1_takeItem 103 = .ok (.ireturn, 1) := by decide +kernel
theorem dX1_takeItem_104 : decode cX1_takeItem 104 = .ok (.aload_n 2, 1) := by decide +kernel
theorem dX1_takeItem_105 : decode cX1_takeItem 105 = .ok (.iload_n 3, 1) := by decide +kernel
theorem dX1_takeItem_106 : decode cX1_takeItem 106 = .ok (.getstatic 81, 3) := by decide +kernel
theorem dX1_takeItem_109 : decode cX1_takeItem 109 = .ok (.invokestatic 67, 3) := by decide +kernel
theorem dX1_takeItem_112 : decode cX1_takeItem 112 = .ok (.ifCond .eq 15, 3) := by decide +kernel
theorem dX1_takeItem_115 : decode cX1_takeItem 115 = .ok (.aload_n 0, 1) := by decide +kernel
theorem dX1_takeItem_116 : decode cX1_takeItem 116 = .ok (.aload_n 2, 1) := by decide +kernel
theorem dX1_takeItem_117 : decode cX1_takeItem 117 = .ok (.invokevirtual 84, 3) := by decide +kernel
theorem dX1_takeItem_120 : decode cX1_takeItem 120 = .ok (.ifCond .eq 7, 3) := by decide +kernel
theorem dX1_takeItem_123 : decode cX1_takeItem 123 = .ok (.iconst 1, 1) := by decide +kernel
theorem dX1_takeItem_124 : decode cX1_takeItem 124 = .ok (.goto 4, 3) := by decide +kernel
theorem dX1_takeItem_127 : decode cX1_takeItem 127 = .ok (.iconst 0, 1) := by decide +kernel
theorem dX1_takeItem_128 : decode cX1_takeItem 128 = .ok (.ireturn, 1) := by decide +kernel
theorem dX1_takeItem_129 : decode cX1_takeItem 129 = .ok (.iconst 0, 1) := by decide +kernel
theorem dX1_takeItem_130 : decode cX1_takeItem 130 = .ok (.ireturn, 1) := by decide +kernel
theorem dX1_areWithin_0 : decode cX1_areWithin 0 = .ok (.iload_n 1, 1) := by decide +kernel
theorem dX1_areWithin_1 : decode cX1_areWithin 1 = .ok (.aload_n 2, 1) := by decide +kernel
theorem dX1_areWithin_2 : decode cX1_areWithin 2 = .ok (.arraylength, 1) := by decide +kernel
theorem dX1_areWithin_3 : decode cX1_areWithin 3 = .ok (.if_icmp .eq 5, 3) := by decide +kernel
theorem dX1_areWithin_6 : decode cX1_areWithin 6 = .ok (.iconst 0, 1) := by decide +kernel
theorem dX1_areWithin_7 : decode cX1_areWithin 7 = .ok (.ireturn, 1) := by decide +kernel
theorem dX1_areWithin_8 : decode cX1_areWithin 8 = .ok (.iconst 0, 1) := by decide +kernel
theorem dX1_areWithin_9 : decode cX1_areWithin 9 = .ok (.istore_n 3, 1) := by decide +kernel
theorem dX1_areWithin_10 : decode cX1_areWithin 10 = .ok (.iload_n 3, 1) := by decide +kernel
theorem dX1_areWithin_11 : decode cX1_areWithin 11 = .ok (.iload_n 1, 1) := by decide +kernel
theorem dX1_areWithin_12 : decode cX1_areWithin 12 = .ok (.if_icmp .ge 20, 3) := by decide +kernel
theorem dX1_areWithin_15 : decode cX1_areWithin 15 = .ok (.aload_n 0, 1) := by decide +kernel
theorem dX1_areWithin_16 : decode cX1_areWithin 16 = .ok (.iload_n 3, 1) := by decide +kernel
theorem dX1_areWithin_17 : decode cX1_areWithin 17 = .ok (.iaload, 1) := by decide +kernel
theorem dX1_areWithin_18 : decode cX1_areWithin 18 = .ok (.aload_n 2, 1) := by decide +kernel
theorem dX1_areWithin_19 : decode cX1_areWithin 19 = .ok (.iload_n 3, 1) := by decide +kernel
theorem dX1_areWithin_20 : decode cX1_areWithin 20 = .ok (.iaload, 1) := by decide +kernel
theorem dX1_areWithin_21 : decode cX1_areWithin 21 = .ok (.if_icmp .le 5, 3) := by decide +kernel
theorem dX1_areWithin_24 : decode cX1_areWithin 24 = .ok (.iconst 0, 1) := by decide +kernel
theorem dX1_areWithin_25 : decode cX1_areWithin 25 = .ok (.ireturn, 1) := by decide +kernel
theorem dX1_areWithin_26 : decode cX1_areWithin 26 = .ok (.iinc 3 1, 3) := by decide +kernel
theorem dX1_areWithin_29 : decode cX1_areWithin 29 = .ok (.goto (-19), 3) := by decide +kernel
theorem dX1_areWithin_32 : decode cX1_areWithin 32 = .ok (.iconst 1, 1) := by decide +kernel
theorem dX1_areWithin_33 : decode cX1_areWithin 33 = .ok (.ireturn, 1) := by decide +kernel
theorem dX1_addWord_0 : decode cX1_addWord 0 = .ok (.aload_n 0, 1) := by decide +kernel
theorem dX1_addWord_1 : decode cX1_addWord 1 = .ok (.getfield 9, 3) := by decide +kernel
theorem dX1_addWord_4 : decode cX1_addWord 4 = .ok (.aload_n 0, 1) := by decide +kernel
theorem dX1_addWord_5 : decode cX1_addWord 5 = .ok (.getfield 24, 3) := by decide +kernel
theorem dX1_addWord_8 : decode cX1_addWord 8 = .ok (.aload_n 1, 1) := by decide +kernel
theorem dX1_addWord_9 : decode cX1_addWord 9 = .ok (.iconst 0, 1) := by decide +kernel
theorem dX1_addWord_10 : decode cX1_addWord 10 = .ok (.iaload, 1) := by decide +kernel
theorem dX1_addWord_11 : decode cX1_addWord 11 = .ok (.iastore, 1) := by decide +kernel
theorem dX1_addWord_12 : decode cX1_addWord 12 = .ok (.aload_n 0, 1) := by decide +kernel
theorem dX1_addWord_13 : decode cX1_addWord 13 = .ok (.getfield 15, 3) := by decide +kernel
theorem dX1_addWord_16 : decode cX1_addWord 16 = .ok (.aload_n 0, 1) := by decide +kernel
theorem dX1_addWord_17 : decode cX1_addWord 17 = .ok (.getfield 24, 3) := by decide +kernel
theorem dX1_addWord_20 : decode cX1_addWord 20 = .ok (.aload_n 1, 1) := by decide +kernel
theorem dX1_addWord_21 : decode cX1_addWord 21 = .ok (.iconst 1, 1) := by decide +kernel
theorem dX1_addWord_22 : decode cX1_addWord 22 = .ok (.iaload, 1) := by decide +kernel
theorem dX1_addWord_23 : decode cX1_addWord 23 = .ok (.iastore, 1) := by decide +kernel
theorem dX1_addWord_24 : decode cX1_addWord 24 = .ok (.aload_n 0, 1) := by decide +kernel
theorem dX1_addWord_25 : decode cX1_addWord 25 = .ok (.getfield 18, 3) := by decide +kernel
theorem dX1_addWord_28 : decode cX1_addWord 28 = .ok (.aload_n 0, 1) := by decide +kernel
theorem dX1_addWord_29 : decode cX1_addWord 29 = .ok (.getfield 24, 3) := by decide +kernel
theorem dX1_addWord_32 : decode cX1_addWord 32 = .ok (.aload_n 1, 1) := by decide +kernel
theorem dX1_addWord_33 : decode cX1_addWord 33 = .ok (.iconst 2, 1) := by decide +kernel
theorem dX1_addWord_34 : decode cX1_addWord 34 = .ok (.iaload, 1) := by decide +kernel
theorem dX1_addWord_35 : decode cX1_addWord 35 = .ok (.iastore, 1) := by decide +kernel
theorem dX1_addWord_36 : decode cX1_addWord 36 = .ok (.aload_n 0, 1) := by decide +kernel
theorem dX1_addWord_37 : decode cX1_addWord 37 = .ok (.getfield 21, 3) := by decide +kernel
theorem dX1_addWord_40 : decode cX1_addWord 40 = .ok (.aload_n 0, 1) := by decide +kernel
theorem dX1_addWord_41 : decode cX1_addWord 41 = .ok (.getfield 24, 3) := by decide +kernel
theorem dX1_addWord_44 : decode cX1_addWord 44 = .ok (.aload_n 1, 1) := by decide +kernel
theorem dX1_addWord_45 : decode cX1_addWord 45 = .ok (.iconst 3, 1) := by decide +kernel
theorem dX1_addWord_46 : decode cX1_addWord 46 = .ok (.iaload, 1) := by decide +kernel
theorem dX1_addWord_47 : decode cX1_addWord 47 = .ok (.iastore, 1) := by decide +kernel
theorem dX1_addWord_48 : decode cX1_addWord 48 = .ok (.aload_n 0, 1) := by decide +kernel
theorem dX1_addWord_49 : decode cX1_addWord 49 = .ok (.dup, 1) := by decide +kernel
theorem dX1_addWord_50 : decode cX1_addWord 50 = .ok (.getfield 24, 3) := by decide +kernel
theorem dX1_addWord_53 : decode cX1_addWord 53 = .ok (.iconst 1, 1) := by decide +kernel
theorem dX1_addWord_54 : decode cX1_addWord 54 = .ok (.iadd, 1) := by decide +kernel
theorem dX1_addWord_55 : decode cX1_addWord 55 = .ok (.putfield 24, 3) := by decide +kernel
theorem dX1_addWord_58 : decode cX1_addWord 58 = .ok (.iconst 1, 1) := by decide +kernel
theorem dX1_addWord_59 : decode cX1_addWord 59 = .ok (.ireturn, 1) := by decide +kernel
theorem dX1_addRule_0 : decode cX1_addRule 0 = .ok (.aload_n 0, 1) := by decide +kernel
theorem dX1_addRule_1 : decode cX1_addRule 1 = .ok (.getfield 28, 3) := by decide +kernel
theorem dX1_addRule_4 : decode cX1_addRule 4 = .ok (.aload_n 0, 1) := by decide +kernel
theorem dX1_addRule_5 : decode cX1_addRule 5 = .ok (.getfield 44, 3) := by decide +kernel
theorem dX1_addRule_8 : decode cX1_addRule 8 = .ok (.aload_n 1, 1) := by decide +kernel
theorem dX1_addRule_9 : decode cX1_addRule 9 = .ok (.iconst 0, 1) := by decide +kernel
theorem dX1_addRule_10 : decode cX1_addRule 10 = .ok (.iaload, 1) := by decide +kernel
theorem dX1_addRule_11 : decode cX1_addRule 11 = .ok (.iastore, 1) := by decide +kernel
theorem dX1_addRule_12 : decode cX1_addRule 12 = .ok (.aload_n 0, 1) := by decide +kernel
theorem dX1_addRule_13 : decode cX1_addRule 13 = .ok (.getfield 31, 3) := by decide +kernel
theorem dX1_addRule_16 : decode cX1_addRule 16 = .ok (.aload_n 0, 1) := by decide +kernel
theorem dX1_addRule_17 : decode cX1_addRule 17 = .ok (.getfield 44, 3) := by decide +kernel
theorem dX1_addRule_20 : decode cX1_addRule 20 = .ok (.aload_n 1, 1) := by decide +kernel
theorem dX1_addRule_21 : decode cX1_addRule 21 = .ok (.iconst 1, 1) := by decide +kernel
theorem dX1_addRule_22 : decode cX1_addRule 22 = .ok (.iaload, 1) := by decide +kernel
theorem dX1_addRule_23 : decode cX1_addRule 23 = .ok (.iastore, 1) := by decide +kernel
theorem dX1_addRule_24 : decode cX1_addRule 24 = .ok (.aload_n 0, 1) := by decide +kernel
theorem dX1_addRule_25 : decode cX1_addRule 25 = .ok (.getfield 34, 3) := by decide +kernel
theorem dX1_addRule_28 : decode cX1_addRule 28 = .ok (.aload_n 0, 1) := by decide +kernel
theorem dX1_addRule_29 : decode cX1_addRule 29 = .ok (.getfield 44, 3) := by decide +kernel
theorem dX1_addRule_32 : decode cX1_addRule 32 = .ok (.aload_n 1, 1) := by decide +kernel
theorem dX1_addRule_33 : decode cX1_addRule 33 = .ok (.iconst 2, 1) := by decide +kernel
theorem dX1_addRule_34 : decode cX1_addRule 34 = .ok (.iaload, 1) := by decide +kernel
theorem dX1_addRule_35 : decode cX1_addRule 35 = .ok (.iastore, 1) := by decide +kernel
theorem dX1_addRule_36 : decode cX1_addRule 36 = .ok (.aload_n 0, 1) := by decide +kernel
theorem dX1_addRule_37 : decode cX1_addRule 37 = .ok (.getfield 37, 3) := by decide +kernel
theorem dX1_addRule_40 : decode cX1_addRule 40 = .ok (.aload_n 0, 1) := by decide +kernel
theorem dX1_addRule_41 : decode cX1_addRule 41 = .ok (.getfield 44, 3) := by decide +kernel
theorem dX1_addRule_44 : decode cX1_addRule 44 = .ok (.aload_n 1, 1) := by decide +kernel
theorem dX1_addRule_45 : decode cX1_addRule 45 = .ok (.iconst 3, 1) := by decide +kernel
theorem dX1_addRule_46 : decode cX1_addRule 46 = .ok (.iaload, 1) := by decide +kernel
theorem dX1_addRule_47 : decode cX1_addRule 47 = .ok (.iconst 1, 1) := by decide +kernel
theorem dX1_addRule_48 : decode cX1_addRule 48 = .ok (.if_icmp .ne 7, 3) := by decide +kernel
theorem dX1_addRule_51 : decode cX1_addRule 51 = .ok (.iconst 1, 1) := by decide +kernel
theorem dX1_addRule_52 : decode cX1_addRule 52 = .ok (.goto 4, 3) := by decide +kernel
theorem dX1_addRule_55 : decode cX1_addRule 55 = .ok (.iconst 0, 1) := by decide +kernel
theorem dX1_addRule_56 : decode cX1_addRule 56 = .ok (.bastore, 1) := by decide +kernel
theorem dX1_addRule_57 : decode cX1_addRule 57 = .ok (.aload_n 0, 1) := by decide +kernel
theorem dX1_addRule_58 : decode cX1_addRule 58 = .ok (.getfield 41, 3) := by decide +kernel
theorem dX1_addRule_61 : decode cX1_addRule 61 = .ok (.aload_n 0, 1) := by decide +kernel
theorem dX1_addRule_62 : decode cX1_addRule 62 = .ok (.getfield 44, 3) := by decide +kernel
theorem dX1_addRule_65 : decode cX1_addRule 65 = .ok (.aload_n 1, 1) := by decide +kernel
theorem dX1_addRule_66 : decode cX1_addRule 66 = .ok (.iconst 4, 1) := by decide +kernel
theorem dX1_addRule_67 : decode cX1_addRule 67 = .ok (.iaload, 1) := by decide +kernel
theorem dX1_addRule_68 : decode cX1_addRule 68 = .ok (.iconst 1, 1) := by decide +kernel
theorem dX1_addRule_69 : decode cX1_addRule 69 = .ok (.if_icmp .ne 7, 3) := by decide +kernel
theorem dX1_addRule_72 : decode cX1_addRule 72 = .ok (.iconst 1, 1) := by decide +kernel
theorem dX1_addRule_73 : decode cX1_addRule 73 = .ok (.goto 4, 3) := by decide +kernel
theorem dX1_addRule_76 : decode cX1_addRule 76 = .ok (.iconst 0, 1) := by decide +kernel
theorem dX1_addRule_77 : decode cX1_addRule 77 = .ok (.bastore, 1) := by decide +kernel
theorem dX1_addRule_78 : decode cX1_addRule 78 = .ok (.aload_n 0, 1) := by decide +kernel
theorem dX1_addRule_79 : decode cX1_addRule 79 = .ok (.dup, 1) := by decide +kernel
theorem dX1_addRule_80 : decode cX1_addRule 80 = .ok (.getfield 44, 3) := by decide +kernel
theorem dX1_addRule_83 : decode cX1_addRule 83 = .ok (.iconst 1, 1) := by decide +kernel
theorem dX1_addRule_84 : decode cX1_addRule 84 = .ok (.iadd, 1) := by decide +kernel
theorem dX1_addRule_85 : decode cX1_addRule 85 = .ok (.putfield 44, 3) := by decide +kernel
theorem dX1_addRule_88 : decode cX1_addRule 88 = .ok (.iconst 1, 1) := by decide +kernel
theorem dX1_addRule_89 : decode cX1_addRule 89 = .ok (.ireturn, 1) := by decide +kernel
theorem dX1_tellPrice_0 : decode cX1_tellPrice 0 = .ok (.aload_n 0, 1) := by decide +kernel
theorem dX1_tellPrice_1 : decode cX1_tellPrice 1 = .ok (.getfield 55, 3) := by decide +kernel
theorem dX1_tellPrice_4 : decode cX1_tellPrice 4 = .ok (.aload_n 1, 1) := by decide +kernel
theorem dX1_tellPrice_5 : decode cX1_tellPrice 5 = .ok (.iconst 0, 1) := by decide +kernel
theorem dX1_tellPrice_6 : decode cX1_tellPrice 6 = .ok (.iaload, 1) := by decide +kernel
theorem dX1_tellPrice_7 : decode cX1_tellPrice 7 = .ok (.aload_n 1, 1) := by decide +kernel
theorem dX1_tellPrice_8 : decode cX1_tellPrice 8 = .ok (.iconst 1, 1) := by decide +kernel
theorem dX1_tellPrice_9 : decode cX1_tellPrice 9 = .ok (.iaload, 1) := by decide +kernel
theorem dX1_tellPrice_10 : decode cX1_tellPrice 10 = .ok (.iastore, 1) := by decide +kernel
theorem dX1_tellPrice_11 : decode cX1_tellPrice 11 = .ok (.iconst 1, 1) := by decide +kernel
theorem dX1_tellPrice_12 : decode cX1_tellPrice 12 = .ok (.ireturn, 1) := by decide +kernel
theorem dX1_stateOf_0 : decode cX1_stateOf 0 = .ok (.aload_n 0, 1) := by decide +kernel
theorem dX1_stateOf_1 : decode cX1_stateOf 1 = .ok (.getfield 9, 3) := by decide +kernel
theorem dX1_stateOf_4 : decode cX1_stateOf 4 = .ok (.iload_n 1, 1) := by decide +kernel
theorem dX1_stateOf_5 : decode cX1_stateOf 5 = .ok (.iaload, 1) := by decide +kernel
theorem dX1_stateOf_6 : decode cX1_stateOf 6 = .ok (.iconst 4, 1) := by decide +kernel
theorem dX1_stateOf_7 : decode cX1_stateOf 7 = .ok (.imul, 1) := by decide +kernel
theorem dX1_stateOf_8 : decode cX1_stateOf 8 = .ok (.aload_n 0, 1) := by decide +kernel
theorem dX1_stateOf_9 : decode cX1_stateOf 9 = .ok (.getfield 15, 3) := by decide +kernel
theorem dX1_stateOf_12 : decode cX1_stateOf 12 = .ok (.iload_n 1, 1) := by decide +kernel
theorem dX1_stateOf_13 : decode cX1_stateOf 13 = .ok (.iaload, 1) := by decide +kernel
theorem dX1_stateOf_14 : decode cX1_stateOf 14 = .ok (.iadd, 1) := by decide +kernel
theorem dX1_stateOf_15 : decode cX1_stateOf 15 = .ok (.ireturn, 1) := by decide +kernel
theorem dX1_swapPrice_0 : decode cX1_swapPrice 0 = .ok (.bipush 100, 2) := by decide +kernel
theorem dX1_swapPrice_2 : decode cX1_swapPrice 2 = .ok (.istore 4, 2) := by decide +kernel
theorem dX1_swapPrice_4 : decode cX1_swapPrice 4 = .ok (.aload_n 0, 1) := by decide +kernel
theorem dX1_swapPrice_5 : decode cX1_swapPrice 5 = .ok (.getfield 18, 3) := by decide +kernel
theorem dX1_swapPrice_8 : decode cX1_swapPrice 8 = .ok (.iload_n 1, 1) := by decide +kernel
theorem dX1_swapPrice_9 : decode cX1_swapPrice 9 = .ok (.iaload, 1) := by decide +kernel
theorem dX1_swapPrice_10 : decode cX1_swapPrice 10 = .ok (.aload_n 0, 1) := by decide +kernel
theorem dX1_swapPrice_11 : decode cX1_swapPrice 11 = .ok (.getfield 18, 3) := by decide +kernel
theorem dX1_swapPrice_14 : decode cX1_swapPrice 14 = .ok (.iload_n 2, 1) := by decide +kernel
theorem dX1_swapPrice_15 : decode cX1_swapPrice 15 = .ok (.iaload, 1) := by decide +kernel
theorem dX1_swapPrice_16 : decode cX1_swapPrice 16 = .ok (.if_icmp .ne 13, 3) := by decide +kernel
theorem dX1_swapPrice_19 : decode cX1_swapPrice 19 = .ok (.iload 4, 2) := by decide +kernel
theorem dX1_swapPrice_21 : decode cX1_swapPrice 21 = .ok (.aload_n 3, 1) := by decide +kernel
theorem dX1_swapPrice_22 : decode cX1_swapPrice 22 = .ok (.iconst 0, 1) := by decide +kernel
theorem dX1_swapPrice_23 : decode cX1_swapPrice 23 = .ok (.iaload, 1) := by decide +kernel
theorem dX1_swapPrice_24 : decode cX1_swapPrice 24 = .ok (.invokestatic 87, 3) := by decide +kernel
theorem dX1_swapPrice_27 : decode cX1_swapPrice 27 = .ok (.istore 4, 2) := by decide +kernel
theorem dX1_swapPrice_29 : decode cX1_swapPrice 29 = .ok (.aload_n 0, 1) := by decide +kernel
theorem dX1_swapPrice_30 : decode cX1_swapPrice 30 = .ok (.getfield 21, 3) := by decide +kernel
theorem dX1_swapPrice_33 : decode cX1_swapPrice 33 = .ok (.iload_n 1, 1) := by decide +kernel
theorem dX1_swapPrice_34 : decode cX1_swapPrice 34 = .ok (.iaload, 1) := by decide +kernel
theorem dX1_swapPrice_35 : decode cX1_swapPrice 35 = .ok (.aload_n 0, 1) := by decide +kernel
theorem dX1_swapPrice_36 : decode cX1_swapPrice 36 = .ok (.getfield 21, 3) := by decide +kernel
theorem dX1_swapPrice_39 : decode cX1_swapPrice 39 = .ok (.iload_n 2, 1) := by decide +kernel
theorem dX1_swapPrice_40 : decode cX1_swapPrice 40 = .ok (.iaload, 1) := by decide +kernel
theorem dX1_swapPrice_41 : decode cX1_swapPrice 41 = .ok (.if_icmp .ne 13, 3) := by decide +kernel
theorem dX1_swapPrice_44 : decode cX1_swapPrice 44 = .ok (.iload 4, 2) := by decide +kernel
theorem dX1_swapPrice_46 : decode cX1_swapPrice 46 = .ok (.aload_n 3, 1) := by decide +kernel
theorem dX1_swapPrice_47 : decode cX1_swapPrice 47 = .ok (.iconst 1, 1) := by decide +kernel
theorem dX1_swapPrice_48 : decode cX1_swapPrice 48 = .ok (.iaload, 1) := by decide +kernel
theorem dX1_swapPrice_49 : decode cX1_swapPrice 49 = .ok (.invokestatic 87, 3) := by decide +kernel
theorem dX1_swapPrice_52 : decode cX1_swapPrice 52 = .ok (.istore 4, 2) := by decide +kernel
theorem dX1_swapPrice_54 : decode cX1_swapPrice 54 = .ok (.aload_n 0, 1) := by decide +kernel
theorem dX1_swapPrice_55 : decode cX1_swapPrice 55 = .ok (.getfield 9, 3) := by decide +kernel
theorem dX1_swapPrice_58 : decode cX1_swapPrice 58 = .ok (.iload_n 1, 1) := by decide +kernel
theorem dX1_swapPrice_59 : decode cX1_swapPrice 59 = .ok (.iaload, 1) := by decide +kernel
theorem dX1_swapPrice_60 : decode cX1_swapPrice 60 = .ok (.aload_n 0, 1) := by decide +kernel
theorem dX1_swapPrice_61 : decode cX1_swapPrice 61 = .ok (.getfield 9, 3) := by decide +kernel
theorem dX1_swapPrice_64 : decode cX1_swapPrice 64 = .ok (.iload_n 2, 1) := by decide +kernel
theorem dX1_swapPrice_65 : decode cX1_swapPrice 65 = .ok (.iaload, 1) := by decide +kernel
theorem dX1_swapPrice_66 : decode cX1_swapPrice 66 = .ok (.if_icmp .ne 13, 3) := by decide +kernel
theorem dX1_swapPrice_69 : decode cX1_swapPrice 69 = .ok (.iload 4, 2) := by decide +kernel
theorem dX1_swapPrice_71 : decode cX1_swapPrice 71 = .ok (.aload_n 3, 1) := by decide +kernel
theorem dX1_swapPrice_72 : decode cX1_swapPrice 72 = .ok (.iconst 2, 1) := by decide +kernel
theorem dX1_swapPrice_73 : decode cX1_swapPrice 73 = .ok (.iaload, 1) := by decide +kernel
theorem dX1_swapPrice_74 : decode cX1_swapPrice 74 = .ok (.invokestatic 87, 3) := by decide +kernel
theorem dX1_swapPrice_77 : decode cX1_swapPrice 77 = .ok (.istore 4, 2) := by decide +kernel
theorem dX1_swapPrice_79 : decode cX1_swapPrice 79 = .ok (.iload 4, 2) := by decide +kernel
theorem dX1_swapPrice_81 : decode cX1_swapPrice 81 = .ok (.ireturn, 1) := by decide +kernel
theorem dX2_init_0 : decode cX2_init 0 = .ok (.aload_n 0, 1) := by decide +kernel
theorem dX2_init_1 : decode cX2_init 1 = .ok (.invokespecial 3, 3) := by decide +kernel
theorem dX2_init_4 : decode cX2_init 4 = .ok (.aload_n 0, 1) := by decide +kernel
theorem dX2_init_5 : decode cX2_init 5 = .ok (.bipush 60, 2) := by decide +kernel
theorem dX2_init_7 : decode cX2_init 7 = .ok (.newarray .int, 2) := by decide +kernel
theorem dX2_init_9 : decode cX2_init 9 = .ok (.putfield 9, 3) := by decide +kernel
theorem dX2_init_12 : decode cX2_init 12 = .ok (.aload_n 0, 1) := by decide +kernel
theorem dX2_init_13 : decode cX2_init 13 = .ok (.iconst 0, 1) := by decide +kernel
theorem dX2_init_14 : decode cX2_init 14 = .ok (.putfield 15, 3) := by decide +kernel
theorem dX2_init_17 : decode cX2_init 17 = .ok (.return_, 1) := by decide +kernel
theorem dX2_append_0 : decode cX2_append 0 = .ok (.aload_n 0, 1) := by decide +kernel
theorem dX2_append_1 : decode cX2_append 1 = .ok (.getfield 15, 3) := by decide +kernel
theorem dX2_append_4 : decode cX2_append 4 = .ok (.bipush 60, 2) := by decide +kernel
theorem dX2_append_6 : decode cX2_append 6 = .ok (.if_icmp .ge 23, 3) := by decide +kernel
theorem dX2_append_9 : decode cX2_append 9 = .ok (.aload_n 0, 1) := by decide +kernel
theorem dX2_append_10 : decode cX2_append 10 = .ok (.getfield 9, 3) := by decide +kernel
theorem dX2_append_13 : decode cX2_append 13 = .ok (.aload_n 0, 1) := by decide +kernel
theorem dX2_append_14 : decode cX2_append 14 = .ok (.getfield 15, 3) := by decide +kernel
theorem dX2_append_17 : decode cX2_append 17 = .ok (.iload_n 1, 1) := by decide +kernel
theorem dX2_append_18 : decode cX2_append 18 = .ok (.iastore, 1) := by decide +kernel
theorem dX2_append_19 : decode cX2_append 19 = .ok (.aload_n 0, 1) := by decide +kernel
theorem dX2_append_20 : decode cX2_append 20 = .ok (.dup, 1) := by decide +kernel
theorem dX2_append_21 : decode cX2_append 21 = .ok (.getfield 15, 3) := by decide +kernel
theorem dX2_append_24 : decode cX2_append 24 = .ok (.iconst 1, 1) := by decide +kernel
theorem dX2_append_25 : decode cX2_append 25 = .ok (.iadd, 1) := by decide +kernel
theorem dX2_append_26 : decode cX2_append 26 = .ok (.putfield 15, 3) := by decide +kernel
theorem dX2_append_29 : decode cX2_append 29 = .ok (.return_, 1) := by decide +kernel
theorem dX2_fittedPrice_0 : decode cX2_fittedPrice 0 = .ok (.iconst 0, 1) := by decide +kernel
theorem dX2_fittedPrice_1 : decode cX2_fittedPrice 1 = .ok (.istore_n 2, 1) := by decide +kernel
theorem dX2_fittedPrice_2 : decode cX2_fittedPrice 2 = .ok (.iconst 0, 1) := by decide +kernel
theorem dX2_fittedPrice_3 : decode cX2_fittedPrice 3 = .ok (.istore_n 3, 1) := by decide +kernel
theorem dX2_fittedPrice_4 : decode cX2_fittedPrice 4 = .ok (.iload_n 3, 1) := by decide +kernel
theorem dX2_fittedPrice_5 : decode cX2_fittedPrice 5 = .ok (.aload_n 0, 1) := by decide +kernel
theorem dX2_fittedPrice_6 : decode cX2_fittedPrice 6 = .ok (.getfield 15, 3) := by decide +kernel
theorem dX2_fittedPrice_9 : decode cX2_fittedPrice 9 = .ok (.if_icmp .ge 22, 3) := by decide +kernel
theorem dX2_fittedPrice_12 : decode cX2_fittedPrice 12 = .ok (.aload_n 0, 1) := by decide +kernel
theorem dX2_fittedPrice_13 : decode cX2_fittedPrice 13 = .ok (.getfield 9, 3) := by decide +kernel
theorem dX2_fittedPrice_16 : decode cX2_fittedPrice 16 = .ok (.iload_n 3, 1) := by decide +kernel
theorem dX2_fittedPrice_17 : decode cX2_fittedPrice 17 = .ok (.iaload, 1) := by decide +kernel
theorem dX2_fittedPrice_18 : decode cX2_fittedPrice 18 = .ok (.iload_n 1, 1) := by decide +kernel
theorem dX2_fittedPrice_19 : decode cX2_fittedPrice 19 = .ok (.if_icmp .ne 6, 3) := by decide +kernel
theorem dX2_fittedPrice_22 : decode cX2_fittedPrice 22 = .ok (.iinc 2 1, 3) := by decide +kernel
theorem dX2_fittedPrice_25 : decode cX2_fittedPrice 25 = .ok (.iinc 3 1, 3) := by decide +kernel
theorem dX2_fittedPrice_28 : decode cX2_fittedPrice 28 = .ok (.goto (-24), 3) := by decide +kernel
theorem dX2_fittedPrice_31 : decode cX2_fittedPrice 31 = .ok (.aload_n 0, 1) := by decide +kernel
theorem dX2_fittedPrice_32 : decode cX2_fittedPrice 32 = .ok (.getfield 15, 3) := by decide +kernel
theorem dX2_fittedPrice_35 : decode cX2_fittedPrice 35 = .ok (.ifCond .ne 8, 3) := by decide +kernel
theorem dX2_fittedPrice_38 : decode cX2_fittedPrice 38 = .ok (.bipush 10, 2) := by decide +kernel
theorem dX2_fittedPrice_40 : decode cX2_fittedPrice 40 = .ok (.goto 15, 3) := by decide +kernel
theorem dX2_fittedPrice_43 : decode cX2_fittedPrice 43 = .ok (.bipush 10, 2) := by decide +kernel
theorem dX2_fittedPrice_45 : decode cX2_fittedPrice 45 = .ok (.bipush 9, 2) := by decide +kernel
theorem dX2_fittedPrice_47 : decode cX2_fittedPrice 47 = .ok (.iload_n 2, 1) := by decide +kernel
theorem dX2_fittedPrice_48 : decode cX2_fittedPrice 48 = .ok (.imul, 1) := by decide +kernel
theorem dX2_fittedPrice_49 : decode cX2_fittedPrice 49 = .ok (.aload_n 0, 1) := by decide +kernel
theorem dX2_fittedPrice_50 : decode cX2_fittedPrice 50 = .ok (.getfield 15, 3) := by decide +kernel
theorem dX2_fittedPrice_53 : decode cX2_fittedPrice 53 = .ok (.idiv, 1) := by decide +kernel
theorem dX2_fittedPrice_54 : decode cX2_fittedPrice 54 = .ok (.isub, 1) := by decide +kernel
theorem dX2_fittedPrice_55 : decode cX2_fittedPrice 55 = .ok (.ireturn, 1) := by decide +kernel
theorem dX2_cameSince_0 : decode cX2_cameSince 0 = .ok (.iconst 0, 1) := by decide +kernel
theorem dX2_cameSince_1 : decode cX2_cameSince 1 = .ok (.iload_n 2, 1) := by decide +kernel
theorem dX2_cameSince_2 : decode cX2_cameSince 2 = .ok (.invokestatic 19, 3) := by decide +kernel
theorem dX2_cameSince_5 : decode cX2_cameSince 5 = .ok (.istore_n 3, 1) := by decide +kernel
theorem dX2_cameSince_6 : decode cX2_cameSince 6 = .ok (.iload_n 3, 1) := by decide +kernel
theorem dX2_cameSince_7 : decode cX2_cameSince 7 = .ok (.aload_n 0, 1) := by decide +kernel
theorem dX2_cameSince_8 : decode cX2_cameSince 8 = .ok (.getfield 15, 3) := by decide +kernel
theorem dX2_cameSince_11 : decode cX2_cameSince 11 = .ok (.if_icmp .ge 21, 3) := by decide +kernel
theorem dX2_cameSince_14 : decode cX2_cameSince 14 = .ok (.aload_n 0, 1) := by decide +kernel
theorem dX2_cameSince_15 : decode cX2_cameSince 15 = .ok (.getfield 9, 3) := by decide +kernel
theorem dX2_cameSince_18 : decode cX2_cameSince 18 = .ok (.iload_n 3, 1) := by decide +kernel
theorem dX2_cameSince_19 : decode cX2_cameSince 19 = .ok (.iaload, 1) := by decide +kernel
theorem dX2_cameSince_20 : decode cX2_cameSince 20 = .ok (.iload_n 1, 1) := by decide +kernel
theorem dX2_cameSince_21 : decode cX2_cameSince 21 = .ok (.if_icmp .ne 5, 3) := by decide +kernel
theorem dX2_cameSince_24 : decode cX2_cameSince 24 = .ok (.iconst 1, 1) := by decide +kernel
theorem dX2_cameSince_25 : decode cX2_cameSince 25 = .ok (.ireturn, 1) := by decide +kernel
theorem dX2_cameSince_26 : decode cX2_cameSince 26 = .ok (.iinc 3 1, 3) := by decide +kernel
theorem dX2_cameSince_29 : decode cX2_cameSince 29 = .ok (.goto (-23), 3) := by decide +kernel
theorem dX2_cameSince_32 : decode cX2_cameSince 32 = .ok (.iconst 0, 1) := by decide +kernel
theorem dX2_cameSince_33 : decode cX2_cameSince 33 = .ok (.ireturn, 1) := by decide +kernel
theorem dX3_init_0 : decode cX3_init 0 = .ok (.aload_n 0, 1) := by decide +kernel
theorem dX3_init_1 : decode cX3_init 1 = .ok (.invokespecial 3, 3) := by decide +kernel
theorem dX3_init_4 : decode cX3_init 4 = .ok (.aload_n 0, 1) := by decide +kernel
theorem dX3_init_5 : decode cX3_init 5 = .ok (.iconst 0, 1) := by decide +kernel
theorem dX3_init_6 : decode cX3_init 6 = .ok (.putfield 9, 3) := by decide +kernel
theorem dX3_init_9 : decode cX3_init 9 = .ok (.aload_n 0, 1) := by decide +kernel
theorem dX3_init_10 : decode cX3_init 10 = .ok (.iconst 0, 1) := by decide +kernel
theorem dX3_init_11 : decode cX3_init 11 = .ok (.putfield 15, 3) := by decide +kernel
theorem dX3_init_14 : decode cX3_init 14 = .ok (.aload_n 0, 1) := by decide +kernel
theorem dX3_init_15 : decode cX3_init 15 = .ok (.bipush (-4), 2) := by decide +kernel
theorem dX3_init_17 : decode cX3_init 17 = .ok (.putfield 18, 3) := by decide +kernel
theorem dX3_init_20 : decode cX3_init 20 = .ok (.aload_n 0, 1) := by decide +kernel
theorem dX3_init_21 : decode cX3_init 21 = .ok (.iconst 0, 1) := by decide +kernel
theorem dX3_init_22 : decode cX3_init 22 = .ok (.putfield 22, 3) := by decide +kernel
theorem dX3_init_25 : decode cX3_init 25 = .ok (.return_, 1) := by decide +kernel
theorem dX3_isWronged_0 : decode cX3_isWronged 0 = .ok (.aload_n 0, 1) := by decide +kernel
theorem dX3_isWronged_1 : decode cX3_isWronged 1 = .ok (.getfield 9, 3) := by decide +kernel
theorem dX3_isWronged_4 : decode cX3_isWronged 4 = .ok (.ifCond .eq 14, 3) := by decide +kernel
theorem dX3_isWronged_7 : decode cX3_isWronged 7 = .ok (.aload_n 0, 1) := by decide +kernel
theorem dX3_isWronged_8 : decode cX3_isWronged 8 = .ok (.getfield 15, 3) := by decide +kernel
theorem dX3_isWronged_11 : decode cX3_isWronged 11 = .ok (.ifCond .ne 7, 3) := by decide +kernel
theorem dX3_isWronged_14 : decode cX3_isWronged 14 = .ok (.iconst 1, 1) := by decide +kernel
theorem dX3_isWronged_15 : decode cX3_isWronged 15 = .ok (.goto 4, 3) := by decide +kernel
theorem dX3_isWronged_18 : decode cX3_isWronged 18 = .ok (.iconst 0, 1) := by decide +kernel
theorem dX3_isWronged_19 : decode cX3_isWronged 19 = .ok (.ireturn, 1) := by decide +kernel
theorem dX3_isChangedUnread_0 : decode cX3_isChangedUnread 0 = .ok (.aload_n 0, 1) := by decide +kernel
theorem dX3_isChangedUnread_1 : decode cX3_isChangedUnread 1 = .ok (.getfield 9, 3) := by decide +kernel
theorem dX3_isChangedUnread_4 : decode cX3_isChangedUnread 4 = .ok (.ifCond .ne 14, 3) := by decide +kernel
theorem dX3_isChangedUnread_7 : decode cX3_isChangedUnread 7 = .ok (.aload_n 0, 1) := by decide +kernel
theorem dX3_isChangedUnread_8 : decode cX3_isChangedUnread 8 = .ok (.getfield 15, 3) := by decide +kernel
theorem dX3_isChangedUnread_11 : decode cX3_isChangedUnread 11 = .ok (.ifCond .ne 7, 3) := by decide +kernel
theorem dX3_isChangedUnread_14 : decode cX3_isChangedUnread 14 = .ok (.iconst 1, 1) := by decide +kernel
theorem dX3_isChangedUnread_15 : decode cX3_isChangedUnread 15 = .ok (.goto 4, 3) := by decide +kernel
theorem dX3_isChangedUnread_18 : decode cX3_isChangedUnread 18 = .ok (.iconst 0, 1) := by decide +kernel
theorem dX3_isChangedUnread_19 : decode cX3_isChangedUnread 19 = .ok (.ireturn, 1) := by decide +kernel
end
section
theorem dX4_init_0 : decode cX4_init 0 = .ok (.aload_n 0, 1) := by decide +kernel
theorem dX4_init_1 : decode cX4_init 1 = .ok (.invokespecial 3, 3) := by decide +kernel
theorem dX4_init_4 : decode cX4_init 4 = .ok (.aload_n 0, 1) := by decide +kernel
theorem dX4_init_5 : decode cX4_init 5 = .ok (.bipush 24, 2) := by decide +kernel
theorem dX4_init_7 : decode cX4_init 7 = .ok (.newarray .long, 2) := by decide +kernel
theorem dX4_init_9 : decode cX4_init 9 = .ok (.putfield 9, 3) := by decide +kernel
theorem dX4_init_12 : decode cX4_init 12 = .ok (.return_, 1) := by decide +kernel
theorem dX4_restart_0 : decode cX4_restart 0 = .ok (.aload_n 0, 1) := by decide +kernel
theorem dX4_restart_1 : decode cX4_restart 1 = .ok (.getfield 15, 3) := by decide +kernel
theorem dX4_restart_4 : decode cX4_restart 4 = .ok (.lconst 0, 1) := by decide +kernel
theorem dX4_restart_5 : decode cX4_restart 5 = .ok (.invokestatic 18, 3) := by decide +kernel
theorem dX4_restart_8 : decode cX4_restart 8 = .ok (.aload_n 0, 1) := by decide +kernel
theorem dX4_restart_9 : decode cX4_restart 9 = .ok (.getfield 9, 3) := by decide +kernel
theorem dX4_restart_12 : decode cX4_restart 12 = .ok (.lconst 0, 1) := by decide +kernel
theorem dX4_restart_13 : decode cX4_restart 13 = .ok (.invokestatic 18, 3) := by decide +kernel
theorem dX4_restart_16 : decode cX4_restart 16 = .ok (.return_, 1) := by decide +kernel
theorem dX4_putRow_0 : decode cX4_putRow 0 = .ok (.iconst 0, 1) := by decide +kernel
theorem dX4_putRow_1 : decode cX4_putRow 1 = .ok (.istore 5, 2) := by decide +kernel
theorem dX4_putRow_3 : decode cX4_putRow 3 = .ok (.iload 5, 2) := by decide +kernel
theorem dX4_putRow_5 : decode cX4_putRow 5 = .ok (.aload_n 2, 1) := by decide +kernel
theorem dX4_putRow_6 : decode cX4_putRow 6 = .ok (.getfield 24, 3) := by decide +kernel
theorem dX4_putRow_9 : decode cX4_putRow 9 = .ok (.if_icmp .ge 36, 3) := by decide +kernel
theorem dX4_putRow_12 : decode cX4_putRow 12 = .ok (.aload_n 0, 1) := by decide +kernel
theorem dX4_putRow_13 : decode cX4_putRow 13 = .ok (.getfield 15, 3) := by decide +kernel
theorem dX4_putRow_16 : decode cX4_putRow 16 = .ok (.iload 5, 2) := by decide +kernel
theorem dX4_putRow_18 : decode cX4_putRow 18 = .ok (.iconst 1, 1) := by decide +kernel
theorem dX4_putRow_19 : decode cX4_putRow 19 = .ok (.invokestatic 30, 3) := by decide +kernel
theorem dX4_putRow_22 : decode cX4_putRow 22 = .ok (.aload_n 1, 1) := by decide +kernel
theorem dX4_putRow_23 : decode cX4_putRow 23 = .ok (.aload_n 2, 1) := by decide +kernel
theorem dX4_putRow_24 : decode cX4_putRow 24 = .ok (.getfield 34, 3) := by decide +kernel
theorem dX4_putRow_27 : decode cX4_putRow 27 = .ok (.iload 5, 2) := by decide +kernel
theorem dX4_putRow_29 : decode cX4_putRow 29 = .ok (.iaload, 1) := by decide +kernel
theorem dX4_putRow_30 : decode cX4_putRow 30 = .ok (.invokevirtual 38, 3) := by decide +kernel
theorem dX4_putRow_33 : decode cX4_putRow 33 = .ok (.iadd, 1) := by decide +kernel
theorem dX4_putRow_34 : decode cX4_putRow 34 = .ok (.dup2, 1) := by decide +kernel
theorem dX4_putRow_35 : decode cX4_putRow 35 = .ok (.laload, 1) := by decide +kernel
theorem dX4_putRow_36 : decode cX4_putRow 36 = .ok (.lload_n 3, 1) := by decide +kernel
theorem dX4_putRow_37 : decode cX4_putRow 37 = .ok (.lor, 1) := by decide +kernel
theorem dX4_putRow_38 : decode cX4_putRow 38 = .ok (.lastore, 1) := by decide +kernel
theorem dX4_putRow_39 : decode cX4_putRow 39 = .ok (.iinc 5 1, 3) := by decide +kernel
theorem dX4_putRow_42 : decode cX4_putRow 42 = .ok (.goto (-39), 3) := by decide +kernel
theorem dX4_putRow_45 : decode cX4_putRow 45 = .ok (.return_, 1) := by decide +kernel
theorem dX4_freeRule_0 : decode cX4_freeRule 0 = .ok (.aload_n 0, 1) := by decide +kernel
theorem dX4_freeRule_1 : decode cX4_freeRule 1 = .ok (.getfield 9, 3) := by decide +kernel
theorem dX4_freeRule_4 : decode cX4_freeRule 4 = .ok (.iload_n 1, 1) := by decide +kernel
theorem dX4_freeRule_5 : decode cX4_freeRule 5 = .ok (.dup2, 1) := by decide +kernel
theorem dX4_freeRule_6 : decode cX4_freeRule 6 = .ok (.laload, 1) := by decide +kernel
theorem dX4_freeRule_7 : decode cX4_freeRule 7 = .ok (.lload_n 2, 1) := by decide +kernel
theorem dX4_freeRule_8 : decode cX4_freeRule 8 = .ok (.lor, 1) := by decide +kernel
theorem dX4_freeRule_9 : decode cX4_freeRule 9 = .ok (.lastore, 1) := by decide +kernel
theorem dX4_freeRule_10 : decode cX4_freeRule 10 = .ok (.return_, 1) := by decide +kernel
theorem dX4_readLanes_0 : decode cX4_readLanes 0 = .ok (.aload_n 0, 1) := by decide +kernel
theorem dX4_readLanes_1 : decode cX4_readLanes 1 = .ok (.iconst 0, 1) := by decide +kernel
theorem dX4_readLanes_2 : decode cX4_readLanes 2 = .ok (.iload_n 1, 1) := by decide +kernel
theorem dX4_readLanes_3 : decode cX4_readLanes 3 = .ok (.invokestatic 30, 3) := by decide +kernel
theorem dX4_readLanes_6 : decode cX4_readLanes 6 = .ok (.invokevirtual 44, 3) := by decide +kernel
theorem dX4_readLanes_9 : decode cX4_readLanes 9 = .ok (.lreturn, 1) := by decide +kernel
theorem dX4_joinSpans_0 : decode cX4_joinSpans 0 = .ok (.iconst 0, 1) := by decide +kernel
theorem dX4_joinSpans_1 : decode cX4_joinSpans 1 = .ok (.istore 5, 2) := by decide +kernel
theorem dX4_joinSpans_3 : decode cX4_joinSpans 3 = .ok (.iload 5, 2) := by decide +kernel
theorem dX4_joinSpans_5 : decode cX4_joinSpans 5 = .ok (.aload_n 1, 1) := by decide +kernel
theorem dX4_joinSpans_6 : decode cX4_joinSpans 6 = .ok (.getfield 48, 3) := by decide +kernel
theorem dX4_joinSpans_9 : decode cX4_joinSpans 9 = .ok (.if_icmp .ge 209, 3) := by decide +kernel
theorem dX4_joinSpans_12 : decode cX4_joinSpans 12 = .ok (.iload_n 2, 1) := by decide +kernel
theorem dX4_joinSpans_13 : decode cX4_joinSpans 13 = .ok (.aload_n 1, 1) := by decide +kernel
theorem dX4_joinSpans_14 : decode cX4_joinSpans 14 = .ok (.getfield 51, 3) := by decide +kernel
theorem dX4_joinSpans_17 : decode cX4_joinSpans 17 = .ok (.iload 5, 2) := by decide +kernel
theorem dX4_joinSpans_19 : decode cX4_joinSpans 19 = .ok (.iaload, 1) := by decide +kernel
theorem dX4_joinSpans_20 : decode cX4_joinSpans 20 = .ok (.iconst 4, 1) := by decide +kernel
theorem dX4_joinSpans_21 : decode cX4_joinSpans 21 = .ok (.imul, 1) := by decide +kernel
theorem dX4_joinSpans_22 : decode cX4_joinSpans 22 = .ok (.iadd, 1) := by decide +kernel
theorem dX4_joinSpans_23 : decode cX4_joinSpans 23 = .ok (.istore 6, 2) := by decide +kernel
theorem dX4_joinSpans_25 : decode cX4_joinSpans 25 = .ok (.iload_n 3, 1) := by decide +kernel
theorem dX4_joinSpans_26 : decode cX4_joinSpans 26 = .ok (.aload_n 1, 1) := by decide +kernel
theorem dX4_joinSpans_27 : decode cX4_joinSpans 27 = .ok (.getfield 54, 3) := by decide +kernel
theorem dX4_joinSpans_30 : decode cX4_joinSpans 30 = .ok (.iload 5, 2) := by decide +kernel
theorem dX4_joinSpans_32 : decode cX4_joinSpans 32 = .ok (.iaload, 1) := by decide +kernel
theorem dX4_joinSpans_33 : decode cX4_joinSpans 33 = .ok (.iconst 4, 1) := by decide +kernel
theorem dX4_joinSpans_34 : decode cX4_joinSpans 34 = .ok (.imul, 1) := by decide +kernel
theorem dX4_joinSpans_35 : decode cX4_joinSpans 35 = .ok (.iadd, 1) := by decide +kernel
theorem dX4_joinSpans_36 : decode cX4_joinSpans 36 = .ok (.istore 7, 2) := by decide +kernel
theorem dX4_joinSpans_38 : decode cX4_joinSpans 38 = .ok (.iload 4, 2) := by decide +kernel
theorem dX4_joinSpans_40 : decode cX4_joinSpans 40 = .ok (.aload_n 1, 1) := by decide +kernel
theorem dX4_joinSpans_41 : decode cX4_joinSpans 41 = .ok (.getfield 57, 3) := by decide +kernel
theorem dX4_joinSpans_44 : decode cX4_joinSpans 44 = .ok (.iload 5, 2) := by decide +kernel
theorem dX4_joinSpans_46 : decode cX4_joinSpans 46 = .ok (.iaload, 1) := by decide +kernel
theorem dX4_joinSpans_47 : decode cX4_joinSpans 47 = .ok (.iconst 4, 1) := by decide +kernel
theorem dX4_joinSpans_48 : decode cX4_joinSpans 48 = .ok (.imul, 1) := by decide +kernel
theorem dX4_joinSpans_49 : decode cX4_joinSpans 49 = .ok (.iadd, 1) := by decide +kernel
theorem dX4_joinSpans_50 : decode cX4_joinSpans 50 = .ok (.istore 8, 2) := by decide +kernel
theorem dX4_joinSpans_52 : decode cX4_joinSpans 52 = .ok (.aload_n 0, 1) := by decide +kernel
theorem dX4_joinSpans_53 : decode cX4_joinSpans 53 = .ok (.iload 6, 2) := by decide +kernel
theorem dX4_joinSpans_55 : decode cX4_joinSpans 55 = .ok (.invokevirtual 44, 3) := by decide +kernel
theorem dX4_joinSpans_58 : decode cX4_joinSpans 58 = .ok (.lstore 9, 2) := by decide +kernel
theorem dX4_joinSpans_60 : decode cX4_joinSpans 60 = .ok (.aload_n 0, 1) := by decide +kernel
theorem dX4_joinSpans_61 : decode cX4_joinSpans 61 = .ok (.iload 7, 2) := by decide +kernel
theorem dX4_joinSpans_63 : decode cX4_joinSpans 63 = .ok (.invokevirtual 44, 3) := by decide +kernel
theorem dX4_joinSpans_66 : decode cX4_joinSpans 66 = .ok (.lstore 11, 2) := by decide +kernel
theorem dX4_joinSpans_68 : decode cX4_joinSpans 68 = .ok (.aload_n 1, 1) := by decide +kernel
theorem dX4_joinSpans_69 : decode cX4_joinSpans 69 = .ok (.getfield 60, 3) := by decide +kernel
theorem dX4_joinSpans_72 : decode cX4_joinSpans 72 = .ok (.iload 5, 2) := by decide +kernel
theorem dX4_joinSpans_74 : decode cX4_joinSpans 74 = .ok (.baload, 1) := by decide +kernel
theorem dX4_joinSpans_75 : decode cX4_joinSpans 75 = .ok (.ifCond .eq 17, 3) := by decide +kernel
theorem dX4_joinSpans_78 : decode cX4_joinSpans 78 = .ok (.aload_n 0, 1) := by decide +kernel
theorem dX4_joinSpans_79 : decode cX4_joinSpans 79 = .ok (.getfield 9, 3) := by decide +kernel
theorem dX4_joinSpans_82 : decode cX4_joinSpans 82 = .ok (.iload 5, 2) := by decide +kernel
theorem dX4_joinSpans_84 : decode cX4_joinSpans 84 = .ok (.laload, 1) := by decide +kernel
theorem dX4_joinSpans_85 : decode cX4_joinSpans 85 = .ok (.ldc2_w 64, 3) := by decide +kernel
theorem dX4_joinSpans_88 : decode cX4_joinSpans 88 = .ok (.lxor, 1) := by decide +kernel
theorem dX4_joinSpans_89 : decode cX4_joinSpans 89 = .ok (.goto 4, 3) := by decide +kernel
theorem dX4_joinSpans_92 : decode cX4_joinSpans 92 = .ok (.lconst 0, 1) := by decide +kernel
theorem dX4_joinSpans_93 : decode cX4_joinSpans 93 = .ok (.lstore 13, 2) := by decide +kernel
theorem dX4_joinSpans_95 : decode cX4_joinSpans 95 = .ok (.iconst 0, 1) := by decide +kernel
theorem dX4_joinSpans_96 : decode cX4_joinSpans 96 = .ok (.istore 15, 2) := by decide +kernel
theorem dX4_joinSpans_98 : decode cX4_joinSpans 98 = .ok (.iload 15, 2) := by decide +kernel
theorem dX4_joinSpans_100 : decode cX4_joinSpans 100 = .ok (.iconst 4, 1) := by decide +kernel
theorem dX4_joinSpans_101 : decode cX4_joinSpans 101 = .ok (.if_icmp .ge 111, 3) := by decide +kernel
theorem dX4_joinSpans_104 : decode cX4_joinSpans 104 = .ok (.lload 9, 2) := by decide +kernel
theorem dX4_joinSpans_106 : decode cX4_joinSpans 106 = .ok (.lload 11, 2) := by decide +kernel
theorem dX4_joinSpans_108 : decode cX4_joinSpans 108 = .ok (.land, 1) := by decide +kernel
theorem dX4_joinSpans_109 : decode cX4_joinSpans 109 = .ok (.lconst 0, 1) := by decide +kernel
theorem dX4_joinSpans_110 : decode cX4_joinSpans 110 = .ok (.lcmp, 1) := by decide +kernel
theorem dX4_joinSpans_111 : decode cX4_joinSpans 111 = .ok (.ifCond .eq 101, 3) := by decide +kernel
theorem dX4_joinSpans_114 : decode cX4_joinSpans 114 = .ok (.aload_n 0, 1) := by decide +kernel
theorem dX4_joinSpans_115 : decode cX4_joinSpans 115 = .ok (.getfield 15, 3) := by decide +kernel
theorem dX4_joinSpans_118 : decode cX4_joinSpans 118 = .ok (.iload 6, 2) := by decide +kernel
theorem dX4_joinSpans_120 : decode cX4_joinSpans 120 = .ok (.iload 15, 2) := by decide +kernel
theorem dX4_joinSpans_122 : decode cX4_joinSpans 122 = .ok (.iadd, 1) := by decide +kernel
theorem dX4_joinSpans_123 : decode cX4_joinSpans 123 = .ok (.laload, 1) := by decide +kernel
theorem dX4_joinSpans_124 : decode cX4_joinSpans 124 = .ok (.aload_n 0, 1) := by decide +kernel
theorem dX4_joinSpans_125 : decode cX4_joinSpans 125 = .ok (.getfield 15, 3) := by decide +kernel
theorem dX4_joinSpans_128 : decode cX4_joinSpans 128 = .ok (.iload 7, 2) := by decide +kernel
theorem dX4_joinSpans_130 : decode cX4_joinSpans 130 = .ok (.iload 15, 2) := by decide +kernel
theorem dX4_joinSpans_132 : decode cX4_joinSpans 132 = .ok (.iadd, 1) := by decide +kernel
theorem dX4_joinSpans_133 : decode cX4_joinSpans 133 = .ok (.laload, 1) := by decide +kernel
theorem dX4_joinSpans_134 : decode cX4_joinSpans 134 = .ok (.land, 1) := by decide +kernel
theorem dX4_joinSpans_135 : decode cX4_joinSpans 135 = .ok (.lstore 16, 2) := by decide +kernel
theorem dX4_joinSpans_137 : decode cX4_joinSpans 137 = .ok (.aload_n 1, 1) := by decide +kernel
theorem dX4_joinSpans_138 : decode cX4_joinSpans 138 = .ok (.getfield 66, 3) := by decide +kernel
theorem dX4_joinSpans_141 : decode cX4_joinSpans 141 = .ok (.iload 5, 2) := by decide +kernel
theorem dX4_joinSpans_143 : decode cX4_joinSpans 143 = .ok (.baload, 1) := by decide +kernel
theorem dX4_joinSpans_144 : decode cX4_joinSpans 144 = .ok (.ifCond .eq 19, 3) := by decide +kernel
theorem dX4_joinSpans_147 : decode cX4_joinSpans 147 = .ok (.lload 9, 2) := by decide +kernel
theorem dX4_joinSpans_149 : decode cX4_joinSpans 149 = .ok (.aload_n 0, 1) := by decide +kernel
theorem dX4_joinSpans_150 : decode cX4_joinSpans 150 = .ok (.getfield 15, 3) := by decide +kernel
theorem dX4_joinSpans_153 : decode cX4_joinSpans 153 = .ok (.iload 7, 2) := by decide +kernel
theorem dX4_joinSpans_155 : decode cX4_joinSpans 155 = .ok (.iload 15, 2) := by decide +kernel
theorem dX4_joinSpans_157 : decode cX4_joinSpans 157 = .ok (.iadd, 1) := by decide +kernel
theorem dX4_joinSpans_158 : decode cX4_joinSpans 158 = .ok (.laload, 1) := by decide +kernel
theorem dX4_joinSpans_159 : decode cX4_joinSpans 159 = .ok (.land, 1) := by decide +kernel
theorem dX4_joinSpans_160 : decode cX4_joinSpans 160 = .ok (.goto 16, 3) := by decide +kernel
theorem dX4_joinSpans_163 : decode cX4_joinSpans 163 = .ok (.aload_n 0, 1) := by decide +kernel
theorem dX4_joinSpans_164 : decode cX4_joinSpans 164 = .ok (.getfield 15, 3) := by decide +kernel
theorem dX4_joinSpans_167 : decode cX4_joinSpans 167 = .ok (.iload 6, 2) := by decide +kernel
theorem dX4_joinSpans_169 : decode cX4_joinSpans 169 = .ok (.iload 15, 2) := by decide +kernel
theorem dX4_joinSpans_171 : decode cX4_joinSpans 171 = .ok (.iadd, 1) := by decide +kernel
theorem dX4_joinSpans_172 : decode cX4_joinSpans 172 = .ok (.laload, 1) := by decide +kernel
theorem dX4_joinSpans_173 : decode cX4_joinSpans 173 = .ok (.lload 11, 2) := by decide +kernel
theorem dX4_joinSpans_175 : decode cX4_joinSpans 175 = .ok (.land, 1) := by decide +kernel
theorem dX4_joinSpans_176 : decode cX4_joinSpans 176 = .ok (.lstore 18, 2) := by decide +kernel
theorem dX4_joinSpans_178 : decode cX4_joinSpans 178 = .ok (.aload_n 0, 1) := by decide +kernel
theorem dX4_joinSpans_179 : decode cX4_joinSpans 179 = .ok (.getfield 15, 3) := by decide +kernel
theorem dX4_joinSpans_182 : decode cX4_joinSpans 182 = .ok (.iload 8, 2) := by decide +kernel
theorem dX4_joinSpans_184 : decode cX4_joinSpans 184 = .ok (.iload 15, 2) := by decide +kernel
theorem dX4_joinSpans_186 : decode cX4_joinSpans 186 = .ok (.iadd, 1) := by decide +kernel
theorem dX4_joinSpans_187 : decode cX4_joinSpans 187 = .ok (.dup2, 1) := by decide +kernel
theorem dX4_joinSpans_188 : decode cX4_joinSpans 188 = .ok (.laload, 1) := by decide +kernel
theorem dX4_joinSpans_189 : decode cX4_joinSpans 189 = .ok (.lload 16, 2) := by decide +kernel
theorem dX4_joinSpans_191 : decode cX4_joinSpans 191 = .ok (.lload 13, 2) := by decide +kernel
theorem dX4_joinSpans_193 : decode cX4_joinSpans 193 = .ok (.land, 1) := by decide +kernel
theorem dX4_joinSpans_194 : decode cX4_joinSpans 194 = .ok (.lload 18, 2) := by decide +kernel
theorem dX4_joinSpans_196 : decode cX4_joinSpans 196 = .ok (.lload 13, 2) := by decide +kernel
theorem dX4_joinSpans_198 : decode cX4_joinSpans 198 = .ok (.ldc2_w 64, 3) := by decide +kernel
theorem dX4_joinSpans_201 : decode cX4_joinSpans 201 = .ok (.lxor, 1) := by decide +kernel
theorem dX4_joinSpans_202 : decode cX4_joinSpans 202 = .ok (.land, 1) := by decide +kernel
theorem dX4_joinSpans_203 : decode cX4_joinSpans 203 = .ok (.lor, 1) := by decide +kernel
theorem dX4_joinSpans_204 : decode cX4_joinSpans 204 = .ok (.lor, 1) := by decide +kernel
theorem dX4_joinSpans_205 : decode cX4_joinSpans 205 = .ok (.lastore, 1) := by decide +kernel
theorem dX4_joinSpans_206 : decode cX4_joinSpans 206 = .ok (.iinc 15 1, 3) := by decide +kernel
theorem dX4_joinSpans_209 : decode cX4_joinSpans 209 = .ok (.goto (-111), 3) := by decide +kernel
theorem dX4_joinSpans_212 : decode cX4_joinSpans 212 = .ok (.iinc 5 1, 3) := by decide +kernel
theorem dX4_joinSpans_215 : decode cX4_joinSpans 215 = .ok (.goto (-212), 3) := by decide +kernel
theorem dX4_joinSpans_218 : decode cX4_joinSpans 218 = .ok (.return_, 1) := by decide +kernel
theorem dX4_anyAt_0 : decode cX4_anyAt 0 = .ok (.aload_n 0, 1) := by decide +kernel
theorem dX4_anyAt_1 : decode cX4_anyAt 1 = .ok (.getfield 15, 3) := by decide +kernel
theorem dX4_anyAt_4 : decode cX4_anyAt 4 = .ok (.iload_n 1, 1) := by decide +kernel
theorem dX4_anyAt_5 : decode cX4_anyAt 5 = .ok (.laload, 1) := by decide +kernel
theorem dX4_anyAt_6 : decode cX4_anyAt 6 = .ok (.aload_n 0, 1) := by decide +kernel
theorem dX4_anyAt_7 : decode cX4_anyAt 7 = .ok (.getfield 15, 3) := by decide +kernel
theorem dX4_anyAt_10 : decode cX4_anyAt 10 = .ok (.iload_n 1, 1) := by decide +kernel
theorem dX4_anyAt_11 : decode cX4_anyAt 11 = .ok (.iconst 1, 1) := by decide +kernel
theorem dX4_anyAt_12 : decode cX4_anyAt 12 = .ok (.iadd, 1) := by decide +kernel
theorem dX4_anyAt_13 : decode cX4_anyAt 13 = .ok (.laload, 1) := by decide +kernel
theorem dX4_anyAt_14 : decode cX4_anyAt 14 = .ok (.lor, 1) := by decide +kernel
theorem dX4_anyAt_15 : decode cX4_anyAt 15 = .ok (.aload_n 0, 1) := by decide +kernel
theorem dX4_anyAt_16 : decode cX4_anyAt 16 = .ok (.getfield 15, 3) := by decide +kernel
theorem dX4_anyAt_19 : decode cX4_anyAt 19 = .ok (.iload_n 1, 1) := by decide +kernel
theorem dX4_anyAt_20 : decode cX4_anyAt 20 = .ok (.iconst 2, 1) := by decide +kernel
theorem dX4_anyAt_21 : decode cX4_anyAt 21 = .ok (.iadd, 1) := by decide +kernel
theorem dX4_anyAt_22 : decode cX4_anyAt 22 = .ok (.laload, 1) := by decide +kernel
theorem dX4_anyAt_23 : decode cX4_anyAt 23 = .ok (.lor, 1) := by decide +kernel
theorem dX4_anyAt_24 : decode cX4_anyAt 24 = .ok (.aload_n 0, 1) := by decide +kernel
theorem dX4_anyAt_25 : decode cX4_anyAt 25 = .ok (.getfield 15, 3) := by decide +kernel
theorem dX4_anyAt_28 : decode cX4_anyAt 28 = .ok (.iload_n 1, 1) := by decide +kernel
theorem dX4_anyAt_29 : decode cX4_anyAt 29 = .ok (.iconst 3, 1) := by decide +kernel
theorem dX4_anyAt_30 : decode cX4_anyAt 30 = .ok (.iadd, 1) := by decide +kernel
theorem dX4_anyAt_31 : decode cX4_anyAt 31 = .ok (.laload, 1) := by decide +kernel
theorem dX4_anyAt_32 : decode cX4_anyAt 32 = .ok (.lor, 1) := by decide +kernel
theorem dX4_anyAt_33 : decode cX4_anyAt 33 = .ok (.lreturn, 1) := by decide +kernel
theorem dX5_init_0 : decode cX5_init 0 = .ok (.aload_n 0, 1) := by decide +kernel
theorem dX5_init_1 : decode cX5_init 1 = .ok (.invokespecial 3, 3) := by decide +kernel
theorem dX5_init_4 : decode cX5_init 4 = .ok (.aload_n 0, 1) := by decide +kernel
theorem dX5_init_5 : decode cX5_init 5 = .ok (.bipush 40, 2) := by decide +kernel
theorem dX5_init_7 : decode cX5_init 7 = .ok (.anewarray 9, 3) := by decide +kernel
theorem dX5_init_10 : decode cX5_init 10 = .ok (.putfield 11, 3) := by decide +kernel
theorem dX5_init_13 : decode cX5_init 13 = .ok (.aload_n 0, 1) := by decide +kernel
theorem dX5_init_14 : decode cX5_init 14 = .ok (.bipush 40, 2) := by decide +kernel
theorem dX5_init_16 : decode cX5_init 16 = .ok (.newarray .int, 2) := by decide +kernel
theorem dX5_init_18 : decode cX5_init 18 = .ok (.putfield 17, 3) := by decide +kernel
theorem dX5_init_21 : decode cX5_init 21 = .ok (.aload_n 0, 1) := by decide +kernel
theorem dX5_init_22 : decode cX5_init 22 = .ok (.iconst 0, 1) := by decide +kernel
theorem dX5_init_23 : decode cX5_init 23 = .ok (.putfield 21, 3) := by decide +kernel
theorem dX5_init_26 : decode cX5_init 26 = .ok (.aload_n 0, 1) := by decide +kernel
theorem dX5_init_27 : decode cX5_init 27 = .ok (.bipush 64, 2) := by decide +kernel
theorem dX5_init_29 : decode cX5_init 29 = .ok (.anewarray 9, 3) := by decide +kernel
theorem dX5_init_32 : decode cX5_init 32 = .ok (.putfield 25, 3) := by decide +kernel
theorem dX5_init_35 : decode cX5_init 35 = .ok (.aload_n 0, 1) := by decide +kernel
theorem dX5_init_36 : decode cX5_init 36 = .ok (.bipush 64, 2) := by decide +kernel
theorem dX5_init_38 : decode cX5_init 38 = .ok (.newarray .int, 2) := by decide +kernel
theorem dX5_init_40 : decode cX5_init 40 = .ok (.putfield 28, 3) := by decide +kernel
theorem dX5_init_43 : decode cX5_init 43 = .ok (.aload_n 0, 1) := by decide +kernel
theorem dX5_init_44 : decode cX5_init 44 = .ok (.iconst 0, 1) := by decide +kernel
theorem dX5_init_45 : decode cX5_init 45 = .ok (.putfield 31, 3) := by decide +kernel
theorem dX5_init_48 : decode cX5_init 48 = .ok (.aload_n 0, 1) := by decide +kernel
theorem dX5_init_49 : decode cX5_init 49 = .ok (.bipush 40, 2) := by decide +kernel
theorem dX5_init_51 : decode cX5_init 51 = .ok (.newarray .int, 2) := by decide +kernel
theorem dX5_init_53 : decode cX5_init 53 = .ok (.putfield 34, 3) := by decide +kernel
theorem dX5_init_56 : decode cX5_init 56 = .ok (.aload_n 0, 1) := by decide +kernel
theorem dX5_init_57 : decode cX5_init 57 = .ok (.iconst 0, 1) := by decide +kernel
theorem dX5_init_58 : decode cX5_init 58 = .ok (.putfield 37, 3) := by decide +kernel
theorem dX5_init_61 : decode cX5_init 61 = .ok (.aload_n 0, 1) := by decide +kernel
theorem dX5_init_62 : decode cX5_init 62 = .ok (.bipush 17, 2) := by decide +kernel
theorem dX5_init_64 : decode cX5_init 64 = .ok (.newarray .int, 2) := by decide +kernel
theorem dX5_init_66 : decode cX5_init 66 = .ok (.putfield 40, 3) := by decide +kernel
theorem dX5_init_69 : decode cX5_init 69 = .ok (.iconst 0, 1) := by decide +kernel
theorem dX5_init_70 : decode cX5_init 70 = .ok (.istore_n 1, 1) := by decide +kernel
theorem dX5_init_71 : decode cX5_init 71 = .ok (.iload_n 1, 1) := by decide +kernel
theorem dX5_init_72 : decode cX5_init 72 = .ok (.bipush 40, 2) := by decide +kernel
theorem dX5_init_74 : decode cX5_init 74 = .ok (.if_icmp .ge 22, 3) := by decide +kernel
theorem dX5_init_77 : decode cX5_init 77 = .ok (.aload_n 0, 1) := by decide +kernel
theorem dX5_init_78 : decode cX5_init 78 = .ok (.getfield 11, 3) := by decide +kernel
theorem dX5_init_81 : decode cX5_init 81 = .ok (.iload_n 1, 1) := by decide +kernel
theorem dX5_init_82 : decode cX5_init 82 = .ok (.new 9, 3) := by decide +kernel
theorem dX5_init_85 : decode cX5_init 85 = .ok (.dup, 1) := by decide +kernel
theorem dX5_init_86 : decode cX5_init 86 = .ok (.invokespecial 43, 3) := by decide +kernel
theorem dX5_init_89 : decode cX5_init 89 = .ok (.aastore, 1) := by decide +kernel
theorem dX5_init_90 : decode cX5_init 90 = .ok (.iinc 1 1, 3) := by decide +kernel
theorem dX5_init_93 : decode cX5_init 93 = .ok (.goto (-22), 3) := by decide +kernel
theorem dX5_init_96 : decode cX5_init 96 = .ok (.iconst 0, 1) := by decide +kernel
theorem dX5_init_97 : decode cX5_init 97 = .ok (.istore_n 1, 1) := by decide +kernel
theorem dX5_init_98 : decode cX5_init 98 = .ok (.iload_n 1, 1) := by decide +kernel
theorem dX5_init_99 : decode cX5_init 99 = .ok (.bipush 64, 2) := by decide +kernel
theorem dX5_init_101 : decode cX5_init 101 = .ok (.if_icmp .ge 22, 3) := by decide +kernel
theorem dX5_init_104 : decode cX5_init 104 = .ok (.aload_n 0, 1) := by decide +kernel
theorem dX5_init_105 : decode cX5_init 105 = .ok (.getfield 25, 3) := by decide +kernel
theorem dX5_init_108 : decode cX5_init 108 = .ok (.iload_n 1, 1) := by decide +kernel
theorem dX5_init_109 : decode cX5_init 109 = .ok (.new 9, 3) := by decide +kernel
theorem dX5_init_112 : decode cX5_init 112 = .ok (.dup, 1) := by decide +kernel
theorem dX5_init_113 : decode cX5_init 113 = .ok (.invokespecial 43, 3) := by decide +kernel
theorem dX5_init_116 : decode cX5_init 116 = .ok (.aastore, 1) := by decide +kernel
theorem dX5_init_117 : decode cX5_init 117 = .ok (.iinc 1 1, 3) := by decide +kernel
theorem dX5_init_120 : decode cX5_init 120 = .ok (.goto (-22), 3) := by decide +kernel
theorem dX5_init_123 : decode cX5_init 123 = .ok (.return_, 1) := by decide +kernel
theorem dX5_find_0 : decode cX5_find 0 = .ok (.aload_n 0, 1) := by decide +kernel
theorem dX5_find_1 : decode cX5_find 1 = .ok (.iconst 0, 1) := by decide +kernel
theorem dX5_find_2 : decode cX5_find 2 = .ok (.putfield 21, 3) := by decide +kernel
theorem dX5_find_5 : decode cX5_find 5 = .ok (.aload_n 0, 1) := by decide +kernel
theorem dX5_find_6 : decode cX5_find 6 = .ok (.iconst 0, 1) := by decide +kernel
theorem dX5_find_7 : decode cX5_find 7 = .ok (.putfield 31, 3) := by decide +kernel
theorem dX5_find_10 : decode cX5_find 10 = .ok (.iconst 0, 1) := by decide +kernel
theorem dX5_find_11 : decode cX5_find 11 = .ok (.istore 5, 2) := by decide +kernel
theorem dX5_find_13 : decode cX5_find 13 = .ok (.iload 5, 2) := by decide +kernel
theorem dX5_find_15 : decode cX5_find 15 = .ok (.aload_n 2, 1) := by decide +kernel
theorem dX5_find_16 : decode cX5_find 16 = .ok (.getfield 44, 3) := by decide +kernel
theorem dX5_find_19 : decode cX5_find 19 = .ok (.if_icmp .ge 35, 3) := by decide +kernel
theorem dX5_find_22 : decode cX5_find 22 = .ok (.iload_n 3, 1) := by decide +kernel
theorem dX5_find_23 : decode cX5_find 23 = .ok (.iload 5, 2) := by decide +kernel
theorem dX5_find_25 : decode cX5_find 25 = .ok (.invokestatic 45, 3) := by decide +kernel
theorem dX5_find_28 : decode cX5_find 28 = .ok (.ifCond .ne 11, 3) := by decide +kernel
theorem dX5_find_31 : decode cX5_find 31 = .ok (.aload_n 0, 1) := by decide +kernel
theorem dX5_find_32 : decode cX5_find 32 = .ok (.aload_n 1, 1) := by decide +kernel
theorem dX5_find_33 : decode cX5_find 33 = .ok (.aload_n 2, 1) := by decide +kernel
theorem dX5_find_34 : decode cX5_find 34 = .ok (.iload 5, 2) := by decide +kernel
theorem dX5_find_36 : decode cX5_find 36 = .ok (.invokevirtual 49, 3) := by decide +kernel
theorem dX5_find_39 : decode cX5_find 39 = .ok (.aload_n 0, 1) := by decide +kernel
theorem dX5_find_40 : decode cX5_find 40 = .ok (.aload_n 1, 1) := by decide +kernel
theorem dX5_find_41 : decode cX5_find 41 = .ok (.aload 4, 2) := by decide +kernel
theorem dX5_find_43 : decode cX5_find 43 = .ok (.bipush 48, 2) := by decide +kernel
theorem dX5_find_45 : decode cX5_find 45 = .ok (.invokevirtual 53, 3) := by decide +kernel
theorem dX5_find_48 : decode cX5_find 48 = .ok (.iinc 5 1, 3) := by decide +kernel
theorem dX5_find_51 : decode cX5_find 51 = .ok (.goto (-38), 3) := by decide +kernel
theorem dX5_find_54 : decode cX5_find 54 = .ok (.aload_n 0, 1) := by decide +kernel
theorem dX5_find_55 : decode cX5_find 55 = .ok (.aload_n 1, 1) := by decide +kernel
theorem dX5_find_56 : decode cX5_find 56 = .ok (.aload 4, 2) := by decide +kernel
theorem dX5_find_58 : decode cX5_find 58 = .ok (.iconst 0, 1) := by decide +kernel
theorem dX5_find_59 : decode cX5_find 59 = .ok (.invokevirtual 53, 3) := by decide +kernel
theorem dX5_find_62 : decode cX5_find 62 = .ok (.iconst 0, 1) := by decide +kernel
theorem dX5_find_63 : decode cX5_find 63 = .ok (.istore 5, 2) := by decide +kernel
theorem dX5_find_65 : decode cX5_find 65 = .ok (.iload 5, 2) := by decide +kernel
theorem dX5_find_67 : decode cX5_find 67 = .ok (.aload_n 2, 1) := by decide +kernel
theorem dX5_find_68 : decode cX5_find 68 = .ok (.getfield 44, 3) := by decide +kernel
theorem dX5_find_71 : decode cX5_find 71 = .ok (.if_icmp .ge 42, 3) := by decide +kernel
theorem dX5_find_74 : decode cX5_find 74 = .ok (.aload_n 2, 1) := by decide +kernel
theorem dX5_find_75 : decode cX5_find 75 = .ok (.getfield 44, 3) := by decide +kernel
theorem dX5_find_78 : decode cX5_find 78 = .ok (.iconst 1, 1) := by decide +kernel
theorem dX5_find_79 : decode cX5_find 79 = .ok (.if_icmp .le 34, 3) := by decide +kernel
theorem dX5_find_82 : decode cX5_find 82 = .ok (.iload_n 3, 1) := by decide +kernel
theorem dX5_find_83 : decode cX5_find 83 = .ok (.iload 5, 2) := by decide +kernel
theorem dX5_find_85 : decode cX5_find 85 = .ok (.invokestatic 45, 3) := by decide +kernel
theorem dX5_find_88 : decode cX5_find 88 = .ok (.ifCond .ne 19, 3) := by decide +kernel
theorem dX5_find_91 : decode cX5_find 91 = .ok (.aload_n 0, 1) := by decide +kernel
theorem dX5_find_92 : decode cX5_find 92 = .ok (.aload_n 1, 1) := by decide +kernel
theorem dX5_find_93 : decode cX5_find 93 = .ok (.getfield 57, 3) := by decide +kernel
theorem dX5_find_96 : decode cX5_find 96 = .ok (.iconst 3, 1) := by decide +kernel
theorem dX5_find_97 : decode cX5_find 97 = .ok (.iaload, 1) := by decide +kernel
theorem dX5_find_98 : decode cX5_find 98 = .ok (.invokevirtual 62, 3) := by decide +kernel
theorem dX5_find_101 : decode cX5_find 101 = .ok (.aload_n 2, 1) := by decide +kernel
theorem dX5_find_102 : decode cX5_find 102 = .ok (.iload 5, 2) := by decide +kernel
theorem dX5_find_104 : decode cX5_find 104 = .ok (.invokevirtual 66, 3) := by decide +kernel
theorem dX5_find_107 : decode cX5_find 107 = .ok (.iinc 5 1, 3) := by decide +kernel
theorem dX5_find_110 : decode cX5_find 110 = .ok (.goto (-45), 3) := by decide +kernel
theorem dX5_find_113 : decode cX5_find 113 = .ok (.aload_n 0, 1) := by decide +kernel
theorem dX5_find_114 : decode cX5_find 114 = .ok (.aload_n 1, 1) := by decide +kernel
theorem dX5_find_115 : decode cX5_find 115 = .ok (.aload 4, 2) := by decide +kernel
theorem dX5_find_117 : decode cX5_find 117 = .ok (.iconst 0, 1) := by decide +kernel
theorem dX5_find_118 : decode cX5_find 118 = .ok (.invokevirtual 53, 3) := by decide +kernel
theorem dX5_find_121 : decode cX5_find 121 = .ok (.iconst 0, 1) := by decide +kernel
theorem dX5_find_122 : decode cX5_find 122 = .ok (.istore 5, 2) := by decide +kernel
theorem dX5_find_124 : decode cX5_find 124 = .ok (.iload 5, 2) := by decide +kernel
theorem dX5_find_126 : decode cX5_find 126 = .ok (.aload_n 2, 1) := by decide +kernel
theorem dX5_find_127 : decode cX5_find 127 = .ok (.getfield 44, 3) := by decide +kernel
theorem dX5_find_130 : decode cX5_find 130 = .ok (.if_icmp .gt 63, 3) := by decide +kernel
theorem dX5_find_133 : decode cX5_find 133 = .ok (.aload_n 2, 1) := by decide +kernel
theorem dX5_find_134 : decode cX5_find 134 = .ok (.getfield 44, 3) := by decide +kernel
theorem dX5_find_137 : decode cX5_find 137 = .ok (.bipush 8, 2) := by decide +kernel
theorem dX5_find_139 : decode cX5_find 139 = .ok (.if_icmp .ge 54, 3) := by decide +kernel
theorem dX5_find_142 : decode cX5_find 142 = .ok (.iconst 0, 1) := by decide +kernel
theorem dX5_find_143 : decode cX5_find 143 = .ok (.istore 6, 2) := by decide +kernel
theorem dX5_find_145 : decode cX5_find 145 = .ok (.iload 6, 2) := by decide +kernel
theorem dX5_find_147 : decode cX5_find 147 = .ok (.aload_n 1, 1) := by decide +kernel
theorem dX5_find_148 : decode cX5_find 148 = .ok (.getfield 70, 3) := by decide +kernel
theorem dX5_find_151 : decode cX5_find 151 = .ok (.if_icmp .ge 27, 3) := by decide +kernel
theorem dX5_find_154 : decode cX5_find 154 = .ok (.aload_n 0, 1) := by decide +kernel
theorem dX5_find_155 : decode cX5_find 155 = .ok (.aload_n 1, 1) := by decide +kernel
theorem dX5_find_156 : decode cX5_find 156 = .ok (.getfield 57, 3) := by decide +kernel
theorem dX5_find_159 : decode cX5_find 159 = .ok (.iconst 4, 1) := by decide +kernel
theorem dX5_find_160 : decode cX5_find 160 = .ok (.iaload, 1) := by decide +kernel
theorem dX5_find_161 : decode cX5_find 161 = .ok (.invokevirtual 62, 3) := by decide +kernel
theorem dX5_find_164 : decode cX5_find 164 = .ok (.aload_n 2, 1) := by decide +kernel
theorem dX5_find_165 : decode cX5_find 165 = .ok (.iload 5, 2) := by decide +kernel
theorem dX5_find_167 : decode cX5_find 167 = .ok (.iload 6, 2) := by decide +kernel
theorem dX5_find_169 : decode cX5_find 169 = .ok (.invokevirtual 73, 3) := by decide +kernel
theorem dX5_find_172 : decode cX5_find 172 = .ok (.iinc 6 1, 3) := by decide +kernel
theorem dX5_find_175 : decode cX5_find 175 = .ok (.goto (-30), 3) := by decide +kernel
theorem dX5_find_178 : decode cX5_find 178 = .ok (.aload_n 0, 1) := by decide +kernel
theorem dX5_find_179 : decode cX5_find 179 = .ok (.aload_n 1, 1) := by decide +kernel
theorem dX5_find_180 : decode cX5_find 180 = .ok (.aload 4, 2) := by decide +kernel
theorem dX5_find_182 : decode cX5_find 182 = .ok (.bipush 48, 2) := by decide +kernel
theorem dX5_find_184 : decode cX5_find 184 = .ok (.invokevirtual 53, 3) := by decide +kernel
theorem dX5_find_187 : decode cX5_find 187 = .ok (.iinc 5 1, 3) := by decide +kernel
theorem dX5_find_190 : decode cX5_find 190 = .ok (.goto (-66), 3) := by decide +kernel
theorem dX5_find_193 : decode cX5_find 193 = .ok (.aload_n 0, 1) := by decide +kernel
theorem dX5_find_194 : decode cX5_find 194 = .ok (.aload_n 1, 1) := by decide +kernel
theorem dX5_find_195 : decode cX5_find 195 = .ok (.aload 4, 2) := by decide +kernel
theorem dX5_find_197 : decode cX5_find 197 = .ok (.iconst 0, 1) := by decide +kernel
theorem dX5_find_198 : decode cX5_find 198 = .ok (.invokevirtual 53, 3) := by decide +kernel
theorem dX5_find_201 : decode cX5_find 201 = .ok (.return_, 1) := by decide +kernel
theorem dX5_placeOf_0 : decode cX5_placeOf 0 = .ok (.iconst 0, 1) := by decide +kernel
theorem dX5_placeOf_1 : decode cX5_placeOf 1 = .ok (.istore_n 2, 1) := by decide +kernel
theorem dX5_placeOf_2 : decode cX5_placeOf 2 = .ok (.iload_n 2, 1) := by decide +kernel
theorem dX5_placeOf_3 : decode cX5_placeOf 3 = .ok (.aload_n 0, 1) := by decide +kernel
theorem dX5_placeOf_4 : decode cX5_placeOf 4 = .ok (.getfield 21, 3) := by decide +kernel
theorem dX5_placeOf_7 : decode cX5_placeOf 7 = .ok (.if_icmp .ge 24, 3) := by decide +kernel
theorem dX5_placeOf_10 : decode cX5_placeOf 10 = .ok (.aload_n 0, 1) := by decide +kernel
theorem dX5_placeOf_11 : decode cX5_placeOf 11 = .ok (.getfield 11, 3) := by decide +kernel
theorem dX5_placeOf_14 : decode cX5_placeOf 14 = .ok (.iload_n 2, 1) := by decide +kernel
theorem dX5_placeOf_15 : decode cX5_placeOf 15 = .ok (.aaload, 1) := by decide +kernel
theorem dX5_placeOf_16 : decode cX5_placeOf 16 = .ok (.aload_n 1, 1) := by decide +kernel
theorem dX5_placeOf_17 : decode cX5_placeOf 17 = .ok (.invokevirtual 77, 3) := by decide +kernel
theorem dX5_placeOf_20 : decode cX5_placeOf 20 = .ok (.ifCond .ne 5, 3) := by decide +kernel
theorem dX5_placeOf_23 : decode cX5_placeOf 23 = .ok (.iload_n 2, 1) := by decide +kernel
theorem dX5_placeOf_24 : decode cX5_placeOf 24 = .ok (.ireturn, 1) := by decide +kernel
theorem dX5_placeOf_25 : decode cX5_placeOf 25 = .ok (.iinc 2 1, 3) := by decide +kernel
theorem dX5_placeOf_28 : decode cX5_placeOf 28 = .ok (.goto (-26), 3) := by decide +kernel
theorem dX5_placeOf_31 : decode cX5_placeOf 31 = .ok (.bipush (-4), 2) := by decide +kernel
theorem dX5_placeOf_33 : decode cX5_placeOf 33 = .ok (.ireturn, 1) := by decide +kernel
theorem dX5_addSwaps_0 : decode cX5_addSwaps 0 = .ok (.aload_n 2, 1) := by decide +kernel
theorem dX5_addSwaps_1 : decode cX5_addSwaps 1 = .ok (.getfield 81, 3) := by decide +kernel
theorem dX5_addSwaps_4 : decode cX5_addSwaps 4 = .ok (.iload_n 3, 1) := by decide +kernel
theorem dX5_addSwaps_5 : decode cX5_addSwaps 5 = .ok (.iaload, 1) := by decide +kernel
theorem dX5_addSwaps_6 : decode cX5_addSwaps 6 = .ok (.istore 4, 2) := by decide +kernel
theorem dX5_addSwaps_8 : decode cX5_addSwaps 8 = .ok (.iconst 0, 1) := by decide +kernel
theorem dX5_addSwaps_9 : decode cX5_addSwaps 9 = .ok (.istore 5, 2) := by decide +kernel
theorem dX5_addSwaps_11 : decode cX5_addSwaps 11 = .ok (.iload 5, 2) := by decide +kernel
theorem dX5_addSwaps_13 : decode cX5_addSwaps 13 = .ok (.aload_n 1, 1) := by decide +kernel
theorem dX5_addSwaps_14 : decode cX5_addSwaps 14 = .ok (.getfield 70, 3) := by decide +kernel
theorem dX5_addSwaps_17 : decode cX5_addSwaps 17 = .ok (.if_icmp .ge 50, 3) := by decide +kernel
theorem dX5_addSwaps_20 : decode cX5_addSwaps 20 = .ok (.aload_n 1, 1) := by decide +kernel
theorem dX5_addSwaps_21 : decode cX5_addSwaps 21 = .ok (.iload 4, 2) := by decide +kernel
theorem dX5_addSwaps_23 : decode cX5_addSwaps 23 = .ok (.iload 5, 2) := by decide +kernel
theorem dX5_addSwaps_25 : decode cX5_addSwaps 25 = .ok (.aload_n 1, 1) := by decide +kernel
theorem dX5_addSwaps_26 : decode cX5_addSwaps 26 = .ok (.getfield 57, 3) := by decide +kernel
theorem dX5_addSwaps_29 : decode cX5_addSwaps 29 = .ok (.invokevirtual 83, 3) := by decide +kernel
theorem dX5_addSwaps_32 : decode cX5_addSwaps 32 = .ok (.istore 6, 2) := by decide +kernel
theorem dX5_addSwaps_34 : decode cX5_addSwaps 34 = .ok (.iload 5, 2) := by decide +kernel
theorem dX5_addSwaps_36 : decode cX5_addSwaps 36 = .ok (.iload 4, 2) := by decide +kernel
theorem dX5_addSwaps_38 : decode cX5_addSwaps 38 = .ok (.if_icmp .eq 23, 3) := by decide +kernel
theorem dX5_addSwaps_41 : decode cX5_addSwaps 41 = .ok (.iload 6, 2) := by decide +kernel
theorem dX5_addSwaps_43 : decode cX5_addSwaps 43 = .ok (.bipush 100, 2) := by decide +kernel
theorem dX5_addSwaps_45 : decode cX5_addSwaps 45 = .ok (.if_icmp .ge 16, 3) := by decide +kernel
theorem dX5_addSwaps_48 : decode cX5_addSwaps 48 = .ok (.aload_n 0, 1) := by decide +kernel
theorem dX5_addSwaps_49 : decode cX5_addSwaps 49 = .ok (.iload 6, 2) := by decide +kernel
theorem dX5_addSwaps_51 : decode cX5_addSwaps 51 = .ok (.invokevirtual 62, 3) := by decide +kernel
theorem dX5_addSwaps_54 : decode cX5_addSwaps 54 = .ok (.aload_n 2, 1) := by decide +kernel
theorem dX5_addSwaps_55 : decode cX5_addSwaps 55 = .ok (.iload_n 3, 1) := by decide +kernel
theorem dX5_addSwaps_56 : decode cX5_addSwaps 56 = .ok (.iload 5, 2) := by decide +kernel
theorem dX5_addSwaps_58 : decode cX5_addSwaps 58 = .ok (.invokevirtual 87, 3) := by decide +kernel
theorem dX5_addSwaps_61 : decode cX5_addSwaps 61 = .ok (.iinc 5 1, 3) := by decide +kernel
theorem dX5_addSwaps_64 : decode cX5_addSwaps 64 = .ok (.goto (-53), 3) := by decide +kernel
theorem dX5_addSwaps_67 : decode cX5_addSwaps 67 = .ok (.return_, 1) := by decide +kernel
theorem dX5_nextTry_0 : decode cX5_nextTry 0 = .ok (.aload_n 0, 1) := by decide +kernel
theorem dX5_nextTry_1 : decode cX5_nextTry 1 = .ok (.getfield 31, 3) := by decide +kernel
theorem dX5_nextTry_4 : decode cX5_nextTry 4 = .ok (.bipush 63, 2) := by decide +kernel
theorem dX5_nextTry_6 : decode cX5_nextTry 6 = .ok (.invokestatic 90, 3) := by decide +kernel
theorem dX5_nextTry_9 : decode cX5_nextTry 9 = .ok (.istore_n 2, 1) := by decide +kernel
theorem dX5_nextTry_10 : decode cX5_nextTry 10 = .ok (.aload_n 0, 1) := by decide +kernel
theorem dX5_nextTry_11 : decode cX5_nextTry 11 = .ok (.getfield 28, 3) := by decide +kernel
theorem dX5_nextTry_14 : decode cX5_nextTry 14 = .ok (.iload_n 2, 1) := by decide +kernel
theorem dX5_nextTry_15 : decode cX5_nextTry 15 = .ok (.iload_n 1, 1) := by decide +kernel
theorem dX5_nextTry_16 : decode cX5_nextTry 16 = .ok (.iastore, 1) := by decide +kernel
theorem dX5_nextTry_17 : decode cX5_nextTry 17 = .ok (.aload_n 0, 1) := by decide +kernel
theorem dX5_nextTry_18 : decode cX5_nextTry 18 = .ok (.iload_n 2, 1) := by decide +kernel
theorem dX5_nextTry_19 : decode cX5_nextTry 19 = .ok (.iconst 1, 1) := by decide +kernel
theorem dX5_nextTry_20 : decode cX5_nextTry 20 = .ok (.iadd, 1) := by decide +kernel
theorem dX5_nextTry_21 : decode cX5_nextTry 21 = .ok (.putfield 31, 3) := by decide +kernel
theorem dX5_nextTry_24 : decode cX5_nextTry 24 = .ok (.aload_n 0, 1) := by decide +kernel
theorem dX5_nextTry_25 : decode cX5_nextTry 25 = .ok (.getfield 25, 3) := by decide +kernel
theorem dX5_nextTry_28 : decode cX5_nextTry 28 = .ok (.iload_n 2, 1) := by decide +kernel
theorem dX5_nextTry_29 : decode cX5_nextTry 29 = .ok (.aaload, 1) := by decide +kernel
theorem dX5_nextTry_30 : decode cX5_nextTry 30 = .ok (.areturn, 1) := by decide +kernel
theorem dX5_readTries_0 : decode cX5_readTries 0 = .ok (.aload_n 0, 1) := by decide +kernel
theorem dX5_readTries_1 : decode cX5_readTries 1 = .ok (.getfield 31, 3) := by decide +kernel
theorem dX5_readTries_4 : decode cX5_readTries 4 = .ok (.iload_n 3, 1) := by decide +kernel
theorem dX5_readTries_5 : decode cX5_readTries 5 = .ok (.if_icmp .gt 4, 3) := by decide +kernel
theorem dX5_readTries_8 : decode cX5_readTries 8 = .ok (.return_, 1) := by decide +kernel
theorem dX5_readTries_9 : decode cX5_readTries 9 = .ok (.aload_n 2, 1) := by decide +kernel
theorem dX5_readTries_10 : decode cX5_readTries 10 = .ok (.invokevirtual 96, 3) := by decide +kernel
theorem dX5_readTries_13 : decode cX5_readTries 13 = .ok (.iconst 0, 1) := by decide +kernel
theorem dX5_readTries_14 : decode cX5_readTries 14 = .ok (.istore 4, 2) := by decide +kernel
theorem dX5_readTries_16 : decode cX5_readTries 16 = .ok (.iload 4, 2) := by decide +kernel
theorem dX5_readTries_18 : decode cX5_readTries 18 = .ok (.aload_n 0, 1) := by decide +kernel
theorem dX5_readTries_19 : decode cX5_readTries 19 = .ok (.getfield 31, 3) := by decide +kernel
theorem dX5_readTries_22 : decode cX5_readTries 22 = .ok (.if_icmp .ge 25, 3) := by decide +kernel
theorem dX5_readTries_25 : decode cX5_readTries 25 = .ok (.aload_n 2, 1) := by decide +kernel
theorem dX5_readTries_26 : decode cX5_readTries 26 = .ok (.aload_n 1, 1) := by decide +kernel
theorem dX5_readTries_27 : decode cX5_readTries 27 = .ok (.aload_n 0, 1) := by decide +kernel
theorem dX5_readTries_28 : decode cX5_readTries 28 = .ok (.getfield 25, 3) := by decide +kernel
theorem dX5_readTries_31 : decode cX5_readTries 31 = .ok (.iload 4, 2) := by decide +kernel
theorem dX5_readTries_33 : decode cX5_readTries 33 = .ok (.aaload, 1) := by decide +kernel
theorem dX5_readTries_34 : decode cX5_readTries 34 = .ok (.lconst 1, 1) := by decide +kernel
theorem dX5_readTries_35 : decode cX5_readTries 35 = .ok (.iload 4, 2) := by decide +kernel
theorem dX5_readTries_37 : decode cX5_readTries 37 = .ok (.lshl, 1) := by decide +kernel
theorem dX5_readTries_38 : decode cX5_readTries 38 = .ok (.invokevirtual 101, 3) := by decide +kernel
theorem dX5_readTries_41 : decode cX5_readTries 41 = .ok (.iinc 4 1, 3) := by decide +kernel
theorem dX5_readTries_44 : decode cX5_readTries 44 = .ok (.goto (-28), 3) := by decide +kernel
theorem dX5_readTries_47 : decode cX5_readTries 47 = .ok (.aload_n 2, 1) := by decide +kernel
theorem dX5_readTries_48 : decode cX5_readTries 48 = .ok (.aload_n 1, 1) := by decide +kernel
theorem dX5_readTries_49 : decode cX5_readTries 49 = .ok (.aload_n 0, 1) := by decide +kernel
theorem dX5_readTries_50 : decode cX5_readTries 50 = .ok (.getfield 25, 3) := by decide +kernel
theorem dX5_readTries_53 : decode cX5_readTries 53 = .ok (.iconst 0, 1) := by decide +kernel
theorem dX5_readTries_54 : decode cX5_readTries 54 = .ok (.aaload, 1) := by decide +kernel
theorem dX5_readTries_55 : decode cX5_readTries 55 = .ok (.getfield 44, 3) := by decide +kernel
theorem dX5_readTries_58 : decode cX5_readTries 58 = .ok (.invokevirtual 105, 3) := by decide +kernel
theorem dX5_readTries_61 : decode cX5_readTries 61 = .ok (.aload_n 2, 1) := by decide +kernel
theorem dX5_readTries_62 : decode cX5_readTries 62 = .ok (.aload_n 0, 1) := by decide +kernel
theorem dX5_readTries_63 : decode cX5_readTries 63 = .ok (.getfield 25, 3) := by decide +kernel
theorem dX5_readTries_66 : decode cX5_readTries 66 = .ok (.iconst 0, 1) := by decide +kernel
theorem dX5_readTries_67 : decode cX5_readTries 67 = .ok (.aaload, 1) := by decide +kernel
theorem dX5_readTries_68 : decode cX5_readTries 68 = .ok (.getfield 44, 3) := by decide +kernel
theorem dX5_readTries_71 : decode cX5_readTries 71 = .ok (.invokevirtual 109, 3) := by decide +kernel
theorem dX5_readTries_74 : decode cX5_readTries 74 = .ok (.lstore 4, 2) := by decide +kernel
theorem dX5_readTries_76 : decode cX5_readTries 76 = .ok (.iconst 0, 1) := by decide +kernel
theorem dX5_readTries_77 : decode cX5_readTries 77 = .ok (.istore 6, 2) := by decide +kernel
theorem dX5_readTries_79 : decode cX5_readTries 79 = .ok (.iload 6, 2) := by decide +kernel
theorem dX5_readTries_81 : decode cX5_readTries 81 = .ok (.aload_n 0, 1) := by decide +kernel
theorem dX5_readTries_82 : decode cX5_readTries 82 = .ok (.getfield 31, 3) := by decide +kernel
theorem dX5_readTries_85 : decode cX5_readTries 85 = .ok (.if_icmp .ge 39, 3) := by decide +kernel
theorem dX5_readTries_88 : decode cX5_readTries 88 = .ok (.lload 4, 2) := by decide +kernel
theorem dX5_readTries_90 : decode cX5_readTries 90 = .ok (.iload 6, 2) := by decide +kernel
theorem dX5_readTries_92 : decode cX5_readTries 92 = .ok (.lushr, 1) := by decide +kernel
theorem dX5_readTries_93 : decode cX5_readTries 93 = .ok (.lconst 1, 1) := by decide +kernel
theorem dX5_readTries_94 : decode cX5_readTries 94 = .ok (.land, 1) := by decide +kernel
theorem dX5_readTries_95 : decode cX5_readTries 95 = .ok (.lconst 1, 1) := by decide +kernel
theorem dX5_readTries_96 : decode cX5_readTries 96 = .ok (.lcmp, 1) := by decide +kernel
theorem dX5_readTries_97 : decode cX5_readTries 97 = .ok (.ifCond .ne 21, 3) := by decide +kernel
theorem dX5_readTries_100 : decode cX5_readTries 100 = .ok (.aload_n 0, 1) := by decide +kernel
theorem dX5_readTries_101 : decode cX5_readTries 101 = .ok (.aload_n 0, 1) := by decide +kernel
theorem dX5_readTries_102 : decode cX5_readTries 102 = .ok (.getfield 25, 3) := by decide +kernel
theorem dX5_readTries_105 : decode cX5_readTries 105 = .ok (.iload 6, 2) := by decide +kernel
theorem dX5_readTries_107 : decode cX5_readTries 107 = .ok (.aaload, 1) := by decide +kernel
theorem dX5_readTries_108 : decode cX5_readTries 108 = .ok (.aload_n 0, 1) := by decide +kernel
theorem dX5_readTries_109 : decode cX5_readTries 109 = .ok (.getfield 28, 3) := by decide +kernel
theorem dX5_readTries_112 : decode cX5_readTries 112 = .ok (.iload 6, 2) := by decide +kernel
theorem dX5_readTries_114 : decode cX5_readTries 114 = .ok (.iaload, 1) := by decide +kernel
theorem dX5_readTries_115 : decode cX5_readTries 115 = .ok (.invokevirtual 113, 3) := by decide +kernel
theorem dX5_readTries_118 : decode cX5_readTries 118 = .ok (.iinc 6 1, 3) := by decide +kernel
theorem dX5_readTries_121 : decode cX5_readTries 121 = .ok (.goto (-42), 3) := by decide +kernel
theorem dX5_readTries_124 : decode cX5_readTries 124 = .ok (.aload_n 0, 1) := by decide +kernel
theorem dX5_readTries_125 : decode cX5_readTries 125 = .ok (.iconst 0, 1) := by decide +kernel
theorem dX5_readTries_126 : decode cX5_readTries 126 = .ok (.putfield 31, 3) := by decide +kernel
theorem dX5_readTries_129 : decode cX5_readTries 129 = .ok (.return_, 1) := by decide +kernel
theorem dX5_insert_0 : decode cX5_insert 0 = .ok (.iconst 0, 1) := by decide +kernel
theorem dX5_insert_1 : decode cX5_insert 1 = .ok (.istore_n 3, 1) := by decide +kernel
theorem dX5_insert_2 : decode cX5_insert 2 = .ok (.iload_n 3, 1) := by decide +kernel
theorem dX5_insert_3 : decode cX5_insert 3 = .ok (.aload_n 0, 1) := by decide +kernel
theorem dX5_insert_4 : decode cX5_insert 4 = .ok (.getfield 21, 3) := by decide +kernel
theorem dX5_insert_7 : decode cX5_insert 7 = .ok (.if_icmp .ge 19, 3) := by decide +kernel
theorem dX5_insert_10 : decode cX5_insert 10 = .ok (.aload_n 0, 1) := by decide +kernel
theorem dX5_insert_11 : decode cX5_insert 11 = .ok (.iload_n 3, 1) := by decide +kernel
theorem dX5_insert_12 : decode cX5_insert 12 = .ok (.aload_n 1, 1) := by decide +kernel
theorem dX5_insert_13 : decode cX5_insert 13 = .ok (.iload_n 2, 1) := by decide +kernel
theorem dX5_insert_14 : decode cX5_insert 14 = .ok (.invokevirtual 116, 3) := by decide +kernel
theorem dX5_insert_17 : decode cX5_insert 17 = .ok (.ifCond .ge 9, 3) := by decide +kernel
theorem dX5_insert_20 : decode cX5_insert 20 = .ok (.iinc 3 1, 3) := by decide +kernel
theorem dX5_insert_23 : decode cX5_insert 23 = .ok (.goto (-21), 3) := by decide +kernel
theorem dX5_insert_26 : decode cX5_insert 26 = .ok (.iload_n 3, 1) := by decide +kernel
theorem dX5_insert_27 : decode cX5_insert 27 = .ok (.bipush 40, 2) := by decide +kernel
theorem dX5_insert_29 : decode cX5_insert 29 = .ok (.if_icmp .eq 21, 3) := by decide +kernel
theorem dX5_insert_32 : decode cX5_insert 32 = .ok (.iload_n 3, 1) := by decide +kernel
theorem dX5_insert_33 : decode cX5_insert 33 = .ok (.aload_n 0, 1) := by decide +kernel
theorem dX5_insert_34 : decode cX5_insert 34 = .ok (.getfield 21, 3) := by decide +kernel
theorem dX5_insert_37 : decode cX5_insert 37 = .ok (.if_icmp .ge 14, 3) := by decide +kernel
theorem dX5_insert_40 : decode cX5_insert 40 = .ok (.aload_n 0, 1) := by decide +kernel
theorem dX5_insert_41 : decode cX5_insert 41 = .ok (.iload_n 3, 1) := by decide +kernel
theorem dX5_insert_42 : decode cX5_insert 42 = .ok (.aload_n 1, 1) := by decide +kernel
theorem dX5_insert_43 : decode cX5_insert 43 = .ok (.iload_n 2, 1) := by decide +kernel
theorem dX5_insert_44 : decode cX5_insert 44 = .ok (.invokevirtual 116, 3) := by decide +kernel
theorem dX5_insert_47 : decode cX5_insert 47 = .ok (.ifCond .ne 4, 3) := by decide +kernel
theorem dX5_insert_50 : decode cX5_insert 50 = .ok (.return_, 1) := by decide +kernel
theorem dX5_insert_51 : decode cX5_insert 51 = .ok (.aload_n 0, 1) := by decide +kernel
theorem dX5_insert_52 : decode cX5_insert 52 = .ok (.getfield 21, 3) := by decide +kernel
theorem dX5_insert_55 : decode cX5_insert 55 = .ok (.bipush 40, 2) := by decide +kernel
theorem dX5_insert_57 : decode cX5_insert 57 = .ok (.if_icmp .ge 13, 3) := by decide +kernel
theorem dX5_insert_60 : decode cX5_insert 60 = .ok (.aload_n 0, 1) := by decide +kernel
theorem dX5_insert_61 : decode cX5_insert 61 = .ok (.dup, 1) := by decide +kernel
theorem dX5_insert_62 : decode cX5_insert 62 = .ok (.getfield 21, 3) := by decide +kernel
theorem dX5_insert_65 : decode cX5_insert 65 = .ok (.iconst 1, 1) := by decide +kernel
theorem dX5_insert_66 : decode cX5_insert 66 = .ok (.iadd, 1) := by decide +kernel
theorem dX5_insert_67 : decode cX5_insert 67 = .ok (.putfield 21, 3) := by decide +kernel
theorem dX5_insert_70 : decode cX5_insert 70 = .ok (.aload_n 0, 1) := by decide +kernel
theorem dX5_insert_71 : decode cX5_insert 71 = .ok (.getfield 11, 3) := by decide +kernel
theorem dX5_insert_74 : decode cX5_insert 74 = .ok (.aload_n 0, 1) := by decide +kernel
theorem dX5_insert_75 : decode cX5_insert 75 = .ok (.getfield 21, 3) := by decide +kernel
theorem dX5_insert_78 : decode cX5_insert 78 = .ok (.iconst 1, 1) := by decide +kernel
theorem dX5_insert_79 : decode cX5_insert 79 = .ok (.isub, 1) := by decide +kernel
theorem dX5_insert_80 : decode cX5_insert 80 = .ok (.aaload, 1) := by decide +kernel
theorem dX5_insert_81 : decode cX5_insert 81 = .ok (.astore 4, 2) := by decide +kernel
theorem dX5_insert_83 : decode cX5_insert 83 = .ok (.aload_n 0, 1) := by decide +kernel
theorem dX5_insert_84 : decode cX5_insert 84 = .ok (.getfield 21, 3) := by decide +kernel
theorem dX5_insert_87 : decode cX5_insert 87 = .ok (.iconst 1, 1) := by decide +kernel
theorem dX5_insert_88 : decode cX5_insert 88 = .ok (.isub, 1) := by decide +kernel
theorem dX5_insert_89 : decode cX5_insert 89 = .ok (.istore 5, 2) := by decide +kernel
theorem dX5_insert_91 : decode cX5_insert 91 = .ok (.iload 5, 2) := by decide +kernel
theorem dX5_insert_93 : decode cX5_insert 93 = .ok (.iload_n 3, 1) := by decide +kernel
theorem dX5_insert_94 : decode cX5_insert 94 = .ok (.if_icmp .le 41, 3) := by decide +kernel
theorem dX5_insert_97 : decode cX5_insert 97 = .ok (.aload_n 0, 1) := by decide +kernel
theorem dX5_insert_98 : decode cX5_insert 98 = .ok (.getfield 11, 3) := by decide +kernel
theorem dX5_insert_101 : decode cX5_insert 101 = .ok (.iload 5, 2) := by decide +kernel
theorem dX5_insert_103 : decode cX5_insert 103 = .ok (.aload_n 0, 1) := by decide +kernel
theorem dX5_insert_104 : decode cX5_insert 104 = .ok (.getfield 11, 3) := by decide +kernel
theorem dX5_insert_107 : decode cX5_insert 107 = .ok (.iload 5, 2) := by decide +kernel
theorem dX5_insert_109 : decode cX5_insert 109 = .ok (.iconst 1, 1) := by decide +kernel
theorem dX5_insert_110 : decode cX5_insert 110 = .ok (.isub, 1) := by decide +kernel
theorem dX5_insert_111 : decode cX5_insert 111 = .ok (.aaload, 1) := by decide +kernel
theorem dX5_insert_112 : decode cX5_insert 112 = .ok (.aastore, 1) := by decide +kernel
theorem dX5_insert_113 : decode cX5_insert 113 = .ok (.aload_n 0, 1) := by decide +kernel
theorem dX5_insert_114 : decode cX5_insert 114 = .ok (.getfield 17, 3) := by decide +kernel
theorem dX5_insert_117 : decode cX5_insert 117 = .ok (.iload 5, 2) := by decide +kernel
theorem dX5_insert_119 : decode cX5_insert 119 = .ok (.aload_n 0, 1) := by decide +kernel
theorem dX5_insert_120 : decode cX5_insert 120 = .ok (.getfield 17, 3) := by decide +kernel
theorem dX5_insert_123 : decode cX5_insert 123 = .ok (.iload 5, 2) := by decide +kernel
theorem dX5_insert_125 : decode cX5_insert 125 = .ok (.iconst 1, 1) := by decide +kernel
theorem dX5_insert_126 : decode cX5_insert 126 = .ok (.isub, 1) := by decide +kernel
theorem dX5_insert_127 : decode cX5_insert 127 = .ok (.iaload, 1) := by decide +kernel
theorem dX5_insert_128 : decode cX5_insert 128 = .ok (.iastore, 1) := by decide +kernel
theorem dX5_insert_129 : decode cX5_insert 129 = .ok (.iinc 5 (-1), 3) := by decide +kernel
theorem dX5_insert_132 : decode cX5_insert 132 = .ok (.goto (-41), 3) := by decide +kernel
theorem dX5_insert_135 : decode cX5_insert 135 = .ok (.aload_n 0, 1) := by decide +kernel
theorem dX5_insert_136 : decode cX5_insert 136 = .ok (.getfield 11, 3) := by decide +kernel
theorem dX5_insert_139 : decode cX5_insert 139 = .ok (.iload_n 3, 1) := by decide +kernel
theorem dX5_insert_140 : decode cX5_insert 140 = .ok (.aload 4, 2) := by decide +kernel
theorem dX5_insert_142 : decode cX5_insert 142 = .ok (.aastore, 1) := by decide +kernel
theorem dX5_insert_143 : decode cX5_insert 143 = .ok (.aload 4, 2) := by decide +kernel
theorem dX5_insert_145 : decode cX5_insert 145 = .ok (.aload_n 1, 1) := by decide +kernel
theorem dX5_insert_146 : decode cX5_insert 146 = .ok (.invokevirtual 120, 3) := by decide +kernel
theorem dX5_insert_149 : decode cX5_insert 149 = .ok (.aload_n 0, 1) := by decide +kernel
theorem dX5_insert_150 : decode cX5_insert 150 = .ok (.getfield 17, 3) := by decide +kernel
theorem dX5_insert_153 : decode cX5_insert 153 = .ok (.iload_n 3, 1) := by decide +kernel
theorem dX5_insert_154 : decode cX5_insert 154 = .ok (.iload_n 2, 1) := by decide +kernel
theorem dX5_insert_155 : decode cX5_insert 155 = .ok (.iastore, 1) := by decide +kernel
theorem dX5_insert_156 : decode cX5_insert 156 = .ok (.return_, 1) := by decide +kernel
theorem dX5_orderAt_0 : decode cX5_orderAt 0 = .ok (.aload_n 0, 1) := by decide +kernel
theorem dX5_orderAt_1 : decode cX5_orderAt 1 = .ok (.getfield 17, 3) := by decide +kernel
theorem dX5_orderAt_4 : decode cX5_orderAt 4 = .ok (.iload_n 1, 1) := by decide +kernel
theorem dX5_orderAt_5 : decode cX5_orderAt 5 = .ok (.iaload, 1) := by decide +kernel
theorem dX5_orderAt_6 : decode cX5_orderAt 6 = .ok (.iload_n 3, 1) := by decide +kernel
theorem dX5_orderAt_7 : decode cX5_orderAt 7 = .ok (.if_icmp .eq 14, 3) := by decide +kernel
theorem dX5_orderAt_10 : decode cX5_orderAt 10 = .ok (.aload_n 0, 1) := by decide +kernel
theorem dX5_orderAt_11 : decode cX5_orderAt 11 = .ok (.getfield 17, 3) := by decide +kernel
theorem dX5_orderAt_14 : decode cX5_orderAt 14 = .ok (.iload_n 1, 1) := by decide +kernel
theorem dX5_orderAt_15 : decode cX5_orderAt 15 = .ok (.iaload, 1) := by decide +kernel
theorem dX5_orderAt_16 : decode cX5_orderAt 16 = .ok (.iload_n 3, 1) := by decide +kernel
theorem dX5_orderAt_17 : decode cX5_orderAt 17 = .ok (.isub, 1) := by decide +kernel
theorem dX5_orderAt_18 : decode cX5_orderAt 18 = .ok (.goto 13, 3) := by decide +kernel
theorem dX5_orderAt_21 : decode cX5_orderAt 21 = .ok (.aload_n 0, 1) := by decide +kernel
theorem dX5_orderAt_22 : decode cX5_orderAt 22 = .ok (.getfield 11, 3) := by decide +kernel
theorem dX5_orderAt_25 : decode cX5_orderAt 25 = .ok (.iload_n 1, 1) := by decide +kernel
theorem dX5_orderAt_26 : decode cX5_orderAt 26 = .ok (.aaload, 1) := by decide +kernel
theorem dX5_orderAt_27 : decode cX5_orderAt 27 = .ok (.aload_n 2, 1) := by decide +kernel
theorem dX5_orderAt_28 : decode cX5_orderAt 28 = .ok (.invokevirtual 77, 3) := by decide +kernel
theorem dX5_orderAt_31 : decode cX5_orderAt 31 = .ok (.ireturn, 1) := by decide +kernel
theorem dX5_gatherHeaps_0 : decode cX5_gatherHeaps 0 = .ok (.aload_n 0, 1) := by decide +kernel
theorem dX5_gatherHeaps_1 : decode cX5_gatherHeaps 1 = .ok (.iconst 0, 1) := by decide +kernel
theorem dX5_gatherHeaps_2 : decode cX5_gatherHeaps 2 = .ok (.putfield 37, 3) := by decide +kernel
theorem dX5_gatherHeaps_5 : decode cX5_gatherHeaps 5 = .ok (.iconst 0, 1) := by decide +kernel
theorem dX5_gatherHeaps_6 : decode cX5_gatherHeaps 6 = .ok (.istore_n 2, 1) := by decide +kernel
theorem dX5_gatherHeaps_7 : decode cX5_gatherHeaps 7 = .ok (.iload_n 2, 1) := by decide +kernel
theorem dX5_gatherHeaps_8 : decode cX5_gatherHeaps 8 = .ok (.aload_n 0, 1) := by decide +kernel
theorem dX5_gatherHeaps_9 : decode cX5_gatherHeaps 9 = .ok (.getfield 21, 3) := by decide +kernel
theorem dX5_gatherHeaps_12 : decode cX5_gatherHeaps 12 = .ok (.if_icmp .ge 43, 3) := by decide +kernel
theorem dX5_gatherHeaps_15 : decode cX5_gatherHeaps 15 = .ok (.aload_n 0, 1) := by decide +kernel
theorem dX5_gatherHeaps_16 : decode cX5_gatherHeaps 16 = .ok (.aload_n 1, 1) := by decide +kernel
theorem dX5_gatherHeaps_17 : decode cX5_gatherHeaps 17 = .ok (.aload_n 0, 1) := by decide +kernel
theorem dX5_gatherHeaps_18 : decode cX5_gatherHeaps 18 = .ok (.getfield 11, 3) := by decide +kernel
theorem dX5_gatherHeaps_21 : decode cX5_gatherHeaps 21 = .ok (.iload_n 2, 1) := by decide +kernel
theorem dX5_gatherHeaps_22 : decode cX5_gatherHeaps 22 = .ok (.aaload, 1) := by decide +kernel
theorem dX5_gatherHeaps_23 : decode cX5_gatherHeaps 23 = .ok (.invokevirtual 124, 3) := by decide +kernel
theorem dX5_gatherHeaps_26 : decode cX5_gatherHeaps 26 = .ok (.ifCond .ne 23, 3) := by decide +kernel
theorem dX5_gatherHeaps_29 : decode cX5_gatherHeaps 29 = .ok (.aload_n 0, 1) := by decide +kernel
theorem dX5_gatherHeaps_30 : decode cX5_gatherHeaps 30 = .ok (.getfield 34, 3) := by decide +kernel
theorem dX5_gatherHeaps_33 : decode cX5_gatherHeaps 33 = .ok (.aload_n 0, 1) := by decide +kernel
theorem dX5_gatherHeaps_34 : decode cX5_gatherHeaps 34 = .ok (.getfield 37, 3) := by decide +kernel
theorem dX5_gatherHeaps_37 : decode cX5_gatherHeaps 37 = .ok (.iload_n 2, 1) := by decide +kernel
theorem dX5_gatherHeaps_38 : decode cX5_gatherHeaps 38 = .ok (.iastore, 1) := by decide +kernel
theorem dX5_gatherHeaps_39 : decode cX5_gatherHeaps 39 = .ok (.aload_n 0, 1) := by decide +kernel
theorem dX5_gatherHeaps_40 : decode cX5_gatherHeaps 40 = .ok (.dup, 1) := by decide +kernel
theorem dX5_gatherHeaps_41 : decode cX5_gatherHeaps 41 = .ok (.getfield 37, 3) := by decide +kernel
theorem dX5_gatherHeaps_44 : decode cX5_gatherHeaps 44 = .ok (.iconst 1, 1) := by decide +kernel
theorem dX5_gatherHeaps_45 : decode cX5_gatherHeaps 45 = .ok (.iadd, 1) := by decide +kernel
theorem dX5_gatherHeaps_46 : decode cX5_gatherHeaps 46 = .ok (.putfield 37, 3) := by decide +kernel
theorem dX5_gatherHeaps_49 : decode cX5_gatherHeaps 49 = .ok (.iinc 2 1, 3) := by decide +kernel
theorem dX5_gatherHeaps_52 : decode cX5_gatherHeaps 52 = .ok (.goto (-45), 3) := by decide +kernel
theorem dX5_gatherHeaps_55 : decode cX5_gatherHeaps 55 = .ok (.return_, 1) := by decide +kernel
theorem dX5_isHeaped_0 : decode cX5_isHeaped 0 = .ok (.iconst 0, 1) := by decide +kernel
theorem dX5_isHeaped_1 : decode cX5_isHeaped 1 = .ok (.istore_n 3, 1) := by decide +kernel
theorem dX5_isHeaped_2 : decode cX5_isHeaped 2 = .ok (.iload_n 3, 1) := by decide +kernel
theorem dX5_isHeaped_3 : decode cX5_isHeaped 3 = .ok (.aload_n 0, 1) := by decide +kernel
theorem dX5_isHeaped_4 : decode cX5_isHeaped 4 = .ok (.getfield 37, 3) := by decide +kernel
theorem dX5_isHeaped_7 : decode cX5_isHeaped 7 = .ok (.if_icmp .ge 30, 3) := by decide +kernel
theorem dX5_isHeaped_10 : decode cX5_isHeaped 10 = .ok (.aload_n 2, 1) := by decide +kernel
theorem dX5_isHeaped_11 : decode cX5_isHeaped 11 = .ok (.aload_n 1, 1) := by decide +kernel
theorem dX5_isHeaped_12 : decode cX5_isHeaped 12 = .ok (.aload_n 0, 1) := by decide +kernel
theorem dX5_isHeaped_13 : decode cX5_isHeaped 13 = .ok (.getfield 11, 3) := by decide +kernel
theorem dX5_isHeaped_16 : decode cX5_isHeaped 16 = .ok (.aload_n 0, 1) := by decide +kernel
theorem dX5_isHeaped_17 : decode cX5_isHeaped 17 = .ok (.getfield 34, 3) := by decide +kernel
theorem dX5_isHeaped_20 : decode cX5_isHeaped 20 = .ok (.iload_n 3, 1) := by decide +kernel
theorem dX5_isHeaped_21 : decode cX5_isHeaped 21 = .ok (.iaload, 1) := by decide +kernel
theorem dX5_isHeaped_22 : decode cX5_isHeaped 22 = .ok (.aaload, 1) := by decide +kernel
theorem dX5_isHeaped_23 : decode cX5_isHeaped 23 = .ok (.invokevirtual 128, 3) := by decide +kernel
theorem dX5_isHeaped_26 : decode cX5_isHeaped 26 = .ok (.ifCond .eq 5, 3) := by decide +kernel
theorem dX5_isHeaped_29 : decode cX5_isHeaped 29 = .ok (.iconst 1, 1) := by decide +kernel
theorem dX5_isHeaped_30 : decode cX5_isHeaped 30 = .ok (.ireturn, 1) := by decide +kernel
theorem dX5_isHeaped_31 : decode cX5_isHeaped 31 = .ok (.iinc 3 1, 3) := by decide +kernel
theorem dX5_isHeaped_34 : decode cX5_isHeaped 34 = .ok (.goto (-32), 3) := by decide +kernel
theorem dX5_isHeaped_37 : decode cX5_isHeaped 37 = .ok (.iconst 0, 1) := by decide +kernel
theorem dX5_isHeaped_38 : decode cX5_isHeaped 38 = .ok (.ireturn, 1) := by decide +kernel
theorem dX5_firstStandsOut_0 : decode cX5_firstStandsOut 0 = .ok (.aload_n 0, 1) := by decide +kernel
theorem dX5_firstStandsOut_1 : decode cX5_firstStandsOut 1 = .ok (.getfield 37, 3) := by decide +kernel
theorem dX5_firstStandsOut_4 : decode cX5_firstStandsOut 4 = .ok (.iconst 1, 1) := by decide +kernel
theorem dX5_firstStandsOut_5 : decode cX5_firstStandsOut 5 = .ok (.if_icmp .eq 38, 3) := by decide +kernel
theorem dX5_firstStandsOut_8 : decode cX5_firstStandsOut 8 = .ok (.aload_n 0, 1) := by decide +kernel
theorem dX5_firstStandsOut_9 : decode cX5_firstStandsOut 9 = .ok (.getfield 37, 3) := by decide +kernel
theorem dX5_firstStandsOut_12 : decode cX5_firstStandsOut 12 = .ok (.iconst 1, 1) := by decide +kernel
theorem dX5_firstStandsOut_13 : decode cX5_firstStandsOut 13 = .ok (.if_icmp .le 34, 3) := by decide +kernel
theorem dX5_firstStandsOut_16 : decode cX5_firstStandsOut 16 = .ok (.aload_n 0, 1) := by decide +kernel
theorem dX5_firstStandsOut_17 : decode cX5_firstStandsOut 17 = .ok (.getfield 17, 3) := by decide +kernel
theorem dX5_firstStandsOut_20 : decode cX5_firstStandsOut 20 = .ok (.aload_n 0, 1) := by decide +kernel
theorem dX5_firstStandsOut_21 : decode cX5_firstStandsOut 21 = .ok (.getfield 34, 3) := by decide +kernel
theorem dX5_firstStandsOut_24 : decode cX5_firstStandsOut 24 = .ok (.iconst 1, 1) := by decide +kernel
theorem dX5_firstStandsOut_25 : decode cX5_firstStandsOut 25 = .ok (.iaload, 1) := by decide +kernel
theorem dX5_firstStandsOut_26 : decode cX5_firstStandsOut 26 = .ok (.iaload, 1) := by decide +kernel
theorem dX5_firstStandsOut_27 : decode cX5_firstStandsOut 27 = .ok (.aload_n 0, 1) := by decide +kernel
theorem dX5_firstStandsOut_28 : decode cX5_firstStandsOut 28 = .ok (.getfield 17, 3) := by decide +kernel
theorem dX5_firstStandsOut_31 : decode cX5_firstStandsOut 31 = .ok (.aload_n 0, 1) := by decide +kernel
theorem dX5_firstStandsOut_32 : decode cX5_firstStandsOut 32 = .ok (.getfield 34, 3) := by decide +kernel
theorem dX5_firstStandsOut_35 : decode cX5_firstStandsOut 35 = .ok (.iconst 0, 1) := by decide +kernel
theorem dX5_firstStandsOut_36 : decode cX5_firstStandsOut 36 = .ok (.iaload, 1) := by decide +kernel
theorem dX5_firstStandsOut_37 : decode cX5_firstStandsOut 37 = .ok (.iaload, 1) := by decide +kernel
theorem dX5_firstStandsOut_38 : decode cX5_firstStandsOut 38 = .ok (.isub, 1) := by decide +kernel
theorem dX5_firstStandsOut_39 : decode cX5_firstStandsOut 39 = .ok (.iload_n 1, 1) := by decide +kernel
theorem dX5_firstStandsOut_40 : decode cX5_firstStandsOut 40 = .ok (.if_icmp .lt 7, 3) := by decide +kernel
theorem dX5_firstStandsOut_43 : decode cX5_firstStandsOut 43 = .ok (.iconst 1, 1) := by decide +kernel
theorem dX5_firstStandsOut_44 : decode cX5_firstStandsOut 44 = .ok (.goto 4, 3) := by decide +kernel
theorem dX5_firstStandsOut_47 : decode cX5_firstStandsOut 47 = .ok (.iconst 0, 1) := by decide +kernel
theorem dX5_firstStandsOut_48 : decode cX5_firstStandsOut 48 = .ok (.ireturn, 1) := by decide +kernel
theorem dX5_askedPlace_0 : decode cX5_askedPlace 0 = .ok (.iconst 0, 1) := by decide +kernel
theorem dX5_askedPlace_1 : decode cX5_askedPlace 1 = .ok (.istore_n 2, 1) := by decide +kernel
theorem dX5_askedPlace_2 : decode cX5_askedPlace 2 = .ok (.iconst 1, 1) := by decide +kernel
theorem dX5_askedPlace_3 : decode cX5_askedPlace 3 = .ok (.istore_n 3, 1) := by decide +kernel
theorem dX5_askedPlace_4 : decode cX5_askedPlace 4 = .ok (.iload_n 3, 1) := by decide +kernel
theorem dX5_askedPlace_5 : decode cX5_askedPlace 5 = .ok (.bipush 8, 2) := by decide +kernel
theorem dX5_askedPlace_7 : decode cX5_askedPlace 7 = .ok (.if_icmp .ge 26, 3) := by decide +kernel
theorem dX5_askedPlace_10 : decode cX5_askedPlace 10 = .ok (.aload_n 0, 1) := by decide +kernel
theorem dX5_askedPlace_11 : decode cX5_askedPlace 11 = .ok (.aload_n 1, 1) := by decide +kernel
theorem dX5_askedPlace_12 : decode cX5_askedPlace 12 = .ok (.iload_n 3, 1) := by decide +kernel
theorem dX5_askedPlace_13 : decode cX5_askedPlace 13 = .ok (.invokevirtual 131, 3) := by decide +kernel
theorem dX5_askedPlace_16 : decode cX5_askedPlace 16 = .ok (.aload_n 0, 1) := by decide +kernel
theorem dX5_askedPlace_17 : decode cX5_askedPlace 17 = .ok (.aload_n 1, 1) := by decide +kernel
theorem dX5_askedPlace_18 : decode cX5_askedPlace 18 = .ok (.iload_n 2, 1) := by decide +kernel
theorem dX5_askedPlace_19 : decode cX5_askedPlace 19 = .ok (.invokevirtual 131, 3) := by decide +kernel
theorem dX5_askedPlace_22 : decode cX5_askedPlace 22 = .ok (.if_icmp .ge 5, 3) := by decide +kernel
theorem dX5_askedPlace_25 : decode cX5_askedPlace 25 = .ok (.iload_n 3, 1) := by decide +kernel
theorem dX5_askedPlace_26 : decode cX5_askedPlace 26 = .ok (.istore_n 2, 1) := by decide +kernel
theorem dX5_askedPlace_27 : decode cX5_askedPlace 27 = .ok (.iinc 3 1, 3) := by decide +kernel
theorem dX5_askedPlace_30 : decode cX5_askedPlace 30 = .ok (.goto (-26), 3) := by decide +kernel
theorem dX5_askedPlace_33 : decode cX5_askedPlace 33 = .ok (.iload_n 2, 1) := by decide +kernel
theorem dX5_askedPlace_34 : decode cX5_askedPlace 34 = .ok (.ireturn, 1) := by decide +kernel
theorem dX5_greatestAt_0 : decode cX5_greatestAt 0 = .ok (.aload_n 0, 1) := by decide +kernel
theorem dX5_greatestAt_1 : decode cX5_greatestAt 1 = .ok (.getfield 40, 3) := by decide +kernel
theorem dX5_greatestAt_4 : decode cX5_greatestAt 4 = .ok (.iconst 0, 1) := by decide +kernel
theorem dX5_greatestAt_5 : decode cX5_greatestAt 5 = .ok (.invokestatic 135, 3) := by decide +kernel
theorem dX5_greatestAt_8 : decode cX5_greatestAt 8 = .ok (.iconst 0, 1) := by decide +kernel
theorem dX5_greatestAt_9 : decode cX5_greatestAt 9 = .ok (.istore_n 3, 1) := by decide +kernel
theorem dX5_greatestAt_10 : decode cX5_greatestAt 10 = .ok (.iconst 0, 1) := by decide +kernel
theorem dX5_greatestAt_11 : decode cX5_greatestAt 11 = .ok (.istore 4, 2) := by decide +kernel
theorem dX5_greatestAt_13 : decode cX5_greatestAt 13 = .ok (.iload 4, 2) := by decide +kernel
theorem dX5_greatestAt_15 : decode cX5_greatestAt 15 = .ok (.aload_n 0, 1) := by decide +kernel
theorem dX5_greatestAt_16 : decode cX5_greatestAt 16 = .ok (.getfield 37, 3) := by decide +kernel
theorem dX5_greatestAt_19 : decode cX5_greatestAt 19 = .ok (.if_icmp .ge 51, 3) := by decide +kernel
theorem dX5_greatestAt_22 : decode cX5_greatestAt 22 = .ok (.aload_n 0, 1) := by decide +kernel
theorem dX5_greatestAt_23 : decode cX5_greatestAt 23 = .ok (.getfield 11, 3) := by decide +kernel
theorem dX5_greatestAt_26 : decode cX5_greatestAt 26 = .ok (.aload_n 0, 1) := by decide +kernel
theorem dX5_greatestAt_27 : decode cX5_greatestAt 27 = .ok (.getfield 34, 3) := by decide +kernel
theorem dX5_greatestAt_30 : decode cX5_greatestAt 30 = .ok (.iload 4, 2) := by decide +kernel
theorem dX5_greatestAt_32 : decode cX5_greatestAt 32 = .ok (.iaload, 1) := by decide +kernel
theorem dX5_greatestAt_33 : decode cX5_greatestAt 33 = .ok (.aaload, 1) := by decide +kernel
theorem dX5_greatestAt_34 : decode cX5_greatestAt 34 = .ok (.aload_n 1, 1) := by decide +kernel
theorem dX5_greatestAt_35 : decode cX5_greatestAt 35 = .ok (.iload_n 2, 1) := by decide +kernel
theorem dX5_greatestAt_36 : decode cX5_greatestAt 36 = .ok (.invokevirtual 141, 3) := by decide +kernel
theorem dX5_greatestAt_39 : decode cX5_greatestAt 39 = .ok (.istore 5, 2) := by decide +kernel
theorem dX5_greatestAt_41 : decode cX5_greatestAt 41 = .ok (.aload_n 0, 1) := by decide +kernel
theorem dX5_greatestAt_42 : decode cX5_greatestAt 42 = .ok (.getfield 40, 3) := by decide +kernel
theorem dX5_greatestAt_45 : decode cX5_greatestAt 45 = .ok (.iload 5, 2) := by decide +kernel
theorem dX5_greatestAt_47 : decode cX5_greatestAt 47 = .ok (.dup2, 1) := by decide +kernel
theorem dX5_greatestAt_48 : decode cX5_greatestAt 48 = .ok (.iaload, 1) := by decide +kernel
theorem dX5_greatestAt_49 : decode cX5_greatestAt 49 = .ok (.iconst 1, 1) := by decide +kernel
theorem dX5_greatestAt_50 : decode cX5_greatestAt 50 = .ok (.iadd, 1) := by decide +kernel
theorem dX5_greatestAt_51 : decode cX5_greatestAt 51 = .ok (.iastore, 1) := by decide +kernel
theorem dX5_greatestAt_52 : decode cX5_greatestAt 52 = .ok (.iload_n 3, 1) := by decide +kernel
theorem dX5_greatestAt_53 : decode cX5_greatestAt 53 = .ok (.aload_n 0, 1) := by decide +kernel
theorem dX5_greatestAt_54 : decode cX5_greatestAt 54 = .ok (.getfield 40, 3) := by decide +kernel
theorem dX5_greatestAt_57 : decode cX5_greatestAt 57 = .ok (.iload 5, 2) := by decide +kernel
theorem dX5_greatestAt_59 : decode cX5_greatestAt 59 = .ok (.iaload, 1) := by decide +kernel
theorem dX5_greatestAt_60 : decode cX5_greatestAt 60 = .ok (.invokestatic 144, 3) := by decide +kernel
theorem dX5_greatestAt_63 : decode cX5_greatestAt 63 = .ok (.istore_n 3, 1) := by decide +kernel
theorem dX5_greatestAt_64 : decode cX5_greatestAt 64 = .ok (.iinc 4 1, 3) := by decide +kernel
theorem dX5_greatestAt_67 : decode cX5_greatestAt 67 = .ok (.goto (-54), 3) := by decide +kernel
theorem dX5_greatestAt_70 : decode cX5_greatestAt 70 = .ok (.iload_n 3, 1) := by decide +kernel
theorem dX5_greatestAt_71 : decode cX5_greatestAt 71 = .ok (.ireturn, 1) := by decide +kernel
theorem dX6_init_0 : decode cX6_init 0 = .ok (.aload_n 0, 1) := by decide +kernel
theorem dX6_init_1 : decode cX6_init 1 = .ok (.invokespecial 3, 3) := by decide +kernel
theorem dX6_init_4 : decode cX6_init 4 = .ok (.aload_n 0, 1) := by decide +kernel
theorem dX6_init_5 : decode cX6_init 5 = .ok (.sipush 3240, 3) := by decide +kernel
theorem dX6_init_8 : decode cX6_init 8 = .ok (.newarray .int, 2) := by decide +kernel
theorem dX6_init_10 : decode cX6_init 10 = .ok (.putfield 11, 3) := by decide +kernel
theorem dX6_init_13 : decode cX6_init 13 = .ok (.return_, 1) := by decide +kernel
theorem dX6_leastSum_0 : decode cX6_leastSum 0 = .ok (.aload_n 2, 1) := by decide +kernel
theorem dX6_leastSum_1 : decode cX6_leastSum 1 = .ok (.getfield 15, 3) := by decide +kernel
theorem dX6_leastSum_4 : decode cX6_leastSum 4 = .ok (.istore 4, 2) := by decide +kernel
theorem dX6_leastSum_6 : decode cX6_leastSum 6 = .ok (.aload_n 0, 1) := by decide +kernel
theorem dX6_leastSum_7 : decode cX6_leastSum 7 = .ok (.aload_n 1, 1) := by decide +kernel
theorem dX6_leastSum_8 : decode cX6_leastSum 8 = .ok (.aload_n 3, 1) := by decide +kernel
theorem dX6_leastSum_9 : decode cX6_leastSum 9 = .ok (.iconst 4, 1) := by decide +kernel
theorem dX6_leastSum_10 : decode cX6_leastSum 10 = .ok (.iaload, 1) := by decide +kernel
theorem dX6_leastSum_11 : decode cX6_leastSum 11 = .ok (.iload 4, 2) := by decide +kernel
theorem dX6_leastSum_13 : decode cX6_leastSum 13 = .ok (.invokevirtual 21, 3) := by decide +kernel
theorem dX6_leastSum_16 : decode cX6_leastSum 16 = .ok (.iconst 1, 1) := by decide +kernel
theorem dX6_leastSum_17 : decode cX6_leastSum 17 = .ok (.istore 5, 2) := by decide +kernel
theorem dX6_leastSum_19 : decode cX6_leastSum 19 = .ok (.iload 5, 2) := by decide +kernel
theorem dX6_leastSum_21 : decode cX6_leastSum 21 = .ok (.iload 4, 2) := by decide +kernel
theorem dX6_leastSum_23 : decode cX6_leastSum 23 = .ok (.if_icmp .gt 66, 3) := by decide +kernel
theorem dX6_leastSum_26 : decode cX6_leastSum 26 = .ok (.iconst 0, 1) := by decide +kernel
theorem dX6_leastSum_27 : decode cX6_leastSum 27 = .ok (.istore 6, 2) := by decide +kernel
theorem dX6_leastSum_29 : decode cX6_leastSum 29 = .ok (.iload 6, 2) := by decide +kernel
theorem dX6_leastSum_31 : decode cX6_leastSum 31 = .ok (.iload 5, 2) := by decide +kernel
theorem dX6_leastSum_33 : decode cX6_leastSum 33 = .ok (.iadd, 1) := by decide +kernel
theorem dX6_leastSum_34 : decode cX6_leastSum 34 = .ok (.iload 4, 2) := by decide +kernel
theorem dX6_leastSum_36 : decode cX6_leastSum 36 = .ok (.if_icmp .gt 47, 3) := by decide +kernel
theorem dX6_leastSum_39 : decode cX6_leastSum 39 = .ok (.aload_n 0, 1) := by decide +kernel
theorem dX6_leastSum_40 : decode cX6_leastSum 40 = .ok (.aload_n 1, 1) := by decide +kernel
theorem dX6_leastSum_41 : decode cX6_leastSum 41 = .ok (.aload_n 2, 1) := by decide +kernel
theorem dX6_leastSum_42 : decode cX6_leastSum 42 = .ok (.aload_n 3, 1) := by decide +kernel
theorem dX6_leastSum_43 : decode cX6_leastSum 43 = .ok (.iload 6, 2) := by decide +kernel
theorem dX6_leastSum_45 : decode cX6_leastSum 45 = .ok (.iload 6, 2) := by decide +kernel
theorem dX6_leastSum_47 : decode cX6_leastSum 47 = .ok (.iload 5, 2) := by decide +kernel
theorem dX6_leastSum_49 : decode cX6_leastSum 49 = .ok (.iadd, 1) := by decide +kernel
theorem dX6_leastSum_50 : decode cX6_leastSum 50 = .ok (.invokevirtual 25, 3) := by decide +kernel
theorem dX6_leastSum_53 : decode cX6_leastSum 53 = .ok (.aload_n 0, 1) := by decide +kernel
theorem dX6_leastSum_54 : decode cX6_leastSum 54 = .ok (.aload_n 1, 1) := by decide +kernel
theorem dX6_leastSum_55 : decode cX6_leastSum 55 = .ok (.iload 6, 2) := by decide +kernel
theorem dX6_leastSum_57 : decode cX6_leastSum 57 = .ok (.iload 6, 2) := by decide +kernel
theorem dX6_leastSum_59 : decode cX6_leastSum 59 = .ok (.iload 5, 2) := by decide +kernel
theorem dX6_leastSum_61 : decode cX6_leastSum 61 = .ok (.iadd, 1) := by decide +kernel
theorem dX6_leastSum_62 : decode cX6_leastSum 62 = .ok (.invokevirtual 29, 3) := by decide +kernel
theorem dX6_leastSum_65 : decode cX6_leastSum 65 = .ok (.aload_n 0, 1) := by decide +kernel
theorem dX6_leastSum_66 : decode cX6_leastSum 66 = .ok (.aload_n 1, 1) := by decide +kernel
theorem dX6_leastSum_67 : decode cX6_leastSum 67 = .ok (.iload 6, 2) := by decide +kernel
theorem dX6_leastSum_69 : decode cX6_leastSum 69 = .ok (.iload 6, 2) := by decide +kernel
theorem dX6_leastSum_71 : decode cX6_leastSum 71 = .ok (.iload 5, 2) := by decide +kernel
theorem dX6_leastSum_73 : decode cX6_leastSum 73 = .ok (.iadd, 1) := by decide +kernel
theorem dX6_leastSum_74 : decode cX6_leastSum 74 = .ok (.invokevirtual 32, 3) := by decide +kernel
theorem dX6_leastSum_77 : decode cX6_leastSum 77 = .ok (.iinc 6 1, 3) := by decide +kernel
theorem dX6_leastSum_80 : decode cX6_leastSum 80 = .ok (.goto (-51), 3) := by decide +kernel
theorem dX6_leastSum_83 : decode cX6_leastSum 83 = .ok (.iinc 5 1, 3) := by decide +kernel
theorem dX6_leastSum_86 : decode cX6_leastSum 86 = .ok (.goto (-67), 3) := by decide +kernel
theorem dX6_leastSum_89 : decode cX6_leastSum 89 = .ok (.aload_n 0, 1) := by decide +kernel
theorem dX6_leastSum_90 : decode cX6_leastSum 90 = .ok (.iconst 0, 1) := by decide +kernel
theorem dX6_leastSum_91 : decode cX6_leastSum 91 = .ok (.iload 4, 2) := by decide +kernel
theorem dX6_leastSum_93 : decode cX6_leastSum 93 = .ok (.invokestatic 35, 3) := by decide +kernel
theorem dX6_leastSum_96 : decode cX6_leastSum 96 = .ok (.invokevirtual 39, 3) := by decide +kernel
theorem dX6_leastSum_99 : decode cX6_leastSum 99 = .ok (.ireturn, 1) := by decide +kernel
theorem dX6_run_0 : decode cX6_run 0 = .ok (.iload_n 0, 1) := by decide +kernel
theorem dX6_run_1 : decode cX6_run 1 = .ok (.bipush 9, 2) := by decide +kernel
theorem dX6_run_3 : decode cX6_run 3 = .ok (.imul, 1) := by decide +kernel
theorem dX6_run_4 : decode cX6_run 4 = .ok (.iload_n 1, 1) := by decide +kernel
theorem dX6_run_5 : decode cX6_run 5 = .ok (.iadd, 1) := by decide +kernel
theorem dX6_run_6 : decode cX6_run 6 = .ok (.bipush 40, 2) := by decide +kernel
theorem dX6_run_8 : decode cX6_run 8 = .ok (.imul, 1) := by decide +kernel
theorem dX6_run_9 : decode cX6_run 9 = .ok (.ireturn, 1) := by decide +kernel
theorem dX6_fillEmptyRuns_0 : decode cX6_fillEmptyRuns 0 = .ok (.iconst 0, 1) := by decide +kernel
theorem dX6_fillEmptyRuns_1 : decode cX6_fillEmptyRuns 1 = .ok (.iconst 0, 1) := by decide +kernel
theorem dX6_fillEmptyRuns_2 : decode cX6_fillEmptyRuns 2 = .ok (.invokestatic 35, 3) := by decide +kernel
theorem dX6_fillEmptyRuns_5 : decode cX6_fillEmptyRuns 5 = .ok (.istore 4, 2) := by decide +kernel
theorem dX6_fillEmptyRuns_7 : decode cX6_fillEmptyRuns 7 = .ok (.aload_n 0, 1) := by decide +kernel
theorem dX6_fillEmptyRuns_8 : decode cX6_fillEmptyRuns 8 = .ok (.iload 4, 2) := by decide +kernel
theorem dX6_fillEmptyRuns_10 : decode cX6_fillEmptyRuns 10 = .ok (.invokevirtual 43, 3) := by decide +kernel
theorem dX6_fillEmptyRuns_13 : decode cX6_fillEmptyRuns 13 = .ok (.iconst 0, 1) := by decide +kernel
theorem dX6_fillEmptyRuns_14 : decode cX6_fillEmptyRuns 14 = .ok (.istore 5, 2) := by decide +kernel
theorem dX6_fillEmptyRuns_16 : decode cX6_fillEmptyRuns 16 = .ok (.iload 5, 2) := by decide +kernel
theorem dX6_fillEmptyRuns_18 : decode cX6_fillEmptyRuns 18 = .ok (.aload_n 1, 1) := by decide +kernel
theorem dX6_fillEmptyRuns_19 : decode cX6_fillEmptyRuns 19 = .ok (.getfield 47, 3) := by decide +kernel
theorem dX6_fillEmptyRuns_22 : decode cX6_fillEmptyRuns 22 = .ok (.if_icmp .ge 24, 3) := by decide +kernel
theorem dX6_fillEmptyRuns_25 : decode cX6_fillEmptyRuns 25 = .ok (.aload_n 0, 1) := by decide +kernel
theorem dX6_fillEmptyRuns_26 : decode cX6_fillEmptyRuns 26 = .ok (.getfield 11, 3) := by decide +kernel
theorem dX6_fillEmptyRuns_29 : decode cX6_fillEmptyRuns 29 = .ok (.iload 4, 2) := by decide +kernel
theorem dX6_fillEmptyRuns_31 : decode cX6_fillEmptyRuns 31 = .ok (.aload_n 1, 1) := by decide +kernel
theorem dX6_fillEmptyRuns_32 : decode cX6_fillEmptyRuns 32 = .ok (.iload 5, 2) := by decide +kernel
theorem dX6_fillEmptyRuns_34 : decode cX6_fillEmptyRuns 34 = .ok (.invokevirtual 52, 3) := by decide +kernel
theorem dX6_fillEmptyRuns_37 : decode cX6_fillEmptyRuns 37 = .ok (.iadd, 1) := by decide +kernel
theorem dX6_fillEmptyRuns_38 : decode cX6_fillEmptyRuns 38 = .ok (.iload_n 2, 1) := by decide +kernel
theorem dX6_fillEmptyRuns_39 : decode cX6_fillEmptyRuns 39 = .ok (.iastore, 1) := by decide +kernel
theorem dX6_fillEmptyRuns_40 : decode cX6_fillEmptyRuns 40 = .ok (.iinc 5 1, 3) := by decide +kernel
theorem dX6_fillEmptyRuns_43 : decode cX6_fillEmptyRuns 43 = .ok (.goto (-27), 3) := by decide +kernel
theorem dX6_fillEmptyRuns_46 : decode cX6_fillEmptyRuns 46 = .ok (.iconst 1, 1) := by decide +kernel
theorem dX6_fillEmptyRuns_47 : decode cX6_fillEmptyRuns 47 = .ok (.istore 5, 2) := by decide +kernel
theorem dX6_fillEmptyRuns_49 : decode cX6_fillEmptyRuns 49 = .ok (.iconst 0, 1) := by decide +kernel
theorem dX6_fillEmptyRuns_50 : decode cX6_fillEmptyRuns 50 = .ok (.istore 6, 2) := by decide +kernel
theorem dX6_fillEmptyRuns_52 : decode cX6_fillEmptyRuns 52 = .ok (.iload 6, 2) := by decide +kernel
theorem dX6_fillEmptyRuns_54 : decode cX6_fillEmptyRuns 54 = .ok (.bipush 40, 2) := by decide +kernel
theorem dX6_fillEmptyRuns_56 : decode cX6_fillEmptyRuns 56 = .ok (.if_icmp .gt 27, 3) := by decide +kernel
theorem dX6_fillEmptyRuns_59 : decode cX6_fillEmptyRuns 59 = .ok (.iload 5, 2) := by decide +kernel
theorem dX6_fillEmptyRuns_61 : decode cX6_fillEmptyRuns 61 = .ok (.ifCond .eq 22, 3) := by decide +kernel
theorem dX6_fillEmptyRuns_64 : decode cX6_fillEmptyRuns 64 = .ok (.aload_n 0, 1) := by decide +kernel
theorem dX6_fillEmptyRuns_65 : decode cX6_fillEmptyRuns 65 = .ok (.aload_n 1, 1) := by decide +kernel
theorem dX6_fillEmptyRuns_66 : decode cX6_fillEmptyRuns 66 = .ok (.iload 4, 2) := by decide +kernel
theorem dX6_fillEmptyRuns_68 : decode cX6_fillEmptyRuns 68 = .ok (.iload 4, 2) := by decide +kernel
theorem dX6_fillEmptyRuns_70 : decode cX6_fillEmptyRuns 70 = .ok (.iload 4, 2) := by decide +kernel
theorem dX6_fillEmptyRuns_72 : decode cX6_fillEmptyRuns 72 = .ok (.invokevirtual 55, 3) := by decide +kernel
theorem dX6_fillEmptyRuns_75 : decode cX6_fillEmptyRuns 75 = .ok (.istore 5, 2) := by decide +kernel
theorem dX6_fillEmptyRuns_77 : decode cX6_fillEmptyRuns 77 = .ok (.iinc 6 1, 3) := by decide +kernel
theorem dX6_fillEmptyRuns_80 : decode cX6_fillEmptyRuns 80 = .ok (.goto (-28), 3) := by decide +kernel
theorem dX6_fillEmptyRuns_83 : decode cX6_fillEmptyRuns 83 = .ok (.iconst 1, 1) := by decide +kernel
theorem dX6_fillEmptyRuns_84 : decode cX6_fillEmptyRuns 84 = .ok (.istore 6, 2) := by decide +kernel
theorem dX6_fillEmptyRuns_86 : decode cX6_fillEmptyRuns 86 = .ok (.iload 6, 2) := by decide +kernel
theorem dX6_fillEmptyRuns_88 : decode cX6_fillEmptyRuns 88 = .ok (.iload_n 3, 1) := by decide +kernel
theorem dX6_fillEmptyRuns_89 : decode cX6_fillEmptyRuns 89 = .ok (.if_icmp .gt 31, 3) := by decide +kernel
theorem dX6_fillEmptyRuns_92 : decode cX6_fillEmptyRuns 92 = .ok (.aload_n 0, 1) := by decide +kernel
theorem dX6_fillEmptyRuns_93 : decode cX6_fillEmptyRuns 93 = .ok (.getfield 11, 3) := by decide +kernel
theorem dX6_fillEmptyRuns_96 : decode cX6_fillEmptyRuns 96 = .ok (.iload 4, 2) := by decide +kernel
theorem dX6_fillEmptyRuns_98 : decode cX6_fillEmptyRuns 98 = .ok (.aload_n 0, 1) := by decide +kernel
theorem dX6_fillEmptyRuns_99 : decode cX6_fillEmptyRuns 99 = .ok (.getfield 11, 3) := by decide +kernel
theorem dX6_fillEmptyRuns_102 : decode cX6_fillEmptyRuns 102 = .ok (.iload 6, 2) := by decide +kernel
theorem dX6_fillEmptyRuns_104 : decode cX6_fillEmptyRuns 104 = .ok (.iload 6, 2) := by decide +kernel
theorem dX6_fillEmptyRuns_106 : decode cX6_fillEmptyRuns 106 = .ok (.invokestatic 35, 3) := by decide +kernel
theorem dX6_fillEmptyRuns_109 : decode cX6_fillEmptyRuns 109 = .ok (.bipush 40, 2) := by decide +kernel
theorem dX6_fillEmptyRuns_111 : decode cX6_fillEmptyRuns 111 = .ok (.invokestatic 59, 3) := by decide +kernel
theorem dX6_fillEmptyRuns_114 : decode cX6_fillEmptyRuns 114 = .ok (.iinc 6 1, 3) := by decide +kernel
theorem dX6_fillEmptyRuns_117 : decode cX6_fillEmptyRuns 117 = .ok (.goto (-31), 3) := by decide +kernel
theorem dX6_fillEmptyRuns_120 : decode cX6_fillEmptyRuns 120 = .ok (.return_, 1) := by decide +kernel
theorem dX6_startRun_0 : decode cX6_startRun 0 = .ok (.iload 4, 2) := by decide +kernel
theorem dX6_startRun_2 : decode cX6_startRun 2 = .ok (.iload 5, 2) := by decide +kernel
theorem dX6_startRun_4 : decode cX6_startRun 4 = .ok (.invokestatic 35, 3) := by decide +kernel
theorem dX6_startRun_7 : decode cX6_startRun 7 = .ok (.istore 6, 2) := by decide +kernel
theorem dX6_startRun_9 : decode cX6_startRun 9 = .ok (.aload_n 0, 1) := by decide +kernel
theorem dX6_startRun_10 : decode cX6_startRun 10 = .ok (.iload 6, 2) := by decide +kernel
theorem dX6_startRun_12 : decode cX6_startRun 12 = .ok (.invokevirtual 43, 3) := by decide +kernel
theorem dX6_startRun_15 : decode cX6_startRun 15 = .ok (.iload 5, 2) := by decide +kernel
theorem dX6_startRun_17 : decode cX6_startRun 17 = .ok (.iload 4, 2) := by decide +kernel
theorem dX6_startRun_19 : decode cX6_startRun 19 = .ok (.iconst 1, 1) := by decide +kernel
theorem dX6_startRun_20 : decode cX6_startRun 20 = .ok (.iadd, 1) := by decide +kernel
theorem dX6_startRun_21 : decode cX6_startRun 21 = .ok (.if_icmp .ne 12, 3) := by decide +kernel
theorem dX6_startRun_24 : decode cX6_startRun 24 = .ok (.aload_n 0, 1) := by decide +kernel
theorem dX6_startRun_25 : decode cX6_startRun 25 = .ok (.aload_n 1, 1) := by decide +kernel
theorem dX6_startRun_26 : decode cX6_startRun 26 = .ok (.aload_n 2, 1) := by decide +kernel
theorem dX6_startRun_27 : decode cX6_startRun 27 = .ok (.aload_n 3, 1) := by decide +kernel
theorem dX6_startRun_28 : decode cX6_startRun 28 = .ok (.iload 4, 2) := by decide +kernel
theorem dX6_startRun_30 : decode cX6_startRun 30 = .ok (.invokevirtual 65, 3) := by decide +kernel
theorem dX6_startRun_33 : decode cX6_startRun 33 = .ok (.aload_n 2, 1) := by decide +kernel
theorem dX6_startRun_34 : decode cX6_startRun 34 = .ok (.getfield 69, 3) := by decide +kernel
theorem dX6_startRun_37 : decode cX6_startRun 37 = .ok (.iload 4, 2) := by decide +kernel
theorem dX6_startRun_39 : decode cX6_startRun 39 = .ok (.invokestatic 72, 3) := by decide +kernel
theorem dX6_startRun_42 : decode cX6_startRun 42 = .ok (.ifCond .ne 21, 3) := by decide +kernel
theorem dX6_startRun_45 : decode cX6_startRun 45 = .ok (.aload_n 0, 1) := by decide +kernel
theorem dX6_startRun_46 : decode cX6_startRun 46 = .ok (.iload 6, 2) := by decide +kernel
theorem dX6_startRun_48 : decode cX6_startRun 48 = .ok (.iload 4, 2) := by decide +kernel
theorem dX6_startRun_50 : decode cX6_startRun 50 = .ok (.iconst 1, 1) := by decide +kernel
theorem dX6_startRun_51 : decode cX6_startRun 51 = .ok (.iadd, 1) := by decide +kernel
theorem dX6_startRun_52 : decode cX6_startRun 52 = .ok (.iload 5, 2) := by decide +kernel
theorem dX6_startRun_54 : decode cX6_startRun 54 = .ok (.invokestatic 35, 3) := by decide +kernel
theorem dX6_startRun_57 : decode cX6_startRun 57 = .ok (.aload_n 3, 1) := by decide +kernel
theorem dX6_startRun_58 : decode cX6_startRun 58 = .ok (.iconst 3, 1) := by decide +kernel
theorem dX6_startRun_59 : decode cX6_startRun 59 = .ok (.iaload, 1) := by decide +kernel
theorem dX6_startRun_60 : decode cX6_startRun 60 = .ok (.invokevirtual 76, 3) := by decide +kernel
theorem dX6_startRun_63 : decode cX6_startRun 63 = .ok (.aload_n 2, 1) := by decide +kernel
theorem dX6_startRun_64 : decode cX6_startRun 64 = .ok (.getfield 69, 3) := by decide +kernel
theorem dX6_startRun_67 : decode cX6_startRun 67 = .ok (.iload 5, 2) := by decide +kernel
theorem dX6_startRun_69 : decode cX6_startRun 69 = .ok (.iconst 1, 1) := by decide +kernel
theorem dX6_startRun_70 : decode cX6_startRun 70 = .ok (.isub, 1) := by decide +kernel
theorem dX6_startRun_71 : decode cX6_startRun 71 = .ok (.invokestatic 72, 3) := by decide +kernel
theorem dX6_startRun_74 : decode cX6_startRun 74 = .ok (.ifCond .ne 21, 3) := by decide +kernel
theorem dX6_startRun_77 : decode cX6_startRun 77 = .ok (.aload_n 0, 1) := by decide +kernel
theorem dX6_startRun_78 : decode cX6_startRun 78 = .ok (.iload 6, 2) := by decide +kernel
theorem dX6_startRun_80 : decode cX6_startRun 80 = .ok (.iload 4, 2) := by decide +kernel
theorem dX6_startRun_82 : decode cX6_startRun 82 = .ok (.iload 5, 2) := by decide +kernel
theorem dX6_startRun_84 : decode cX6_startRun 84 = .ok (.iconst 1, 1) := by decide +kernel
theorem dX6_startRun_85 : decode cX6_startRun 85 = .ok (.isub, 1) := by decide +kernel
theorem dX6_startRun_86 : decode cX6_startRun 86 = .ok (.invokestatic 35, 3) := by decide +kernel
theorem dX6_startRun_89 : decode cX6_startRun 89 = .ok (.aload_n 3, 1) := by decide +kernel
theorem dX6_startRun_90 : decode cX6_startRun 90 = .ok (.iconst 3, 1) := by decide +kernel
theorem dX6_startRun_91 : decode cX6_startRun 91 = .ok (.iaload, 1) := by decide +kernel
theorem dX6_startRun_92 : decode cX6_startRun 92 = .ok (.invokevirtual 76, 3) := by decide +kernel
theorem dX6_startRun_95 : decode cX6_startRun 95 = .ok (.return_, 1) := by decide +kernel
theorem dX6_putChanged_0 : decode cX6_putChanged 0 = .ok (.iload 4, 2) := by decide +kernel
theorem dX6_putChanged_2 : decode cX6_putChanged 2 = .ok (.iload 4, 2) := by decide +kernel
theorem dX6_putChanged_4 : decode cX6_putChanged 4 = .ok (.iconst 1, 1) := by decide +kernel
theorem dX6_putChanged_5 : decode cX6_putChanged 5 = .ok (.iadd, 1) := by decide +kernel
theorem dX6_putChanged_6 : decode cX6_putChanged 6 = .ok (.invokestatic 35, 3) := by decide +kernel
theorem dX6_putChanged_9 : decode cX6_putChanged 9 = .ok (.istore 5, 2) := by decide +kernel
theorem dX6_putChanged_11 : decode cX6_putChanged 11 = .ok (.aload_n 2, 1) := by decide +kernel
theorem dX6_putChanged_12 : decode cX6_putChanged 12 = .ok (.getfield 80, 3) := by decide +kernel
theorem dX6_putChanged_15 : decode cX6_putChanged 15 = .ok (.iload 4, 2) := by decide +kernel
theorem dX6_putChanged_17 : decode cX6_putChanged 17 = .ok (.iaload, 1) := by decide +kernel
theorem dX6_putChanged_18 : decode cX6_putChanged 18 = .ok (.istore 6, 2) := by decide +kernel
theorem dX6_putChanged_20 : decode cX6_putChanged 20 = .ok (.aload_n 0, 1) := by decide +kernel
theorem dX6_putChanged_21 : decode cX6_putChanged 21 = .ok (.getfield 11, 3) := by decide +kernel
theorem dX6_putChanged_24 : decode cX6_putChanged 24 = .ok (.iload 5, 2) := by decide +kernel
theorem dX6_putChanged_26 : decode cX6_putChanged 26 = .ok (.aload_n 1, 1) := by decide +kernel
theorem dX6_putChanged_27 : decode cX6_putChanged 27 = .ok (.iload 6, 2) := by decide +kernel
theorem dX6_putChanged_29 : decode cX6_putChanged 29 = .ok (.invokevirtual 52, 3) := by decide +kernel
theorem dX6_putChanged_32 : decode cX6_putChanged 32 = .ok (.iadd, 1) := by decide +kernel
theorem dX6_putChanged_33 : decode cX6_putChanged 33 = .ok (.iconst 0, 1) := by decide +kernel
theorem dX6_putChanged_34 : decode cX6_putChanged 34 = .ok (.iastore, 1) := by decide +kernel
theorem dX6_putChanged_35 : decode cX6_putChanged 35 = .ok (.iconst 0, 1) := by decide +kernel
theorem dX6_putChanged_36 : decode cX6_putChanged 36 = .ok (.istore 7, 2) := by decide +kernel
theorem dX6_putChanged_38 : decode cX6_putChanged 38 = .ok (.iload 7, 2) := by decide +kernel
theorem dX6_putChanged_40 : decode cX6_putChanged 40 = .ok (.aload_n 1, 1) := by decide +kernel
theorem dX6_putChanged_41 : decode cX6_putChanged 41 = .ok (.getfield 47, 3) := by decide +kernel
theorem dX6_putChanged_44 : decode cX6_putChanged 44 = .ok (.if_icmp .ge 44, 3) := by decide +kernel
theorem dX6_putChanged_47 : decode cX6_putChanged 47 = .ok (.aload_n 2, 1) := by decide +kernel
theorem dX6_putChanged_48 : decode cX6_putChanged 48 = .ok (.getfield 69, 3) := by decide +kernel
theorem dX6_putChanged_51 : decode cX6_putChanged 51 = .ok (.iload 4, 2) := by decide +kernel
theorem dX6_putChanged_53 : decode cX6_putChanged 53 = .ok (.invokestatic 72, 3) := by decide +kernel
theorem dX6_putChanged_56 : decode cX6_putChanged 56 = .ok (.ifCond .ne 32, 3) := by decide +kernel
theorem dX6_putChanged_59 : decode cX6_putChanged 59 = .ok (.aload_n 0, 1) := by decide +kernel
theorem dX6_putChanged_60 : decode cX6_putChanged 60 = .ok (.iload 5, 2) := by decide +kernel
theorem dX6_putChanged_62 : decode cX6_putChanged 62 = .ok (.aload_n 1, 1) := by decide +kernel
theorem dX6_putChanged_63 : decode cX6_putChanged 63 = .ok (.iload 7, 2) := by decide +kernel
theorem dX6_putChanged_65 : decode cX6_putChanged 65 = .ok (.invokevirtual 52, 3) := by decide +kernel
theorem dX6_putChanged_68 : decode cX6_putChanged 68 = .ok (.iadd, 1) := by decide +kernel
theorem dX6_putChanged_69 : decode cX6_putChanged 69 = .ok (.aload_n 1, 1) := by decide +kernel
theorem dX6_putChanged_70 : decode cX6_putChanged 70 = .ok (.iload 6, 2) := by decide +kernel
theorem dX6_putChanged_72 : decode cX6_putChanged 72 = .ok (.iload 7, 2) := by decide +kernel
theorem dX6_putChanged_74 : decode cX6_putChanged 74 = .ok (.aload_n 3, 1) := by decide +kernel
theorem dX6_putChanged_75 : decode cX6_putChanged 75 = .ok (.invokevirtual 82, 3) := by decide +kernel
theorem dX6_putChanged_78 : decode cX6_putChanged 78 = .ok (.invokevirtual 86, 3) := by decide +kernel
theorem dX6_putChanged_81 : decode cX6_putChanged 81 = .ok (.pop, 1) := by decide +kernel
theorem dX6_putChanged_82 : decode cX6_putChanged 82 = .ok (.iinc 7 1, 3) := by decide +kernel
theorem dX6_putChanged_85 : decode cX6_putChanged 85 = .ok (.goto (-47), 3) := by decide +kernel
theorem dX6_putChanged_88 : decode cX6_putChanged 88 = .ok (.return_, 1) := by decide +kernel
theorem dX6_forbidAll_0 : decode cX6_forbidAll 0 = .ok (.iconst 0, 1) := by decide +kernel
theorem dX6_forbidAll_1 : decode cX6_forbidAll 1 = .ok (.istore_n 2, 1) := by decide +kernel
theorem dX6_forbidAll_2 : decode cX6_forbidAll 2 = .ok (.iload_n 2, 1) := by decide +kernel
theorem dX6_forbidAll_3 : decode cX6_forbidAll 3 = .ok (.bipush 40, 2) := by decide +kernel
theorem dX6_forbidAll_5 : decode cX6_forbidAll 5 = .ok (.if_icmp .ge 19, 3) := by decide +kernel
theorem dX6_forbidAll_8 : decode cX6_forbidAll 8 = .ok (.aload_n 0, 1) := by decide +kernel
theorem dX6_forbidAll_9 : decode cX6_forbidAll 9 = .ok (.getfield 11, 3) := by decide +kernel
theorem dX6_forbidAll_12 : decode cX6_forbidAll 12 = .ok (.iload_n 1, 1) := by decide +kernel
theorem dX6_forbidAll_13 : decode cX6_forbidAll 13 = .ok (.iload_n 2, 1) := by decide +kernel
theorem dX6_forbidAll_14 : decode cX6_forbidAll 14 = .ok (.iadd, 1) := by decide +kernel
theorem dX6_forbidAll_15 : decode cX6_forbidAll 15 = .ok (.bipush 100, 2) := by decide +kernel
theorem dX6_forbidAll_17 : decode cX6_forbidAll 17 = .ok (.iastore, 1) := by decide +kernel
theorem dX6_forbidAll_18 : decode cX6_forbidAll 18 = .ok (.iinc 2 1, 3) := by decide +kernel
theorem dX6_forbidAll_21 : decode cX6_forbidAll 21 = .ok (.goto (-19), 3) := by decide +kernel
theorem dX6_forbidAll_24 : decode cX6_forbidAll 24 = .ok (.return_, 1) := by decide +kernel
theorem dX6_lowerAll_0 : decode cX6_lowerAll 0 = .ok (.iconst 0, 1) := by decide +kernel
theorem dX6_lowerAll_1 : decode cX6_lowerAll 1 = .ok (.istore 4, 2) := by decide +kernel
theorem dX6_lowerAll_3 : decode cX6_lowerAll 3 = .ok (.iload 4, 2) := by decide +kernel
theorem dX6_lowerAll_5 : decode cX6_lowerAll 5 = .ok (.bipush 40, 2) := by decide +kernel
theorem dX6_lowerAll_7 : decode cX6_lowerAll 7 = .ok (.if_icmp .ge 29, 3) := by decide +kernel
theorem dX6_lowerAll_10 : decode cX6_lowerAll 10 = .ok (.aload_n 0, 1) := by decide +kernel
theorem dX6_lowerAll_11 : decode cX6_lowerAll 11 = .ok (.iload_n 1, 1) := by decide +kernel
theorem dX6_lowerAll_12 : decode cX6_lowerAll 12 = .ok (.iload 4, 2) := by decide +kernel
theorem dX6_lowerAll_14 : decode cX6_lowerAll 14 = .ok (.iadd, 1) := by decide +kernel
theorem dX6_lowerAll_15 : decode cX6_lowerAll 15 = .ok (.aload_n 0, 1) := by decide +kernel
theorem dX6_lowerAll_16 : decode cX6_lowerAll 16 = .ok (.getfield 11, 3) := by decide +kernel
theorem dX6_lowerAll_19 : decode cX6_lowerAll 19 = .ok (.iload_n 2, 1) := by decide +kernel
theorem dX6_lowerAll_20 : decode cX6_lowerAll 20 = .ok (.iload 4, 2) := by decide +kernel
theorem dX6_lowerAll_22 : decode cX6_lowerAll 22 = .ok (.iadd, 1) := by decide +kernel
theorem dX6_lowerAll_23 : decode cX6_lowerAll 23 = .ok (.iaload, 1) := by decide +kernel
theorem dX6_lowerAll_24 : decode cX6_lowerAll 24 = .ok (.iload_n 3, 1) := by decide +kernel
theorem dX6_lowerAll_25 : decode cX6_lowerAll 25 = .ok (.iadd, 1) := by decide +kernel
theorem dX6_lowerAll_26 : decode cX6_lowerAll 26 = .ok (.invokevirtual 86, 3) := by decide +kernel
theorem dX6_lowerAll_29 : decode cX6_lowerAll 29 = .ok (.pop, 1) := by decide +kernel
theorem dX6_lowerAll_30 : decode cX6_lowerAll 30 = .ok (.iinc 4 1, 3) := by decide +kernel
theorem dX6_lowerAll_33 : decode cX6_lowerAll 33 = .ok (.goto (-30), 3) := by decide +kernel
theorem dX6_lowerAll_36 : decode cX6_lowerAll 36 = .ok (.return_, 1) := by decide +kernel
theorem dX6_lower_0 : decode cX6_lower 0 = .ok (.iload_n 2, 1) := by decide +kernel
theorem dX6_lower_1 : decode cX6_lower 1 = .ok (.aload_n 0, 1) := by decide +kernel
theorem dX6_lower_2 : decode cX6_lower 2 = .ok (.getfield 11, 3) := by decide +kernel
theorem dX6_lower_5 : decode cX6_lower 5 = .ok (.iload_n 1, 1) := by decide +kernel
theorem dX6_lower_6 : decode cX6_lower 6 = .ok (.iaload, 1) := by decide +kernel
theorem dX6_lower_7 : decode cX6_lower 7 = .ok (.if_icmp .ge 12, 3) := by decide +kernel
theorem dX6_lower_10 : decode cX6_lower 10 = .ok (.aload_n 0, 1) := by decide +kernel
theorem dX6_lower_11 : decode cX6_lower 11 = .ok (.getfield 11, 3) := by decide +kernel
theorem dX6_lower_14 : decode cX6_lower 14 = .ok (.iload_n 1, 1) := by decide +kernel
theorem dX6_lower_15 : decode cX6_lower 15 = .ok (.iload_n 2, 1) := by decide +kernel
theorem dX6_lower_16 : decode cX6_lower 16 = .ok (.iastore, 1) := by decide +kernel
theorem dX6_lower_17 : decode cX6_lower 17 = .ok (.iconst 1, 1) := by decide +kernel
theorem dX6_lower_18 : decode cX6_lower 18 = .ok (.ireturn, 1) := by decide +kernel
theorem dX6_lower_19 : decode cX6_lower 19 = .ok (.iconst 0, 1) := by decide +kernel
theorem dX6_lower_20 : decode cX6_lower 20 = .ok (.ireturn, 1) := by decide +kernel
theorem dX6_joinInside_0 : decode cX6_joinInside 0 = .ok (.iload_n 2, 1) := by decide +kernel
theorem dX6_joinInside_1 : decode cX6_joinInside 1 = .ok (.iconst 1, 1) := by decide +kernel
theorem dX6_joinInside_2 : decode cX6_joinInside 2 = .ok (.iadd, 1) := by decide +kernel
theorem dX6_joinInside_3 : decode cX6_joinInside 3 = .ok (.istore 4, 2) := by decide +kernel
theorem dX6_joinInside_5 : decode cX6_joinInside 5 = .ok (.iload 4, 2) := by decide +kernel
theorem dX6_joinInside_7 : decode cX6_joinInside 7 = .ok (.iload_n 3, 1) := by decide +kernel
theorem dX6_joinInside_8 : decode cX6_joinInside 8 = .ok (.if_icmp .ge 32, 3) := by decide +kernel
theorem dX6_joinInside_11 : decode cX6_joinInside 11 = .ok (.aload_n 0, 1) := by decide +kernel
theorem dX6_joinInside_12 : decode cX6_joinInside 12 = .ok (.aload_n 1, 1) := by decide +kernel
theorem dX6_joinInside_13 : decode cX6_joinInside 13 = .ok (.iload_n 2, 1) := by decide +kernel
theorem dX6_joinInside_14 : decode cX6_joinInside 14 = .ok (.iload 4, 2) := by decide +kernel
theorem dX6_joinInside_16 : decode cX6_joinInside 16 = .ok (.invokestatic 35, 3) := by decide +kernel
theorem dX6_joinInside_19 : decode cX6_joinInside 19 = .ok (.iload 4, 2) := by decide +kernel
theorem dX6_joinInside_21 : decode cX6_joinInside 21 = .ok (.iload_n 3, 1) := by decide +kernel
theorem dX6_joinInside_22 : decode cX6_joinInside 22 = .ok (.invokestatic 35, 3) := by decide +kernel
theorem dX6_joinInside_25 : decode cX6_joinInside 25 = .ok (.iload_n 2, 1) := by decide +kernel
theorem dX6_joinInside_26 : decode cX6_joinInside 26 = .ok (.iload_n 3, 1) := by decide +kernel
theorem dX6_joinInside_27 : decode cX6_joinInside 27 = .ok (.invokestatic 35, 3) := by decide +kernel
theorem dX6_joinInside_30 : decode cX6_joinInside 30 = .ok (.invokevirtual 55, 3) := by decide +kernel
theorem dX6_joinInside_33 : decode cX6_joinInside 33 = .ok (.pop, 1) := by decide +kernel
theorem dX6_joinInside_34 : decode cX6_joinInside 34 = .ok (.iinc 4 1, 3) := by decide +kernel
theorem dX6_joinInside_37 : decode cX6_joinInside 37 = .ok (.goto (-32), 3) := by decide +kernel
theorem dX6_joinInside_40 : decode cX6_joinInside 40 = .ok (.return_, 1) := by decide +kernel
theorem dX6_joinWithPutIn_0 : decode cX6_joinWithPutIn 0 = .ok (.iload_n 2, 1) := by decide +kernel
theorem dX6_joinWithPutIn_1 : decode cX6_joinWithPutIn 1 = .ok (.iload_n 3, 1) := by decide +kernel
theorem dX6_joinWithPutIn_2 : decode cX6_joinWithPutIn 2 = .ok (.invokestatic 35, 3) := by decide +kernel
theorem dX6_joinWithPutIn_5 : decode cX6_joinWithPutIn 5 = .ok (.istore 4, 2) := by decide +kernel
theorem dX6_joinWithPutIn_7 : decode cX6_joinWithPutIn 7 = .ok (.iconst 1, 1) := by decide +kernel
theorem dX6_joinWithPutIn_8 : decode cX6_joinWithPutIn 8 = .ok (.istore 5, 2) := by decide +kernel
theorem dX6_joinWithPutIn_10 : decode cX6_joinWithPutIn 10 = .ok (.iconst 0, 1) := by decide +kernel
theorem dX6_joinWithPutIn_11 : decode cX6_joinWithPutIn 11 = .ok (.istore 6, 2) := by decide +kernel
theorem dX6_joinWithPutIn_13 : decode cX6_joinWithPutIn 13 = .ok (.iload 6, 2) := by decide +kernel
theorem dX6_joinWithPutIn_15 : decode cX6_joinWithPutIn 15 = .ok (.bipush 40, 2) := by decide +kernel
theorem dX6_joinWithPutIn_17 : decode cX6_joinWithPutIn 17 = .ok (.if_icmp .gt 63, 3) := by decide +kernel
theorem dX6_joinWithPutIn_20 : decode cX6_joinWithPutIn 20 = .ok (.iload 5, 2) := by decide +kernel
theorem dX6_joinWithPutIn_22 : decode cX6_joinWithPutIn 22 = .ok (.ifCond .eq 58, 3) := by decide +kernel
theorem dX6_joinWithPutIn_25 : decode cX6_joinWithPutIn 25 = .ok (.aload_n 0, 1) := by decide +kernel
theorem dX6_joinWithPutIn_26 : decode cX6_joinWithPutIn 26 = .ok (.aload_n 1, 1) := by decide +kernel
theorem dX6_joinWithPutIn_27 : decode cX6_joinWithPutIn 27 = .ok (.iload_n 2, 1) := by decide +kernel
theorem dX6_joinWithPutIn_28 : decode cX6_joinWithPutIn 28 = .ok (.iload_n 2, 1) := by decide +kernel
theorem dX6_joinWithPutIn_29 : decode cX6_joinWithPutIn 29 = .ok (.invokestatic 35, 3) := by decide +kernel
theorem dX6_joinWithPutIn_32 : decode cX6_joinWithPutIn 32 = .ok (.iload 4, 2) := by decide +kernel
theorem dX6_joinWithPutIn_34 : decode cX6_joinWithPutIn 34 = .ok (.iload 4, 2) := by decide +kernel
theorem dX6_joinWithPutIn_36 : decode cX6_joinWithPutIn 36 = .ok (.invokevirtual 55, 3) := by decide +kernel
theorem dX6_joinWithPutIn_39 : decode cX6_joinWithPutIn 39 = .ok (.istore 7, 2) := by decide +kernel
theorem dX6_joinWithPutIn_41 : decode cX6_joinWithPutIn 41 = .ok (.aload_n 0, 1) := by decide +kernel
theorem dX6_joinWithPutIn_42 : decode cX6_joinWithPutIn 42 = .ok (.aload_n 1, 1) := by decide +kernel
theorem dX6_joinWithPutIn_43 : decode cX6_joinWithPutIn 43 = .ok (.iload 4, 2) := by decide +kernel
theorem dX6_joinWithPutIn_45 : decode cX6_joinWithPutIn 45 = .ok (.iload_n 3, 1) := by decide +kernel
theorem dX6_joinWithPutIn_46 : decode cX6_joinWithPutIn 46 = .ok (.iload_n 3, 1) := by decide +kernel
theorem dX6_joinWithPutIn_47 : decode cX6_joinWithPutIn 47 = .ok (.invokestatic 35, 3) := by decide +kernel
theorem dX6_joinWithPutIn_50 : decode cX6_joinWithPutIn 50 = .ok (.iload 4, 2) := by decide +kernel
theorem dX6_joinWithPutIn_52 : decode cX6_joinWithPutIn 52 = .ok (.invokevirtual 55, 3) := by decide +kernel
theorem dX6_joinWithPutIn_55 : decode cX6_joinWithPutIn 55 = .ok (.istore 8, 2) := by decide +kernel
theorem dX6_joinWithPutIn_57 : decode cX6_joinWithPutIn 57 = .ok (.iload 7, 2) := by decide +kernel
theorem dX6_joinWithPutIn_59 : decode cX6_joinWithPutIn 59 = .ok (.ifCond .ne 8, 3) := by decide +kernel
theorem dX6_joinWithPutIn_62 : decode cX6_joinWithPutIn 62 = .ok (.iload 8, 2) := by decide +kernel
theorem dX6_joinWithPutIn_64 : decode cX6_joinWithPutIn 64 = .ok (.ifCond .eq 7, 3) := by decide +kernel
theorem dX6_joinWithPutIn_67 : decode cX6_joinWithPutIn 67 = .ok (.iconst 1, 1) := by decide +kernel
theorem dX6_joinWithPutIn_68 : decode cX6_joinWithPutIn 68 = .ok (.goto 4, 3) := by decide +kernel
theorem dX6_joinWithPutIn_71 : decode cX6_joinWithPutIn 71 = .ok (.iconst 0, 1) := by decide +kernel
theorem dX6_joinWithPutIn_72 : decode cX6_joinWithPutIn 72 = .ok (.istore 5, 2) := by decide +kernel
theorem dX6_joinWithPutIn_74 : decode cX6_joinWithPutIn 74 = .ok (.iinc 6 1, 3) := by decide +kernel
theorem dX6_joinWithPutIn_77 : decode cX6_joinWithPutIn 77 = .ok (.goto (-64), 3) := by decide +kernel
theorem dX6_joinWithPutIn_80 : decode cX6_joinWithPutIn 80 = .ok (.return_, 1) := by decide +kernel
theorem dX6_joinCells_0 : decode cX6_joinCells 0 = .ok (.iconst 0, 1) := by decide +kernel
theorem dX6_joinCells_1 : decode cX6_joinCells 1 = .ok (.istore 5, 2) := by decide +kernel
theorem dX6_joinCells_3 : decode cX6_joinCells 3 = .ok (.iconst 0, 1) := by decide +kernel
theorem dX6_joinCells_4 : decode cX6_joinCells 4 = .ok (.istore 6, 2) := by decide +kernel
theorem dX6_joinCells_6 : decode cX6_joinCells 6 = .ok (.iload 6, 2) := by decide +kernel
theorem dX6_joinCells_8 : decode cX6_joinCells 8 = .ok (.aload_n 1, 1) := by decide +kernel
theorem dX6_joinCells_9 : decode cX6_joinCells 9 = .ok (.getfield 89, 3) := by decide +kernel
theorem dX6_joinCells_12 : decode cX6_joinCells 12 = .ok (.if_icmp .ge 64, 3) := by decide +kernel
theorem dX6_joinCells_15 : decode cX6_joinCells 15 = .ok (.iload_n 2, 1) := by decide +kernel
theorem dX6_joinCells_16 : decode cX6_joinCells 16 = .ok (.aload_n 1, 1) := by decide +kernel
theorem dX6_joinCells_17 : decode cX6_joinCells 17 = .ok (.getfield 92, 3) := by decide +kernel
theorem dX6_joinCells_20 : decode cX6_joinCells 20 = .ok (.iload 6, 2) := by decide +kernel
theorem dX6_joinCells_22 : decode cX6_joinCells 22 = .ok (.iaload, 1) := by decide +kernel
theorem dX6_joinCells_23 : decode cX6_joinCells 23 = .ok (.iconst 4, 1) := by decide +kernel
theorem dX6_joinCells_24 : decode cX6_joinCells 24 = .ok (.imul, 1) := by decide +kernel
theorem dX6_joinCells_25 : decode cX6_joinCells 25 = .ok (.iadd, 1) := by decide +kernel
theorem dX6_joinCells_26 : decode cX6_joinCells 26 = .ok (.istore 7, 2) := by decide +kernel
theorem dX6_joinCells_28 : decode cX6_joinCells 28 = .ok (.iload_n 3, 1) := by decide +kernel
theorem dX6_joinCells_29 : decode cX6_joinCells 29 = .ok (.aload_n 1, 1) := by decide +kernel
theorem dX6_joinCells_30 : decode cX6_joinCells 30 = .ok (.getfield 95, 3) := by decide +kernel
theorem dX6_joinCells_33 : decode cX6_joinCells 33 = .ok (.iload 6, 2) := by decide +kernel
theorem dX6_joinCells_35 : decode cX6_joinCells 35 = .ok (.iaload, 1) := by decide +kernel
theorem dX6_joinCells_36 : decode cX6_joinCells 36 = .ok (.iconst 4, 1) := by decide +kernel
theorem dX6_joinCells_37 : decode cX6_joinCells 37 = .ok (.imul, 1) := by decide +kernel
theorem dX6_joinCells_38 : decode cX6_joinCells 38 = .ok (.iadd, 1) := by decide +kernel
theorem dX6_joinCells_39 : decode cX6_joinCells 39 = .ok (.istore 8, 2) := by decide +kernel
theorem dX6_joinCells_41 : decode cX6_joinCells 41 = .ok (.aload_n 0, 1) := by decide +kernel
theorem dX6_joinCells_42 : decode cX6_joinCells 42 = .ok (.aload_n 1, 1) := by decide +kernel
theorem dX6_joinCells_43 : decode cX6_joinCells 43 = .ok (.iload 6, 2) := by decide +kernel
theorem dX6_joinCells_45 : decode cX6_joinCells 45 = .ok (.iload 7, 2) := by decide +kernel
theorem dX6_joinCells_47 : decode cX6_joinCells 47 = .ok (.iload 8, 2) := by decide +kernel
theorem dX6_joinCells_49 : decode cX6_joinCells 49 = .ok (.iload 4, 2) := by decide +kernel
theorem dX6_joinCells_51 : decode cX6_joinCells 51 = .ok (.aload_n 1, 1) := by decide +kernel
theorem dX6_joinCells_52 : decode cX6_joinCells 52 = .ok (.getfield 98, 3) := by decide +kernel
theorem dX6_joinCells_55 : decode cX6_joinCells 55 = .ok (.iload 6, 2) := by decide +kernel
theorem dX6_joinCells_57 : decode cX6_joinCells 57 = .ok (.iaload, 1) := by decide +kernel
theorem dX6_joinCells_58 : decode cX6_joinCells 58 = .ok (.iconst 4, 1) := by decide +kernel
theorem dX6_joinCells_59 : decode cX6_joinCells 59 = .ok (.imul, 1) := by decide +kernel
theorem dX6_joinCells_60 : decode cX6_joinCells 60 = .ok (.iadd, 1) := by decide +kernel
theorem dX6_joinCells_61 : decode cX6_joinCells 61 = .ok (.invokevirtual 101, 3) := by decide +kernel
theorem dX6_joinCells_64 : decode cX6_joinCells 64 = .ok (.ifCond .eq 6, 3) := by decide +kernel
theorem dX6_joinCells_67 : decode cX6_joinCells 67 = .ok (.iconst 1, 1) := by decide +kernel
theorem dX6_joinCells_68 : decode cX6_joinCells 68 = .ok (.istore 5, 2) := by decide +kernel
theorem dX6_joinCells_70 : decode cX6_joinCells 70 = .ok (.iinc 6 1, 3) := by decide +kernel
theorem dX6_joinCells_73 : decode cX6_joinCells 73 = .ok (.goto (-67), 3) := by decide +kernel
theorem dX6_joinCells_76 : decode cX6_joinCells 76 = .ok (.iload 5, 2) := by decide +kernel
theorem dX6_joinCells_78 : decode cX6_joinCells 78 = .ok (.ireturn, 1) := by decide +kernel
theorem dX6_joinByRule_0 : decode cX6_joinByRule 0 = .ok (.aload_n 0, 1) := by decide +kernel
theorem dX6_joinByRule_1 : decode cX6_joinByRule 1 = .ok (.iload_n 3, 1) := by decide +kernel
theorem dX6_joinByRule_2 : decode cX6_joinByRule 2 = .ok (.invokevirtual 39, 3) := by decide +kernel
theorem dX6_joinByRule_5 : decode cX6_joinByRule 5 = .ok (.istore 6, 2) := by decide +kernel
theorem dX6_joinByRule_7 : decode cX6_joinByRule 7 = .ok (.aload_n 0, 1) := by decide +kernel
theorem dX6_joinByRule_8 : decode cX6_joinByRule 8 = .ok (.iload 4, 2) := by decide +kernel
theorem dX6_joinByRule_10 : decode cX6_joinByRule 10 = .ok (.invokevirtual 39, 3) := by decide +kernel
theorem dX6_joinByRule_13 : decode cX6_joinByRule 13 = .ok (.istore 7, 2) := by decide +kernel
theorem dX6_joinByRule_15 : decode cX6_joinByRule 15 = .ok (.iload 6, 2) := by decide +kernel
theorem dX6_joinByRule_17 : decode cX6_joinByRule 17 = .ok (.iload 7, 2) := by decide +kernel
theorem dX6_joinByRule_19 : decode cX6_joinByRule 19 = .ok (.iadd, 1) := by decide +kernel
theorem dX6_joinByRule_20 : decode cX6_joinByRule 20 = .ok (.bipush 100, 2) := by decide +kernel
theorem dX6_joinByRule_22 : decode cX6_joinByRule 22 = .ok (.if_icmp .lt 5, 3) := by decide +kernel
theorem dX6_joinByRule_25 : decode cX6_joinByRule 25 = .ok (.iconst 0, 1) := by decide +kernel
theorem dX6_joinByRule_26 : decode cX6_joinByRule 26 = .ok (.ireturn, 1) := by decide +kernel
theorem dX6_joinByRule_27 : decode cX6_joinByRule 27 = .ok (.iconst 0, 1) := by decide +kernel
theorem dX6_joinByRule_28 : decode cX6_joinByRule 28 = .ok (.istore 8, 2) := by decide +kernel
theorem dX6_joinByRule_30 : decode cX6_joinByRule 30 = .ok (.iconst 0, 1) := by decide +kernel
theorem dX6_joinByRule_31 : decode cX6_joinByRule 31 = .ok (.istore 9, 2) := by decide +kernel
theorem dX6_joinByRule_33 : decode cX6_joinByRule 33 = .ok (.iload 9, 2) := by decide +kernel
theorem dX6_joinByRule_35 : decode cX6_joinByRule 35 = .ok (.iconst 4, 1) := by decide +kernel
theorem dX6_joinByRule_36 : decode cX6_joinByRule 36 = .ok (.if_icmp .ge 101, 3) := by decide +kernel
theorem dX6_joinByRule_39 : decode cX6_joinByRule 39 = .ok (.aload_n 1, 1) := by decide +kernel
theorem dX6_joinByRule_40 : decode cX6_joinByRule 40 = .ok (.getfield 105, 3) := by decide +kernel
theorem dX6_joinByRule_43 : decode cX6_joinByRule 43 = .ok (.iload_n 2, 1) := by decide +kernel
theorem dX6_joinByRule_44 : decode cX6_joinByRule 44 = .ok (.baload, 1) := by decide +kernel
theorem dX6_joinByRule_45 : decode cX6_joinByRule 45 = .ok (.ifCond .eq 28, 3) := by decide +kernel
theorem dX6_joinByRule_48 : decode cX6_joinByRule 48 = .ok (.aload_n 0, 1) := by decide +kernel
theorem dX6_joinByRule_49 : decode cX6_joinByRule 49 = .ok (.getfield 11, 3) := by decide +kernel
theorem dX6_joinByRule_52 : decode cX6_joinByRule 52 = .ok (.iload_n 3, 1) := by decide +kernel
theorem dX6_joinByRule_53 : decode cX6_joinByRule 53 = .ok (.iload 9, 2) := by decide +kernel
theorem dX6_joinByRule_55 : decode cX6_joinByRule 55 = .ok (.iadd, 1) := by decide +kernel
theorem dX6_joinByRule_56 : decode cX6_joinByRule 56 = .ok (.iaload, 1) := by decide +kernel
theorem dX6_joinByRule_57 : decode cX6_joinByRule 57 = .ok (.aload_n 0, 1) := by decide +kernel
theorem dX6_joinByRule_58 : decode cX6_joinByRule 58 = .ok (.getfield 11, 3) := by decide +kernel
theorem dX6_joinByRule_61 : decode cX6_joinByRule 61 = .ok (.iload 4, 2) := by decide +kernel
theorem dX6_joinByRule_63 : decode cX6_joinByRule 63 = .ok (.iload 9, 2) := by decide +kernel
theorem dX6_joinByRule_65 : decode cX6_joinByRule 65 = .ok (.iadd, 1) := by decide +kernel
theorem dX6_joinByRule_66 : decode cX6_joinByRule 66 = .ok (.iaload, 1) := by decide +kernel
theorem dX6_joinByRule_67 : decode cX6_joinByRule 67 = .ok (.iadd, 1) := by decide +kernel
theorem dX6_joinByRule_68 : decode cX6_joinByRule 68 = .ok (.istore 10, 2) := by decide +kernel
theorem dX6_joinByRule_70 : decode cX6_joinByRule 70 = .ok (.goto 44, 3) := by decide +kernel
theorem dX6_joinByRule_73 : decode cX6_joinByRule 73 = .ok (.aload_n 1, 1) := by decide +kernel
theorem dX6_joinByRule_74 : decode cX6_joinByRule 74 = .ok (.getfield 109, 3) := by decide +kernel
theorem dX6_joinByRule_77 : decode cX6_joinByRule 77 = .ok (.iload_n 2, 1) := by decide +kernel
theorem dX6_joinByRule_78 : decode cX6_joinByRule 78 = .ok (.baload, 1) := by decide +kernel
theorem dX6_joinByRule_79 : decode cX6_joinByRule 79 = .ok (.ifCond .eq 21, 3) := by decide +kernel
theorem dX6_joinByRule_82 : decode cX6_joinByRule 82 = .ok (.iload 6, 2) := by decide +kernel
theorem dX6_joinByRule_84 : decode cX6_joinByRule 84 = .ok (.aload_n 0, 1) := by decide +kernel
theorem dX6_joinByRule_85 : decode cX6_joinByRule 85 = .ok (.getfield 11, 3) := by decide +kernel
theorem dX6_joinByRule_88 : decode cX6_joinByRule 88 = .ok (.iload 4, 2) := by decide +kernel
theorem dX6_joinByRule_90 : decode cX6_joinByRule 90 = .ok (.iload 9, 2) := by decide +kernel
theorem dX6_joinByRule_92 : decode cX6_joinByRule 92 = .ok (.iadd, 1) := by decide +kernel
theorem dX6_joinByRule_93 : decode cX6_joinByRule 93 = .ok (.iaload, 1) := by decide +kernel
theorem dX6_joinByRule_94 : decode cX6_joinByRule 94 = .ok (.iadd, 1) := by decide +kernel
theorem dX6_joinByRule_95 : decode cX6_joinByRule 95 = .ok (.istore 10, 2) := by decide +kernel
theorem dX6_joinByRule_97 : decode cX6_joinByRule 97 = .ok (.goto 17, 3) := by decide +kernel
theorem dX6_joinByRule_100 : decode cX6_joinByRule 100 = .ok (.aload_n 0, 1) := by decide +kernel
theorem dX6_joinByRule_101 : decode cX6_joinByRule 101 = .ok (.getfield 11, 3) := by decide +kernel
theorem dX6_joinByRule_104 : decode cX6_joinByRule 104 = .ok (.iload_n 3, 1) := by decide +kernel
theorem dX6_joinByRule_105 : decode cX6_joinByRule 105 = .ok (.iload 9, 2) := by decide +kernel
theorem dX6_joinByRule_107 : decode cX6_joinByRule 107 = .ok (.iadd, 1) := by decide +kernel
theorem dX6_joinByRule_108 : decode cX6_joinByRule 108 = .ok (.iaload, 1) := by decide +kernel
theorem dX6_joinByRule_109 : decode cX6_joinByRule 109 = .ok (.iload 7, 2) := by decide +kernel
theorem dX6_joinByRule_111 : decode cX6_joinByRule 111 = .ok (.iadd, 1) := by decide +kernel
theorem dX6_joinByRule_112 : decode cX6_joinByRule 112 = .ok (.istore 10, 2) := by decide +kernel
theorem dX6_joinByRule_114 : decode cX6_joinByRule 114 = .ok (.aload_n 0, 1) := by decide +kernel
theorem dX6_joinByRule_115 : decode cX6_joinByRule 115 = .ok (.iload 5, 2) := by decide +kernel
theorem dX6_joinByRule_117 : decode cX6_joinByRule 117 = .ok (.iload 9, 2) := by decide +kernel
theorem dX6_joinByRule_119 : decode cX6_joinByRule 119 = .ok (.iadd, 1) := by decide +kernel
theorem dX6_joinByRule_120 : decode cX6_joinByRule 120 = .ok (.iload 10, 2) := by decide +kernel
theorem dX6_joinByRule_122 : decode cX6_joinByRule 122 = .ok (.invokevirtual 86, 3) := by decide +kernel
theorem dX6_joinByRule_125 : decode cX6_joinByRule 125 = .ok (.ifCond .eq 6, 3) := by decide +kernel
theorem dX6_joinByRule_128 : decode cX6_joinByRule 128 = .ok (.iconst 1, 1) := by decide +kernel
theorem dX6_joinByRule_129 : decode cX6_joinByRule 129 = .ok (.istore 8, 2) := by decide +kernel
theorem dX6_joinByRule_131 : decode cX6_joinByRule 131 = .ok (.iinc 9 1, 3) := by decide +kernel
theorem dX6_joinByRule_134 : decode cX6_joinByRule 134 = .ok (.goto (-101), 3) := by decide +kernel
theorem dX6_joinByRule_137 : decode cX6_joinByRule 137 = .ok (.iload 8, 2) := by decide +kernel
theorem dX6_joinByRule_139 : decode cX6_joinByRule 139 = .ok (.ireturn, 1) := by decide +kernel
theorem dX6_cheapestAt_0 : decode cX6_cheapestAt 0 = .ok (.aload_n 0, 1) := by decide +kernel
theorem dX6_cheapestAt_1 : decode cX6_cheapestAt 1 = .ok (.getfield 11, 3) := by decide +kernel
theorem dX6_cheapestAt_4 : decode cX6_cheapestAt 4 = .ok (.iload_n 1, 1) := by decide +kernel
theorem dX6_cheapestAt_5 : decode cX6_cheapestAt 5 = .ok (.iaload, 1) := by decide +kernel
theorem dX6_cheapestAt_6 : decode cX6_cheapestAt 6 = .ok (.aload_n 0, 1) := by decide +kernel
theorem dX6_cheapestAt_7 : decode cX6_cheapestAt 7 = .ok (.getfield 11, 3) := by decide +kernel
theorem dX6_cheapestAt_10 : decode cX6_cheapestAt 10 = .ok (.iload_n 1, 1) := by decide +kernel
theorem dX6_cheapestAt_11 : decode cX6_cheapestAt 11 = .ok (.iconst 1, 1) := by decide +kernel
theorem dX6_cheapestAt_12 : decode cX6_cheapestAt 12 = .ok (.iadd, 1) := by decide +kernel
theorem dX6_cheapestAt_13 : decode cX6_cheapestAt 13 = .ok (.iaload, 1) := by decide +kernel
theorem dX6_cheapestAt_14 : decode cX6_cheapestAt 14 = .ok (.invokestatic 112, 3) := by decide +kernel
theorem dX6_cheapestAt_17 : decode cX6_cheapestAt 17 = .ok (.aload_n 0, 1) := by decide +kernel
theorem dX6_cheapestAt_18 : decode cX6_cheapestAt 18 = .ok (.getfield 11, 3) := by decide +kernel
theorem dX6_cheapestAt_21 : decode cX6_cheapestAt 21 = .ok (.iload_n 1, 1) := by decide +kernel
theorem dX6_cheapestAt_22 : decode cX6_cheapestAt 22 = .ok (.iconst 2, 1) := by decide +kernel
theorem dX6_cheapestAt_23 : decode cX6_cheapestAt 23 = .ok (.iadd, 1) := by decide +kernel
theorem dX6_cheapestAt_24 : decode cX6_cheapestAt 24 = .ok (.iaload, 1) := by decide +kernel
theorem dX6_cheapestAt_25 : decode cX6_cheapestAt 25 = .ok (.aload_n 0, 1) := by decide +kernel
theorem dX6_cheapestAt_26 : decode cX6_cheapestAt 26 = .ok (.getfield 11, 3) := by decide +kernel
theorem dX6_cheapestAt_29 : decode cX6_cheapestAt 29 = .ok (.iload_n 1, 1) := by decide +kernel
theorem dX6_cheapestAt_30 : decode cX6_cheapestAt 30 = .ok (.iconst 3, 1) := by decide +kernel
theorem dX6_cheapestAt_31 : decode cX6_cheapestAt 31 = .ok (.iadd, 1) := by decide +kernel
theorem dX6_cheapestAt_32 : decode cX6_cheapestAt 32 = .ok (.iaload, 1) := by decide +kernel
theorem dX6_cheapestAt_33 : decode cX6_cheapestAt 33 = .ok (.invokestatic 112, 3) := by decide +kernel
theorem dX6_cheapestAt_36 : decode cX6_cheapestAt 36 = .ok (.invokestatic 112, 3) := by decide +kernel
theorem dX6_cheapestAt_39 : decode cX6_cheapestAt 39 = .ok (.ireturn, 1) := by decide +kernel
end
section
theorem dX7_init_0 : decode cX7_init 0 = .ok (.aload_n 0, 1) := by decide +kernel
theorem dX7_init_1 : decode cX7_init 1 = .ok (.invokespecial 3, 3) := by decide +kernel
theorem dX7_init_4 : decode cX7_init 4 = .ok (.aload_n 0, 1) := by decide +kernel
theorem dX7_init_5 : decode cX7_init 5 = .ok (.bipush 8, 2) := by decide +kernel
theorem dX7_init_7 : decode cX7_init 7 = .ok (.newarray .int, 2) := by decide +kernel
theorem dX7_init_9 : decode cX7_init 9 = .ok (.putfield 9, 3) := by decide +kernel
theorem dX7_init_12 : decode cX7_init 12 = .ok (.aload_n 0, 1) := by decide +kernel
theorem dX7_init_13 : decode cX7_init 13 = .ok (.iconst 0, 1) := by decide +kernel
theorem dX7_init_14 : decode cX7_init 14 = .ok (.putfield 15, 3) := by decide +kernel
theorem dX7_init_17 : decode cX7_init 17 = .ok (.aload_n 0, 1) := by decide +kernel
theorem dX7_init_18 : decode cX7_init 18 = .ok (.iconst 0, 1) := by decide +kernel
theorem dX7_init_19 : decode cX7_init 19 = .ok (.putfield 19, 3) := by decide +kernel
theorem dX7_init_22 : decode cX7_init 22 = .ok (.return_, 1) := by decide +kernel
theorem dX7_restart_0 : decode cX7_restart 0 = .ok (.aload_n 0, 1) := by decide +kernel
theorem dX7_restart_1 : decode cX7_restart 1 = .ok (.iconst 0, 1) := by decide +kernel
theorem dX7_restart_2 : decode cX7_restart 2 = .ok (.putfield 15, 3) := by decide +kernel
theorem dX7_restart_5 : decode cX7_restart 5 = .ok (.aload_n 0, 1) := by decide +kernel
theorem dX7_restart_6 : decode cX7_restart 6 = .ok (.iconst 0, 1) := by decide +kernel
theorem dX7_restart_7 : decode cX7_restart 7 = .ok (.putfield 19, 3) := by decide +kernel
theorem dX7_restart_10 : decode cX7_restart 10 = .ok (.return_, 1) := by decide +kernel
theorem dX7_append_0 : decode cX7_append 0 = .ok (.aload_n 0, 1) := by decide +kernel
theorem dX7_append_1 : decode cX7_append 1 = .ok (.getfield 15, 3) := by decide +kernel
theorem dX7_append_4 : decode cX7_append 4 = .ok (.bipush 8, 2) := by decide +kernel
theorem dX7_append_6 : decode cX7_append 6 = .ok (.if_icmp .ge 23, 3) := by decide +kernel
theorem dX7_append_9 : decode cX7_append 9 = .ok (.aload_n 0, 1) := by decide +kernel
theorem dX7_append_10 : decode cX7_append 10 = .ok (.getfield 9, 3) := by decide +kernel
theorem dX7_append_13 : decode cX7_append 13 = .ok (.aload_n 0, 1) := by decide +kernel
theorem dX7_append_14 : decode cX7_append 14 = .ok (.getfield 15, 3) := by decide +kernel
theorem dX7_append_17 : decode cX7_append 17 = .ok (.iload_n 1, 1) := by decide +kernel
theorem dX7_append_18 : decode cX7_append 18 = .ok (.iastore, 1) := by decide +kernel
theorem dX7_append_19 : decode cX7_append 19 = .ok (.aload_n 0, 1) := by decide +kernel
theorem dX7_append_20 : decode cX7_append 20 = .ok (.dup, 1) := by decide +kernel
theorem dX7_append_21 : decode cX7_append 21 = .ok (.getfield 15, 3) := by decide +kernel
theorem dX7_append_24 : decode cX7_append 24 = .ok (.iconst 1, 1) := by decide +kernel
theorem dX7_append_25 : decode cX7_append 25 = .ok (.iadd, 1) := by decide +kernel
theorem dX7_append_26 : decode cX7_append 26 = .ok (.putfield 15, 3) := by decide +kernel
theorem dX7_append_29 : decode cX7_append 29 = .ok (.return_, 1) := by decide +kernel
theorem dX7_copyOf_0 : decode cX7_copyOf 0 = .ok (.aload_n 1, 1) := by decide +kernel
theorem dX7_copyOf_1 : decode cX7_copyOf 1 = .ok (.getfield 9, 3) := by decide +kernel
theorem dX7_copyOf_4 : decode cX7_copyOf 4 = .ok (.iconst 0, 1) := by decide +kernel
theorem dX7_copyOf_5 : decode cX7_copyOf 5 = .ok (.aload_n 0, 1) := by decide +kernel
theorem dX7_copyOf_6 : decode cX7_copyOf 6 = .ok (.getfield 9, 3) := by decide +kernel
theorem dX7_copyOf_9 : decode cX7_copyOf 9 = .ok (.iconst 0, 1) := by decide +kernel
theorem dX7_copyOf_10 : decode cX7_copyOf 10 = .ok (.aload_n 1, 1) := by decide +kernel
theorem dX7_copyOf_11 : decode cX7_copyOf 11 = .ok (.getfield 15, 3) := by decide +kernel
theorem dX7_copyOf_14 : decode cX7_copyOf 14 = .ok (.invokestatic 22, 3) := by decide +kernel
theorem dX7_copyOf_17 : decode cX7_copyOf 17 = .ok (.aload_n 0, 1) := by decide +kernel
theorem dX7_copyOf_18 : decode cX7_copyOf 18 = .ok (.aload_n 1, 1) := by decide +kernel
theorem dX7_copyOf_19 : decode cX7_copyOf 19 = .ok (.getfield 15, 3) := by decide +kernel
theorem dX7_copyOf_22 : decode cX7_copyOf 22 = .ok (.putfield 15, 3) := by decide +kernel
theorem dX7_copyOf_25 : decode cX7_copyOf 25 = .ok (.return_, 1) := by decide +kernel
theorem dX7_copySwapped_0 : decode cX7_copySwapped 0 = .ok (.aload_n 0, 1) := by decide +kernel
theorem dX7_copySwapped_1 : decode cX7_copySwapped 1 = .ok (.aload_n 1, 1) := by decide +kernel
theorem dX7_copySwapped_2 : decode cX7_copySwapped 2 = .ok (.invokevirtual 28, 3) := by decide +kernel
theorem dX7_copySwapped_5 : decode cX7_copySwapped 5 = .ok (.aload_n 0, 1) := by decide +kernel
theorem dX7_copySwapped_6 : decode cX7_copySwapped 6 = .ok (.getfield 9, 3) := by decide +kernel
theorem dX7_copySwapped_9 : decode cX7_copySwapped 9 = .ok (.iload_n 2, 1) := by decide +kernel
theorem dX7_copySwapped_10 : decode cX7_copySwapped 10 = .ok (.iload_n 3, 1) := by decide +kernel
theorem dX7_copySwapped_11 : decode cX7_copySwapped 11 = .ok (.iastore, 1) := by decide +kernel
theorem dX7_copySwapped_12 : decode cX7_copySwapped 12 = .ok (.return_, 1) := by decide +kernel
theorem dX7_copyWithout_0 : decode cX7_copyWithout 0 = .ok (.aload_n 0, 1) := by decide +kernel
theorem dX7_copyWithout_1 : decode cX7_copyWithout 1 = .ok (.iconst 0, 1) := by decide +kernel
theorem dX7_copyWithout_2 : decode cX7_copyWithout 2 = .ok (.putfield 15, 3) := by decide +kernel
theorem dX7_copyWithout_5 : decode cX7_copyWithout 5 = .ok (.iconst 0, 1) := by decide +kernel
theorem dX7_copyWithout_6 : decode cX7_copyWithout 6 = .ok (.istore_n 3, 1) := by decide +kernel
theorem dX7_copyWithout_7 : decode cX7_copyWithout 7 = .ok (.iload_n 3, 1) := by decide +kernel
theorem dX7_copyWithout_8 : decode cX7_copyWithout 8 = .ok (.aload_n 1, 1) := by decide +kernel
theorem dX7_copyWithout_9 : decode cX7_copyWithout 9 = .ok (.getfield 15, 3) := by decide +kernel
theorem dX7_copyWithout_12 : decode cX7_copyWithout 12 = .ok (.if_icmp .ge 24, 3) := by decide +kernel
theorem dX7_copyWithout_15 : decode cX7_copyWithout 15 = .ok (.iload_n 3, 1) := by decide +kernel
theorem dX7_copyWithout_16 : decode cX7_copyWithout 16 = .ok (.iload_n 2, 1) := by decide +kernel
theorem dX7_copyWithout_17 : decode cX7_copyWithout 17 = .ok (.if_icmp .eq 13, 3) := by decide +kernel
theorem dX7_copyWithout_20 : decode cX7_copyWithout 20 = .ok (.aload_n 0, 1) := by decide +kernel
theorem dX7_copyWithout_21 : decode cX7_copyWithout 21 = .ok (.aload_n 1, 1) := by decide +kernel
theorem dX7_copyWithout_22 : decode cX7_copyWithout 22 = .ok (.getfield 9, 3) := by decide +kernel
theorem dX7_copyWithout_25 : decode cX7_copyWithout 25 = .ok (.iload_n 3, 1) := by decide +kernel
theorem dX7_copyWithout_26 : decode cX7_copyWithout 26 = .ok (.iaload, 1) := by decide +kernel
theorem dX7_copyWithout_27 : decode cX7_copyWithout 27 = .ok (.invokevirtual 32, 3) := by decide +kernel
theorem dX7_copyWithout_30 : decode cX7_copyWithout 30 = .ok (.iinc 3 1, 3) := by decide +kernel
theorem dX7_copyWithout_33 : decode cX7_copyWithout 33 = .ok (.goto (-26), 3) := by decide +kernel
theorem dX7_copyWithout_36 : decode cX7_copyWithout 36 = .ok (.return_, 1) := by decide +kernel
theorem dX7_copyWith_0 : decode cX7_copyWith 0 = .ok (.aload_n 0, 1) := by decide +kernel
theorem dX7_copyWith_1 : decode cX7_copyWith 1 = .ok (.iconst 0, 1) := by decide +kernel
theorem dX7_copyWith_2 : decode cX7_copyWith 2 = .ok (.putfield 15, 3) := by decide +kernel
theorem dX7_copyWith_5 : decode cX7_copyWith 5 = .ok (.iconst 0, 1) := by decide +kernel
theorem dX7_copyWith_6 : decode cX7_copyWith 6 = .ok (.istore 4, 2) := by decide +kernel
theorem dX7_copyWith_8 : decode cX7_copyWith 8 = .ok (.iload 4, 2) := by decide +kernel
theorem dX7_copyWith_10 : decode cX7_copyWith 10 = .ok (.iload_n 2, 1) := by decide +kernel
theorem dX7_copyWith_11 : decode cX7_copyWith 11 = .ok (.if_icmp .ge 20, 3) := by decide +kernel
theorem dX7_copyWith_14 : decode cX7_copyWith 14 = .ok (.aload_n 0, 1) := by decide +kernel
theorem dX7_copyWith_15 : decode cX7_copyWith 15 = .ok (.aload_n 1, 1) := by decide +kernel
theorem dX7_copyWith_16 : decode cX7_copyWith 16 = .ok (.getfield 9, 3) := by decide +kernel
theorem dX7_copyWith_19 : decode cX7_copyWith 19 = .ok (.iload 4, 2) := by decide +kernel
theorem dX7_copyWith_21 : decode cX7_copyWith 21 = .ok (.iaload, 1) := by decide +kernel
theorem dX7_copyWith_22 : decode cX7_copyWith 22 = .ok (.invokevirtual 32, 3) := by decide +kernel
theorem dX7_copyWith_25 : decode cX7_copyWith 25 = .ok (.iinc 4 1, 3) := by decide +kernel
theorem dX7_copyWith_28 : decode cX7_copyWith 28 = .ok (.goto (-20), 3) := by decide +kernel
theorem dX7_copyWith_31 : decode cX7_copyWith 31 = .ok (.aload_n 0, 1) := by decide +kernel
theorem dX7_copyWith_32 : decode cX7_copyWith 32 = .ok (.iload_n 3, 1) := by decide +kernel
theorem dX7_copyWith_33 : decode cX7_copyWith 33 = .ok (.invokevirtual 32, 3) := by decide +kernel
theorem dX7_copyWith_36 : decode cX7_copyWith 36 = .ok (.iload_n 2, 1) := by decide +kernel
theorem dX7_copyWith_37 : decode cX7_copyWith 37 = .ok (.istore 4, 2) := by decide +kernel
theorem dX7_copyWith_39 : decode cX7_copyWith 39 = .ok (.iload 4, 2) := by decide +kernel
theorem dX7_copyWith_41 : decode cX7_copyWith 41 = .ok (.aload_n 1, 1) := by decide +kernel
theorem dX7_copyWith_42 : decode cX7_copyWith 42 = .ok (.getfield 15, 3) := by decide +kernel
theorem dX7_copyWith_45 : decode cX7_copyWith 45 = .ok (.if_icmp .ge 20, 3) := by decide +kernel
theorem dX7_copyWith_48 : decode cX7_copyWith 48 = .ok (.aload_n 0, 1) := by decide +kernel
theorem dX7_copyWith_49 : decode cX7_copyWith 49 = .ok (.aload_n 1, 1) := by decide +kernel
theorem dX7_copyWith_50 : decode cX7_copyWith 50 = .ok (.getfield 9, 3) := by decide +kernel
theorem dX7_copyWith_53 : decode cX7_copyWith 53 = .ok (.iload 4, 2) := by decide +kernel
theorem dX7_copyWith_55 : decode cX7_copyWith 55 = .ok (.iaload, 1) := by decide +kernel
theorem dX7_copyWith_56 : decode cX7_copyWith 56 = .ok (.invokevirtual 32, 3) := by decide +kernel
theorem dX7_copyWith_59 : decode cX7_copyWith 59 = .ok (.iinc 4 1, 3) := by decide +kernel
theorem dX7_copyWith_62 : decode cX7_copyWith 62 = .ok (.goto (-23), 3) := by decide +kernel
theorem dX7_copyWith_65 : decode cX7_copyWith 65 = .ok (.return_, 1) := by decide +kernel
theorem dX7_orderTo_0 : decode cX7_orderTo 0 = .ok (.aload_n 0, 1) := by decide +kernel
theorem dX7_orderTo_1 : decode cX7_orderTo 1 = .ok (.getfield 15, 3) := by decide +kernel
theorem dX7_orderTo_4 : decode cX7_orderTo 4 = .ok (.aload_n 1, 1) := by decide +kernel
theorem dX7_orderTo_5 : decode cX7_orderTo 5 = .ok (.getfield 15, 3) := by decide +kernel
theorem dX7_orderTo_8 : decode cX7_orderTo 8 = .ok (.if_icmp .eq 13, 3) := by decide +kernel
theorem dX7_orderTo_11 : decode cX7_orderTo 11 = .ok (.aload_n 0, 1) := by decide +kernel
theorem dX7_orderTo_12 : decode cX7_orderTo 12 = .ok (.getfield 15, 3) := by decide +kernel
theorem dX7_orderTo_15 : decode cX7_orderTo 15 = .ok (.aload_n 1, 1) := by decide +kernel
theorem dX7_orderTo_16 : decode cX7_orderTo 16 = .ok (.getfield 15, 3) := by decide +kernel
theorem dX7_orderTo_19 : decode cX7_orderTo 19 = .ok (.isub, 1) := by decide +kernel
theorem dX7_orderTo_20 : decode cX7_orderTo 20 = .ok (.ireturn, 1) := by decide +kernel
theorem dX7_orderTo_21 : decode cX7_orderTo 21 = .ok (.iconst 0, 1) := by decide +kernel
theorem dX7_orderTo_22 : decode cX7_orderTo 22 = .ok (.istore_n 2, 1) := by decide +kernel
theorem dX7_orderTo_23 : decode cX7_orderTo 23 = .ok (.iload_n 2, 1) := by decide +kernel
theorem dX7_orderTo_24 : decode cX7_orderTo 24 = .ok (.aload_n 0, 1) := by decide +kernel
theorem dX7_orderTo_25 : decode cX7_orderTo 25 = .ok (.getfield 15, 3) := by decide +kernel
theorem dX7_orderTo_28 : decode cX7_orderTo 28 = .ok (.if_icmp .ge 38, 3) := by decide +kernel
theorem dX7_orderTo_31 : decode cX7_orderTo 31 = .ok (.aload_n 0, 1) := by decide +kernel
theorem dX7_orderTo_32 : decode cX7_orderTo 32 = .ok (.getfield 9, 3) := by decide +kernel
theorem dX7_orderTo_35 : decode cX7_orderTo 35 = .ok (.iload_n 2, 1) := by decide +kernel
theorem dX7_orderTo_36 : decode cX7_orderTo 36 = .ok (.iaload, 1) := by decide +kernel
theorem dX7_orderTo_37 : decode cX7_orderTo 37 = .ok (.aload_n 1, 1) := by decide +kernel
theorem dX7_orderTo_38 : decode cX7_orderTo 38 = .ok (.getfield 9, 3) := by decide +kernel
theorem dX7_orderTo_41 : decode cX7_orderTo 41 = .ok (.iload_n 2, 1) := by decide +kernel
theorem dX7_orderTo_42 : decode cX7_orderTo 42 = .ok (.iaload, 1) := by decide +kernel
theorem dX7_orderTo_43 : decode cX7_orderTo 43 = .ok (.if_icmp .eq 17, 3) := by decide +kernel
theorem dX7_orderTo_46 : decode cX7_orderTo 46 = .ok (.aload_n 0, 1) := by decide +kernel
theorem dX7_orderTo_47 : decode cX7_orderTo 47 = .ok (.getfield 9, 3) := by decide +kernel
theorem dX7_orderTo_50 : decode cX7_orderTo 50 = .ok (.iload_n 2, 1) := by decide +kernel
theorem dX7_orderTo_51 : decode cX7_orderTo 51 = .ok (.iaload, 1) := by decide +kernel
theorem dX7_orderTo_52 : decode cX7_orderTo 52 = .ok (.aload_n 1, 1) := by decide +kernel
theorem dX7_orderTo_53 : decode cX7_orderTo 53 = .ok (.getfield 9, 3) := by decide +kernel
theorem dX7_orderTo_56 : decode cX7_orderTo 56 = .ok (.iload_n 2, 1) := by decide +kernel
theorem dX7_orderTo_57 : decode cX7_orderTo 57 = .ok (.iaload, 1) := by decide +kernel
theorem dX7_orderTo_58 : decode cX7_orderTo 58 = .ok (.isub, 1) := by decide +kernel
theorem dX7_orderTo_59 : decode cX7_orderTo 59 = .ok (.ireturn, 1) := by decide +kernel
theorem dX7_orderTo_60 : decode cX7_orderTo 60 = .ok (.iinc 2 1, 3) := by decide +kernel
theorem dX7_orderTo_63 : decode cX7_orderTo 63 = .ok (.goto (-40), 3) := by decide +kernel
theorem dX7_orderTo_66 : decode cX7_orderTo 66 = .ok (.iconst 0, 1) := by decide +kernel
theorem dX7_orderTo_67 : decode cX7_orderTo 67 = .ok (.ireturn, 1) := by decide +kernel
theorem dX7_familyAt_0 : decode cX7_familyAt 0 = .ok (.iload_n 2, 1) := by decide +kernel
theorem dX7_familyAt_1 : decode cX7_familyAt 1 = .ok (.aload_n 0, 1) := by decide +kernel
theorem dX7_familyAt_2 : decode cX7_familyAt 2 = .ok (.getfield 15, 3) := by decide +kernel
theorem dX7_familyAt_5 : decode cX7_familyAt 5 = .ok (.if_icmp .ge 17, 3) := by decide +kernel
theorem dX7_familyAt_8 : decode cX7_familyAt 8 = .ok (.aload_n 1, 1) := by decide +kernel
theorem dX7_familyAt_9 : decode cX7_familyAt 9 = .ok (.getfield 36, 3) := by decide +kernel
theorem dX7_familyAt_12 : decode cX7_familyAt 12 = .ok (.aload_n 0, 1) := by decide +kernel
theorem dX7_familyAt_13 : decode cX7_familyAt 13 = .ok (.getfield 9, 3) := by decide +kernel
theorem dX7_familyAt_16 : decode cX7_familyAt 16 = .ok (.iload_n 2, 1) := by decide +kernel
theorem dX7_familyAt_17 : decode cX7_familyAt 17 = .ok (.iaload, 1) := by decide +kernel
theorem dX7_familyAt_18 : decode cX7_familyAt 18 = .ok (.iaload, 1) := by decide +kernel
theorem dX7_familyAt_19 : decode cX7_familyAt 19 = .ok (.goto 5, 3) := by decide +kernel
theorem dX7_familyAt_22 : decode cX7_familyAt 22 = .ok (.bipush 16, 2) := by decide +kernel
theorem dX7_familyAt_24 : decode cX7_familyAt 24 = .ok (.ireturn, 1) := by decide +kernel
theorem dX7_hasFamiliesOf_0 : decode cX7_hasFamiliesOf 0 = .ok (.iconst 0, 1) := by decide +kernel
theorem dX7_hasFamiliesOf_1 : decode cX7_hasFamiliesOf 1 = .ok (.istore_n 3, 1) := by decide +kernel
theorem dX7_hasFamiliesOf_2 : decode cX7_hasFamiliesOf 2 = .ok (.iload_n 3, 1) := by decide +kernel
theorem dX7_hasFamiliesOf_3 : decode cX7_hasFamiliesOf 3 = .ok (.bipush 8, 2) := by decide +kernel
theorem dX7_hasFamiliesOf_5 : decode cX7_hasFamiliesOf 5 = .ok (.if_icmp .ge 26, 3) := by decide +kernel
theorem dX7_hasFamiliesOf_8 : decode cX7_hasFamiliesOf 8 = .ok (.aload_n 0, 1) := by decide +kernel
theorem dX7_hasFamiliesOf_9 : decode cX7_hasFamiliesOf 9 = .ok (.aload_n 1, 1) := by decide +kernel
theorem dX7_hasFamiliesOf_10 : decode cX7_hasFamiliesOf 10 = .ok (.iload_n 3, 1) := by decide +kernel
theorem dX7_hasFamiliesOf_11 : decode cX7_hasFamiliesOf 11 = .ok (.invokevirtual 41, 3) := by decide +kernel
theorem dX7_hasFamiliesOf_14 : decode cX7_hasFamiliesOf 14 = .ok (.aload_n 2, 1) := by decide +kernel
theorem dX7_hasFamiliesOf_15 : decode cX7_hasFamiliesOf 15 = .ok (.aload_n 1, 1) := by decide +kernel
theorem dX7_hasFamiliesOf_16 : decode cX7_hasFamiliesOf 16 = .ok (.iload_n 3, 1) := by decide +kernel
theorem dX7_hasFamiliesOf_17 : decode cX7_hasFamiliesOf 17 = .ok (.invokevirtual 41, 3) := by decide +kernel
theorem dX7_hasFamiliesOf_20 : decode cX7_hasFamiliesOf 20 = .ok (.if_icmp .eq 5, 3) := by decide +kernel
theorem dX7_hasFamiliesOf_23 : decode cX7_hasFamiliesOf 23 = .ok (.iconst 0, 1) := by decide +kernel
theorem dX7_hasFamiliesOf_24 : decode cX7_hasFamiliesOf 24 = .ok (.ireturn, 1) := by decide +kernel
theorem dX7_hasFamiliesOf_25 : decode cX7_hasFamiliesOf 25 = .ok (.iinc 3 1, 3) := by decide +kernel
theorem dX7_hasFamiliesOf_28 : decode cX7_hasFamiliesOf 28 = .ok (.goto (-26), 3) := by decide +kernel
theorem dX7_hasFamiliesOf_31 : decode cX7_hasFamiliesOf 31 = .ok (.iconst 1, 1) := by decide +kernel
theorem dX7_hasFamiliesOf_32 : decode cX7_hasFamiliesOf 32 = .ok (.ireturn, 1) := by decide +kernel
theorem dX8_init_0 : decode cX8_init 0 = .ok (.aload_n 0, 1) := by decide +kernel
theorem dX8_init_1 : decode cX8_init 1 = .ok (.invokespecial 3, 3) := by decide +kernel
theorem dX8_init_4 : decode cX8_init 4 = .ok (.aload_n 0, 1) := by decide +kernel
theorem dX8_init_5 : decode cX8_init 5 = .ok (.sipush 2560, 3) := by decide +kernel
theorem dX8_init_8 : decode cX8_init 8 = .ok (.newarray .long, 2) := by decide +kernel
theorem dX8_init_10 : decode cX8_init 10 = .ok (.putfield 9, 3) := by decide +kernel
theorem dX8_init_13 : decode cX8_init 13 = .ok (.return_, 1) := by decide +kernel
theorem dX8_span_0 : decode cX8_span 0 = .ok (.iload_n 0, 1) := by decide +kernel
theorem dX8_span_1 : decode cX8_span 1 = .ok (.bipush 8, 2) := by decide +kernel
theorem dX8_span_3 : decode cX8_span 3 = .ok (.imul, 1) := by decide +kernel
theorem dX8_span_4 : decode cX8_span 4 = .ok (.iload_n 1, 1) := by decide +kernel
theorem dX8_span_5 : decode cX8_span 5 = .ok (.iadd, 1) := by decide +kernel
theorem dX8_span_6 : decode cX8_span 6 = .ok (.iconst 1, 1) := by decide +kernel
theorem dX8_span_7 : decode cX8_span 7 = .ok (.isub, 1) := by decide +kernel
theorem dX8_span_8 : decode cX8_span 8 = .ok (.bipush 40, 2) := by decide +kernel
theorem dX8_span_10 : decode cX8_span 10 = .ok (.imul, 1) := by decide +kernel
theorem dX8_span_11 : decode cX8_span 11 = .ok (.ireturn, 1) := by decide +kernel
theorem dX8_joinAll_0 : decode cX8_joinAll 0 = .ok (.iconst 2, 1) := by decide +kernel
theorem dX8_joinAll_1 : decode cX8_joinAll 1 = .ok (.istore_n 3, 1) := by decide +kernel
theorem dX8_joinAll_2 : decode cX8_joinAll 2 = .ok (.iload_n 3, 1) := by decide +kernel
theorem dX8_joinAll_3 : decode cX8_joinAll 3 = .ok (.iload_n 2, 1) := by decide +kernel
theorem dX8_joinAll_4 : decode cX8_joinAll 4 = .ok (.if_icmp .gt 71, 3) := by decide +kernel
theorem dX8_joinAll_7 : decode cX8_joinAll 7 = .ok (.iconst 0, 1) := by decide +kernel
theorem dX8_joinAll_8 : decode cX8_joinAll 8 = .ok (.istore 4, 2) := by decide +kernel
theorem dX8_joinAll_10 : decode cX8_joinAll 10 = .ok (.iload 4, 2) := by decide +kernel
theorem dX8_joinAll_12 : decode cX8_joinAll 12 = .ok (.iload_n 3, 1) := by decide +kernel
theorem dX8_joinAll_13 : decode cX8_joinAll 13 = .ok (.iadd, 1) := by decide +kernel
theorem dX8_joinAll_14 : decode cX8_joinAll 14 = .ok (.iload_n 2, 1) := by decide +kernel
theorem dX8_joinAll_15 : decode cX8_joinAll 15 = .ok (.if_icmp .gt 54, 3) := by decide +kernel
theorem dX8_joinAll_18 : decode cX8_joinAll 18 = .ok (.iconst 1, 1) := by decide +kernel
theorem dX8_joinAll_19 : decode cX8_joinAll 19 = .ok (.istore 5, 2) := by decide +kernel
theorem dX8_joinAll_21 : decode cX8_joinAll 21 = .ok (.iload 5, 2) := by decide +kernel
theorem dX8_joinAll_23 : decode cX8_joinAll 23 = .ok (.iload_n 3, 1) := by decide +kernel
theorem dX8_joinAll_24 : decode cX8_joinAll 24 = .ok (.if_icmp .ge 39, 3) := by decide +kernel
theorem dX8_joinAll_27 : decode cX8_joinAll 27 = .ok (.aload_n 0, 1) := by decide +kernel
theorem dX8_joinAll_28 : decode cX8_joinAll 28 = .ok (.aload_n 1, 1) := by decide +kernel
theorem dX8_joinAll_29 : decode cX8_joinAll 29 = .ok (.iload 4, 2) := by decide +kernel
theorem dX8_joinAll_31 : decode cX8_joinAll 31 = .ok (.iload 5, 2) := by decide +kernel
theorem dX8_joinAll_33 : decode cX8_joinAll 33 = .ok (.invokestatic 15, 3) := by decide +kernel
theorem dX8_joinAll_36 : decode cX8_joinAll 36 = .ok (.iload 4, 2) := by decide +kernel
theorem dX8_joinAll_38 : decode cX8_joinAll 38 = .ok (.iload 5, 2) := by decide +kernel
theorem dX8_joinAll_40 : decode cX8_joinAll 40 = .ok (.iadd, 1) := by decide +kernel
theorem dX8_joinAll_41 : decode cX8_joinAll 41 = .ok (.iload_n 3, 1) := by decide +kernel
theorem dX8_joinAll_42 : decode cX8_joinAll 42 = .ok (.iload 5, 2) := by decide +kernel
theorem dX8_joinAll_44 : decode cX8_joinAll 44 = .ok (.isub, 1) := by decide +kernel
theorem dX8_joinAll_45 : decode cX8_joinAll 45 = .ok (.invokestatic 15, 3) := by decide +kernel
theorem dX8_joinAll_48 : decode cX8_joinAll 48 = .ok (.iload 4, 2) := by decide +kernel
theorem dX8_joinAll_50 : decode cX8_joinAll 50 = .ok (.iload_n 3, 1) := by decide +kernel
theorem dX8_joinAll_51 : decode cX8_joinAll 51 = .ok (.invokestatic 15, 3) := by decide +kernel
theorem dX8_joinAll_54 : decode cX8_joinAll 54 = .ok (.invokevirtual 19, 3) := by decide +kernel
theorem dX8_joinAll_57 : decode cX8_joinAll 57 = .ok (.iinc 5 1, 3) := by decide +kernel
theorem dX8_joinAll_60 : decode cX8_joinAll 60 = .ok (.goto (-39), 3) := by decide +kernel
theorem dX8_joinAll_63 : decode cX8_joinAll 63 = .ok (.iinc 4 1, 3) := by decide +kernel
theorem dX8_joinAll_66 : decode cX8_joinAll 66 = .ok (.goto (-56), 3) := by decide +kernel
theorem dX8_joinAll_69 : decode cX8_joinAll 69 = .ok (.iinc 3 1, 3) := by decide +kernel
theorem dX8_joinAll_72 : decode cX8_joinAll 72 = .ok (.goto (-70), 3) := by decide +kernel
theorem dX8_joinAll_75 : decode cX8_joinAll 75 = .ok (.return_, 1) := by decide +kernel
theorem dX9_init_0 : decode cX9_init 0 = .ok (.aload_n 0, 1) := by decide +kernel
theorem dX9_init_1 : decode cX9_init 1 = .ok (.invokespecial 3, 3) := by decide +kernel
theorem dX9_init_4 : decode cX9_init 4 = .ok (.aload_n 0, 1) := by decide +kernel
theorem dX9_init_5 : decode cX9_init 5 = .ok (.sipush 400, 3) := by decide +kernel
theorem dX9_init_8 : decode cX9_init 8 = .ok (.newarray .int, 2) := by decide +kernel
theorem dX9_init_10 : decode cX9_init 10 = .ok (.putfield 9, 3) := by decide +kernel
theorem dX9_init_13 : decode cX9_init 13 = .ok (.aload_n 0, 1) := by decide +kernel
theorem dX9_init_14 : decode cX9_init 14 = .ok (.iconst 0, 1) := by decide +kernel
theorem dX9_init_15 : decode cX9_init 15 = .ok (.putfield 15, 3) := by decide +kernel
theorem dX9_init_18 : decode cX9_init 18 = .ok (.aload_n 0, 1) := by decide +kernel
theorem dX9_init_19 : decode cX9_init 19 = .ok (.iconst 5, 1) := by decide +kernel
theorem dX9_init_20 : decode cX9_init 20 = .ok (.newarray .int, 2) := by decide +kernel
theorem dX9_init_22 : decode cX9_init 22 = .ok (.putfield 19, 3) := by decide +kernel
theorem dX9_init_25 : decode cX9_init 25 = .ok (.aload_n 0, 1) := by decide +kernel
theorem dX9_init_26 : decode cX9_init 26 = .ok (.iconst 0, 1) := by decide +kernel
theorem dX9_init_27 : decode cX9_init 27 = .ok (.putfield 22, 3) := by decide +kernel
theorem dX9_init_30 : decode cX9_init 30 = .ok (.return_, 1) := by decide +kernel
theorem dX9_append_0 : decode cX9_append 0 = .ok (.aload_n 0, 1) := by decide +kernel
theorem dX9_append_1 : decode cX9_append 1 = .ok (.getfield 15, 3) := by decide +kernel
theorem dX9_append_4 : decode cX9_append 4 = .ok (.sipush 400, 3) := by decide +kernel
theorem dX9_append_7 : decode cX9_append 7 = .ok (.if_icmp .ge 23, 3) := by decide +kernel
theorem dX9_append_10 : decode cX9_append 10 = .ok (.aload_n 0, 1) := by decide +kernel
theorem dX9_append_11 : decode cX9_append 11 = .ok (.getfield 9, 3) := by decide +kernel
theorem dX9_append_14 : decode cX9_append 14 = .ok (.aload_n 0, 1) := by decide +kernel
theorem dX9_append_15 : decode cX9_append 15 = .ok (.getfield 15, 3) := by decide +kernel
theorem dX9_append_18 : decode cX9_append 18 = .ok (.iload_n 1, 1) := by decide +kernel
theorem dX9_append_19 : decode cX9_append 19 = .ok (.iastore, 1) := by decide +kernel
theorem dX9_append_20 : decode cX9_append 20 = .ok (.aload_n 0, 1) := by decide +kernel
theorem dX9_append_21 : decode cX9_append 21 = .ok (.dup, 1) := by decide +kernel
theorem dX9_append_22 : decode cX9_append 22 = .ok (.getfield 15, 3) := by decide +kernel
theorem dX9_append_25 : decode cX9_append 25 = .ok (.iconst 1, 1) := by decide +kernel
theorem dX9_append_26 : decode cX9_append 26 = .ok (.iadd, 1) := by decide +kernel
theorem dX9_append_27 : decode cX9_append 27 = .ok (.putfield 15, 3) := by decide +kernel
theorem dX9_append_30 : decode cX9_append 30 = .ok (.return_, 1) := by decide +kernel
theorem dX9_tellTo_0 : decode cX9_tellTo 0 = .ok (.aload_n 1, 1) := by decide +kernel
theorem dX9_tellTo_1 : decode cX9_tellTo 1 = .ok (.invokevirtual 25, 3) := by decide +kernel
theorem dX9_tellTo_4 : decode cX9_tellTo 4 = .ok (.iconst 0, 1) := by decide +kernel
theorem dX9_tellTo_5 : decode cX9_tellTo 5 = .ok (.istore_n 2, 1) := by decide +kernel
theorem dX9_tellTo_6 : decode cX9_tellTo 6 = .ok (.iconst 0, 1) := by decide +kernel
theorem dX9_tellTo_7 : decode cX9_tellTo 7 = .ok (.istore_n 3, 1) := by decide +kernel
theorem dX9_tellTo_8 : decode cX9_tellTo 8 = .ok (.iload_n 3, 1) := by decide +kernel
theorem dX9_tellTo_9 : decode cX9_tellTo 9 = .ok (.sipush 400, 3) := by decide +kernel
theorem dX9_tellTo_12 : decode cX9_tellTo 12 = .ok (.if_icmp .ge 57, 3) := by decide +kernel
theorem dX9_tellTo_15 : decode cX9_tellTo 15 = .ok (.iload_n 2, 1) := by decide +kernel
theorem dX9_tellTo_16 : decode cX9_tellTo 16 = .ok (.aload_n 0, 1) := by decide +kernel
theorem dX9_tellTo_17 : decode cX9_tellTo 17 = .ok (.getfield 15, 3) := by decide +kernel
theorem dX9_tellTo_20 : decode cX9_tellTo 20 = .ok (.if_icmp .ge 49, 3) := by decide +kernel
theorem dX9_tellTo_23 : decode cX9_tellTo 23 = .ok (.aload_n 0, 1) := by decide +kernel
theorem dX9_tellTo_24 : decode cX9_tellTo 24 = .ok (.iload_n 2, 1) := by decide +kernel
theorem dX9_tellTo_25 : decode cX9_tellTo 25 = .ok (.invokevirtual 30, 3) := by decide +kernel
theorem dX9_tellTo_28 : decode cX9_tellTo 28 = .ok (.istore 4, 2) := by decide +kernel
theorem dX9_tellTo_30 : decode cX9_tellTo 30 = .ok (.iload 4, 2) := by decide +kernel
theorem dX9_tellTo_32 : decode cX9_tellTo 32 = .ok (.bipush (-4), 2) := by decide +kernel
theorem dX9_tellTo_34 : decode cX9_tellTo 34 = .ok (.if_icmp .eq 24, 3) := by decide +kernel
theorem dX9_tellTo_37 : decode cX9_tellTo 37 = .ok (.aload_n 1, 1) := by decide +kernel
theorem dX9_tellTo_38 : decode cX9_tellTo 38 = .ok (.aload_n 0, 1) := by decide +kernel
theorem dX9_tellTo_39 : decode cX9_tellTo 39 = .ok (.getfield 9, 3) := by decide +kernel
theorem dX9_tellTo_42 : decode cX9_tellTo 42 = .ok (.iload_n 2, 1) := by decide +kernel
theorem dX9_tellTo_43 : decode cX9_tellTo 43 = .ok (.iaload, 1) := by decide +kernel
theorem dX9_tellTo_44 : decode cX9_tellTo 44 = .ok (.aload_n 0, 1) := by decide +kernel
theorem dX9_tellTo_45 : decode cX9_tellTo 45 = .ok (.getfield 19, 3) := by decide +kernel
theorem dX9_tellTo_48 : decode cX9_tellTo 48 = .ok (.aload_n 0, 1) := by decide +kernel
theorem dX9_tellTo_49 : decode cX9_tellTo 49 = .ok (.getfield 22, 3) := by decide +kernel
theorem dX9_tellTo_52 : decode cX9_tellTo 52 = .ok (.invokevirtual 34, 3) := by decide +kernel
theorem dX9_tellTo_55 : decode cX9_tellTo 55 = .ok (.ifCond .ne 5, 3) := by decide +kernel
theorem dX9_tellTo_58 : decode cX9_tellTo 58 = .ok (.iload_n 2, 1) := by decide +kernel
theorem dX9_tellTo_59 : decode cX9_tellTo 59 = .ok (.ireturn, 1) := by decide +kernel
theorem dX9_tellTo_60 : decode cX9_tellTo 60 = .ok (.iload 4, 2) := by decide +kernel
theorem dX9_tellTo_62 : decode cX9_tellTo 62 = .ok (.istore_n 2, 1) := by decide +kernel
theorem dX9_tellTo_63 : decode cX9_tellTo 63 = .ok (.iinc 3 1, 3) := by decide +kernel
theorem dX9_tellTo_66 : decode cX9_tellTo 66 = .ok (.goto (-58), 3) := by decide +kernel
theorem dX9_tellTo_69 : decode cX9_tellTo 69 = .ok (.bipush (-4), 2) := by decide +kernel
theorem dX9_tellTo_71 : decode cX9_tellTo 71 = .ok (.ireturn, 1) := by decide +kernel
theorem dX9_itemEnd_0 : decode cX9_itemEnd 0 = .ok (.aload_n 0, 1) := by decide +kernel
theorem dX9_itemEnd_1 : decode cX9_itemEnd 1 = .ok (.iconst 0, 1) := by decide +kernel
theorem dX9_itemEnd_2 : decode cX9_itemEnd 2 = .ok (.putfield 22, 3) := by decide +kernel
theorem dX9_itemEnd_5 : decode cX9_itemEnd 5 = .ok (.iload_n 1, 1) := by decide +kernel
theorem dX9_itemEnd_6 : decode cX9_itemEnd 6 = .ok (.iconst 1, 1) := by decide +kernel
theorem dX9_itemEnd_7 : decode cX9_itemEnd 7 = .ok (.iadd, 1) := by decide +kernel
theorem dX9_itemEnd_8 : decode cX9_itemEnd 8 = .ok (.istore_n 2, 1) := by decide +kernel
theorem dX9_itemEnd_9 : decode cX9_itemEnd 9 = .ok (.iconst 0, 1) := by decide +kernel
theorem dX9_itemEnd_10 : decode cX9_itemEnd 10 = .ok (.istore_n 3, 1) := by decide +kernel
theorem dX9_itemEnd_11 : decode cX9_itemEnd 11 = .ok (.iload_n 3, 1) := by decide +kernel
theorem dX9_itemEnd_12 : decode cX9_itemEnd 12 = .ok (.iconst 5, 1) := by decide +kernel
theorem dX9_itemEnd_13 : decode cX9_itemEnd 13 = .ok (.if_icmp .ge 128, 3) := by decide +kernel
theorem dX9_itemEnd_16 : decode cX9_itemEnd 16 = .ok (.aload_n 0, 1) := by decide +kernel
theorem dX9_itemEnd_17 : decode cX9_itemEnd 17 = .ok (.iload_n 2, 1) := by decide +kernel
theorem dX9_itemEnd_18 : decode cX9_itemEnd 18 = .ok (.invokevirtual 38, 3) := by decide +kernel
theorem dX9_itemEnd_21 : decode cX9_itemEnd 21 = .ok (.ifCond .ne 6, 3) := by decide +kernel
theorem dX9_itemEnd_24 : decode cX9_itemEnd 24 = .ok (.bipush (-4), 2) := by decide +kernel
theorem dX9_itemEnd_26 : decode cX9_itemEnd 26 = .ok (.ireturn, 1) := by decide +kernel
theorem dX9_itemEnd_27 : decode cX9_itemEnd 27 = .ok (.aload_n 0, 1) := by decide +kernel
theorem dX9_itemEnd_28 : decode cX9_itemEnd 28 = .ok (.getfield 9, 3) := by decide +kernel
theorem dX9_itemEnd_31 : decode cX9_itemEnd 31 = .ok (.iload_n 2, 1) := by decide +kernel
theorem dX9_itemEnd_32 : decode cX9_itemEnd 32 = .ok (.iaload, 1) := by decide +kernel
theorem dX9_itemEnd_33 : decode cX9_itemEnd 33 = .ok (.bipush 48, 2) := by decide +kernel
theorem dX9_itemEnd_35 : decode cX9_itemEnd 35 = .ok (.isub, 1) := by decide +kernel
theorem dX9_itemEnd_36 : decode cX9_itemEnd 36 = .ok (.istore 4, 2) := by decide +kernel
theorem dX9_itemEnd_38 : decode cX9_itemEnd 38 = .ok (.iinc 2 1, 3) := by decide +kernel
theorem dX9_itemEnd_41 : decode cX9_itemEnd 41 = .ok (.aload_n 0, 1) := by decide +kernel
theorem dX9_itemEnd_42 : decode cX9_itemEnd 42 = .ok (.iload_n 2, 1) := by decide +kernel
theorem dX9_itemEnd_43 : decode cX9_itemEnd 43 = .ok (.invokevirtual 38, 3) := by decide +kernel
theorem dX9_itemEnd_46 : decode cX9_itemEnd 46 = .ok (.ifCond .eq 23, 3) := by decide +kernel
theorem dX9_itemEnd_49 : decode cX9_itemEnd 49 = .ok (.iload 4, 2) := by decide +kernel
theorem dX9_itemEnd_51 : decode cX9_itemEnd 51 = .ok (.bipush 10, 2) := by decide +kernel
theorem dX9_itemEnd_53 : decode cX9_itemEnd 53 = .ok (.imul, 1) := by decide +kernel
theorem dX9_itemEnd_54 : decode cX9_itemEnd 54 = .ok (.aload_n 0, 1) := by decide +kernel
theorem dX9_itemEnd_55 : decode cX9_itemEnd 55 = .ok (.getfield 9, 3) := by decide +kernel
theorem dX9_itemEnd_58 : decode cX9_itemEnd 58 = .ok (.iload_n 2, 1) := by decide +kernel
theorem dX9_itemEnd_59 : decode cX9_itemEnd 59 = .ok (.iaload, 1) := by decide +kernel
theorem dX9_itemEnd_60 : decode cX9_itemEnd 60 = .ok (.iadd, 1) := by decide +kernel
theorem dX9_itemEnd_61 : decode cX9_itemEnd 61 = .ok (.bipush 48, 2) := by decide +kernel
theorem dX9_itemEnd_63 : decode cX9_itemEnd 63 = .ok (.isub, 1) := by decide +kernel
theorem dX9_itemEnd_64 : decode cX9_itemEnd 64 = .ok (.istore 4, 2) := by decide +kernel
theorem dX9_itemEnd_66 : decode cX9_itemEnd 66 = .ok (.iinc 2 1, 3) := by decide +kernel
theorem dX9_itemEnd_69 : decode cX9_itemEnd 69 = .ok (.aload_n 0, 1) := by decide +kernel
theorem dX9_itemEnd_70 : decode cX9_itemEnd 70 = .ok (.getfield 19, 3) := by decide +kernel
theorem dX9_itemEnd_73 : decode cX9_itemEnd 73 = .ok (.iload_n 3, 1) := by decide +kernel
theorem dX9_itemEnd_74 : decode cX9_itemEnd 74 = .ok (.iload 4, 2) := by decide +kernel
theorem dX9_itemEnd_76 : decode cX9_itemEnd 76 = .ok (.iastore, 1) := by decide +kernel
theorem dX9_itemEnd_77 : decode cX9_itemEnd 77 = .ok (.aload_n 0, 1) := by decide +kernel
theorem dX9_itemEnd_78 : decode cX9_itemEnd 78 = .ok (.iload_n 3, 1) := by decide +kernel
theorem dX9_itemEnd_79 : decode cX9_itemEnd 79 = .ok (.iconst 1, 1) := by decide +kernel
theorem dX9_itemEnd_80 : decode cX9_itemEnd 80 = .ok (.iadd, 1) := by decide +kernel
theorem dX9_itemEnd_81 : decode cX9_itemEnd 81 = .ok (.putfield 22, 3) := by decide +kernel
theorem dX9_itemEnd_84 : decode cX9_itemEnd 84 = .ok (.iload_n 2, 1) := by decide +kernel
theorem dX9_itemEnd_85 : decode cX9_itemEnd 85 = .ok (.aload_n 0, 1) := by decide +kernel
theorem dX9_itemEnd_86 : decode cX9_itemEnd 86 = .ok (.getfield 15, 3) := by decide +kernel
theorem dX9_itemEnd_89 : decode cX9_itemEnd 89 = .ok (.if_icmp .ge 25, 3) := by decide +kernel
theorem dX9_itemEnd_92 : decode cX9_itemEnd 92 = .ok (.aload_n 0, 1) := by decide +kernel
theorem dX9_itemEnd_93 : decode cX9_itemEnd 93 = .ok (.getfield 9, 3) := by decide +kernel
theorem dX9_itemEnd_96 : decode cX9_itemEnd 96 = .ok (.iload_n 2, 1) := by decide +kernel
theorem dX9_itemEnd_97 : decode cX9_itemEnd 97 = .ok (.iaload, 1) := by decide +kernel
theorem dX9_itemEnd_98 : decode cX9_itemEnd 98 = .ok (.bipush 44, 2) := by decide +kernel
theorem dX9_itemEnd_100 : decode cX9_itemEnd 100 = .ok (.if_icmp .eq 17, 3) := by decide +kernel
theorem dX9_itemEnd_103 : decode cX9_itemEnd 103 = .ok (.aload_n 0, 1) := by decide +kernel
theorem dX9_itemEnd_104 : decode cX9_itemEnd 104 = .ok (.getfield 9, 3) := by decide +kernel
theorem dX9_itemEnd_107 : decode cX9_itemEnd 107 = .ok (.iload_n 2, 1) := by decide +kernel
theorem dX9_itemEnd_108 : decode cX9_itemEnd 108 = .ok (.iaload, 1) := by decide +kernel
theorem dX9_itemEnd_109 : decode cX9_itemEnd 109 = .ok (.bipush 59, 2) := by decide +kernel
theorem dX9_itemEnd_111 : decode cX9_itemEnd 111 = .ok (.if_icmp .eq 6, 3) := by decide +kernel
theorem dX9_itemEnd_114 : decode cX9_itemEnd 114 = .ok (.bipush (-4), 2) := by decide +kernel
theorem dX9_itemEnd_116 : decode cX9_itemEnd 116 = .ok (.ireturn, 1) := by decide +kernel
theorem dX9_itemEnd_117 : decode cX9_itemEnd 117 = .ok (.iinc 2 1, 3) := by decide +kernel
theorem dX9_itemEnd_120 : decode cX9_itemEnd 120 = .ok (.aload_n 0, 1) := by decide +kernel
theorem dX9_itemEnd_121 : decode cX9_itemEnd 121 = .ok (.getfield 9, 3) := by decide +kernel
theorem dX9_itemEnd_124 : decode cX9_itemEnd 124 = .ok (.iload_n 2, 1) := by decide +kernel
theorem dX9_itemEnd_125 : decode cX9_itemEnd 125 = .ok (.iconst 1, 1) := by decide +kernel
theorem dX9_itemEnd_126 : decode cX9_itemEnd 126 = .ok (.isub, 1) := by decide +kernel
theorem dX9_itemEnd_127 : decode cX9_itemEnd 127 = .ok (.iaload, 1) := by decide +kernel
theorem dX9_itemEnd_128 : decode cX9_itemEnd 128 = .ok (.bipush 59, 2) := by decide +kernel
theorem dX9_itemEnd_130 : decode cX9_itemEnd 130 = .ok (.if_icmp .ne 5, 3) := by decide +kernel
theorem dX9_itemEnd_133 : decode cX9_itemEnd 133 = .ok (.iload_n 2, 1) := by decide +kernel
theorem dX9_itemEnd_134 : decode cX9_itemEnd 134 = .ok (.ireturn, 1) := by decide +kernel
theorem dX9_itemEnd_135 : decode cX9_itemEnd 135 = .ok (.iinc 3 1, 3) := by decide +kernel
theorem dX9_itemEnd_138 : decode cX9_itemEnd 138 = .ok (.goto (-127), 3) := by decide +kernel
theorem dX9_itemEnd_141 : decode cX9_itemEnd 141 = .ok (.bipush (-4), 2) := by decide +kernel
theorem dX9_itemEnd_143 : decode cX9_itemEnd 143 = .ok (.ireturn, 1) := by decide +kernel
theorem dX9_isFigure_0 : decode cX9_isFigure 0 = .ok (.iload_n 1, 1) := by decide +kernel
theorem dX9_isFigure_1 : decode cX9_isFigure 1 = .ok (.aload_n 0, 1) := by decide +kernel
theorem dX9_isFigure_2 : decode cX9_isFigure 2 = .ok (.getfield 15, 3) := by decide +kernel
theorem dX9_isFigure_5 : decode cX9_isFigure 5 = .ok (.if_icmp .ge 23, 3) := by decide +kernel
theorem dX9_isFigure_8 : decode cX9_isFigure 8 = .ok (.aload_n 0, 1) := by decide +kernel
theorem dX9_isFigure_9 : decode cX9_isFigure 9 = .ok (.getfield 9, 3) := by decide +kernel
theorem dX9_isFigure_12 : decode cX9_isFigure 12 = .ok (.iload_n 1, 1) := by decide +kernel
theorem dX9_isFigure_13 : decode cX9_isFigure 13 = .ok (.iaload, 1) := by decide +kernel
theorem dX9_isFigure_14 : decode cX9_isFigure 14 = .ok (.bipush 48, 2) := by decide +kernel
theorem dX9_isFigure_16 : decode cX9_isFigure 16 = .ok (.bipush 57, 2) := by decide +kernel
theorem dX9_isFigure_18 : decode cX9_isFigure 18 = .ok (.invokestatic 42, 3) := by decide +kernel
theorem dX9_isFigure_21 : decode cX9_isFigure 21 = .ok (.ifCond .eq 7, 3) := by decide +kernel
theorem dX9_isFigure_24 : decode cX9_isFigure 24 = .ok (.iconst 1, 1) := by decide +kernel
theorem dX9_isFigure_25 : decode cX9_isFigure 25 = .ok (.goto 4, 3) := by decide +kernel
theorem dX9_isFigure_28 : decode cX9_isFigure 28 = .ok (.iconst 0, 1) := by decide +kernel
theorem dX9_isFigure_29 : decode cX9_isFigure 29 = .ok (.ireturn, 1) := by decide +kernel
theorem dX10_init_0 : decode cX10_init 0 = .ok (.aload_n 0, 1) := by decide +kernel
theorem dX10_init_1 : decode cX10_init 1 = .ok (.invokespecial 3, 3) := by decide +kernel
theorem dX10_init_4 : decode cX10_init 4 = .ok (.return_, 1) := by decide +kernel
theorem dX10_fill_0 : decode cX10_fill 0 = .ok (.aload_n 0, 1) := by decide +kernel
theorem dX10_fill_1 : decode cX10_fill 1 = .ok (.getfield 9, 3) := by decide +kernel
theorem dX10_fill_4 : decode cX10_fill 4 = .ok (.lconst 0, 1) := by decide +kernel
theorem dX10_fill_5 : decode cX10_fill 5 = .ok (.invokestatic 15, 3) := by decide +kernel
theorem dX10_fill_8 : decode cX10_fill 8 = .ok (.iconst 0, 1) := by decide +kernel
theorem dX10_fill_9 : decode cX10_fill 9 = .ok (.istore_n 3, 1) := by decide +kernel
theorem dX10_fill_10 : decode cX10_fill 10 = .ok (.iload_n 3, 1) := by decide +kernel
theorem dX10_fill_11 : decode cX10_fill 11 = .ok (.aload_n 2, 1) := by decide +kernel
theorem dX10_fill_12 : decode cX10_fill 12 = .ok (.getfield 21, 3) := by decide +kernel
theorem dX10_fill_15 : decode cX10_fill 15 = .ok (.if_icmp .ge 31, 3) := by decide +kernel
theorem dX10_fill_18 : decode cX10_fill 18 = .ok (.aload_n 0, 1) := by decide +kernel
theorem dX10_fill_19 : decode cX10_fill 19 = .ok (.getfield 9, 3) := by decide +kernel
theorem dX10_fill_22 : decode cX10_fill 22 = .ok (.iload_n 3, 1) := by decide +kernel
theorem dX10_fill_23 : decode cX10_fill 23 = .ok (.iconst 1, 1) := by decide +kernel
theorem dX10_fill_24 : decode cX10_fill 24 = .ok (.invokestatic 27, 3) := by decide +kernel
theorem dX10_fill_27 : decode cX10_fill 27 = .ok (.aload_n 1, 1) := by decide +kernel
theorem dX10_fill_28 : decode cX10_fill 28 = .ok (.aload_n 2, 1) := by decide +kernel
theorem dX10_fill_29 : decode cX10_fill 29 = .ok (.getfield 31, 3) := by decide +kernel
theorem dX10_fill_32 : decode cX10_fill 32 = .ok (.iload_n 3, 1) := by decide +kernel
theorem dX10_fill_33 : decode cX10_fill 33 = .ok (.iaload, 1) := by decide +kernel
theorem dX10_fill_34 : decode cX10_fill 34 = .ok (.invokevirtual 35, 3) := by decide +kernel
theorem dX10_fill_37 : decode cX10_fill 37 = .ok (.iadd, 1) := by decide +kernel
theorem dX10_fill_38 : decode cX10_fill 38 = .ok (.lconst 1, 1) := by decide +kernel
theorem dX10_fill_39 : decode cX10_fill 39 = .ok (.lastore, 1) := by decide +kernel
theorem dX10_fill_40 : decode cX10_fill 40 = .ok (.iinc 3 1, 3) := by decide +kernel
theorem dX10_fill_43 : decode cX10_fill 43 = .ok (.goto (-33), 3) := by decide +kernel
theorem dX10_fill_46 : decode cX10_fill 46 = .ok (.aload_n 0, 1) := by decide +kernel
theorem dX10_fill_47 : decode cX10_fill 47 = .ok (.aload_n 1, 1) := by decide +kernel
theorem dX10_fill_48 : decode cX10_fill 48 = .ok (.aload_n 2, 1) := by decide +kernel
theorem dX10_fill_49 : decode cX10_fill 49 = .ok (.getfield 21, 3) := by decide +kernel
theorem dX10_fill_52 : decode cX10_fill 52 = .ok (.invokevirtual 41, 3) := by decide +kernel
theorem dX10_fill_55 : decode cX10_fill 55 = .ok (.return_, 1) := by decide +kernel
theorem dX10_treesOver_0 : decode cX10_treesOver 0 = .ok (.aload_n 0, 1) := by decide +kernel
theorem dX10_treesOver_1 : decode cX10_treesOver 1 = .ok (.getfield 9, 3) := by decide +kernel
theorem dX10_treesOver_4 : decode cX10_treesOver 4 = .ok (.iload_n 1, 1) := by decide +kernel
theorem dX10_treesOver_5 : decode cX10_treesOver 5 = .ok (.iload_n 2, 1) := by decide +kernel
theorem dX10_treesOver_6 : decode cX10_treesOver 6 = .ok (.invokestatic 27, 3) := by decide +kernel
theorem dX10_treesOver_9 : decode cX10_treesOver 9 = .ok (.iload_n 3, 1) := by decide +kernel
theorem dX10_treesOver_10 : decode cX10_treesOver 10 = .ok (.iconst 4, 1) := by decide +kernel
theorem dX10_treesOver_11 : decode cX10_treesOver 11 = .ok (.imul, 1) := by decide +kernel
theorem dX10_treesOver_12 : decode cX10_treesOver 12 = .ok (.iadd, 1) := by decide +kernel
theorem dX10_treesOver_13 : decode cX10_treesOver 13 = .ok (.iload 4, 2) := by decide +kernel
theorem dX10_treesOver_15 : decode cX10_treesOver 15 = .ok (.iadd, 1) := by decide +kernel
theorem dX10_treesOver_16 : decode cX10_treesOver 16 = .ok (.laload, 1) := by decide +kernel
theorem dX10_treesOver_17 : decode cX10_treesOver 17 = .ok (.lreturn, 1) := by decide +kernel
theorem dX10_overAll_0 : decode cX10_overAll 0 = .ok (.aload_n 0, 1) := by decide +kernel
theorem dX10_overAll_1 : decode cX10_overAll 1 = .ok (.iconst 0, 1) := by decide +kernel
theorem dX10_overAll_2 : decode cX10_overAll 2 = .ok (.iload_n 1, 1) := by decide +kernel
theorem dX10_overAll_3 : decode cX10_overAll 3 = .ok (.invokestatic 27, 3) := by decide +kernel
theorem dX10_overAll_6 : decode cX10_overAll 6 = .ok (.invokevirtual 45, 3) := by decide +kernel
theorem dX10_overAll_9 : decode cX10_overAll 9 = .ok (.lreturn, 1) := by decide +kernel
theorem dX10_joinSpans_0 : decode cX10_joinSpans 0 = .ok (.iconst 0, 1) := by decide +kernel
theorem dX10_joinSpans_1 : decode cX10_joinSpans 1 = .ok (.istore 5, 2) := by decide +kernel
theorem dX10_joinSpans_3 : decode cX10_joinSpans 3 = .ok (.iload 5, 2) := by decide +kernel
theorem dX10_joinSpans_5 : decode cX10_joinSpans 5 = .ok (.aload_n 1, 1) := by decide +kernel
theorem dX10_joinSpans_6 : decode cX10_joinSpans 6 = .ok (.getfield 49, 3) := by decide +kernel
theorem dX10_joinSpans_9 : decode cX10_joinSpans 9 = .ok (.if_icmp .ge 206, 3) := by decide +kernel
theorem dX10_joinSpans_12 : decode cX10_joinSpans 12 = .ok (.iload_n 2, 1) := by decide +kernel
theorem dX10_joinSpans_13 : decode cX10_joinSpans 13 = .ok (.aload_n 1, 1) := by decide +kernel
theorem dX10_joinSpans_14 : decode cX10_joinSpans 14 = .ok (.getfield 52, 3) := by decide +kernel
theorem dX10_joinSpans_17 : decode cX10_joinSpans 17 = .ok (.iload 5, 2) := by decide +kernel
theorem dX10_joinSpans_19 : decode cX10_joinSpans 19 = .ok (.iaload, 1) := by decide +kernel
theorem dX10_joinSpans_20 : decode cX10_joinSpans 20 = .ok (.iconst 4, 1) := by decide +kernel
theorem dX10_joinSpans_21 : decode cX10_joinSpans 21 = .ok (.imul, 1) := by decide +kernel
theorem dX10_joinSpans_22 : decode cX10_joinSpans 22 = .ok (.iadd, 1) := by decide +kernel
theorem dX10_joinSpans_23 : decode cX10_joinSpans 23 = .ok (.istore 6, 2) := by decide +kernel
theorem dX10_joinSpans_25 : decode cX10_joinSpans 25 = .ok (.iload_n 3, 1) := by decide +kernel
theorem dX10_joinSpans_26 : decode cX10_joinSpans 26 = .ok (.aload_n 1, 1) := by decide +kernel
theorem dX10_joinSpans_27 : decode cX10_joinSpans 27 = .ok (.getfield 55, 3) := by decide +kernel
theorem dX10_joinSpans_30 : decode cX10_joinSpans 30 = .ok (.iload 5, 2) := by decide +kernel
theorem dX10_joinSpans_32 : decode cX10_joinSpans 32 = .ok (.iaload, 1) := by decide +kernel
theorem dX10_joinSpans_33 : decode cX10_joinSpans 33 = .ok (.iconst 4, 1) := by decide +kernel
theorem dX10_joinSpans_34 : decode cX10_joinSpans 34 = .ok (.imul, 1) := by decide +kernel
theorem dX10_joinSpans_35 : decode cX10_joinSpans 35 = .ok (.iadd, 1) := by decide +kernel
theorem dX10_joinSpans_36 : decode cX10_joinSpans 36 = .ok (.istore 7, 2) := by decide +kernel
theorem dX10_joinSpans_38 : decode cX10_joinSpans 38 = .ok (.iload 4, 2) := by decide +kernel
theorem dX10_joinSpans_40 : decode cX10_joinSpans 40 = .ok (.aload_n 1, 1) := by decide +kernel
theorem dX10_joinSpans_41 : decode cX10_joinSpans 41 = .ok (.getfield 58, 3) := by decide +kernel
theorem dX10_joinSpans_44 : decode cX10_joinSpans 44 = .ok (.iload 5, 2) := by decide +kernel
theorem dX10_joinSpans_46 : decode cX10_joinSpans 46 = .ok (.iaload, 1) := by decide +kernel
theorem dX10_joinSpans_47 : decode cX10_joinSpans 47 = .ok (.iconst 4, 1) := by decide +kernel
theorem dX10_joinSpans_48 : decode cX10_joinSpans 48 = .ok (.imul, 1) := by decide +kernel
theorem dX10_joinSpans_49 : decode cX10_joinSpans 49 = .ok (.iadd, 1) := by decide +kernel
theorem dX10_joinSpans_50 : decode cX10_joinSpans 50 = .ok (.istore 8, 2) := by decide +kernel
theorem dX10_joinSpans_52 : decode cX10_joinSpans 52 = .ok (.aload_n 0, 1) := by decide +kernel
theorem dX10_joinSpans_53 : decode cX10_joinSpans 53 = .ok (.iload 6, 2) := by decide +kernel
theorem dX10_joinSpans_55 : decode cX10_joinSpans 55 = .ok (.invokevirtual 45, 3) := by decide +kernel
theorem dX10_joinSpans_58 : decode cX10_joinSpans 58 = .ok (.lstore 9, 2) := by decide +kernel
theorem dX10_joinSpans_60 : decode cX10_joinSpans 60 = .ok (.aload_n 0, 1) := by decide +kernel
theorem dX10_joinSpans_61 : decode cX10_joinSpans 61 = .ok (.iload 7, 2) := by decide +kernel
theorem dX10_joinSpans_63 : decode cX10_joinSpans 63 = .ok (.invokevirtual 45, 3) := by decide +kernel
theorem dX10_joinSpans_66 : decode cX10_joinSpans 66 = .ok (.lstore 11, 2) := by decide +kernel
theorem dX10_joinSpans_68 : decode cX10_joinSpans 68 = .ok (.iconst 0, 1) := by decide +kernel
theorem dX10_joinSpans_69 : decode cX10_joinSpans 69 = .ok (.istore 13, 2) := by decide +kernel
theorem dX10_joinSpans_71 : decode cX10_joinSpans 71 = .ok (.iload 13, 2) := by decide +kernel
theorem dX10_joinSpans_73 : decode cX10_joinSpans 73 = .ok (.iconst 4, 1) := by decide +kernel
theorem dX10_joinSpans_74 : decode cX10_joinSpans 74 = .ok (.if_icmp .ge 135, 3) := by decide +kernel
theorem dX10_joinSpans_77 : decode cX10_joinSpans 77 = .ok (.lload 9, 2) := by decide +kernel
theorem dX10_joinSpans_79 : decode cX10_joinSpans 79 = .ok (.lconst 0, 1) := by decide +kernel
theorem dX10_joinSpans_80 : decode cX10_joinSpans 80 = .ok (.lcmp, 1) := by decide +kernel
theorem dX10_joinSpans_81 : decode cX10_joinSpans 81 = .ok (.ifCond .eq 128, 3) := by decide +kernel
theorem dX10_joinSpans_84 : decode cX10_joinSpans 84 = .ok (.lload 11, 2) := by decide +kernel
theorem dX10_joinSpans_86 : decode cX10_joinSpans 86 = .ok (.lconst 0, 1) := by decide +kernel
theorem dX10_joinSpans_87 : decode cX10_joinSpans 87 = .ok (.lcmp, 1) := by decide +kernel
theorem dX10_joinSpans_88 : decode cX10_joinSpans 88 = .ok (.ifCond .eq 121, 3) := by decide +kernel
theorem dX10_joinSpans_91 : decode cX10_joinSpans 91 = .ok (.aload_n 1, 1) := by decide +kernel
theorem dX10_joinSpans_92 : decode cX10_joinSpans 92 = .ok (.getfield 61, 3) := by decide +kernel
theorem dX10_joinSpans_95 : decode cX10_joinSpans 95 = .ok (.iload 5, 2) := by decide +kernel
theorem dX10_joinSpans_97 : decode cX10_joinSpans 97 = .ok (.baload, 1) := by decide +kernel
theorem dX10_joinSpans_98 : decode cX10_joinSpans 98 = .ok (.ifCond .eq 40, 3) := by decide +kernel
theorem dX10_joinSpans_101 : decode cX10_joinSpans 101 = .ok (.aload_n 0, 1) := by decide +kernel
theorem dX10_joinSpans_102 : decode cX10_joinSpans 102 = .ok (.getfield 9, 3) := by decide +kernel
theorem dX10_joinSpans_105 : decode cX10_joinSpans 105 = .ok (.iload 8, 2) := by decide +kernel
theorem dX10_joinSpans_107 : decode cX10_joinSpans 107 = .ok (.iload 13, 2) := by decide +kernel
theorem dX10_joinSpans_109 : decode cX10_joinSpans 109 = .ok (.iadd, 1) := by decide +kernel
theorem dX10_joinSpans_110 : decode cX10_joinSpans 110 = .ok (.dup2, 1) := by decide +kernel
theorem dX10_joinSpans_111 : decode cX10_joinSpans 111 = .ok (.laload, 1) := by decide +kernel
theorem dX10_joinSpans_112 : decode cX10_joinSpans 112 = .ok (.aload_n 0, 1) := by decide +kernel
theorem dX10_joinSpans_113 : decode cX10_joinSpans 113 = .ok (.getfield 9, 3) := by decide +kernel
theorem dX10_joinSpans_116 : decode cX10_joinSpans 116 = .ok (.iload 6, 2) := by decide +kernel
theorem dX10_joinSpans_118 : decode cX10_joinSpans 118 = .ok (.iload 13, 2) := by decide +kernel
theorem dX10_joinSpans_120 : decode cX10_joinSpans 120 = .ok (.iadd, 1) := by decide +kernel
theorem dX10_joinSpans_121 : decode cX10_joinSpans 121 = .ok (.laload, 1) := by decide +kernel
theorem dX10_joinSpans_122 : decode cX10_joinSpans 122 = .ok (.aload_n 0, 1) := by decide +kernel
theorem dX10_joinSpans_123 : decode cX10_joinSpans 123 = .ok (.getfield 9, 3) := by decide +kernel
theorem dX10_joinSpans_126 : decode cX10_joinSpans 126 = .ok (.iload 7, 2) := by decide +kernel
theorem dX10_joinSpans_128 : decode cX10_joinSpans 128 = .ok (.iload 13, 2) := by decide +kernel
theorem dX10_joinSpans_130 : decode cX10_joinSpans 130 = .ok (.iadd, 1) := by decide +kernel
theorem dX10_joinSpans_131 : decode cX10_joinSpans 131 = .ok (.laload, 1) := by decide +kernel
theorem dX10_joinSpans_132 : decode cX10_joinSpans 132 = .ok (.lmul, 1) := by decide +kernel
theorem dX10_joinSpans_133 : decode cX10_joinSpans 133 = .ok (.ladd, 1) := by decide +kernel
theorem dX10_joinSpans_134 : decode cX10_joinSpans 134 = .ok (.lastore, 1) := by decide +kernel
theorem dX10_joinSpans_135 : decode cX10_joinSpans 135 = .ok (.goto 68, 3) := by decide +kernel
theorem dX10_joinSpans_138 : decode cX10_joinSpans 138 = .ok (.aload_n 1, 1) := by decide +kernel
theorem dX10_joinSpans_139 : decode cX10_joinSpans 139 = .ok (.getfield 65, 3) := by decide +kernel
theorem dX10_joinSpans_142 : decode cX10_joinSpans 142 = .ok (.iload 5, 2) := by decide +kernel
theorem dX10_joinSpans_144 : decode cX10_joinSpans 144 = .ok (.baload, 1) := by decide +kernel
theorem dX10_joinSpans_145 : decode cX10_joinSpans 145 = .ok (.ifCond .eq 32, 3) := by decide +kernel
theorem dX10_joinSpans_148 : decode cX10_joinSpans 148 = .ok (.aload_n 0, 1) := by decide +kernel
theorem dX10_joinSpans_149 : decode cX10_joinSpans 149 = .ok (.getfield 9, 3) := by decide +kernel
theorem dX10_joinSpans_152 : decode cX10_joinSpans 152 = .ok (.iload 8, 2) := by decide +kernel
theorem dX10_joinSpans_154 : decode cX10_joinSpans 154 = .ok (.iload 13, 2) := by decide +kernel
theorem dX10_joinSpans_156 : decode cX10_joinSpans 156 = .ok (.iadd, 1) := by decide +kernel
theorem dX10_joinSpans_157 : decode cX10_joinSpans 157 = .ok (.dup2, 1) := by decide +kernel
theorem dX10_joinSpans_158 : decode cX10_joinSpans 158 = .ok (.laload, 1) := by decide +kernel
theorem dX10_joinSpans_159 : decode cX10_joinSpans 159 = .ok (.lload 9, 2) := by decide +kernel
theorem dX10_joinSpans_161 : decode cX10_joinSpans 161 = .ok (.aload_n 0, 1) := by decide +kernel
theorem dX10_joinSpans_162 : decode cX10_joinSpans 162 = .ok (.getfield 9, 3) := by decide +kernel
theorem dX10_joinSpans_165 : decode cX10_joinSpans 165 = .ok (.iload 7, 2) := by decide +kernel
theorem dX10_joinSpans_167 : decode cX10_joinSpans 167 = .ok (.iload 13, 2) := by decide +kernel
theorem dX10_joinSpans_169 : decode cX10_joinSpans 169 = .ok (.iadd, 1) := by decide +kernel
theorem dX10_joinSpans_170 : decode cX10_joinSpans 170 = .ok (.laload, 1) := by decide +kernel
theorem dX10_joinSpans_171 : decode cX10_joinSpans 171 = .ok (.lmul, 1) := by decide +kernel
theorem dX10_joinSpans_172 : decode cX10_joinSpans 172 = .ok (.ladd, 1) := by decide +kernel
theorem dX10_joinSpans_173 : decode cX10_joinSpans 173 = .ok (.lastore, 1) := by decide +kernel
theorem dX10_joinSpans_174 : decode cX10_joinSpans 174 = .ok (.goto 29, 3) := by decide +kernel
theorem dX10_joinSpans_177 : decode cX10_joinSpans 177 = .ok (.aload_n 0, 1) := by decide +kernel
theorem dX10_joinSpans_178 : decode cX10_joinSpans 178 = .ok (.getfield 9, 3) := by decide +kernel
theorem dX10_joinSpans_181 : decode cX10_joinSpans 181 = .ok (.iload 8, 2) := by decide +kernel
theorem dX10_joinSpans_183 : decode cX10_joinSpans 183 = .ok (.iload 13, 2) := by decide +kernel
theorem dX10_joinSpans_185 : decode cX10_joinSpans 185 = .ok (.iadd, 1) := by decide +kernel
theorem dX10_joinSpans_186 : decode cX10_joinSpans 186 = .ok (.dup2, 1) := by decide +kernel
theorem dX10_joinSpans_187 : decode cX10_joinSpans 187 = .ok (.laload, 1) := by decide +kernel
theorem dX10_joinSpans_188 : decode cX10_joinSpans 188 = .ok (.aload_n 0, 1) := by decide +kernel
theorem dX10_joinSpans_189 : decode cX10_joinSpans 189 = .ok (.getfield 9, 3) := by decide +kernel
theorem dX10_joinSpans_192 : decode cX10_joinSpans 192 = .ok (.iload 6, 2) := by decide +kernel
theorem dX10_joinSpans_194 : decode cX10_joinSpans 194 = .ok (.iload 13, 2) := by decide +kernel
theorem dX10_joinSpans_196 : decode cX10_joinSpans 196 = .ok (.iadd, 1) := by decide +kernel
theorem dX10_joinSpans_197 : decode cX10_joinSpans 197 = .ok (.laload, 1) := by decide +kernel
theorem dX10_joinSpans_198 : decode cX10_joinSpans 198 = .ok (.lload 11, 2) := by decide +kernel
theorem dX10_joinSpans_200 : decode cX10_joinSpans 200 = .ok (.lmul, 1) := by decide +kernel
theorem dX10_joinSpans_201 : decode cX10_joinSpans 201 = .ok (.ladd, 1) := by decide +kernel
theorem dX10_joinSpans_202 : decode cX10_joinSpans 202 = .ok (.lastore, 1) := by decide +kernel
theorem dX10_joinSpans_203 : decode cX10_joinSpans 203 = .ok (.iinc 13 1, 3) := by decide +kernel
theorem dX10_joinSpans_206 : decode cX10_joinSpans 206 = .ok (.goto (-135), 3) := by decide +kernel
theorem dX10_joinSpans_209 : decode cX10_joinSpans 209 = .ok (.iinc 5 1, 3) := by decide +kernel
theorem dX10_joinSpans_212 : decode cX10_joinSpans 212 = .ok (.goto (-209), 3) := by decide +kernel
theorem dX10_joinSpans_215 : decode cX10_joinSpans 215 = .ok (.return_, 1) := by decide +kernel
theorem dX10_sumAt_0 : decode cX10_sumAt 0 = .ok (.aload_n 0, 1) := by decide +kernel
theorem dX10_sumAt_1 : decode cX10_sumAt 1 = .ok (.getfield 9, 3) := by decide +kernel
theorem dX10_sumAt_4 : decode cX10_sumAt 4 = .ok (.iload_n 1, 1) := by decide +kernel
theorem dX10_sumAt_5 : decode cX10_sumAt 5 = .ok (.laload, 1) := by decide +kernel
theorem dX10_sumAt_6 : decode cX10_sumAt 6 = .ok (.aload_n 0, 1) := by decide +kernel
theorem dX10_sumAt_7 : decode cX10_sumAt 7 = .ok (.getfield 9, 3) := by decide +kernel
theorem dX10_sumAt_10 : decode cX10_sumAt 10 = .ok (.iload_n 1, 1) := by decide +kernel
theorem dX10_sumAt_11 : decode cX10_sumAt 11 = .ok (.iconst 1, 1) := by decide +kernel
theorem dX10_sumAt_12 : decode cX10_sumAt 12 = .ok (.iadd, 1) := by decide +kernel
theorem dX10_sumAt_13 : decode cX10_sumAt 13 = .ok (.laload, 1) := by decide +kernel
theorem dX10_sumAt_14 : decode cX10_sumAt 14 = .ok (.ladd, 1) := by decide +kernel
theorem dX10_sumAt_15 : decode cX10_sumAt 15 = .ok (.aload_n 0, 1) := by decide +kernel
theorem dX10_sumAt_16 : decode cX10_sumAt 16 = .ok (.getfield 9, 3) := by decide +kernel
theorem dX10_sumAt_19 : decode cX10_sumAt 19 = .ok (.iload_n 1, 1) := by decide +kernel
theorem dX10_sumAt_20 : decode cX10_sumAt 20 = .ok (.iconst 2, 1) := by decide +kernel
theorem dX10_sumAt_21 : decode cX10_sumAt 21 = .ok (.iadd, 1) := by decide +kernel
theorem dX10_sumAt_22 : decode cX10_sumAt 22 = .ok (.laload, 1) := by decide +kernel
theorem dX10_sumAt_23 : decode cX10_sumAt 23 = .ok (.ladd, 1) := by decide +kernel
theorem dX10_sumAt_24 : decode cX10_sumAt 24 = .ok (.aload_n 0, 1) := by decide +kernel
theorem dX10_sumAt_25 : decode cX10_sumAt 25 = .ok (.getfield 9, 3) := by decide +kernel
theorem dX10_sumAt_28 : decode cX10_sumAt 28 = .ok (.iload_n 1, 1) := by decide +kernel
theorem dX10_sumAt_29 : decode cX10_sumAt 29 = .ok (.iconst 3, 1) := by decide +kernel
theorem dX10_sumAt_30 : decode cX10_sumAt 30 = .ok (.iadd, 1) := by decide +kernel
theorem dX10_sumAt_31 : decode cX10_sumAt 31 = .ok (.laload, 1) := by decide +kernel
theorem dX10_sumAt_32 : decode cX10_sumAt 32 = .ok (.ladd, 1) := by decide +kernel
theorem dX10_sumAt_33 : decode cX10_sumAt 33 = .ok (.lreturn, 1) := by decide +kernel
theorem dJ6_bitCount_0f7a4_0 : decode cJ6_bitCount_0f7a4 0 = .ok (.iload_n 0, 1) := by decide +kernel
theorem dJ6_bitCount_0f7a4_1 : decode cJ6_bitCount_0f7a4 1 = .ok (.iload_n 0, 1) := by decide +kernel
theorem dJ6_bitCount_0f7a4_2 : decode cJ6_bitCount_0f7a4 2 = .ok (.iconst 1, 1) := by decide +kernel
theorem dJ6_bitCount_0f7a4_3 : decode cJ6_bitCount_0f7a4 3 = .ok (.iushr, 1) := by decide +kernel
theorem dJ6_bitCount_0f7a4_4 : decode cJ6_bitCount_0f7a4 4 = .ok (.ldc_w 265, 3) := by decide +kernel
theorem dJ6_bitCount_0f7a4_7 : decode cJ6_bitCount_0f7a4 7 = .ok (.iand, 1) := by decide +kernel
theorem dJ6_bitCount_0f7a4_8 : decode cJ6_bitCount_0f7a4 8 = .ok (.isub, 1) := by decide +kernel
theorem dJ6_bitCount_0f7a4_9 : decode cJ6_bitCount_0f7a4 9 = .ok (.istore_n 0, 1) := by decide +kernel
theorem dJ6_bitCount_0f7a4_10 : decode cJ6_bitCount_0f7a4 10 = .ok (.iload_n 0, 1) := by decide +kernel
theorem dJ6_bitCount_0f7a4_11 : decode cJ6_bitCount_0f7a4 11 = .ok (.ldc_w 266, 3) := by decide +kernel
theorem dJ6_bitCount_0f7a4_14 : decode cJ6_bitCount_0f7a4 14 = .ok (.iand, 1) := by decide +kernel
theorem dJ6_bitCount_0f7a4_15 : decode cJ6_bitCount_0f7a4 15 = .ok (.iload_n 0, 1) := by decide +kernel
theorem dJ6_bitCount_0f7a4_16 : decode cJ6_bitCount_0f7a4 16 = .ok (.iconst 2, 1) := by decide +kernel
theorem dJ6_bitCount_0f7a4_17 : decode cJ6_bitCount_0f7a4 17 = .ok (.iushr, 1) := by decide +kernel
theorem dJ6_bitCount_0f7a4_18 : decode cJ6_bitCount_0f7a4 18 = .ok (.ldc_w 266, 3) := by decide +kernel
theorem dJ6_bitCount_0f7a4_21 : decode cJ6_bitCount_0f7a4 21 = .ok (.iand, 1) := by decide +kernel
theorem dJ6_bitCount_0f7a4_22 : decode cJ6_bitCount_0f7a4 22 = .ok (.iadd, 1) := by decide +kernel
theorem dJ6_bitCount_0f7a4_23 : decode cJ6_bitCount_0f7a4 23 = .ok (.istore_n 0, 1) := by decide +kernel
theorem dJ6_bitCount_0f7a4_24 : decode cJ6_bitCount_0f7a4 24 = .ok (.iload_n 0, 1) := by decide +kernel
theorem dJ6_bitCount_0f7a4_25 : decode cJ6_bitCount_0f7a4 25 = .ok (.iload_n 0, 1) := by decide +kernel
theorem dJ6_bitCount_0f7a4_26 : decode cJ6_bitCount_0f7a4 26 = .ok (.iconst 4, 1) := by decide +kernel
theorem dJ6_bitCount_0f7a4_27 : decode cJ6_bitCount_0f7a4 27 = .ok (.iushr, 1) := by decide +kernel
theorem dJ6_bitCount_0f7a4_28 : decode cJ6_bitCount_0f7a4 28 = .ok (.iadd, 1) := by decide +kernel
theorem dJ6_bitCount_0f7a4_29 : decode cJ6_bitCount_0f7a4 29 = .ok (.ldc_w 267, 3) := by decide +kernel
theorem dJ6_bitCount_0f7a4_32 : decode cJ6_bitCount_0f7a4 32 = .ok (.iand, 1) := by decide +kernel
theorem dJ6_bitCount_0f7a4_33 : decode cJ6_bitCount_0f7a4 33 = .ok (.istore_n 0, 1) := by decide +kernel
theorem dJ6_bitCount_0f7a4_34 : decode cJ6_bitCount_0f7a4 34 = .ok (.iload_n 0, 1) := by decide +kernel
theorem dJ6_bitCount_0f7a4_35 : decode cJ6_bitCount_0f7a4 35 = .ok (.iload_n 0, 1) := by decide +kernel
theorem dJ6_bitCount_0f7a4_36 : decode cJ6_bitCount_0f7a4 36 = .ok (.bipush 8, 2) := by decide +kernel
theorem dJ6_bitCount_0f7a4_38 : decode cJ6_bitCount_0f7a4 38 = .ok (.iushr, 1) := by decide +kernel
theorem dJ6_bitCount_0f7a4_39 : decode cJ6_bitCount_0f7a4 39 = .ok (.iadd, 1) := by decide +kernel
theorem dJ6_bitCount_0f7a4_40 : decode cJ6_bitCount_0f7a4 40 = .ok (.istore_n 0, 1) := by decide +kernel
theorem dJ6_bitCount_0f7a4_41 : decode cJ6_bitCount_0f7a4 41 = .ok (.iload_n 0, 1) := by decide +kernel
theorem dJ6_bitCount_0f7a4_42 : decode cJ6_bitCount_0f7a4 42 = .ok (.iload_n 0, 1) := by decide +kernel
theorem dJ6_bitCount_0f7a4_43 : decode cJ6_bitCount_0f7a4 43 = .ok (.bipush 16, 2) := by decide +kernel
theorem dJ6_bitCount_0f7a4_45 : decode cJ6_bitCount_0f7a4 45 = .ok (.iushr, 1) := by decide +kernel
theorem dJ6_bitCount_0f7a4_46 : decode cJ6_bitCount_0f7a4 46 = .ok (.iadd, 1) := by decide +kernel
theorem dJ6_bitCount_0f7a4_47 : decode cJ6_bitCount_0f7a4 47 = .ok (.istore_n 0, 1) := by decide +kernel
theorem dJ6_bitCount_0f7a4_48 : decode cJ6_bitCount_0f7a4 48 = .ok (.iload_n 0, 1) := by decide +kernel
theorem dJ6_bitCount_0f7a4_49 : decode cJ6_bitCount_0f7a4 49 = .ok (.bipush 63, 2) := by decide +kernel
theorem dJ6_bitCount_0f7a4_51 : decode cJ6_bitCount_0f7a4 51 = .ok (.iand, 1) := by decide +kernel
theorem dJ6_bitCount_0f7a4_52 : decode cJ6_bitCount_0f7a4 52 = .ok (.ireturn, 1) := by decide +kernel
theorem dJ13_bitCount_95d88_0 : decode cJ13_bitCount_95d88 0 = .ok (.lload_n 0, 1) := by decide +kernel
theorem dJ13_bitCount_95d88_1 : decode cJ13_bitCount_95d88 1 = .ok (.lload_n 0, 1) := by decide +kernel
theorem dJ13_bitCount_95d88_2 : decode cJ13_bitCount_95d88 2 = .ok (.iconst 1, 1) := by decide +kernel
theorem dJ13_bitCount_95d88_3 : decode cJ13_bitCount_95d88 3 = .ok (.lushr, 1) := by decide +kernel
theorem dJ13_bitCount_95d88_4 : decode cJ13_bitCount_95d88 4 = .ok (.ldc2_w 314, 3) := by decide +kernel
theorem dJ13_bitCount_95d88_7 : decode cJ13_bitCount_95d88 7 = .ok (.land, 1) := by decide +kernel
theorem dJ13_bitCount_95d88_8 : decode cJ13_bitCount_95d88 8 = .ok (.lsub, 1) := by decide +kernel
theorem dJ13_bitCount_95d88_9 : decode cJ13_bitCount_95d88 9 = .ok (.lstore_n 0, 1) := by decide +kernel
theorem dJ13_bitCount_95d88_10 : decode cJ13_bitCount_95d88 10 = .ok (.lload_n 0, 1) := by decide +kernel
theorem dJ13_bitCount_95d88_11 : decode cJ13_bitCount_95d88 11 = .ok (.ldc2_w 316, 3) := by decide +kernel
theorem dJ13_bitCount_95d88_14 : decode cJ13_bitCount_95d88 14 = .ok (.land, 1) := by decide +kernel
theorem dJ13_bitCount_95d88_15 : decode cJ13_bitCount_95d88 15 = .ok (.lload_n 0, 1) := by decide +kernel
theorem dJ13_bitCount_95d88_16 : decode cJ13_bitCount_95d88 16 = .ok (.iconst 2, 1) := by decide +kernel
theorem dJ13_bitCount_95d88_17 : decode cJ13_bitCount_95d88 17 = .ok (.lushr, 1) := by decide +kernel
theorem dJ13_bitCount_95d88_18 : decode cJ13_bitCount_95d88 18 = .ok (.ldc2_w 316, 3) := by decide +kernel
theorem dJ13_bitCount_95d88_21 : decode cJ13_bitCount_95d88 21 = .ok (.land, 1) := by decide +kernel
theorem dJ13_bitCount_95d88_22 : decode cJ13_bitCount_95d88 22 = .ok (.ladd, 1) := by decide +kernel
theorem dJ13_bitCount_95d88_23 : decode cJ13_bitCount_95d88 23 = .ok (.lstore_n 0, 1) := by decide +kernel
theorem dJ13_bitCount_95d88_24 : decode cJ13_bitCount_95d88 24 = .ok (.lload_n 0, 1) := by decide +kernel
theorem dJ13_bitCount_95d88_25 : decode cJ13_bitCount_95d88 25 = .ok (.lload_n 0, 1) := by decide +kernel
theorem dJ13_bitCount_95d88_26 : decode cJ13_bitCount_95d88 26 = .ok (.iconst 4, 1) := by decide +kernel
theorem dJ13_bitCount_95d88_27 : decode cJ13_bitCount_95d88 27 = .ok (.lushr, 1) := by decide +kernel
theorem dJ13_bitCount_95d88_28 : decode cJ13_bitCount_95d88 28 = .ok (.ladd, 1) := by decide +kernel
theorem dJ13_bitCount_95d88_29 : decode cJ13_bitCount_95d88 29 = .ok (.ldc2_w 318, 3) := by decide +kernel
theorem dJ13_bitCount_95d88_32 : decode cJ13_bitCount_95d88 32 = .ok (.land, 1) := by decide +kernel
theorem dJ13_bitCount_95d88_33 : decode cJ13_bitCount_95d88 33 = .ok (.lstore_n 0, 1) := by decide +kernel
theorem dJ13_bitCount_95d88_34 : decode cJ13_bitCount_95d88 34 = .ok (.lload_n 0, 1) := by decide +kernel
theorem dJ13_bitCount_95d88_35 : decode cJ13_bitCount_95d88 35 = .ok (.lload_n 0, 1) := by decide +kernel
theorem dJ13_bitCount_95d88_36 : decode cJ13_bitCount_95d88 36 = .ok (.bipush 8, 2) := by decide +kernel
theorem dJ13_bitCount_95d88_38 : decode cJ13_bitCount_95d88 38 = .ok (.lushr, 1) := by decide +kernel
theorem dJ13_bitCount_95d88_39 : decode cJ13_bitCount_95d88 39 = .ok (.ladd, 1) := by decide +kernel
theorem dJ13_bitCount_95d88_40 : decode cJ13_bitCount_95d88 40 = .ok (.lstore_n 0, 1) := by decide +kernel
theorem dJ13_bitCount_95d88_41 : decode cJ13_bitCount_95d88 41 = .ok (.lload_n 0, 1) := by decide +kernel
theorem dJ13_bitCount_95d88_42 : decode cJ13_bitCount_95d88 42 = .ok (.lload_n 0, 1) := by decide +kernel
theorem dJ13_bitCount_95d88_43 : decode cJ13_bitCount_95d88 43 = .ok (.bipush 16, 2) := by decide +kernel
theorem dJ13_bitCount_95d88_45 : decode cJ13_bitCount_95d88 45 = .ok (.lushr, 1) := by decide +kernel
theorem dJ13_bitCount_95d88_46 : decode cJ13_bitCount_95d88 46 = .ok (.ladd, 1) := by decide +kernel
theorem dJ13_bitCount_95d88_47 : decode cJ13_bitCount_95d88 47 = .ok (.lstore_n 0, 1) := by decide +kernel
theorem dJ13_bitCount_95d88_48 : decode cJ13_bitCount_95d88 48 = .ok (.lload_n 0, 1) := by decide +kernel
theorem dJ13_bitCount_95d88_49 : decode cJ13_bitCount_95d88 49 = .ok (.lload_n 0, 1) := by decide +kernel
theorem dJ13_bitCount_95d88_50 : decode cJ13_bitCount_95d88 50 = .ok (.bipush 32, 2) := by decide +kernel
theorem dJ13_bitCount_95d88_52 : decode cJ13_bitCount_95d88 52 = .ok (.lushr, 1) := by decide +kernel
theorem dJ13_bitCount_95d88_53 : decode cJ13_bitCount_95d88 53 = .ok (.ladd, 1) := by decide +kernel
theorem dJ13_bitCount_95d88_54 : decode cJ13_bitCount_95d88 54 = .ok (.lstore_n 0, 1) := by decide +kernel
theorem dJ13_bitCount_95d88_55 : decode cJ13_bitCount_95d88 55 = .ok (.lload_n 0, 1) := by decide +kernel
theorem dJ13_bitCount_95d88_56 : decode cJ13_bitCount_95d88 56 = .ok (.l2i, 1) := by decide +kernel
theorem dJ13_bitCount_95d88_57 : decode cJ13_bitCount_95d88 57 = .ok (.bipush 127, 2) := by decide +kernel
theorem dJ13_bitCount_95d88_59 : decode cJ13_bitCount_95d88 59 = .ok (.iand, 1) := by decide +kernel
theorem dJ13_bitCount_95d88_60 : decode cJ13_bitCount_95d88 60 = .ok (.ireturn, 1) := by decide +kernel
theorem dJ9_max_7cf53_0 : decode cJ9_max_7cf53 0 = .ok (.iload_n 0, 1) := by decide +kernel
theorem dJ9_max_7cf53_1 : decode cJ9_max_7cf53 1 = .ok (.iload_n 1, 1) := by decide +kernel
theorem dJ9_max_7cf53_2 : decode cJ9_max_7cf53 2 = .ok (.if_icmp .lt 7, 3) := by decide +kernel
theorem dJ9_max_7cf53_5 : decode cJ9_max_7cf53 5 = .ok (.iload_n 0, 1) := by decide +kernel
theorem dJ9_max_7cf53_6 : decode cJ9_max_7cf53 6 = .ok (.goto 4, 3) := by decide +kernel
theorem dJ9_max_7cf53_9 : decode cJ9_max_7cf53 9 = .ok (.iload_n 1, 1) := by decide +kernel
theorem dJ9_max_7cf53_10 : decode cJ9_max_7cf53 10 = .ok (.ireturn, 1) := by decide +kernel
theorem dJ9_min_7cf53_0 : decode cJ9_min_7cf53 0 = .ok (.iload_n 0, 1) := by decide +kernel
theorem dJ9_min_7cf53_1 : decode cJ9_min_7cf53 1 = .ok (.iload_n 1, 1) := by decide +kernel
theorem dJ9_min_7cf53_2 : decode cJ9_min_7cf53 2 = .ok (.if_icmp .gt 7, 3) := by decide +kernel
theorem dJ9_min_7cf53_5 : decode cJ9_min_7cf53 5 = .ok (.iload_n 0, 1) := by decide +kernel
theorem dJ9_min_7cf53_6 : decode cJ9_min_7cf53 6 = .ok (.goto 4, 3) := by decide +kernel
theorem dJ9_min_7cf53_9 : decode cJ9_min_7cf53 9 = .ok (.iload_n 1, 1) := by decide +kernel
theorem dJ9_min_7cf53_10 : decode cJ9_min_7cf53 10 = .ok (.ireturn, 1) := by decide +kernel
theorem dJ7_fill_d0a16_0 : decode cJ7_fill_d0a16 0 = .ok (.iconst 0, 1) := by decide +kernel
theorem dJ7_fill_d0a16_1 : decode cJ7_fill_d0a16 1 = .ok (.istore_n 3, 1) := by decide +kernel
theorem dJ7_fill_d0a16_2 : decode cJ7_fill_d0a16 2 = .ok (.aload_n 0, 1) := by decide +kernel
theorem dJ7_fill_d0a16_3 : decode cJ7_fill_d0a16 3 = .ok (.arraylength, 1) := by decide +kernel
theorem dJ7_fill_d0a16_4 : decode cJ7_fill_d0a16 4 = .ok (.istore 4, 2) := by decide +kernel
theorem dJ7_fill_d0a16_6 : decode cJ7_fill_d0a16 6 = .ok (.iload_n 3, 1) := by decide +kernel
theorem dJ7_fill_d0a16_7 : decode cJ7_fill_d0a16 7 = .ok (.iload 4, 2) := by decide +kernel
theorem dJ7_fill_d0a16_9 : decode cJ7_fill_d0a16 9 = .ok (.if_icmp .ge 13, 3) := by decide +kernel
theorem dJ7_fill_d0a16_12 : decode cJ7_fill_d0a16 12 = .ok (.aload_n 0, 1) := by decide +kernel
theorem dJ7_fill_d0a16_13 : decode cJ7_fill_d0a16 13 = .ok (.iload_n 3, 1) := by decide +kernel
theorem dJ7_fill_d0a16_14 : decode cJ7_fill_d0a16 14 = .ok (.lload_n 1, 1) := by decide +kernel
theorem dJ7_fill_d0a16_15 : decode cJ7_fill_d0a16 15 = .ok (.lastore, 1) := by decide +kernel
theorem dJ7_fill_d0a16_16 : decode cJ7_fill_d0a16 16 = .ok (.iinc 3 1, 3) := by decide +kernel
theorem dJ7_fill_d0a16_19 : decode cJ7_fill_d0a16 19 = .ok (.goto (-13), 3) := by decide +kernel
theorem dJ7_fill_d0a16_22 : decode cJ7_fill_d0a16 22 = .ok (.return_, 1) := by decide +kernel
theorem dJ7_fill_53178_0 : decode cJ7_fill_53178 0 = .ok (.iconst 0, 1) := by decide +kernel
theorem dJ7_fill_53178_1 : decode cJ7_fill_53178 1 = .ok (.istore_n 2, 1) := by decide +kernel
theorem dJ7_fill_53178_2 : decode cJ7_fill_53178 2 = .ok (.aload_n 0, 1) := by decide +kernel
theorem dJ7_fill_53178_3 : decode cJ7_fill_53178 3 = .ok (.arraylength, 1) := by decide +kernel
theorem dJ7_fill_53178_4 : decode cJ7_fill_53178 4 = .ok (.istore_n 3, 1) := by decide +kernel
theorem dJ7_fill_53178_5 : decode cJ7_fill_53178 5 = .ok (.iload_n 2, 1) := by decide +kernel
theorem dJ7_fill_53178_6 : decode cJ7_fill_53178 6 = .ok (.iload_n 3, 1) := by decide +kernel
theorem dJ7_fill_53178_7 : decode cJ7_fill_53178 7 = .ok (.if_icmp .ge 13, 3) := by decide +kernel
theorem dJ7_fill_53178_10 : decode cJ7_fill_53178 10 = .ok (.aload_n 0, 1) := by decide +kernel
theorem dJ7_fill_53178_11 : decode cJ7_fill_53178 11 = .ok (.iload_n 2, 1) := by decide +kernel
theorem dJ7_fill_53178_12 : decode cJ7_fill_53178 12 = .ok (.iload_n 1, 1) := by decide +kernel
theorem dJ7_fill_53178_13 : decode cJ7_fill_53178 13 = .ok (.iastore, 1) := by decide +kernel
theorem dJ7_fill_53178_14 : decode cJ7_fill_53178 14 = .ok (.iinc 2 1, 3) := by decide +kernel
theorem dJ7_fill_53178_17 : decode cJ7_fill_53178 17 = .ok (.goto (-12), 3) := by decide +kernel
theorem dJ7_fill_53178_20 : decode cJ7_fill_53178 20 = .ok (.return_, 1) := by decide +kernel
end
section
theorem dX11_init_0 : decode cX11_init 0 = .ok (.aload_n 0, 1) := by decide +kernel
theorem dX11_init_1 : decode cX11_init 1 = .ok (.invokespecial 3, 3) := by decide +kernel
theorem dX11_init_4 : decode cX11_init 4 = .ok (.aload_n 0, 1) := by decide +kernel
theorem dX11_init_5 : decode cX11_init 5 = .ok (.new 9, 3) := by decide +kernel
theorem dX11_init_8 : decode cX11_init 8 = .ok (.dup, 1) := by decide +kernel
theorem dX11_init_9 : decode cX11_init 9 = .ok (.invokespecial 11, 3) := by decide +kernel
theorem dX11_init_12 : decode cX11_init 12 = .ok (.putfield 12, 3) := by decide +kernel
theorem dX11_init_15 : decode cX11_init 15 = .ok (.aload_n 0, 1) := by decide +kernel
theorem dX11_init_16 : decode cX11_init 16 = .ok (.new 16, 3) := by decide +kernel
theorem dX11_init_19 : decode cX11_init 19 = .ok (.dup, 1) := by decide +kernel
theorem dX11_init_20 : decode cX11_init 20 = .ok (.invokespecial 18, 3) := by decide +kernel
theorem dX11_init_23 : decode cX11_init 23 = .ok (.putfield 19, 3) := by decide +kernel
theorem dX11_init_26 : decode cX11_init 26 = .ok (.aload_n 0, 1) := by decide +kernel
theorem dX11_init_27 : decode cX11_init 27 = .ok (.new 16, 3) := by decide +kernel
theorem dX11_init_30 : decode cX11_init 30 = .ok (.dup, 1) := by decide +kernel
theorem dX11_init_31 : decode cX11_init 31 = .ok (.invokespecial 18, 3) := by decide +kernel
theorem dX11_init_34 : decode cX11_init 34 = .ok (.putfield 23, 3) := by decide +kernel
theorem dX11_init_37 : decode cX11_init 37 = .ok (.aload_n 0, 1) := by decide +kernel
theorem dX11_init_38 : decode cX11_init 38 = .ok (.bipush 8, 2) := by decide +kernel
theorem dX11_init_40 : decode cX11_init 40 = .ok (.anewarray 26, 3) := by decide +kernel
theorem dX11_init_43 : decode cX11_init 43 = .ok (.putfield 28, 3) := by decide +kernel
theorem dX11_init_46 : decode cX11_init 46 = .ok (.aload_n 0, 1) := by decide +kernel
theorem dX11_init_47 : decode cX11_init 47 = .ok (.bipush 12, 2) := by decide +kernel
theorem dX11_init_49 : decode cX11_init 49 = .ok (.anewarray 32, 3) := by decide +kernel
theorem dX11_init_52 : decode cX11_init 52 = .ok (.putfield 34, 3) := by decide +kernel
theorem dX11_init_55 : decode cX11_init 55 = .ok (.aload_n 0, 1) := by decide +kernel
theorem dX11_init_56 : decode cX11_init 56 = .ok (.iconst 0, 1) := by decide +kernel
theorem dX11_init_57 : decode cX11_init 57 = .ok (.putfield 38, 3) := by decide +kernel
theorem dX11_init_60 : decode cX11_init 60 = .ok (.aload_n 0, 1) := by decide +kernel
theorem dX11_init_61 : decode cX11_init 61 = .ok (.new 42, 3) := by decide +kernel
theorem dX11_init_64 : decode cX11_init 64 = .ok (.dup, 1) := by decide +kernel
theorem dX11_init_65 : decode cX11_init 65 = .ok (.invokespecial 44, 3) := by decide +kernel
theorem dX11_init_68 : decode cX11_init 68 = .ok (.putfield 45, 3) := by decide +kernel
theorem dX11_init_71 : decode cX11_init 71 = .ok (.aload_n 0, 1) := by decide +kernel
theorem dX11_init_72 : decode cX11_init 72 = .ok (.iconst 5, 1) := by decide +kernel
theorem dX11_init_73 : decode cX11_init 73 = .ok (.newarray .int, 2) := by decide +kernel
theorem dX11_init_75 : decode cX11_init 75 = .ok (.putfield 49, 3) := by decide +kernel
theorem dX11_init_78 : decode cX11_init 78 = .ok (.aload_n 0, 1) := by decide +kernel
theorem dX11_init_79 : decode cX11_init 79 = .ok (.new 53, 3) := by decide +kernel
theorem dX11_init_82 : decode cX11_init 82 = .ok (.dup, 1) := by decide +kernel
theorem dX11_init_83 : decode cX11_init 83 = .ok (.invokespecial 55, 3) := by decide +kernel
theorem dX11_init_86 : decode cX11_init 86 = .ok (.putfield 56, 3) := by decide +kernel
theorem dX11_init_89 : decode cX11_init 89 = .ok (.aload_n 0, 1) := by decide +kernel
theorem dX11_init_90 : decode cX11_init 90 = .ok (.new 60, 3) := by decide +kernel
theorem dX11_init_93 : decode cX11_init 93 = .ok (.dup, 1) := by decide +kernel
theorem dX11_init_94 : decode cX11_init 94 = .ok (.invokespecial 62, 3) := by decide +kernel
theorem dX11_init_97 : decode cX11_init 97 = .ok (.putfield 63, 3) := by decide +kernel
theorem dX11_init_100 : decode cX11_init 100 = .ok (.aload_n 0, 1) := by decide +kernel
theorem dX11_init_101 : decode cX11_init 101 = .ok (.new 67, 3) := by decide +kernel
theorem dX11_init_104 : decode cX11_init 104 = .ok (.dup, 1) := by decide +kernel
theorem dX11_init_105 : decode cX11_init 105 = .ok (.invokespecial 69, 3) := by decide +kernel
theorem dX11_init_108 : decode cX11_init 108 = .ok (.putfield 70, 3) := by decide +kernel
theorem dX11_init_111 : decode cX11_init 111 = .ok (.aload_n 0, 1) := by decide +kernel
theorem dX11_init_112 : decode cX11_init 112 = .ok (.new 74, 3) := by decide +kernel
theorem dX11_init_115 : decode cX11_init 115 = .ok (.dup, 1) := by decide +kernel
theorem dX11_init_116 : decode cX11_init 116 = .ok (.invokespecial 76, 3) := by decide +kernel
theorem dX11_init_119 : decode cX11_init 119 = .ok (.putfield 77, 3) := by decide +kernel
theorem dX11_init_122 : decode cX11_init 122 = .ok (.aload_n 0, 1) := by decide +kernel
theorem dX11_init_123 : decode cX11_init 123 = .ok (.new 81, 3) := by decide +kernel
theorem dX11_init_126 : decode cX11_init 126 = .ok (.dup, 1) := by decide +kernel
theorem dX11_init_127 : decode cX11_init 127 = .ok (.invokespecial 83, 3) := by decide +kernel
theorem dX11_init_130 : decode cX11_init 130 = .ok (.putfield 84, 3) := by decide +kernel
theorem dX11_init_133 : decode cX11_init 133 = .ok (.aload_n 0, 1) := by decide +kernel
theorem dX11_init_134 : decode cX11_init 134 = .ok (.iconst (-1), 1) := by decide +kernel
theorem dX11_init_135 : decode cX11_init 135 = .ok (.putfield 88, 3) := by decide +kernel
theorem dX11_init_138 : decode cX11_init 138 = .ok (.iconst 0, 1) := by decide +kernel
theorem dX11_init_139 : decode cX11_init 139 = .ok (.istore_n 1, 1) := by decide +kernel
theorem dX11_init_140 : decode cX11_init 140 = .ok (.iload_n 1, 1) := by decide +kernel
theorem dX11_init_141 : decode cX11_init 141 = .ok (.bipush 8, 2) := by decide +kernel
theorem dX11_init_143 : decode cX11_init 143 = .ok (.if_icmp .ge 22, 3) := by decide +kernel
theorem dX11_init_146 : decode cX11_init 146 = .ok (.aload_n 0, 1) := by decide +kernel
theorem dX11_init_147 : decode cX11_init 147 = .ok (.getfield 28, 3) := by decide +kernel
theorem dX11_init_150 : decode cX11_init 150 = .ok (.iload_n 1, 1) := by decide +kernel
theorem dX11_init_151 : decode cX11_init 151 = .ok (.new 26, 3) := by decide +kernel
theorem dX11_init_154 : decode cX11_init 154 = .ok (.dup, 1) := by decide +kernel
theorem dX11_init_155 : decode cX11_init 155 = .ok (.invokespecial 91, 3) := by decide +kernel
theorem dX11_init_158 : decode cX11_init 158 = .ok (.aastore, 1) := by decide +kernel
theorem dX11_init_159 : decode cX11_init 159 = .ok (.iinc 1 1, 3) := by decide +kernel
theorem dX11_init_162 : decode cX11_init 162 = .ok (.goto (-22), 3) := by decide +kernel
theorem dX11_init_165 : decode cX11_init 165 = .ok (.iconst 0, 1) := by decide +kernel
theorem dX11_init_166 : decode cX11_init 166 = .ok (.istore_n 1, 1) := by decide +kernel
theorem dX11_init_167 : decode cX11_init 167 = .ok (.iload_n 1, 1) := by decide +kernel
theorem dX11_init_168 : decode cX11_init 168 = .ok (.bipush 12, 2) := by decide +kernel
theorem dX11_init_170 : decode cX11_init 170 = .ok (.if_icmp .ge 22, 3) := by decide +kernel
theorem dX11_init_173 : decode cX11_init 173 = .ok (.aload_n 0, 1) := by decide +kernel
theorem dX11_init_174 : decode cX11_init 174 = .ok (.getfield 34, 3) := by decide +kernel
theorem dX11_init_177 : decode cX11_init 177 = .ok (.iload_n 1, 1) := by decide +kernel
theorem dX11_init_178 : decode cX11_init 178 = .ok (.new 32, 3) := by decide +kernel
theorem dX11_init_181 : decode cX11_init 181 = .ok (.dup, 1) := by decide +kernel
theorem dX11_init_182 : decode cX11_init 182 = .ok (.invokespecial 92, 3) := by decide +kernel
theorem dX11_init_185 : decode cX11_init 185 = .ok (.aastore, 1) := by decide +kernel
theorem dX11_init_186 : decode cX11_init 186 = .ok (.iinc 1 1, 3) := by decide +kernel
theorem dX11_init_189 : decode cX11_init 189 = .ok (.goto (-22), 3) := by decide +kernel
theorem dX11_init_192 : decode cX11_init 192 = .ok (.return_, 1) := by decide +kernel
theorem dX11_write_0 : decode cX11_write 0 = .ok (.iload_n 1, 1) := by decide +kernel
theorem dX11_write_1 : decode cX11_write 1 = .ok (.iconst 1, 1) := by decide +kernel
theorem dX11_write_2 : decode cX11_write 2 = .ok (.bipush 8, 2) := by decide +kernel
theorem dX11_write_4 : decode cX11_write 4 = .ok (.invokestatic 93, 3) := by decide +kernel
theorem dX11_write_7 : decode cX11_write 7 = .ok (.ifCond .ne 5, 3) := by decide +kernel
theorem dX11_write_10 : decode cX11_write 10 = .ok (.iconst (-1), 1) := by decide +kernel
theorem dX11_write_11 : decode cX11_write 11 = .ok (.ireturn, 1) := by decide +kernel
theorem dX11_write_12 : decode cX11_write 12 = .ok (.aload_n 0, 1) := by decide +kernel
theorem dX11_write_13 : decode cX11_write 13 = .ok (.getfield 12, 3) := by decide +kernel
theorem dX11_write_16 : decode cX11_write 16 = .ok (.getfield 97, 3) := by decide +kernel
theorem dX11_write_19 : decode cX11_write 19 = .ok (.iload_n 1, 1) := by decide +kernel
theorem dX11_write_20 : decode cX11_write 20 = .ok (.iadd, 1) := by decide +kernel
theorem dX11_write_21 : decode cX11_write 21 = .ok (.sipush 400, 3) := by decide +kernel
theorem dX11_write_24 : decode cX11_write 24 = .ok (.if_icmp .le 6, 3) := by decide +kernel
theorem dX11_write_27 : decode cX11_write 27 = .ok (.bipush (-3), 2) := by decide +kernel
theorem dX11_write_29 : decode cX11_write 29 = .ok (.ireturn, 1) := by decide +kernel
theorem dX11_write_30 : decode cX11_write 30 = .ok (.iload_n 1, 1) := by decide +kernel
theorem dX11_write_31 : decode cX11_write 31 = .ok (.iconst 1, 1) := by decide +kernel
theorem dX11_write_32 : decode cX11_write 32 = .ok (.isub, 1) := by decide +kernel
theorem dX11_write_33 : decode cX11_write 33 = .ok (.istore 4, 2) := by decide +kernel
theorem dX11_write_35 : decode cX11_write 35 = .ok (.iload 4, 2) := by decide +kernel
theorem dX11_write_37 : decode cX11_write 37 = .ok (.ifCond .lt 28, 3) := by decide +kernel
theorem dX11_write_40 : decode cX11_write 40 = .ok (.aload_n 0, 1) := by decide +kernel
theorem dX11_write_41 : decode cX11_write 41 = .ok (.getfield 12, 3) := by decide +kernel
theorem dX11_write_44 : decode cX11_write 44 = .ok (.lload_n 2, 1) := by decide +kernel
theorem dX11_write_45 : decode cX11_write 45 = .ok (.bipush 8, 2) := by decide +kernel
theorem dX11_write_47 : decode cX11_write 47 = .ok (.iload 4, 2) := by decide +kernel
theorem dX11_write_49 : decode cX11_write 49 = .ok (.imul, 1) := by decide +kernel
theorem dX11_write_50 : decode cX11_write 50 = .ok (.lushr, 1) := by decide +kernel
theorem dX11_write_51 : decode cX11_write 51 = .ok (.l2i, 1) := by decide +kernel
theorem dX11_write_52 : decode cX11_write 52 = .ok (.sipush 255, 3) := by decide +kernel
theorem dX11_write_55 : decode cX11_write 55 = .ok (.iand, 1) := by decide +kernel
theorem dX11_write_56 : decode cX11_write 56 = .ok (.invokevirtual 100, 3) := by decide +kernel
theorem dX11_write_59 : decode cX11_write 59 = .ok (.iinc 4 (-1), 3) := by decide +kernel
theorem dX11_write_62 : decode cX11_write 62 = .ok (.goto (-27), 3) := by decide +kernel
theorem dX11_write_65 : decode cX11_write 65 = .ok (.aload_n 0, 1) := by decide +kernel
theorem dX11_write_66 : decode cX11_write 66 = .ok (.getfield 12, 3) := by decide +kernel
theorem dX11_write_69 : decode cX11_write 69 = .ok (.getfield 97, 3) := by decide +kernel
theorem dX11_write_72 : decode cX11_write 72 = .ok (.ireturn, 1) := by decide +kernel
theorem dX11_wipe_0 : decode cX11_wipe 0 = .ok (.aload_n 0, 1) := by decide +kernel
theorem dX11_wipe_1 : decode cX11_wipe 1 = .ok (.getfield 12, 3) := by decide +kernel
theorem dX11_wipe_4 : decode cX11_wipe 4 = .ok (.getfield 97, 3) := by decide +kernel
theorem dX11_wipe_7 : decode cX11_wipe 7 = .ok (.istore_n 1, 1) := by decide +kernel
theorem dX11_wipe_8 : decode cX11_wipe 8 = .ok (.aload_n 0, 1) := by decide +kernel
theorem dX11_wipe_9 : decode cX11_wipe 9 = .ok (.getfield 12, 3) := by decide +kernel
theorem dX11_wipe_12 : decode cX11_wipe 12 = .ok (.iconst 0, 1) := by decide +kernel
theorem dX11_wipe_13 : decode cX11_wipe 13 = .ok (.putfield 97, 3) := by decide +kernel
theorem dX11_wipe_16 : decode cX11_wipe 16 = .ok (.iload_n 1, 1) := by decide +kernel
theorem dX11_wipe_17 : decode cX11_wipe 17 = .ok (.ireturn, 1) := by decide +kernel
theorem dX11_fault_0 : decode cX11_fault 0 = .ok (.aload_n 0, 1) := by decide +kernel
theorem dX11_fault_1 : decode cX11_fault 1 = .ok (.getfield 12, 3) := by decide +kernel
theorem dX11_fault_4 : decode cX11_fault 4 = .ok (.aload_n 0, 1) := by decide +kernel
theorem dX11_fault_5 : decode cX11_fault 5 = .ok (.getfield 23, 3) := by decide +kernel
theorem dX11_fault_8 : decode cX11_fault 8 = .ok (.invokevirtual 104, 3) := by decide +kernel
theorem dX11_fault_11 : decode cX11_fault 11 = .ok (.ireturn, 1) := by decide +kernel
theorem dX11_lay_0 : decode cX11_lay 0 = .ok (.aload_n 0, 1) := by decide +kernel
theorem dX11_lay_1 : decode cX11_lay 1 = .ok (.getfield 12, 3) := by decide +kernel
theorem dX11_lay_4 : decode cX11_lay 4 = .ok (.aload_n 0, 1) := by decide +kernel
theorem dX11_lay_5 : decode cX11_lay 5 = .ok (.getfield 23, 3) := by decide +kernel
theorem dX11_lay_8 : decode cX11_lay 8 = .ok (.invokevirtual 104, 3) := by decide +kernel
theorem dX11_lay_11 : decode cX11_lay 11 = .ok (.bipush (-4), 2) := by decide +kernel
theorem dX11_lay_13 : decode cX11_lay 13 = .ok (.if_icmp .eq 6, 3) := by decide +kernel
theorem dX11_lay_16 : decode cX11_lay 16 = .ok (.bipush (-2), 2) := by decide +kernel
theorem dX11_lay_18 : decode cX11_lay 18 = .ok (.ireturn, 1) := by decide +kernel
theorem dX11_lay_19 : decode cX11_lay 19 = .ok (.aload_n 0, 1) := by decide +kernel
theorem dX11_lay_20 : decode cX11_lay 20 = .ok (.getfield 19, 3) := by decide +kernel
theorem dX11_lay_23 : decode cX11_lay 23 = .ok (.astore_n 1, 1) := by decide +kernel
theorem dX11_lay_24 : decode cX11_lay 24 = .ok (.aload_n 0, 1) := by decide +kernel
theorem dX11_lay_25 : decode cX11_lay 25 = .ok (.aload_n 0, 1) := by decide +kernel
theorem dX11_lay_26 : decode cX11_lay 26 = .ok (.getfield 23, 3) := by decide +kernel
theorem dX11_lay_29 : decode cX11_lay 29 = .ok (.putfield 19, 3) := by decide +kernel
theorem dX11_lay_32 : decode cX11_lay 32 = .ok (.aload_n 0, 1) := by decide +kernel
theorem dX11_lay_33 : decode cX11_lay 33 = .ok (.aload_n 1, 1) := by decide +kernel
theorem dX11_lay_34 : decode cX11_lay 34 = .ok (.putfield 23, 3) := by decide +kernel
theorem dX11_lay_37 : decode cX11_lay 37 = .ok (.iconst 0, 1) := by decide +kernel
theorem dX11_lay_38 : decode cX11_lay 38 = .ok (.istore_n 2, 1) := by decide +kernel
theorem dX11_lay_39 : decode cX11_lay 39 = .ok (.iload_n 2, 1) := by decide +kernel
theorem dX11_lay_40 : decode cX11_lay 40 = .ok (.bipush 8, 2) := by decide +kernel
theorem dX11_lay_42 : decode cX11_lay 42 = .ok (.if_icmp .ge 18, 3) := by decide +kernel
theorem dX11_lay_45 : decode cX11_lay 45 = .ok (.aload_n 0, 1) := by decide +kernel
theorem dX11_lay_46 : decode cX11_lay 46 = .ok (.getfield 28, 3) := by decide +kernel
theorem dX11_lay_49 : decode cX11_lay 49 = .ok (.iload_n 2, 1) := by decide +kernel
theorem dX11_lay_50 : decode cX11_lay 50 = .ok (.aaload, 1) := by decide +kernel
theorem dX11_lay_51 : decode cX11_lay 51 = .ok (.invokevirtual 108, 3) := by decide +kernel
theorem dX11_lay_54 : decode cX11_lay 54 = .ok (.iinc 2 1, 3) := by decide +kernel
theorem dX11_lay_57 : decode cX11_lay 57 = .ok (.goto (-18), 3) := by decide +kernel
theorem dX11_lay_60 : decode cX11_lay 60 = .ok (.aload_n 0, 1) := by decide +kernel
theorem dX11_lay_61 : decode cX11_lay 61 = .ok (.iconst 0, 1) := by decide +kernel
theorem dX11_lay_62 : decode cX11_lay 62 = .ok (.putfield 38, 3) := by decide +kernel
theorem dX11_lay_65 : decode cX11_lay 65 = .ok (.aload_n 0, 1) := by decide +kernel
theorem dX11_lay_66 : decode cX11_lay 66 = .ok (.getfield 45, 3) := by decide +kernel
theorem dX11_lay_69 : decode cX11_lay 69 = .ok (.iconst 0, 1) := by decide +kernel
theorem dX11_lay_70 : decode cX11_lay 70 = .ok (.putfield 111, 3) := by decide +kernel
theorem dX11_lay_73 : decode cX11_lay 73 = .ok (.aload_n 0, 1) := by decide +kernel
theorem dX11_lay_74 : decode cX11_lay 74 = .ok (.iconst (-1), 1) := by decide +kernel
theorem dX11_lay_75 : decode cX11_lay 75 = .ok (.putfield 88, 3) := by decide +kernel
theorem dX11_lay_78 : decode cX11_lay 78 = .ok (.aload_n 0, 1) := by decide +kernel
theorem dX11_lay_79 : decode cX11_lay 79 = .ok (.getfield 19, 3) := by decide +kernel
theorem dX11_lay_82 : decode cX11_lay 82 = .ok (.getfield 112, 3) := by decide +kernel
theorem dX11_lay_85 : decode cX11_lay 85 = .ok (.ireturn, 1) := by decide +kernel
theorem dX11_price_0 : decode cX11_price 0 = .ok (.iload_n 1, 1) := by decide +kernel
theorem dX11_price_1 : decode cX11_price 1 = .ok (.iconst 0, 1) := by decide +kernel
theorem dX11_price_2 : decode cX11_price 2 = .ok (.iconst 4, 1) := by decide +kernel
theorem dX11_price_3 : decode cX11_price 3 = .ok (.invokestatic 93, 3) := by decide +kernel
theorem dX11_price_6 : decode cX11_price 6 = .ok (.ifCond .ne 5, 3) := by decide +kernel
theorem dX11_price_9 : decode cX11_price 9 = .ok (.iconst (-1), 1) := by decide +kernel
theorem dX11_price_10 : decode cX11_price 10 = .ok (.ireturn, 1) := by decide +kernel
theorem dX11_price_11 : decode cX11_price 11 = .ok (.aload_n 0, 1) := by decide +kernel
theorem dX11_price_12 : decode cX11_price 12 = .ok (.iload_n 1, 1) := by decide +kernel
theorem dX11_price_13 : decode cX11_price 13 = .ok (.iload_n 2, 1) := by decide +kernel
theorem dX11_price_14 : decode cX11_price 14 = .ok (.invokevirtual 115, 3) := by decide +kernel
theorem dX11_price_17 : decode cX11_price 17 = .ok (.ireturn, 1) := by decide +kernel
theorem dX11_word_0 : decode cX11_word 0 = .ok (.iload_n 1, 1) := by decide +kernel
theorem dX11_word_1 : decode cX11_word 1 = .ok (.invokestatic 119, 3) := by decide +kernel
theorem dX11_word_4 : decode cX11_word 4 = .ok (.ifCond .eq 20, 3) := by decide +kernel
theorem dX11_word_7 : decode cX11_word 7 = .ok (.iload_n 2, 1) := by decide +kernel
theorem dX11_word_8 : decode cX11_word 8 = .ok (.iconst 0, 1) := by decide +kernel
theorem dX11_word_9 : decode cX11_word 9 = .ok (.aload_n 0, 1) := by decide +kernel
theorem dX11_word_10 : decode cX11_word 10 = .ok (.getfield 19, 3) := by decide +kernel
theorem dX11_word_13 : decode cX11_word 13 = .ok (.getfield 112, 3) := by decide +kernel
theorem dX11_word_16 : decode cX11_word 16 = .ok (.iconst 1, 1) := by decide +kernel
theorem dX11_word_17 : decode cX11_word 17 = .ok (.isub, 1) := by decide +kernel
theorem dX11_word_18 : decode cX11_word 18 = .ok (.invokestatic 93, 3) := by decide +kernel
theorem dX11_word_21 : decode cX11_word 21 = .ok (.ifCond .ne 5, 3) := by decide +kernel
theorem dX11_word_24 : decode cX11_word 24 = .ok (.iconst (-1), 1) := by decide +kernel
theorem dX11_word_25 : decode cX11_word 25 = .ok (.ireturn, 1) := by decide +kernel
theorem dX11_word_26 : decode cX11_word 26 = .ok (.aload_n 0, 1) := by decide +kernel
theorem dX11_word_27 : decode cX11_word 27 = .ok (.getfield 28, 3) := by decide +kernel
theorem dX11_word_30 : decode cX11_word 30 = .ok (.iload_n 1, 1) := by decide +kernel
theorem dX11_word_31 : decode cX11_word 31 = .ok (.aaload, 1) := by decide +kernel
theorem dX11_word_32 : decode cX11_word 32 = .ok (.astore_n 3, 1) := by decide +kernel
theorem dX11_word_33 : decode cX11_word 33 = .ok (.aload_n 3, 1) := by decide +kernel
theorem dX11_word_34 : decode cX11_word 34 = .ok (.getfield 123, 3) := by decide +kernel
theorem dX11_word_37 : decode cX11_word 37 = .ok (.bipush 8, 2) := by decide +kernel
theorem dX11_word_39 : decode cX11_word 39 = .ok (.if_icmp .lt 6, 3) := by decide +kernel
theorem dX11_word_42 : decode cX11_word 42 = .ok (.bipush (-3), 2) := by decide +kernel
theorem dX11_word_44 : decode cX11_word 44 = .ok (.ireturn, 1) := by decide +kernel
theorem dX11_word_45 : decode cX11_word 45 = .ok (.aload_n 3, 1) := by decide +kernel
theorem dX11_word_46 : decode cX11_word 46 = .ok (.iload_n 2, 1) := by decide +kernel
theorem dX11_word_47 : decode cX11_word 47 = .ok (.invokevirtual 124, 3) := by decide +kernel
theorem dX11_word_50 : decode cX11_word 50 = .ok (.aload_n 0, 1) := by decide +kernel
theorem dX11_word_51 : decode cX11_word 51 = .ok (.iconst (-1), 1) := by decide +kernel
theorem dX11_word_52 : decode cX11_word 52 = .ok (.putfield 88, 3) := by decide +kernel
theorem dX11_word_55 : decode cX11_word 55 = .ok (.aload_n 3, 1) := by decide +kernel
theorem dX11_word_56 : decode cX11_word 56 = .ok (.getfield 123, 3) := by decide +kernel
theorem dX11_word_59 : decode cX11_word 59 = .ok (.ireturn, 1) := by decide +kernel
theorem dX11_clear_0 : decode cX11_clear 0 = .ok (.iload_n 1, 1) := by decide +kernel
theorem dX11_clear_1 : decode cX11_clear 1 = .ok (.invokestatic 119, 3) := by decide +kernel
theorem dX11_clear_4 : decode cX11_clear 4 = .ok (.ifCond .ne 5, 3) := by decide +kernel
theorem dX11_clear_7 : decode cX11_clear 7 = .ok (.iconst (-1), 1) := by decide +kernel
theorem dX11_clear_8 : decode cX11_clear 8 = .ok (.ireturn, 1) := by decide +kernel
theorem dX11_clear_9 : decode cX11_clear 9 = .ok (.aload_n 0, 1) := by decide +kernel
theorem dX11_clear_10 : decode cX11_clear 10 = .ok (.getfield 28, 3) := by decide +kernel
theorem dX11_clear_13 : decode cX11_clear 13 = .ok (.iload_n 1, 1) := by decide +kernel
theorem dX11_clear_14 : decode cX11_clear 14 = .ok (.aaload, 1) := by decide +kernel
theorem dX11_clear_15 : decode cX11_clear 15 = .ok (.getfield 123, 3) := by decide +kernel
theorem dX11_clear_18 : decode cX11_clear 18 = .ok (.istore_n 2, 1) := by decide +kernel
theorem dX11_clear_19 : decode cX11_clear 19 = .ok (.aload_n 0, 1) := by decide +kernel
theorem dX11_clear_20 : decode cX11_clear 20 = .ok (.getfield 28, 3) := by decide +kernel
theorem dX11_clear_23 : decode cX11_clear 23 = .ok (.iload_n 1, 1) := by decide +kernel
theorem dX11_clear_24 : decode cX11_clear 24 = .ok (.aaload, 1) := by decide +kernel
theorem dX11_clear_25 : decode cX11_clear 25 = .ok (.invokevirtual 108, 3) := by decide +kernel
theorem dX11_clear_28 : decode cX11_clear 28 = .ok (.aload_n 0, 1) := by decide +kernel
theorem dX11_clear_29 : decode cX11_clear 29 = .ok (.iconst (-1), 1) := by decide +kernel
theorem dX11_clear_30 : decode cX11_clear 30 = .ok (.putfield 88, 3) := by decide +kernel
theorem dX11_clear_33 : decode cX11_clear 33 = .ok (.iload_n 2, 1) := by decide +kernel
theorem dX11_clear_34 : decode cX11_clear 34 = .ok (.ireturn, 1) := by decide +kernel
theorem dX11_quote_0 : decode cX11_quote 0 = .ok (.iload_n 1, 1) := by decide +kernel
theorem dX11_quote_1 : decode cX11_quote 1 = .ok (.invokestatic 119, 3) := by decide +kernel
theorem dX11_quote_4 : decode cX11_quote 4 = .ok (.ifCond .eq 14, 3) := by decide +kernel
theorem dX11_quote_7 : decode cX11_quote 7 = .ok (.iload_n 2, 1) := by decide +kernel
theorem dX11_quote_8 : decode cX11_quote 8 = .ok (.iconst 0, 1) := by decide +kernel
theorem dX11_quote_9 : decode cX11_quote 9 = .ok (.sipush 255, 3) := by decide +kernel
theorem dX11_quote_12 : decode cX11_quote 12 = .ok (.invokestatic 93, 3) := by decide +kernel
theorem dX11_quote_15 : decode cX11_quote 15 = .ok (.ifCond .ne 5, 3) := by decide +kernel
theorem dX11_quote_18 : decode cX11_quote 18 = .ok (.iconst (-1), 1) := by decide +kernel
theorem dX11_quote_19 : decode cX11_quote 19 = .ok (.ireturn, 1) := by decide +kernel
theorem dX11_quote_20 : decode cX11_quote 20 = .ok (.aload_n 0, 1) := by decide +kernel
theorem dX11_quote_21 : decode cX11_quote 21 = .ok (.getfield 28, 3) := by decide +kernel
theorem dX11_quote_24 : decode cX11_quote 24 = .ok (.iload_n 1, 1) := by decide +kernel
theorem dX11_quote_25 : decode cX11_quote 25 = .ok (.aaload, 1) := by decide +kernel
theorem dX11_quote_26 : decode cX11_quote 26 = .ok (.getfield 125, 3) := by decide +kernel
theorem dX11_quote_29 : decode cX11_quote 29 = .ok (.istore_n 3, 1) := by decide +kernel
theorem dX11_quote_30 : decode cX11_quote 30 = .ok (.aload_n 0, 1) := by decide +kernel
theorem dX11_quote_31 : decode cX11_quote 31 = .ok (.getfield 28, 3) := by decide +kernel
theorem dX11_quote_34 : decode cX11_quote 34 = .ok (.iload_n 1, 1) := by decide +kernel
theorem dX11_quote_35 : decode cX11_quote 35 = .ok (.aaload, 1) := by decide +kernel
theorem dX11_quote_36 : decode cX11_quote 36 = .ok (.iload_n 2, 1) := by decide +kernel
theorem dX11_quote_37 : decode cX11_quote 37 = .ok (.putfield 125, 3) := by decide +kernel
theorem dX11_quote_40 : decode cX11_quote 40 = .ok (.aload_n 0, 1) := by decide +kernel
theorem dX11_quote_41 : decode cX11_quote 41 = .ok (.iconst (-1), 1) := by decide +kernel
theorem dX11_quote_42 : decode cX11_quote 42 = .ok (.putfield 88, 3) := by decide +kernel
theorem dX11_quote_45 : decode cX11_quote 45 = .ok (.iload_n 3, 1) := by decide +kernel
theorem dX11_quote_46 : decode cX11_quote 46 = .ok (.ireturn, 1) := by decide +kernel
theorem dX11_trees_0 : decode cX11_trees 0 = .ok (.iload_n 1, 1) := by decide +kernel
theorem dX11_trees_1 : decode cX11_trees 1 = .ok (.invokestatic 119, 3) := by decide +kernel
theorem dX11_trees_4 : decode cX11_trees 4 = .ok (.ifCond .eq 12, 3) := by decide +kernel
theorem dX11_trees_7 : decode cX11_trees 7 = .ok (.iload_n 2, 1) := by decide +kernel
theorem dX11_trees_8 : decode cX11_trees 8 = .ok (.iconst (-1), 1) := by decide +kernel
theorem dX11_trees_9 : decode cX11_trees 9 = .ok (.iconst 3, 1) := by decide +kernel
theorem dX11_trees_10 : decode cX11_trees 10 = .ok (.invokestatic 93, 3) := by decide +kernel
theorem dX11_trees_13 : decode cX11_trees 13 = .ok (.ifCond .ne 7, 3) := by decide +kernel
theorem dX11_trees_16 : decode cX11_trees 16 = .ok (.ldc2_w 128, 3) := by decide +kernel
theorem dX11_trees_19 : decode cX11_trees 19 = .ok (.lreturn, 1) := by decide +kernel
theorem dX11_trees_20 : decode cX11_trees 20 = .ok (.aload_n 0, 1) := by decide +kernel
theorem dX11_trees_21 : decode cX11_trees 21 = .ok (.getfield 28, 3) := by decide +kernel
theorem dX11_trees_24 : decode cX11_trees 24 = .ok (.iload_n 1, 1) := by decide +kernel
theorem dX11_trees_25 : decode cX11_trees 25 = .ok (.aaload, 1) := by decide +kernel
theorem dX11_trees_26 : decode cX11_trees 26 = .ok (.astore_n 3, 1) := by decide +kernel
theorem dX11_trees_27 : decode cX11_trees 27 = .ok (.aload_n 3, 1) := by decide +kernel
theorem dX11_trees_28 : decode cX11_trees 28 = .ok (.getfield 123, 3) := by decide +kernel
theorem dX11_trees_31 : decode cX11_trees 31 = .ok (.ifCond .ne 7, 3) := by decide +kernel
theorem dX11_trees_34 : decode cX11_trees 34 = .ok (.ldc2_w 130, 3) := by decide +kernel
theorem dX11_trees_37 : decode cX11_trees 37 = .ok (.lreturn, 1) := by decide +kernel
theorem dX11_trees_38 : decode cX11_trees 38 = .ok (.aload_n 0, 1) := by decide +kernel
theorem dX11_trees_39 : decode cX11_trees 39 = .ok (.getfield 56, 3) := by decide +kernel
theorem dX11_trees_42 : decode cX11_trees 42 = .ok (.aload_n 0, 1) := by decide +kernel
theorem dX11_trees_43 : decode cX11_trees 43 = .ok (.getfield 19, 3) := by decide +kernel
theorem dX11_trees_46 : decode cX11_trees 46 = .ok (.aload_n 3, 1) := by decide +kernel
theorem dX11_trees_47 : decode cX11_trees 47 = .ok (.invokevirtual 132, 3) := by decide +kernel
theorem dX11_trees_50 : decode cX11_trees 50 = .ok (.iload_n 2, 1) := by decide +kernel
theorem dX11_trees_51 : decode cX11_trees 51 = .ok (.iconst (-1), 1) := by decide +kernel
theorem dX11_trees_52 : decode cX11_trees 52 = .ok (.if_icmp .ne 17, 3) := by decide +kernel
theorem dX11_trees_55 : decode cX11_trees 55 = .ok (.aload_n 0, 1) := by decide +kernel
theorem dX11_trees_56 : decode cX11_trees 56 = .ok (.getfield 56, 3) := by decide +kernel
theorem dX11_trees_59 : decode cX11_trees 59 = .ok (.aload_n 3, 1) := by decide +kernel
theorem dX11_trees_60 : decode cX11_trees 60 = .ok (.getfield 123, 3) := by decide +kernel
theorem dX11_trees_63 : decode cX11_trees 63 = .ok (.invokevirtual 136, 3) := by decide +kernel
theorem dX11_trees_66 : decode cX11_trees 66 = .ok (.goto 17, 3) := by decide +kernel
theorem dX11_trees_69 : decode cX11_trees 69 = .ok (.aload_n 0, 1) := by decide +kernel
theorem dX11_trees_70 : decode cX11_trees 70 = .ok (.getfield 56, 3) := by decide +kernel
theorem dX11_trees_73 : decode cX11_trees 73 = .ok (.iconst 0, 1) := by decide +kernel
theorem dX11_trees_74 : decode cX11_trees 74 = .ok (.aload_n 3, 1) := by decide +kernel
theorem dX11_trees_75 : decode cX11_trees 75 = .ok (.getfield 123, 3) := by decide +kernel
theorem dX11_trees_78 : decode cX11_trees 78 = .ok (.iconst 0, 1) := by decide +kernel
theorem dX11_trees_79 : decode cX11_trees 79 = .ok (.iload_n 2, 1) := by decide +kernel
theorem dX11_trees_80 : decode cX11_trees 80 = .ok (.invokevirtual 140, 3) := by decide +kernel
theorem dX11_trees_83 : decode cX11_trees 83 = .ok (.lreturn, 1) := by decide +kernel
theorem dX11_part_0 : decode cX11_part 0 = .ok (.iload_n 1, 1) := by decide +kernel
theorem dX11_part_1 : decode cX11_part 1 = .ok (.invokestatic 119, 3) := by decide +kernel
theorem dX11_part_4 : decode cX11_part 4 = .ok (.ifCond .eq 24, 3) := by decide +kernel
theorem dX11_part_7 : decode cX11_part 7 = .ok (.iload 4, 2) := by decide +kernel
theorem dX11_part_9 : decode cX11_part 9 = .ok (.iconst 0, 1) := by decide +kernel
theorem dX11_part_10 : decode cX11_part 10 = .ok (.bipush 9, 2) := by decide +kernel
theorem dX11_part_12 : decode cX11_part 12 = .ok (.invokestatic 93, 3) := by decide +kernel
theorem dX11_part_15 : decode cX11_part 15 = .ok (.ifCond .eq 13, 3) := by decide +kernel
theorem dX11_part_18 : decode cX11_part 18 = .ok (.iload 5, 2) := by decide +kernel
theorem dX11_part_20 : decode cX11_part 20 = .ok (.iconst 0, 1) := by decide +kernel
theorem dX11_part_21 : decode cX11_part 21 = .ok (.iconst 3, 1) := by decide +kernel
theorem dX11_part_22 : decode cX11_part 22 = .ok (.invokestatic 93, 3) := by decide +kernel
theorem dX11_part_25 : decode cX11_part 25 = .ok (.ifCond .ne 5, 3) := by decide +kernel
theorem dX11_part_28 : decode cX11_part 28 = .ok (.iconst (-1), 1) := by decide +kernel
theorem dX11_part_29 : decode cX11_part 29 = .ok (.ireturn, 1) := by decide +kernel
theorem dX11_part_30 : decode cX11_part 30 = .ok (.aload_n 0, 1) := by decide +kernel
theorem dX11_part_31 : decode cX11_part 31 = .ok (.getfield 28, 3) := by decide +kernel
theorem dX11_part_34 : decode cX11_part 34 = .ok (.iload_n 1, 1) := by decide +kernel
theorem dX11_part_35 : decode cX11_part 35 = .ok (.aaload, 1) := by decide +kernel
theorem dX11_part_36 : decode cX11_part 36 = .ok (.astore 6, 2) := by decide +kernel
theorem dX11_part_38 : decode cX11_part 38 = .ok (.iload_n 2, 1) := by decide +kernel
theorem dX11_part_39 : decode cX11_part 39 = .ok (.iconst 0, 1) := by decide +kernel
theorem dX11_part_40 : decode cX11_part 40 = .ok (.aload 6, 2) := by decide +kernel
theorem dX11_part_42 : decode cX11_part 42 = .ok (.getfield 123, 3) := by decide +kernel
theorem dX11_part_45 : decode cX11_part 45 = .ok (.iconst 1, 1) := by decide +kernel
theorem dX11_part_46 : decode cX11_part 46 = .ok (.isub, 1) := by decide +kernel
theorem dX11_part_47 : decode cX11_part 47 = .ok (.invokestatic 93, 3) := by decide +kernel
theorem dX11_part_50 : decode cX11_part 50 = .ok (.ifCond .eq 18, 3) := by decide +kernel
theorem dX11_part_53 : decode cX11_part 53 = .ok (.iload_n 3, 1) := by decide +kernel
theorem dX11_part_54 : decode cX11_part 54 = .ok (.iconst 1, 1) := by decide +kernel
theorem dX11_part_55 : decode cX11_part 55 = .ok (.aload 6, 2) := by decide +kernel
theorem dX11_part_57 : decode cX11_part 57 = .ok (.getfield 123, 3) := by decide +kernel
theorem dX11_part_60 : decode cX11_part 60 = .ok (.iload_n 2, 1) := by decide +kernel
theorem dX11_part_61 : decode cX11_part 61 = .ok (.isub, 1) := by decide +kernel
theorem dX11_part_62 : decode cX11_part 62 = .ok (.invokestatic 93, 3) := by decide +kernel
theorem dX11_part_65 : decode cX11_part 65 = .ok (.ifCond .ne 5, 3) := by decide +kernel
theorem dX11_part_68 : decode cX11_part 68 = .ok (.iconst (-1), 1) := by decide +kernel
theorem dX11_part_69 : decode cX11_part 69 = .ok (.ireturn, 1) := by decide +kernel
theorem dX11_part_70 : decode cX11_part 70 = .ok (.aload_n 0, 1) := by decide +kernel
theorem dX11_part_71 : decode cX11_part 71 = .ok (.getfield 56, 3) := by decide +kernel
theorem dX11_part_74 : decode cX11_part 74 = .ok (.aload_n 0, 1) := by decide +kernel
theorem dX11_part_75 : decode cX11_part 75 = .ok (.getfield 19, 3) := by decide +kernel
theorem dX11_part_78 : decode cX11_part 78 = .ok (.aload 6, 2) := by decide +kernel
theorem dX11_part_80 : decode cX11_part 80 = .ok (.invokevirtual 132, 3) := by decide +kernel
theorem dX11_part_83 : decode cX11_part 83 = .ok (.aload_n 0, 1) := by decide +kernel
theorem dX11_part_84 : decode cX11_part 84 = .ok (.getfield 56, 3) := by decide +kernel
theorem dX11_part_87 : decode cX11_part 87 = .ok (.iload_n 2, 1) := by decide +kernel
theorem dX11_part_88 : decode cX11_part 88 = .ok (.iload_n 3, 1) := by decide +kernel
theorem dX11_part_89 : decode cX11_part 89 = .ok (.iload 4, 2) := by decide +kernel
theorem dX11_part_91 : decode cX11_part 91 = .ok (.iload 5, 2) := by decide +kernel
theorem dX11_part_93 : decode cX11_part 93 = .ok (.invokevirtual 140, 3) := by decide +kernel
theorem dX11_part_96 : decode cX11_part 96 = .ok (.lconst 0, 1) := by decide +kernel
theorem dX11_part_97 : decode cX11_part 97 = .ok (.lcmp, 1) := by decide +kernel
theorem dX11_part_98 : decode cX11_part 98 = .ok (.ifCond .le 7, 3) := by decide +kernel
theorem dX11_part_101 : decode cX11_part 101 = .ok (.iconst 1, 1) := by decide +kernel
theorem dX11_part_102 : decode cX11_part 102 = .ok (.goto 4, 3) := by decide +kernel
theorem dX11_part_105 : decode cX11_part 105 = .ok (.iconst 0, 1) := by decide +kernel
theorem dX11_part_106 : decode cX11_part 106 = .ok (.ireturn, 1) := by decide +kernel
theorem dX11_least_0 : decode cX11_least 0 = .ok (.iload_n 1, 1) := by decide +kernel
theorem dX11_least_1 : decode cX11_least 1 = .ok (.invokestatic 119, 3) := by decide +kernel
theorem dX11_least_4 : decode cX11_least 4 = .ok (.ifCond .ne 5, 3) := by decide +kernel
theorem dX11_least_7 : decode cX11_least 7 = .ok (.iconst (-1), 1) := by decide +kernel
theorem dX11_least_8 : decode cX11_least 8 = .ok (.ireturn, 1) := by decide +kernel
theorem dX11_least_9 : decode cX11_least 9 = .ok (.aload_n 0, 1) := by decide +kernel
theorem dX11_least_10 : decode cX11_least 10 = .ok (.getfield 28, 3) := by decide +kernel
theorem dX11_least_13 : decode cX11_least 13 = .ok (.iload_n 1, 1) := by decide +kernel
theorem dX11_least_14 : decode cX11_least 14 = .ok (.aaload, 1) := by decide +kernel
theorem dX11_least_15 : decode cX11_least 15 = .ok (.getfield 123, 3) := by decide +kernel
theorem dX11_least_18 : decode cX11_least 18 = .ok (.ifCond .ne 6, 3) := by decide +kernel
theorem dX11_least_21 : decode cX11_least 21 = .ok (.bipush (-2), 2) := by decide +kernel
theorem dX11_least_23 : decode cX11_least 23 = .ok (.ireturn, 1) := by decide +kernel
theorem dX11_least_24 : decode cX11_least 24 = .ok (.iconst 0, 1) := by decide +kernel
theorem dX11_least_25 : decode cX11_least 25 = .ok (.istore_n 3, 1) := by decide +kernel
theorem dX11_least_26 : decode cX11_least 26 = .ok (.iload_n 3, 1) := by decide +kernel
theorem dX11_least_27 : decode cX11_least 27 = .ok (.iconst 5, 1) := by decide +kernel
theorem dX11_least_28 : decode cX11_least 28 = .ok (.if_icmp .ge 21, 3) := by decide +kernel
theorem dX11_least_31 : decode cX11_least 31 = .ok (.aload_n 0, 1) := by decide +kernel
theorem dX11_least_32 : decode cX11_least 32 = .ok (.getfield 49, 3) := by decide +kernel
theorem dX11_least_35 : decode cX11_least 35 = .ok (.iload_n 3, 1) := by decide +kernel
theorem dX11_least_36 : decode cX11_least 36 = .ok (.aload_n 0, 1) := by decide +kernel
theorem dX11_least_37 : decode cX11_least 37 = .ok (.iload_n 3, 1) := by decide +kernel
theorem dX11_least_38 : decode cX11_least 38 = .ok (.iload_n 2, 1) := by decide +kernel
theorem dX11_least_39 : decode cX11_least 39 = .ok (.invokevirtual 115, 3) := by decide +kernel
theorem dX11_least_42 : decode cX11_least 42 = .ok (.iastore, 1) := by decide +kernel
theorem dX11_least_43 : decode cX11_least 43 = .ok (.iinc 3 1, 3) := by decide +kernel
theorem dX11_least_46 : decode cX11_least 46 = .ok (.goto (-20), 3) := by decide +kernel
theorem dX11_least_49 : decode cX11_least 49 = .ok (.aload_n 0, 1) := by decide +kernel
theorem dX11_least_50 : decode cX11_least 50 = .ok (.getfield 63, 3) := by decide +kernel
theorem dX11_least_53 : decode cX11_least 53 = .ok (.aload_n 0, 1) := by decide +kernel
theorem dX11_least_54 : decode cX11_least 54 = .ok (.getfield 19, 3) := by decide +kernel
theorem dX11_least_57 : decode cX11_least 57 = .ok (.aload_n 0, 1) := by decide +kernel
theorem dX11_least_58 : decode cX11_least 58 = .ok (.getfield 28, 3) := by decide +kernel
theorem dX11_least_61 : decode cX11_least 61 = .ok (.iload_n 1, 1) := by decide +kernel
theorem dX11_least_62 : decode cX11_least 62 = .ok (.aaload, 1) := by decide +kernel
theorem dX11_least_63 : decode cX11_least 63 = .ok (.aload_n 0, 1) := by decide +kernel
theorem dX11_least_64 : decode cX11_least 64 = .ok (.getfield 49, 3) := by decide +kernel
theorem dX11_least_67 : decode cX11_least 67 = .ok (.invokevirtual 144, 3) := by decide +kernel
theorem dX11_least_70 : decode cX11_least 70 = .ok (.istore_n 3, 1) := by decide +kernel
theorem dX11_least_71 : decode cX11_least 71 = .ok (.iload_n 3, 1) := by decide +kernel
theorem dX11_least_72 : decode cX11_least 72 = .ok (.bipush 99, 2) := by decide +kernel
theorem dX11_least_74 : decode cX11_least 74 = .ok (.if_icmp .gt 7, 3) := by decide +kernel
theorem dX11_least_77 : decode cX11_least 77 = .ok (.iload_n 3, 1) := by decide +kernel
theorem dX11_least_78 : decode cX11_least 78 = .ok (.goto 5, 3) := by decide +kernel
theorem dX11_least_81 : decode cX11_least 81 = .ok (.bipush (-4), 2) := by decide +kernel
theorem dX11_least_83 : decode cX11_least 83 = .ok (.ireturn, 1) := by decide +kernel
theorem dX11_mend_0 : decode cX11_mend 0 = .ok (.iload_n 1, 1) := by decide +kernel
theorem dX11_mend_1 : decode cX11_mend 1 = .ok (.invokestatic 119, 3) := by decide +kernel
theorem dX11_mend_4 : decode cX11_mend 4 = .ok (.ifCond .eq 18, 3) := by decide +kernel
theorem dX11_mend_7 : decode cX11_mend 7 = .ok (.iload_n 2, 1) := by decide +kernel
theorem dX11_mend_8 : decode cX11_mend 8 = .ok (.iconst (-1), 1) := by decide +kernel
theorem dX11_mend_9 : decode cX11_mend 9 = .ok (.if_icmp .lt 13, 3) := by decide +kernel
theorem dX11_mend_12 : decode cX11_mend 12 = .ok (.iload_n 3, 1) := by decide +kernel
theorem dX11_mend_13 : decode cX11_mend 13 = .ok (.iconst 0, 1) := by decide +kernel
theorem dX11_mend_14 : decode cX11_mend 14 = .ok (.bipush 9, 2) := by decide +kernel
theorem dX11_mend_16 : decode cX11_mend 16 = .ok (.invokestatic 93, 3) := by decide +kernel
theorem dX11_mend_19 : decode cX11_mend 19 = .ok (.ifCond .ne 5, 3) := by decide +kernel
theorem dX11_mend_22 : decode cX11_mend 22 = .ok (.iconst (-1), 1) := by decide +kernel
theorem dX11_mend_23 : decode cX11_mend 23 = .ok (.ireturn, 1) := by decide +kernel
theorem dX11_mend_24 : decode cX11_mend 24 = .ok (.aload_n 0, 1) := by decide +kernel
theorem dX11_mend_25 : decode cX11_mend 25 = .ok (.aload_n 0, 1) := by decide +kernel
theorem dX11_mend_26 : decode cX11_mend 26 = .ok (.getfield 28, 3) := by decide +kernel
theorem dX11_mend_29 : decode cX11_mend 29 = .ok (.iload_n 1, 1) := by decide +kernel
theorem dX11_mend_30 : decode cX11_mend 30 = .ok (.aaload, 1) := by decide +kernel
theorem dX11_mend_31 : decode cX11_mend 31 = .ok (.invokevirtual 148, 3) := by decide +kernel
theorem dX11_mend_34 : decode cX11_mend 34 = .ok (.ifCond .ne 6, 3) := by decide +kernel
theorem dX11_mend_37 : decode cX11_mend 37 = .ok (.bipush (-2), 2) := by decide +kernel
theorem dX11_mend_39 : decode cX11_mend 39 = .ok (.ireturn, 1) := by decide +kernel
theorem dX11_mend_40 : decode cX11_mend 40 = .ok (.aload_n 0, 1) := by decide +kernel
theorem dX11_mend_41 : decode cX11_mend 41 = .ok (.iload_n 1, 1) := by decide +kernel
theorem dX11_mend_42 : decode cX11_mend 42 = .ok (.invokevirtual 152, 3) := by decide +kernel
theorem dX11_mend_45 : decode cX11_mend 45 = .ok (.iload_n 2, 1) := by decide +kernel
theorem dX11_mend_46 : decode cX11_mend 46 = .ok (.iconst (-1), 1) := by decide +kernel
theorem dX11_mend_47 : decode cX11_mend 47 = .ok (.if_icmp .ne 11, 3) := by decide +kernel
theorem dX11_mend_50 : decode cX11_mend 50 = .ok (.aload_n 0, 1) := by decide +kernel
theorem dX11_mend_51 : decode cX11_mend 51 = .ok (.getfield 84, 3) := by decide +kernel
theorem dX11_mend_54 : decode cX11_mend 54 = .ok (.getfield 155, 3) := by decide +kernel
theorem dX11_mend_57 : decode cX11_mend 57 = .ok (.ireturn, 1) := by decide +kernel
theorem dX11_mend_58 : decode cX11_mend 58 = .ok (.iload_n 2, 1) := by decide +kernel
theorem dX11_mend_59 : decode cX11_mend 59 = .ok (.aload_n 0, 1) := by decide +kernel
theorem dX11_mend_60 : decode cX11_mend 60 = .ok (.getfield 84, 3) := by decide +kernel
theorem dX11_mend_63 : decode cX11_mend 63 = .ok (.getfield 155, 3) := by decide +kernel
theorem dX11_mend_66 : decode cX11_mend 66 = .ok (.if_icmp .lt 6, 3) := by decide +kernel
theorem dX11_mend_69 : decode cX11_mend 69 = .ok (.bipush (-4), 2) := by decide +kernel
theorem dX11_mend_71 : decode cX11_mend 71 = .ok (.ireturn, 1) := by decide +kernel
theorem dX11_mend_72 : decode cX11_mend 72 = .ok (.aload_n 0, 1) := by decide +kernel
theorem dX11_mend_73 : decode cX11_mend 73 = .ok (.getfield 84, 3) := by decide +kernel
theorem dX11_mend_76 : decode cX11_mend 76 = .ok (.getfield 156, 3) := by decide +kernel
theorem dX11_mend_79 : decode cX11_mend 79 = .ok (.iload_n 2, 1) := by decide +kernel
theorem dX11_mend_80 : decode cX11_mend 80 = .ok (.aaload, 1) := by decide +kernel
theorem dX11_mend_81 : decode cX11_mend 81 = .ok (.astore 4, 2) := by decide +kernel
theorem dX11_mend_83 : decode cX11_mend 83 = .ok (.iload_n 3, 1) := by decide +kernel
theorem dX11_mend_84 : decode cX11_mend 84 = .ok (.ifCond .ne 13, 3) := by decide +kernel
theorem dX11_mend_87 : decode cX11_mend 87 = .ok (.aload_n 0, 1) := by decide +kernel
theorem dX11_mend_88 : decode cX11_mend 88 = .ok (.getfield 84, 3) := by decide +kernel
theorem dX11_mend_91 : decode cX11_mend 91 = .ok (.getfield 159, 3) := by decide +kernel
theorem dX11_mend_94 : decode cX11_mend 94 = .ok (.iload_n 2, 1) := by decide +kernel
theorem dX11_mend_95 : decode cX11_mend 95 = .ok (.iaload, 1) := by decide +kernel
theorem dX11_mend_96 : decode cX11_mend 96 = .ok (.ireturn, 1) := by decide +kernel
theorem dX11_mend_97 : decode cX11_mend 97 = .ok (.iload_n 3, 1) := by decide +kernel
theorem dX11_mend_98 : decode cX11_mend 98 = .ok (.iconst 1, 1) := by decide +kernel
theorem dX11_mend_99 : decode cX11_mend 99 = .ok (.if_icmp .ne 9, 3) := by decide +kernel
theorem dX11_mend_102 : decode cX11_mend 102 = .ok (.aload 4, 2) := by decide +kernel
theorem dX11_mend_104 : decode cX11_mend 104 = .ok (.getfield 123, 3) := by decide +kernel
theorem dX11_mend_107 : decode cX11_mend 107 = .ok (.ireturn, 1) := by decide +kernel
theorem dX11_mend_108 : decode cX11_mend 108 = .ok (.iload_n 3, 1) := by decide +kernel
theorem dX11_mend_109 : decode cX11_mend 109 = .ok (.iconst 2, 1) := by decide +kernel
theorem dX11_mend_110 : decode cX11_mend 110 = .ok (.isub, 1) := by decide +kernel
theorem dX11_mend_111 : decode cX11_mend 111 = .ok (.aload 4, 2) := by decide +kernel
theorem dX11_mend_113 : decode cX11_mend 113 = .ok (.getfield 123, 3) := by decide +kernel
theorem dX11_mend_116 : decode cX11_mend 116 = .ok (.if_icmp .ge 15, 3) := by decide +kernel
theorem dX11_mend_119 : decode cX11_mend 119 = .ok (.aload 4, 2) := by decide +kernel
theorem dX11_mend_121 : decode cX11_mend 121 = .ok (.getfield 162, 3) := by decide +kernel
theorem dX11_mend_124 : decode cX11_mend 124 = .ok (.iload_n 3, 1) := by decide +kernel
theorem dX11_mend_125 : decode cX11_mend 125 = .ok (.iconst 2, 1) := by decide +kernel
theorem dX11_mend_126 : decode cX11_mend 126 = .ok (.isub, 1) := by decide +kernel
theorem dX11_mend_127 : decode cX11_mend 127 = .ok (.iaload, 1) := by decide +kernel
theorem dX11_mend_128 : decode cX11_mend 128 = .ok (.goto 5, 3) := by decide +kernel
theorem dX11_mend_131 : decode cX11_mend 131 = .ok (.bipush (-4), 2) := by decide +kernel
theorem dX11_mend_133 : decode cX11_mend 133 = .ok (.ireturn, 1) := by decide +kernel
theorem dX11_heaps_0 : decode cX11_heaps 0 = .ok (.iload_n 1, 1) := by decide +kernel
theorem dX11_heaps_1 : decode cX11_heaps 1 = .ok (.invokestatic 119, 3) := by decide +kernel
theorem dX11_heaps_4 : decode cX11_heaps 4 = .ok (.ifCond .eq 22, 3) := by decide +kernel
theorem dX11_heaps_7 : decode cX11_heaps 7 = .ok (.iload_n 2, 1) := by decide +kernel
theorem dX11_heaps_8 : decode cX11_heaps 8 = .ok (.iconst 0, 1) := by decide +kernel
theorem dX11_heaps_9 : decode cX11_heaps 9 = .ok (.bipush 99, 2) := by decide +kernel
theorem dX11_heaps_11 : decode cX11_heaps 11 = .ok (.invokestatic 93, 3) := by decide +kernel
theorem dX11_heaps_14 : decode cX11_heaps 14 = .ok (.ifCond .eq 12, 3) := by decide +kernel
theorem dX11_heaps_17 : decode cX11_heaps 17 = .ok (.iload_n 3, 1) := by decide +kernel
theorem dX11_heaps_18 : decode cX11_heaps 18 = .ok (.iconst 0, 1) := by decide +kernel
theorem dX11_heaps_19 : decode cX11_heaps 19 = .ok (.iconst 2, 1) := by decide +kernel
theorem dX11_heaps_20 : decode cX11_heaps 20 = .ok (.invokestatic 93, 3) := by decide +kernel
theorem dX11_heaps_23 : decode cX11_heaps 23 = .ok (.ifCond .ne 5, 3) := by decide +kernel
theorem dX11_heaps_26 : decode cX11_heaps 26 = .ok (.iconst (-1), 1) := by decide +kernel
theorem dX11_heaps_27 : decode cX11_heaps 27 = .ok (.ireturn, 1) := by decide +kernel
theorem dX11_heaps_28 : decode cX11_heaps 28 = .ok (.aload_n 0, 1) := by decide +kernel
theorem dX11_heaps_29 : decode cX11_heaps 29 = .ok (.aload_n 0, 1) := by decide +kernel
theorem dX11_heaps_30 : decode cX11_heaps 30 = .ok (.getfield 28, 3) := by decide +kernel
theorem dX11_heaps_33 : decode cX11_heaps 33 = .ok (.iload_n 1, 1) := by decide +kernel
theorem dX11_heaps_34 : decode cX11_heaps 34 = .ok (.aaload, 1) := by decide +kernel
theorem dX11_heaps_35 : decode cX11_heaps 35 = .ok (.invokevirtual 148, 3) := by decide +kernel
theorem dX11_heaps_38 : decode cX11_heaps 38 = .ok (.ifCond .ne 6, 3) := by decide +kernel
theorem dX11_heaps_41 : decode cX11_heaps 41 = .ok (.bipush (-2), 2) := by decide +kernel
theorem dX11_heaps_43 : decode cX11_heaps 43 = .ok (.ireturn, 1) := by decide +kernel
theorem dX11_heaps_44 : decode cX11_heaps 44 = .ok (.aload_n 0, 1) := by decide +kernel
theorem dX11_heaps_45 : decode cX11_heaps 45 = .ok (.iload_n 1, 1) := by decide +kernel
theorem dX11_heaps_46 : decode cX11_heaps 46 = .ok (.invokevirtual 152, 3) := by decide +kernel
theorem dX11_heaps_49 : decode cX11_heaps 49 = .ok (.aload_n 0, 1) := by decide +kernel
theorem dX11_heaps_50 : decode cX11_heaps 50 = .ok (.getfield 84, 3) := by decide +kernel
theorem dX11_heaps_53 : decode cX11_heaps 53 = .ok (.aload_n 0, 1) := by decide +kernel
theorem dX11_heaps_54 : decode cX11_heaps 54 = .ok (.getfield 19, 3) := by decide +kernel
theorem dX11_heaps_57 : decode cX11_heaps 57 = .ok (.invokevirtual 164, 3) := by decide +kernel
theorem dX11_heaps_60 : decode cX11_heaps 60 = .ok (.iload_n 3, 1) := by decide +kernel
theorem dX11_heaps_61 : decode cX11_heaps 61 = .ok (.ifCond .ne 11, 3) := by decide +kernel
theorem dX11_heaps_64 : decode cX11_heaps 64 = .ok (.aload_n 0, 1) := by decide +kernel
theorem dX11_heaps_65 : decode cX11_heaps 65 = .ok (.getfield 84, 3) := by decide +kernel
theorem dX11_heaps_68 : decode cX11_heaps 68 = .ok (.getfield 168, 3) := by decide +kernel
theorem dX11_heaps_71 : decode cX11_heaps 71 = .ok (.ireturn, 1) := by decide +kernel
theorem dX11_heaps_72 : decode cX11_heaps 72 = .ok (.aload_n 0, 1) := by decide +kernel
theorem dX11_heaps_73 : decode cX11_heaps 73 = .ok (.getfield 84, 3) := by decide +kernel
theorem dX11_heaps_76 : decode cX11_heaps 76 = .ok (.getfield 168, 3) := by decide +kernel
theorem dX11_heaps_79 : decode cX11_heaps 79 = .ok (.ifCond .ne 6, 3) := by decide +kernel
theorem dX11_heaps_82 : decode cX11_heaps 82 = .ok (.bipush (-4), 2) := by decide +kernel
theorem dX11_heaps_84 : decode cX11_heaps 84 = .ok (.ireturn, 1) := by decide +kernel
theorem dX11_heaps_85 : decode cX11_heaps 85 = .ok (.iload_n 3, 1) := by decide +kernel
theorem dX11_heaps_86 : decode cX11_heaps 86 = .ok (.iconst 1, 1) := by decide +kernel
theorem dX11_heaps_87 : decode cX11_heaps 87 = .ok (.if_icmp .ne 20, 3) := by decide +kernel
theorem dX11_heaps_90 : decode cX11_heaps 90 = .ok (.aload_n 0, 1) := by decide +kernel
theorem dX11_heaps_91 : decode cX11_heaps 91 = .ok (.getfield 84, 3) := by decide +kernel
theorem dX11_heaps_94 : decode cX11_heaps 94 = .ok (.iload_n 2, 1) := by decide +kernel
theorem dX11_heaps_95 : decode cX11_heaps 95 = .ok (.invokevirtual 171, 3) := by decide +kernel
theorem dX11_heaps_98 : decode cX11_heaps 98 = .ok (.ifCond .eq 7, 3) := by decide +kernel
theorem dX11_heaps_101 : decode cX11_heaps 101 = .ok (.iconst 1, 1) := by decide +kernel
theorem dX11_heaps_102 : decode cX11_heaps 102 = .ok (.goto 4, 3) := by decide +kernel
theorem dX11_heaps_105 : decode cX11_heaps 105 = .ok (.iconst 0, 1) := by decide +kernel
theorem dX11_heaps_106 : decode cX11_heaps 106 = .ok (.ireturn, 1) := by decide +kernel
theorem dX11_heaps_107 : decode cX11_heaps 107 = .ok (.aload_n 0, 1) := by decide +kernel
theorem dX11_heaps_108 : decode cX11_heaps 108 = .ok (.getfield 84, 3) := by decide +kernel
theorem dX11_heaps_111 : decode cX11_heaps 111 = .ok (.getfield 168, 3) := by decide +kernel
theorem dX11_heaps_114 : decode cX11_heaps 114 = .ok (.iconst 2, 1) := by decide +kernel
theorem dX11_heaps_115 : decode cX11_heaps 115 = .ok (.if_icmp .ge 8, 3) := by decide +kernel
theorem dX11_heaps_118 : decode cX11_heaps 118 = .ok (.bipush (-4), 2) := by decide +kernel
theorem dX11_heaps_120 : decode cX11_heaps 120 = .ok (.goto 14, 3) := by decide +kernel
theorem dX11_heaps_123 : decode cX11_heaps 123 = .ok (.aload_n 0, 1) := by decide +kernel
theorem dX11_heaps_124 : decode cX11_heaps 124 = .ok (.getfield 84, 3) := by decide +kernel
theorem dX11_heaps_127 : decode cX11_heaps 127 = .ok (.aload_n 0, 1) := by decide +kernel
theorem dX11_heaps_128 : decode cX11_heaps 128 = .ok (.getfield 19, 3) := by decide +kernel
theorem dX11_heaps_131 : decode cX11_heaps 131 = .ok (.invokevirtual 174, 3) := by decide +kernel
theorem dX11_heaps_134 : decode cX11_heaps 134 = .ok (.ireturn, 1) := by decide +kernel
theorem dX11_bars_0 : decode cX11_bars 0 = .ok (.iload_n 1, 1) := by decide +kernel
theorem dX11_bars_1 : decode cX11_bars 1 = .ok (.invokestatic 119, 3) := by decide +kernel
theorem dX11_bars_4 : decode cX11_bars 4 = .ok (.ifCond .ne 5, 3) := by decide +kernel
theorem dX11_bars_7 : decode cX11_bars 7 = .ok (.iconst (-1), 1) := by decide +kernel
theorem dX11_bars_8 : decode cX11_bars 8 = .ok (.ireturn, 1) := by decide +kernel
theorem dX11_bars_9 : decode cX11_bars 9 = .ok (.aload_n 0, 1) := by decide +kernel
theorem dX11_bars_10 : decode cX11_bars 10 = .ok (.getfield 28, 3) := by decide +kernel
theorem dX11_bars_13 : decode cX11_bars 13 = .ok (.iload_n 1, 1) := by decide +kernel
theorem dX11_bars_14 : decode cX11_bars 14 = .ok (.aaload, 1) := by decide +kernel
theorem dX11_bars_15 : decode cX11_bars 15 = .ok (.astore_n 2, 1) := by decide +kernel
theorem dX11_bars_16 : decode cX11_bars 16 = .ok (.aload_n 2, 1) := by decide +kernel
theorem dX11_bars_17 : decode cX11_bars 17 = .ok (.getfield 123, 3) := by decide +kernel
theorem dX11_bars_20 : decode cX11_bars 20 = .ok (.ifCond .ne 6, 3) := by decide +kernel
theorem dX11_bars_23 : decode cX11_bars 23 = .ok (.bipush (-2), 2) := by decide +kernel
theorem dX11_bars_25 : decode cX11_bars 25 = .ok (.ireturn, 1) := by decide +kernel
theorem dX11_bars_26 : decode cX11_bars 26 = .ok (.aload_n 0, 1) := by decide +kernel
theorem dX11_bars_27 : decode cX11_bars 27 = .ok (.aload_n 2, 1) := by decide +kernel
theorem dX11_bars_28 : decode cX11_bars 28 = .ok (.invokevirtual 177, 3) := by decide +kernel
theorem dX11_bars_31 : decode cX11_bars 31 = .ok (.ifCond .eq 7, 3) := by decide +kernel
theorem dX11_bars_34 : decode cX11_bars 34 = .ok (.iconst 0, 1) := by decide +kernel
theorem dX11_bars_35 : decode cX11_bars 35 = .ok (.goto 19, 3) := by decide +kernel
theorem dX11_bars_38 : decode cX11_bars 38 = .ok (.aload_n 0, 1) := by decide +kernel
theorem dX11_bars_39 : decode cX11_bars 39 = .ok (.getfield 77, 3) := by decide +kernel
theorem dX11_bars_42 : decode cX11_bars 42 = .ok (.aload_n 0, 1) := by decide +kernel
theorem dX11_bars_43 : decode cX11_bars 43 = .ok (.getfield 19, 3) := by decide +kernel
theorem dX11_bars_46 : decode cX11_bars 46 = .ok (.aload_n 2, 1) := by decide +kernel
theorem dX11_bars_47 : decode cX11_bars 47 = .ok (.aload_n 0, 1) := by decide +kernel
theorem dX11_bars_48 : decode cX11_bars 48 = .ok (.getfield 70, 3) := by decide +kernel
theorem dX11_bars_51 : decode cX11_bars 51 = .ok (.invokevirtual 180, 3) := by decide +kernel
theorem dX11_bars_54 : decode cX11_bars 54 = .ok (.ireturn, 1) := by decide +kernel
theorem dX11_keep_0 : decode cX11_keep 0 = .ok (.iload_n 1, 1) := by decide +kernel
theorem dX11_keep_1 : decode cX11_keep 1 = .ok (.invokestatic 119, 3) := by decide +kernel
theorem dX11_keep_4 : decode cX11_keep 4 = .ok (.ifCond .eq 10, 3) := by decide +kernel
theorem dX11_keep_7 : decode cX11_keep 7 = .ok (.iload_n 2, 1) := by decide +kernel
theorem dX11_keep_8 : decode cX11_keep 8 = .ok (.invokestatic 119, 3) := by decide +kernel
theorem dX11_keep_11 : decode cX11_keep 11 = .ok (.ifCond .ne 5, 3) := by decide +kernel
theorem dX11_keep_14 : decode cX11_keep 14 = .ok (.iconst (-1), 1) := by decide +kernel
theorem dX11_keep_15 : decode cX11_keep 15 = .ok (.ireturn, 1) := by decide +kernel
theorem dX11_keep_16 : decode cX11_keep 16 = .ok (.aload_n 0, 1) := by decide +kernel
theorem dX11_keep_17 : decode cX11_keep 17 = .ok (.getfield 28, 3) := by decide +kernel
theorem dX11_keep_20 : decode cX11_keep 20 = .ok (.iload_n 1, 1) := by decide +kernel
theorem dX11_keep_21 : decode cX11_keep 21 = .ok (.aaload, 1) := by decide +kernel
theorem dX11_keep_22 : decode cX11_keep 22 = .ok (.astore_n 3, 1) := by decide +kernel
theorem dX11_keep_23 : decode cX11_keep 23 = .ok (.aload_n 0, 1) := by decide +kernel
theorem dX11_keep_24 : decode cX11_keep 24 = .ok (.getfield 28, 3) := by decide +kernel
theorem dX11_keep_27 : decode cX11_keep 27 = .ok (.iload_n 2, 1) := by decide +kernel
theorem dX11_keep_28 : decode cX11_keep 28 = .ok (.aaload, 1) := by decide +kernel
theorem dX11_keep_29 : decode cX11_keep 29 = .ok (.astore 4, 2) := by decide +kernel
theorem dX11_keep_31 : decode cX11_keep 31 = .ok (.aload_n 3, 1) := by decide +kernel
theorem dX11_keep_32 : decode cX11_keep 32 = .ok (.getfield 123, 3) := by decide +kernel
theorem dX11_keep_35 : decode cX11_keep 35 = .ok (.ifCond .eq 11, 3) := by decide +kernel
theorem dX11_keep_38 : decode cX11_keep 38 = .ok (.aload 4, 2) := by decide +kernel
theorem dX11_keep_40 : decode cX11_keep 40 = .ok (.getfield 123, 3) := by decide +kernel
theorem dX11_keep_43 : decode cX11_keep 43 = .ok (.ifCond .ne 6, 3) := by decide +kernel
theorem dX11_keep_46 : decode cX11_keep 46 = .ok (.bipush (-2), 2) := by decide +kernel
theorem dX11_keep_48 : decode cX11_keep 48 = .ok (.ireturn, 1) := by decide +kernel
theorem dX11_keep_49 : decode cX11_keep 49 = .ok (.aload_n 0, 1) := by decide +kernel
theorem dX11_keep_50 : decode cX11_keep 50 = .ok (.getfield 38, 3) := by decide +kernel
theorem dX11_keep_53 : decode cX11_keep 53 = .ok (.bipush 12, 2) := by decide +kernel
theorem dX11_keep_55 : decode cX11_keep 55 = .ok (.if_icmp .lt 6, 3) := by decide +kernel
theorem dX11_keep_58 : decode cX11_keep 58 = .ok (.bipush (-3), 2) := by decide +kernel
theorem dX11_keep_60 : decode cX11_keep 60 = .ok (.ireturn, 1) := by decide +kernel
theorem dX11_keep_61 : decode cX11_keep 61 = .ok (.aload_n 0, 1) := by decide +kernel
theorem dX11_keep_62 : decode cX11_keep 62 = .ok (.getfield 34, 3) := by decide +kernel
theorem dX11_keep_65 : decode cX11_keep 65 = .ok (.aload_n 0, 1) := by decide +kernel
theorem dX11_keep_66 : decode cX11_keep 66 = .ok (.getfield 38, 3) := by decide +kernel
theorem dX11_keep_69 : decode cX11_keep 69 = .ok (.aaload, 1) := by decide +kernel
theorem dX11_keep_70 : decode cX11_keep 70 = .ok (.astore 5, 2) := by decide +kernel
theorem dX11_keep_72 : decode cX11_keep 72 = .ok (.aload 5, 2) := by decide +kernel
theorem dX11_keep_74 : decode cX11_keep 74 = .ok (.aload_n 3, 1) := by decide +kernel
theorem dX11_keep_75 : decode cX11_keep 75 = .ok (.aload 4, 2) := by decide +kernel
theorem dX11_keep_77 : decode cX11_keep 77 = .ok (.invokevirtual 184, 3) := by decide +kernel
theorem dX11_keep_80 : decode cX11_keep 80 = .ok (.ifCond .ne 7, 3) := by decide +kernel
theorem dX11_keep_83 : decode cX11_keep 83 = .ok (.iconst 1, 1) := by decide +kernel
theorem dX11_keep_84 : decode cX11_keep 84 = .ok (.goto 4, 3) := by decide +kernel
theorem dX11_keep_87 : decode cX11_keep 87 = .ok (.iconst 0, 1) := by decide +kernel
theorem dX11_keep_88 : decode cX11_keep 88 = .ok (.putfield 188, 3) := by decide +kernel
theorem dX11_keep_91 : decode cX11_keep 91 = .ok (.aload 5, 2) := by decide +kernel
theorem dX11_keep_93 : decode cX11_keep 93 = .ok (.aload_n 0, 1) := by decide +kernel
theorem dX11_keep_94 : decode cX11_keep 94 = .ok (.aload_n 3, 1) := by decide +kernel
theorem dX11_keep_95 : decode cX11_keep 95 = .ok (.invokevirtual 177, 3) := by decide +kernel
theorem dX11_keep_98 : decode cX11_keep 98 = .ok (.putfield 192, 3) := by decide +kernel
theorem dX11_keep_101 : decode cX11_keep 101 = .ok (.aload 5, 2) := by decide +kernel
theorem dX11_keep_103 : decode cX11_keep 103 = .ok (.bipush (-4), 2) := by decide +kernel
theorem dX11_keep_105 : decode cX11_keep 105 = .ok (.putfield 195, 3) := by decide +kernel
theorem dX11_keep_108 : decode cX11_keep 108 = .ok (.aload 5, 2) := by decide +kernel
theorem dX11_keep_110 : decode cX11_keep 110 = .ok (.iconst 0, 1) := by decide +kernel
theorem dX11_keep_111 : decode cX11_keep 111 = .ok (.putfield 198, 3) := by decide +kernel
theorem dX11_keep_114 : decode cX11_keep 114 = .ok (.aload 5, 2) := by decide +kernel
theorem dX11_keep_116 : decode cX11_keep 116 = .ok (.getfield 192, 3) := by decide +kernel
theorem dX11_keep_119 : decode cX11_keep 119 = .ok (.ifCond .ne 32, 3) := by decide +kernel
theorem dX11_keep_122 : decode cX11_keep 122 = .ok (.aload 5, 2) := by decide +kernel
theorem dX11_keep_124 : decode cX11_keep 124 = .ok (.getfield 188, 3) := by decide +kernel
theorem dX11_keep_127 : decode cX11_keep 127 = .ok (.ifCond .eq 24, 3) := by decide +kernel
theorem dX11_keep_130 : decode cX11_keep 130 = .ok (.aload 5, 2) := by decide +kernel
theorem dX11_keep_132 : decode cX11_keep 132 = .ok (.aload_n 0, 1) := by decide +kernel
theorem dX11_keep_133 : decode cX11_keep 133 = .ok (.getfield 77, 3) := by decide +kernel
theorem dX11_keep_136 : decode cX11_keep 136 = .ok (.aload_n 0, 1) := by decide +kernel
theorem dX11_keep_137 : decode cX11_keep 137 = .ok (.getfield 19, 3) := by decide +kernel
theorem dX11_keep_140 : decode cX11_keep 140 = .ok (.aload_n 3, 1) := by decide +kernel
theorem dX11_keep_141 : decode cX11_keep 141 = .ok (.aload_n 0, 1) := by decide +kernel
theorem dX11_keep_142 : decode cX11_keep 142 = .ok (.getfield 70, 3) := by decide +kernel
theorem dX11_keep_145 : decode cX11_keep 145 = .ok (.invokevirtual 201, 3) := by decide +kernel
theorem dX11_keep_148 : decode cX11_keep 148 = .ok (.putfield 198, 3) := by decide +kernel
theorem dX11_keep_151 : decode cX11_keep 151 = .ok (.aload 5, 2) := by decide +kernel
theorem dX11_keep_153 : decode cX11_keep 153 = .ok (.getfield 192, 3) := by decide +kernel
theorem dX11_keep_156 : decode cX11_keep 156 = .ok (.ifCond .ne 47, 3) := by decide +kernel
theorem dX11_keep_159 : decode cX11_keep 159 = .ok (.aload 5, 2) := by decide +kernel
theorem dX11_keep_161 : decode cX11_keep 161 = .ok (.getfield 188, 3) := by decide +kernel
theorem dX11_keep_164 : decode cX11_keep 164 = .ok (.ifCond .ne 39, 3) := by decide +kernel
theorem dX11_keep_167 : decode cX11_keep 167 = .ok (.aload_n 0, 1) := by decide +kernel
theorem dX11_keep_168 : decode cX11_keep 168 = .ok (.iconst (-1), 1) := by decide +kernel
theorem dX11_keep_169 : decode cX11_keep 169 = .ok (.putfield 88, 3) := by decide +kernel
theorem dX11_keep_172 : decode cX11_keep 172 = .ok (.aload_n 0, 1) := by decide +kernel
theorem dX11_keep_173 : decode cX11_keep 173 = .ok (.getfield 84, 3) := by decide +kernel
theorem dX11_keep_176 : decode cX11_keep 176 = .ok (.aload_n 0, 1) := by decide +kernel
theorem dX11_keep_177 : decode cX11_keep 177 = .ok (.getfield 19, 3) := by decide +kernel
theorem dX11_keep_180 : decode cX11_keep 180 = .ok (.aload_n 3, 1) := by decide +kernel
theorem dX11_keep_181 : decode cX11_keep 181 = .ok (.iconst 0, 1) := by decide +kernel
theorem dX11_keep_182 : decode cX11_keep 182 = .ok (.aload_n 0, 1) := by decide +kernel
theorem dX11_keep_183 : decode cX11_keep 183 = .ok (.getfield 70, 3) := by decide +kernel
theorem dX11_keep_186 : decode cX11_keep 186 = .ok (.invokevirtual 204, 3) := by decide +kernel
theorem dX11_keep_189 : decode cX11_keep 189 = .ok (.aload 5, 2) := by decide +kernel
theorem dX11_keep_191 : decode cX11_keep 191 = .ok (.aload_n 0, 1) := by decide +kernel
theorem dX11_keep_192 : decode cX11_keep 192 = .ok (.getfield 84, 3) := by decide +kernel
theorem dX11_keep_195 : decode cX11_keep 195 = .ok (.aload 4, 2) := by decide +kernel
theorem dX11_keep_197 : decode cX11_keep 197 = .ok (.invokevirtual 208, 3) := by decide +kernel
theorem dX11_keep_200 : decode cX11_keep 200 = .ok (.putfield 195, 3) := by decide +kernel
theorem dX11_keep_203 : decode cX11_keep 203 = .ok (.aload_n 0, 1) := by decide +kernel
theorem dX11_keep_204 : decode cX11_keep 204 = .ok (.dup, 1) := by decide +kernel
theorem dX11_keep_205 : decode cX11_keep 205 = .ok (.getfield 38, 3) := by decide +kernel
theorem dX11_keep_208 : decode cX11_keep 208 = .ok (.iconst 1, 1) := by decide +kernel
theorem dX11_keep_209 : decode cX11_keep 209 = .ok (.iadd, 1) := by decide +kernel
theorem dX11_keep_210 : decode cX11_keep 210 = .ok (.putfield 38, 3) := by decide +kernel
theorem dX11_keep_213 : decode cX11_keep 213 = .ok (.aload_n 0, 1) := by decide +kernel
theorem dX11_keep_214 : decode cX11_keep 214 = .ok (.getfield 38, 3) := by decide +kernel
theorem dX11_keep_217 : decode cX11_keep 217 = .ok (.iconst 1, 1) := by decide +kernel
theorem dX11_keep_218 : decode cX11_keep 218 = .ok (.isub, 1) := by decide +kernel
theorem dX11_keep_219 : decode cX11_keep 219 = .ok (.ireturn, 1) := by decide +kernel
theorem dX11_kept_0 : decode cX11_kept 0 = .ok (.iload_n 1, 1) := by decide +kernel
theorem dX11_kept_1 : decode cX11_kept 1 = .ok (.iconst 0, 1) := by decide +kernel
theorem dX11_kept_2 : decode cX11_kept 2 = .ok (.iconst 2, 1) := by decide +kernel
theorem dX11_kept_3 : decode cX11_kept 3 = .ok (.invokestatic 93, 3) := by decide +kernel
theorem dX11_kept_6 : decode cX11_kept 6 = .ok (.ifCond .ne 5, 3) := by decide +kernel
theorem dX11_kept_9 : decode cX11_kept 9 = .ok (.iconst (-1), 1) := by decide +kernel
theorem dX11_kept_10 : decode cX11_kept 10 = .ok (.ireturn, 1) := by decide +kernel
theorem dX11_kept_11 : decode cX11_kept 11 = .ok (.iconst 0, 1) := by decide +kernel
theorem dX11_kept_12 : decode cX11_kept 12 = .ok (.istore_n 2, 1) := by decide +kernel
theorem dX11_kept_13 : decode cX11_kept 13 = .ok (.iconst 0, 1) := by decide +kernel
theorem dX11_kept_14 : decode cX11_kept 14 = .ok (.istore_n 3, 1) := by decide +kernel
theorem dX11_kept_15 : decode cX11_kept 15 = .ok (.iload_n 3, 1) := by decide +kernel
theorem dX11_kept_16 : decode cX11_kept 16 = .ok (.aload_n 0, 1) := by decide +kernel
theorem dX11_kept_17 : decode cX11_kept 17 = .ok (.getfield 38, 3) := by decide +kernel
theorem dX11_kept_20 : decode cX11_kept 20 = .ok (.if_icmp .ge 57, 3) := by decide +kernel
theorem dX11_kept_23 : decode cX11_kept 23 = .ok (.aload_n 0, 1) := by decide +kernel
theorem dX11_kept_24 : decode cX11_kept 24 = .ok (.getfield 34, 3) := by decide +kernel
theorem dX11_kept_27 : decode cX11_kept 27 = .ok (.iload_n 3, 1) := by decide +kernel
theorem dX11_kept_28 : decode cX11_kept 28 = .ok (.aaload, 1) := by decide +kernel
theorem dX11_kept_29 : decode cX11_kept 29 = .ok (.astore 4, 2) := by decide +kernel
theorem dX11_kept_31 : decode cX11_kept 31 = .ok (.iload_n 1, 1) := by decide +kernel
theorem dX11_kept_32 : decode cX11_kept 32 = .ok (.iconst 2, 1) := by decide +kernel
theorem dX11_kept_33 : decode cX11_kept 33 = .ok (.if_icmp .ne 11, 3) := by decide +kernel
theorem dX11_kept_36 : decode cX11_kept 36 = .ok (.aload 4, 2) := by decide +kernel
theorem dX11_kept_38 : decode cX11_kept 38 = .ok (.invokevirtual 211, 3) := by decide +kernel
theorem dX11_kept_41 : decode cX11_kept 41 = .ok (.goto 8, 3) := by decide +kernel
theorem dX11_kept_44 : decode cX11_kept 44 = .ok (.aload 4, 2) := by decide +kernel
theorem dX11_kept_46 : decode cX11_kept 46 = .ok (.invokevirtual 215, 3) := by decide +kernel
theorem dX11_kept_49 : decode cX11_kept 49 = .ok (.istore 5, 2) := by decide +kernel
theorem dX11_kept_51 : decode cX11_kept 51 = .ok (.iload 5, 2) := by decide +kernel
theorem dX11_kept_53 : decode cX11_kept 53 = .ok (.ifCond .eq 18, 3) := by decide +kernel
theorem dX11_kept_56 : decode cX11_kept 56 = .ok (.iload_n 1, 1) := by decide +kernel
theorem dX11_kept_57 : decode cX11_kept 57 = .ok (.ifCond .ne 11, 3) := by decide +kernel
theorem dX11_kept_60 : decode cX11_kept 60 = .ok (.aload 4, 2) := by decide +kernel
theorem dX11_kept_62 : decode cX11_kept 62 = .ok (.getfield 195, 3) := by decide +kernel
theorem dX11_kept_65 : decode cX11_kept 65 = .ok (.ifCond .ne 6, 3) := by decide +kernel
theorem dX11_kept_68 : decode cX11_kept 68 = .ok (.iinc 2 1, 3) := by decide +kernel
theorem dX11_kept_71 : decode cX11_kept 71 = .ok (.iinc 3 1, 3) := by decide +kernel
theorem dX11_kept_74 : decode cX11_kept 74 = .ok (.goto (-59), 3) := by decide +kernel
theorem dX11_kept_77 : decode cX11_kept 77 = .ok (.iload_n 2, 1) := by decide +kernel
theorem dX11_kept_78 : decode cX11_kept 78 = .ok (.ireturn, 1) := by decide +kernel
theorem dX11_byRule_0 : decode cX11_byRule 0 = .ok (.iload_n 1, 1) := by decide +kernel
theorem dX11_byRule_1 : decode cX11_byRule 1 = .ok (.iconst 0, 1) := by decide +kernel
theorem dX11_byRule_2 : decode cX11_byRule 2 = .ok (.aload_n 0, 1) := by decide +kernel
theorem dX11_byRule_3 : decode cX11_byRule 3 = .ok (.getfield 19, 3) := by decide +kernel
theorem dX11_byRule_6 : decode cX11_byRule 6 = .ok (.getfield 218, 3) := by decide +kernel
theorem dX11_byRule_9 : decode cX11_byRule 9 = .ok (.iconst 1, 1) := by decide +kernel
theorem dX11_byRule_10 : decode cX11_byRule 10 = .ok (.isub, 1) := by decide +kernel
theorem dX11_byRule_11 : decode cX11_byRule 11 = .ok (.invokestatic 93, 3) := by decide +kernel
theorem dX11_byRule_14 : decode cX11_byRule 14 = .ok (.ifCond .ne 5, 3) := by decide +kernel
theorem dX11_byRule_17 : decode cX11_byRule 17 = .ok (.iconst (-1), 1) := by decide +kernel
theorem dX11_byRule_18 : decode cX11_byRule 18 = .ok (.ireturn, 1) := by decide +kernel
theorem dX11_byRule_19 : decode cX11_byRule 19 = .ok (.iconst 0, 1) := by decide +kernel
theorem dX11_byRule_20 : decode cX11_byRule 20 = .ok (.istore_n 2, 1) := by decide +kernel
theorem dX11_byRule_21 : decode cX11_byRule 21 = .ok (.iconst 0, 1) := by decide +kernel
theorem dX11_byRule_22 : decode cX11_byRule 22 = .ok (.istore_n 3, 1) := by decide +kernel
theorem dX11_byRule_23 : decode cX11_byRule 23 = .ok (.iload_n 3, 1) := by decide +kernel
theorem dX11_byRule_24 : decode cX11_byRule 24 = .ok (.aload_n 0, 1) := by decide +kernel
theorem dX11_byRule_25 : decode cX11_byRule 25 = .ok (.getfield 38, 3) := by decide +kernel
theorem dX11_byRule_28 : decode cX11_byRule 28 = .ok (.if_icmp .ge 40, 3) := by decide +kernel
theorem dX11_byRule_31 : decode cX11_byRule 31 = .ok (.aload_n 0, 1) := by decide +kernel
theorem dX11_byRule_32 : decode cX11_byRule 32 = .ok (.getfield 34, 3) := by decide +kernel
theorem dX11_byRule_35 : decode cX11_byRule 35 = .ok (.iload_n 3, 1) := by decide +kernel
theorem dX11_byRule_36 : decode cX11_byRule 36 = .ok (.aaload, 1) := by decide +kernel
theorem dX11_byRule_37 : decode cX11_byRule 37 = .ok (.invokevirtual 211, 3) := by decide +kernel
theorem dX11_byRule_40 : decode cX11_byRule 40 = .ok (.ifCond .eq 22, 3) := by decide +kernel
theorem dX11_byRule_43 : decode cX11_byRule 43 = .ok (.aload_n 0, 1) := by decide +kernel
theorem dX11_byRule_44 : decode cX11_byRule 44 = .ok (.getfield 34, 3) := by decide +kernel
theorem dX11_byRule_47 : decode cX11_byRule 47 = .ok (.iload_n 3, 1) := by decide +kernel
theorem dX11_byRule_48 : decode cX11_byRule 48 = .ok (.aaload, 1) := by decide +kernel
theorem dX11_byRule_49 : decode cX11_byRule 49 = .ok (.getfield 198, 3) := by decide +kernel
theorem dX11_byRule_52 : decode cX11_byRule 52 = .ok (.iload_n 1, 1) := by decide +kernel
theorem dX11_byRule_53 : decode cX11_byRule 53 = .ok (.invokestatic 221, 3) := by decide +kernel
theorem dX11_byRule_56 : decode cX11_byRule 56 = .ok (.ifCond .eq 6, 3) := by decide +kernel
theorem dX11_byRule_59 : decode cX11_byRule 59 = .ok (.iinc 2 1, 3) := by decide +kernel
theorem dX11_byRule_62 : decode cX11_byRule 62 = .ok (.iinc 3 1, 3) := by decide +kernel
theorem dX11_byRule_65 : decode cX11_byRule 65 = .ok (.goto (-42), 3) := by decide +kernel
theorem dX11_byRule_68 : decode cX11_byRule 68 = .ok (.iload_n 2, 1) := by decide +kernel
theorem dX11_byRule_69 : decode cX11_byRule 69 = .ok (.ireturn, 1) := by decide +kernel
theorem dX11_theirs_0 : decode cX11_theirs 0 = .ok (.iload_n 1, 1) := by decide +kernel
theorem dX11_theirs_1 : decode cX11_theirs 1 = .ok (.iconst 0, 1) := by decide +kernel
theorem dX11_theirs_2 : decode cX11_theirs 2 = .ok (.aload_n 0, 1) := by decide +kernel
theorem dX11_theirs_3 : decode cX11_theirs 3 = .ok (.getfield 38, 3) := by decide +kernel
theorem dX11_theirs_6 : decode cX11_theirs 6 = .ok (.iconst 1, 1) := by decide +kernel
theorem dX11_theirs_7 : decode cX11_theirs 7 = .ok (.isub, 1) := by decide +kernel
theorem dX11_theirs_8 : decode cX11_theirs 8 = .ok (.invokestatic 93, 3) := by decide +kernel
theorem dX11_theirs_11 : decode cX11_theirs 11 = .ok (.ifCond .ne 5, 3) := by decide +kernel
theorem dX11_theirs_14 : decode cX11_theirs 14 = .ok (.iconst (-1), 1) := by decide +kernel
theorem dX11_theirs_15 : decode cX11_theirs 15 = .ok (.ireturn, 1) := by decide +kernel
theorem dX11_theirs_16 : decode cX11_theirs 16 = .ok (.aload_n 0, 1) := by decide +kernel
theorem dX11_theirs_17 : decode cX11_theirs 17 = .ok (.getfield 34, 3) := by decide +kernel
theorem dX11_theirs_20 : decode cX11_theirs 20 = .ok (.iload_n 1, 1) := by decide +kernel
theorem dX11_theirs_21 : decode cX11_theirs 21 = .ok (.aaload, 1) := by decide +kernel
theorem dX11_theirs_22 : decode cX11_theirs 22 = .ok (.invokevirtual 215, 3) := by decide +kernel
theorem dX11_theirs_25 : decode cX11_theirs 25 = .ok (.ifCond .eq 15, 3) := by decide +kernel
theorem dX11_theirs_28 : decode cX11_theirs 28 = .ok (.aload_n 0, 1) := by decide +kernel
theorem dX11_theirs_29 : decode cX11_theirs 29 = .ok (.getfield 34, 3) := by decide +kernel
theorem dX11_theirs_32 : decode cX11_theirs 32 = .ok (.iload_n 1, 1) := by decide +kernel
theorem dX11_theirs_33 : decode cX11_theirs 33 = .ok (.aaload, 1) := by decide +kernel
theorem dX11_theirs_34 : decode cX11_theirs 34 = .ok (.getfield 195, 3) := by decide +kernel
theorem dX11_theirs_37 : decode cX11_theirs 37 = .ok (.goto 5, 3) := by decide +kernel
theorem dX11_theirs_40 : decode cX11_theirs 40 = .ok (.bipush (-2), 2) := by decide +kernel
theorem dX11_theirs_42 : decode cX11_theirs 42 = .ok (.ireturn, 1) := by decide +kernel
theorem dX11_err_0 : decode cX11_err 0 = .ok (.iload_n 1, 1) := by decide +kernel
theorem dX11_err_1 : decode cX11_err 1 = .ok (.iconst 0, 1) := by decide +kernel
theorem dX11_err_2 : decode cX11_err 2 = .ok (.iconst 4, 1) := by decide +kernel
theorem dX11_err_3 : decode cX11_err 3 = .ok (.invokestatic 93, 3) := by decide +kernel
theorem dX11_err_6 : decode cX11_err 6 = .ok (.ifCond .ne 5, 3) := by decide +kernel
theorem dX11_err_9 : decode cX11_err 9 = .ok (.iconst (-1), 1) := by decide +kernel
theorem dX11_err_10 : decode cX11_err 10 = .ok (.ireturn, 1) := by decide +kernel
theorem dX11_err_11 : decode cX11_err 11 = .ok (.aload_n 0, 1) := by decide +kernel
theorem dX11_err_12 : decode cX11_err 12 = .ok (.getfield 45, 3) := by decide +kernel
theorem dX11_err_15 : decode cX11_err 15 = .ok (.getfield 111, 3) := by decide +kernel
theorem dX11_err_18 : decode cX11_err 18 = .ok (.bipush 60, 2) := by decide +kernel
theorem dX11_err_20 : decode cX11_err 20 = .ok (.if_icmp .lt 6, 3) := by decide +kernel
theorem dX11_err_23 : decode cX11_err 23 = .ok (.bipush (-3), 2) := by decide +kernel
theorem dX11_err_25 : decode cX11_err 25 = .ok (.ireturn, 1) := by decide +kernel
theorem dX11_err_26 : decode cX11_err 26 = .ok (.aload_n 0, 1) := by decide +kernel
theorem dX11_err_27 : decode cX11_err 27 = .ok (.getfield 45, 3) := by decide +kernel
theorem dX11_err_30 : decode cX11_err 30 = .ok (.iload_n 1, 1) := by decide +kernel
theorem dX11_err_31 : decode cX11_err 31 = .ok (.invokevirtual 225, 3) := by decide +kernel
theorem dX11_err_34 : decode cX11_err 34 = .ok (.aload_n 0, 1) := by decide +kernel
theorem dX11_err_35 : decode cX11_err 35 = .ok (.getfield 45, 3) := by decide +kernel
theorem dX11_err_38 : decode cX11_err 38 = .ok (.getfield 111, 3) := by decide +kernel
theorem dX11_err_41 : decode cX11_err 41 = .ok (.ireturn, 1) := by decide +kernel
theorem dX11_gone_0 : decode cX11_gone 0 = .ok (.iload_n 1, 1) := by decide +kernel
theorem dX11_gone_1 : decode cX11_gone 1 = .ok (.iconst 0, 1) := by decide +kernel
theorem dX11_gone_2 : decode cX11_gone 2 = .ok (.iconst 4, 1) := by decide +kernel
theorem dX11_gone_3 : decode cX11_gone 3 = .ok (.invokestatic 93, 3) := by decide +kernel
theorem dX11_gone_6 : decode cX11_gone 6 = .ok (.ifCond .eq 13, 3) := by decide +kernel
theorem dX11_gone_9 : decode cX11_gone 9 = .ok (.iload_n 2, 1) := by decide +kernel
theorem dX11_gone_10 : decode cX11_gone 10 = .ok (.iconst 1, 1) := by decide +kernel
theorem dX11_gone_11 : decode cX11_gone 11 = .ok (.bipush 60, 2) := by decide +kernel
theorem dX11_gone_13 : decode cX11_gone 13 = .ok (.invokestatic 93, 3) := by decide +kernel
theorem dX11_gone_16 : decode cX11_gone 16 = .ok (.ifCond .ne 5, 3) := by decide +kernel
theorem dX11_gone_19 : decode cX11_gone 19 = .ok (.iconst (-1), 1) := by decide +kernel
theorem dX11_gone_20 : decode cX11_gone 20 = .ok (.ireturn, 1) := by decide +kernel
theorem dX11_gone_21 : decode cX11_gone 21 = .ok (.aload_n 0, 1) := by decide +kernel
theorem dX11_gone_22 : decode cX11_gone 22 = .ok (.getfield 45, 3) := by decide +kernel
theorem dX11_gone_25 : decode cX11_gone 25 = .ok (.iload_n 1, 1) := by decide +kernel
theorem dX11_gone_26 : decode cX11_gone 26 = .ok (.iconst 0, 1) := by decide +kernel
theorem dX11_gone_27 : decode cX11_gone 27 = .ok (.invokevirtual 226, 3) := by decide +kernel
theorem dX11_gone_30 : decode cX11_gone 30 = .ok (.ifCond .eq 27, 3) := by decide +kernel
theorem dX11_gone_33 : decode cX11_gone 33 = .ok (.aload_n 0, 1) := by decide +kernel
theorem dX11_gone_34 : decode cX11_gone 34 = .ok (.getfield 45, 3) := by decide +kernel
theorem dX11_gone_37 : decode cX11_gone 37 = .ok (.iload_n 1, 1) := by decide +kernel
theorem dX11_gone_38 : decode cX11_gone 38 = .ok (.aload_n 0, 1) := by decide +kernel
theorem dX11_gone_39 : decode cX11_gone 39 = .ok (.getfield 45, 3) := by decide +kernel
theorem dX11_gone_42 : decode cX11_gone 42 = .ok (.getfield 111, 3) := by decide +kernel
theorem dX11_gone_45 : decode cX11_gone 45 = .ok (.iload_n 2, 1) := by decide +kernel
theorem dX11_gone_46 : decode cX11_gone 46 = .ok (.isub, 1) := by decide +kernel
theorem dX11_gone_47 : decode cX11_gone 47 = .ok (.invokevirtual 226, 3) := by decide +kernel
theorem dX11_gone_50 : decode cX11_gone 50 = .ok (.ifCond .ne 7, 3) := by decide +kernel
theorem dX11_gone_53 : decode cX11_gone 53 = .ok (.iconst 1, 1) := by decide +kernel
theorem dX11_gone_54 : decode cX11_gone 54 = .ok (.goto 4, 3) := by decide +kernel
theorem dX11_gone_57 : decode cX11_gone 57 = .ok (.iconst 0, 1) := by decide +kernel
theorem dX11_gone_58 : decode cX11_gone 58 = .ok (.ireturn, 1) := by decide +kernel
theorem dX11_count_0 : decode cX11_count 0 = .ok (.iload_n 1, 1) := by decide +kernel
theorem dX11_count_1 : decode cX11_count 1 = .ok (.tableswitch 81 0 5 #[39, 47, 55, 63, 68, 76], 39) := by decide +kernel
theorem dX11_count_40 : decode cX11_count 40 = .ok (.aload_n 0, 1) := by decide +kernel
theorem dX11_count_41 : decode cX11_count 41 = .ok (.getfield 19, 3) := by decide +kernel
theorem dX11_count_44 : decode cX11_count 44 = .ok (.getfield 112, 3) := by decide +kernel
theorem dX11_count_47 : decode cX11_count 47 = .ok (.ireturn, 1) := by decide +kernel
theorem dX11_count_48 : decode cX11_count 48 = .ok (.aload_n 0, 1) := by decide +kernel
theorem dX11_count_49 : decode cX11_count 49 = .ok (.getfield 19, 3) := by decide +kernel
theorem dX11_count_52 : decode cX11_count 52 = .ok (.getfield 218, 3) := by decide +kernel
theorem dX11_count_55 : decode cX11_count 55 = .ok (.ireturn, 1) := by decide +kernel
theorem dX11_count_56 : decode cX11_count 56 = .ok (.aload_n 0, 1) := by decide +kernel
theorem dX11_count_57 : decode cX11_count 57 = .ok (.getfield 12, 3) := by decide +kernel
theorem dX11_count_60 : decode cX11_count 60 = .ok (.getfield 97, 3) := by decide +kernel
theorem dX11_count_63 : decode cX11_count 63 = .ok (.ireturn, 1) := by decide +kernel
theorem dX11_count_64 : decode cX11_count 64 = .ok (.aload_n 0, 1) := by decide +kernel
theorem dX11_count_65 : decode cX11_count 65 = .ok (.getfield 38, 3) := by decide +kernel
theorem dX11_count_68 : decode cX11_count 68 = .ok (.ireturn, 1) := by decide +kernel
theorem dX11_count_69 : decode cX11_count 69 = .ok (.aload_n 0, 1) := by decide +kernel
theorem dX11_count_70 : decode cX11_count 70 = .ok (.getfield 45, 3) := by decide +kernel
theorem dX11_count_73 : decode cX11_count 73 = .ok (.getfield 111, 3) := by decide +kernel
theorem dX11_count_76 : decode cX11_count 76 = .ok (.ireturn, 1) := by decide +kernel
theorem dX11_count_77 : decode cX11_count 77 = .ok (.aload_n 0, 1) := by decide +kernel
theorem dX11_count_78 : decode cX11_count 78 = .ok (.invokevirtual 229, 3) := by decide +kernel
theorem dX11_count_81 : decode cX11_count 81 = .ok (.ireturn, 1) := by decide +kernel
theorem dX11_count_82 : decode cX11_count 82 = .ok (.iconst (-1), 1) := by decide +kernel
theorem dX11_count_83 : decode cX11_count 83 = .ok (.ireturn, 1) := by decide +kernel
theorem dX11_isWithin_0 : decode cX11_isWithin 0 = .ok (.iload_n 0, 1) := by decide +kernel
theorem dX11_isWithin_1 : decode cX11_isWithin 1 = .ok (.iload_n 1, 1) := by decide +kernel
theorem dX11_isWithin_2 : decode cX11_isWithin 2 = .ok (.if_icmp .lt 12, 3) := by decide +kernel
theorem dX11_isWithin_5 : decode cX11_isWithin 5 = .ok (.iload_n 0, 1) := by decide +kernel
theorem dX11_isWithin_6 : decode cX11_isWithin 6 = .ok (.iload_n 2, 1) := by decide +kernel
theorem dX11_isWithin_7 : decode cX11_isWithin 7 = .ok (.if_icmp .gt 7, 3) := by decide +kernel
theorem dX11_isWithin_10 : decode cX11_isWithin 10 = .ok (.iconst 1, 1) := by decide +kernel
theorem dX11_isWithin_11 : decode cX11_isWithin 11 = .ok (.goto 4, 3) := by decide +kernel
theorem dX11_isWithin_14 : decode cX11_isWithin 14 = .ok (.iconst 0, 1) := by decide +kernel
theorem dX11_isWithin_15 : decode cX11_isWithin 15 = .ok (.ireturn, 1) := by decide +kernel
theorem dX11_isSentence_0 : decode cX11_isSentence 0 = .ok (.iload_n 0, 1) := by decide +kernel
theorem dX11_isSentence_1 : decode cX11_isSentence 1 = .ok (.iconst 0, 1) := by decide +kernel
theorem dX11_isSentence_2 : decode cX11_isSentence 2 = .ok (.bipush 7, 2) := by decide +kernel
theorem dX11_isSentence_4 : decode cX11_isSentence 4 = .ok (.invokestatic 93, 3) := by decide +kernel
theorem dX11_isSentence_7 : decode cX11_isSentence 7 = .ok (.ireturn, 1) := by decide +kernel
theorem dX11_hasBit_0 : decode cX11_hasBit 0 = .ok (.iload_n 0, 1) := by decide +kernel
theorem dX11_hasBit_1 : decode cX11_hasBit 1 = .ok (.iload_n 1, 1) := by decide +kernel
theorem dX11_hasBit_2 : decode cX11_hasBit 2 = .ok (.ishr, 1) := by decide +kernel
theorem dX11_hasBit_3 : decode cX11_hasBit 3 = .ok (.iconst 1, 1) := by decide +kernel
theorem dX11_hasBit_4 : decode cX11_hasBit 4 = .ok (.iand, 1) := by decide +kernel
theorem dX11_hasBit_5 : decode cX11_hasBit 5 = .ok (.iconst 1, 1) := by decide +kernel
theorem dX11_hasBit_6 : decode cX11_hasBit 6 = .ok (.if_icmp .ne 7, 3) := by decide +kernel
theorem dX11_hasBit_9 : decode cX11_hasBit 9 = .ok (.iconst 1, 1) := by decide +kernel
theorem dX11_hasBit_10 : decode cX11_hasBit 10 = .ok (.goto 4, 3) := by decide +kernel
theorem dX11_hasBit_13 : decode cX11_hasBit 13 = .ok (.iconst 0, 1) := by decide +kernel
theorem dX11_hasBit_14 : decode cX11_hasBit 14 = .ok (.ireturn, 1) := by decide +kernel
theorem dX11_priceOf_0 : decode cX11_priceOf 0 = .ok (.iload_n 2, 1) := by decide +kernel
theorem dX11_priceOf_1 : decode cX11_priceOf 1 = .ok (.ifCond .eq 24, 3) := by decide +kernel
theorem dX11_priceOf_4 : decode cX11_priceOf 4 = .ok (.aload_n 0, 1) := by decide +kernel
theorem dX11_priceOf_5 : decode cX11_priceOf 5 = .ok (.getfield 45, 3) := by decide +kernel
theorem dX11_priceOf_8 : decode cX11_priceOf 8 = .ok (.getfield 111, 3) := by decide +kernel
theorem dX11_priceOf_11 : decode cX11_priceOf 11 = .ok (.ifCond .le 14, 3) := by decide +kernel
theorem dX11_priceOf_14 : decode cX11_priceOf 14 = .ok (.aload_n 0, 1) := by decide +kernel
theorem dX11_priceOf_15 : decode cX11_priceOf 15 = .ok (.getfield 45, 3) := by decide +kernel
theorem dX11_priceOf_18 : decode cX11_priceOf 18 = .ok (.iload_n 1, 1) := by decide +kernel
theorem dX11_priceOf_19 : decode cX11_priceOf 19 = .ok (.invokevirtual 233, 3) := by decide +kernel
theorem dX11_priceOf_22 : decode cX11_priceOf 22 = .ok (.goto 12, 3) := by decide +kernel
theorem dX11_priceOf_25 : decode cX11_priceOf 25 = .ok (.aload_n 0, 1) := by decide +kernel
theorem dX11_priceOf_26 : decode cX11_priceOf 26 = .ok (.getfield 19, 3) := by decide +kernel
theorem dX11_priceOf_29 : decode cX11_priceOf 29 = .ok (.getfield 237, 3) := by decide +kernel
theorem dX11_priceOf_32 : decode cX11_priceOf 32 = .ok (.iload_n 1, 1) := by decide +kernel
theorem dX11_priceOf_33 : decode cX11_priceOf 33 = .ok (.iaload, 1) := by decide +kernel
theorem dX11_priceOf_34 : decode cX11_priceOf 34 = .ok (.ireturn, 1) := by decide +kernel
theorem dX11_isRead_0 : decode cX11_isRead 0 = .ok (.aload_n 0, 1) := by decide +kernel
theorem dX11_isRead_1 : decode cX11_isRead 1 = .ok (.getfield 56, 3) := by decide +kernel
theorem dX11_isRead_4 : decode cX11_isRead 4 = .ok (.aload_n 0, 1) := by decide +kernel
theorem dX11_isRead_5 : decode cX11_isRead 5 = .ok (.getfield 19, 3) := by decide +kernel
theorem dX11_isRead_8 : decode cX11_isRead 8 = .ok (.aload_n 1, 1) := by decide +kernel
theorem dX11_isRead_9 : decode cX11_isRead 9 = .ok (.invokevirtual 132, 3) := by decide +kernel
theorem dX11_isRead_12 : decode cX11_isRead 12 = .ok (.aload_n 0, 1) := by decide +kernel
theorem dX11_isRead_13 : decode cX11_isRead 13 = .ok (.getfield 56, 3) := by decide +kernel
theorem dX11_isRead_16 : decode cX11_isRead 16 = .ok (.aload_n 1, 1) := by decide +kernel
theorem dX11_isRead_17 : decode cX11_isRead 17 = .ok (.getfield 123, 3) := by decide +kernel
theorem dX11_isRead_20 : decode cX11_isRead 20 = .ok (.invokevirtual 136, 3) := by decide +kernel
theorem dX11_isRead_23 : decode cX11_isRead 23 = .ok (.lconst 0, 1) := by decide +kernel
theorem dX11_isRead_24 : decode cX11_isRead 24 = .ok (.lcmp, 1) := by decide +kernel
theorem dX11_isRead_25 : decode cX11_isRead 25 = .ok (.ifCond .le 7, 3) := by decide +kernel
theorem dX11_isRead_28 : decode cX11_isRead 28 = .ok (.iconst 1, 1) := by decide +kernel
theorem dX11_isRead_29 : decode cX11_isRead 29 = .ok (.goto 4, 3) := by decide +kernel
theorem dX11_isRead_32 : decode cX11_isRead 32 = .ok (.iconst 0, 1) := by decide +kernel
theorem dX11_isRead_33 : decode cX11_isRead 33 = .ok (.ireturn, 1) := by decide +kernel
theorem dX11_canBeMended_0 : decode cX11_canBeMended 0 = .ok (.aload_n 1, 1) := by decide +kernel
theorem dX11_canBeMended_1 : decode cX11_canBeMended 1 = .ok (.getfield 123, 3) := by decide +kernel
theorem dX11_canBeMended_4 : decode cX11_canBeMended 4 = .ok (.ifCond .le 15, 3) := by decide +kernel
theorem dX11_canBeMended_7 : decode cX11_canBeMended 7 = .ok (.aload_n 0, 1) := by decide +kernel
theorem dX11_canBeMended_8 : decode cX11_canBeMended 8 = .ok (.aload_n 1, 1) := by decide +kernel
theorem dX11_canBeMended_9 : decode cX11_canBeMended 9 = .ok (.invokevirtual 177, 3) := by decide +kernel
theorem dX11_canBeMended_12 : decode cX11_canBeMended 12 = .ok (.ifCond .ne 7, 3) := by decide +kernel
theorem dX11_canBeMended_15 : decode cX11_canBeMended 15 = .ok (.iconst 1, 1) := by decide +kernel
theorem dX11_canBeMended_16 : decode cX11_canBeMended 16 = .ok (.goto 4, 3) := by decide +kernel
theorem dX11_canBeMended_19 : decode cX11_canBeMended 19 = .ok (.iconst 0, 1) := by decide +kernel
theorem dX11_canBeMended_20 : decode cX11_canBeMended 20 = .ok (.ireturn, 1) := by decide +kernel
theorem dX11_findMends_0 : decode cX11_findMends 0 = .ok (.aload_n 0, 1) := by decide +kernel
theorem dX11_findMends_1 : decode cX11_findMends 1 = .ok (.getfield 88, 3) := by decide +kernel
theorem dX11_findMends_4 : decode cX11_findMends 4 = .ok (.iload_n 1, 1) := by decide +kernel
theorem dX11_findMends_5 : decode cX11_findMends 5 = .ok (.if_icmp .eq 38, 3) := by decide +kernel
theorem dX11_findMends_8 : decode cX11_findMends 8 = .ok (.aload_n 0, 1) := by decide +kernel
theorem dX11_findMends_9 : decode cX11_findMends 9 = .ok (.getfield 84, 3) := by decide +kernel
theorem dX11_findMends_12 : decode cX11_findMends 12 = .ok (.aload_n 0, 1) := by decide +kernel
theorem dX11_findMends_13 : decode cX11_findMends 13 = .ok (.getfield 19, 3) := by decide +kernel
theorem dX11_findMends_16 : decode cX11_findMends 16 = .ok (.aload_n 0, 1) := by decide +kernel
theorem dX11_findMends_17 : decode cX11_findMends 17 = .ok (.getfield 28, 3) := by decide +kernel
theorem dX11_findMends_20 : decode cX11_findMends 20 = .ok (.iload_n 1, 1) := by decide +kernel
theorem dX11_findMends_21 : decode cX11_findMends 21 = .ok (.aaload, 1) := by decide +kernel
theorem dX11_findMends_22 : decode cX11_findMends 22 = .ok (.aload_n 0, 1) := by decide +kernel
theorem dX11_findMends_23 : decode cX11_findMends 23 = .ok (.getfield 28, 3) := by decide +kernel
theorem dX11_findMends_26 : decode cX11_findMends 26 = .ok (.iload_n 1, 1) := by decide +kernel
theorem dX11_findMends_27 : decode cX11_findMends 27 = .ok (.aaload, 1) := by decide +kernel
theorem dX11_findMends_28 : decode cX11_findMends 28 = .ok (.getfield 125, 3) := by decide +kernel
theorem dX11_findMends_31 : decode cX11_findMends 31 = .ok (.aload_n 0, 1) := by decide +kernel
theorem dX11_findMends_32 : decode cX11_findMends 32 = .ok (.getfield 70, 3) := by decide +kernel
theorem dX11_findMends_35 : decode cX11_findMends 35 = .ok (.invokevirtual 204, 3) := by decide +kernel
theorem dX11_findMends_38 : decode cX11_findMends 38 = .ok (.aload_n 0, 1) := by decide +kernel
theorem dX11_findMends_39 : decode cX11_findMends 39 = .ok (.iload_n 1, 1) := by decide +kernel
theorem dX11_findMends_40 : decode cX11_findMends 40 = .ok (.putfield 88, 3) := by decide +kernel
theorem dX11_findMends_43 : decode cX11_findMends 43 = .ok (.return_, 1) := by decide +kernel
theorem dX11_wordsOfSentences_0 : decode cX11_wordsOfSentences 0 = .ok (.iconst 0, 1) := by decide +kernel
theorem dX11_wordsOfSentences_1 : decode cX11_wordsOfSentences 1 = .ok (.istore_n 1, 1) := by decide +kernel
theorem dX11_wordsOfSentences_2 : decode cX11_wordsOfSentences 2 = .ok (.iconst 0, 1) := by decide +kernel
theorem dX11_wordsOfSentences_3 : decode cX11_wordsOfSentences 3 = .ok (.istore_n 2, 1) := by decide +kernel
theorem dX11_wordsOfSentences_4 : decode cX11_wordsOfSentences 4 = .ok (.iload_n 2, 1) := by decide +kernel
theorem dX11_wordsOfSentences_5 : decode cX11_wordsOfSentences 5 = .ok (.bipush 8, 2) := by decide +kernel
theorem dX11_wordsOfSentences_7 : decode cX11_wordsOfSentences 7 = .ok (.if_icmp .ge 21, 3) := by decide +kernel
theorem dX11_wordsOfSentences_10 : decode cX11_wordsOfSentences 10 = .ok (.iload_n 1, 1) := by decide +kernel
theorem dX11_wordsOfSentences_11 : decode cX11_wordsOfSentences 11 = .ok (.aload_n 0, 1) := by decide +kernel
theorem dX11_wordsOfSentences_12 : decode cX11_wordsOfSentences 12 = .ok (.getfield 28, 3) := by decide +kernel
theorem dX11_wordsOfSentences_15 : decode cX11_wordsOfSentences 15 = .ok (.iload_n 2, 1) := by decide +kernel
theorem dX11_wordsOfSentences_16 : decode cX11_wordsOfSentences 16 = .ok (.aaload, 1) := by decide +kernel
theorem dX11_wordsOfSentences_17 : decode cX11_wordsOfSentences 17 = .ok (.getfield 123, 3) := by decide +kernel
theorem dX11_wordsOfSentences_20 : decode cX11_wordsOfSentences 20 = .ok (.iadd, 1) := by decide +kernel
theorem dX11_wordsOfSentences_21 : decode cX11_wordsOfSentences 21 = .ok (.istore_n 1, 1) := by decide +kernel
theorem dX11_wordsOfSentences_22 : decode cX11_wordsOfSentences 22 = .ok (.iinc 2 1, 3) := by decide +kernel
theorem dX11_wordsOfSentences_25 : decode cX11_wordsOfSentences 25 = .ok (.goto (-21), 3) := by decide +kernel
theorem dX11_wordsOfSentences_28 : decode cX11_wordsOfSentences 28 = .ok (.iload_n 1, 1) := by decide +kernel
theorem dX11_wordsOfSentences_29 : decode cX11_wordsOfSentences 29 = .ok (.ireturn, 1) := by decide +kernel
end
section
theorem dX12_init_0 : decode cX12_init 0 = .ok (.aload_n 0, 1) := by decide +kernel
theorem dX12_init_1 : decode cX12_init 1 = .ok (.invokespecial 1, 3) := by decide +kernel
theorem dX12_init_4 : decode cX12_init 4 = .ok (.aload_n 0, 1) := by decide +kernel
theorem dX12_init_5 : decode cX12_init 5 = .ok (.sipush 400, 3) := by decide +kernel
theorem dX12_init_8 : decode cX12_init 8 = .ok (.newarray .int, 2) := by decide +kernel
theorem dX12_init_10 : decode cX12_init 10 = .ok (.putfield 7, 3) := by decide +kernel
theorem dX12_init_13 : decode cX12_init 13 = .ok (.aload_n 0, 1) := by decide +kernel
theorem dX12_init_14 : decode cX12_init 14 = .ok (.iconst 2, 1) := by decide +kernel
theorem dX12_init_15 : decode cX12_init 15 = .ok (.newarray .int, 2) := by decide +kernel
theorem dX12_init_17 : decode cX12_init 17 = .ok (.putfield 13, 3) := by decide +kernel
theorem dX12_init_20 : decode cX12_init 20 = .ok (.aload_n 0, 1) := by decide +kernel
theorem dX12_init_21 : decode cX12_init 21 = .ok (.sipush 128, 3) := by decide +kernel
theorem dX12_init_24 : decode cX12_init 24 = .ok (.newarray .int, 2) := by decide +kernel
theorem dX12_init_26 : decode cX12_init 26 = .ok (.putfield 16, 3) := by decide +kernel
theorem dX12_init_29 : decode cX12_init 29 = .ok (.aload_n 0, 1) := by decide +kernel
theorem dX12_init_30 : decode cX12_init 30 = .ok (.iconst 2, 1) := by decide +kernel
theorem dX12_init_31 : decode cX12_init 31 = .ok (.newarray .int, 2) := by decide +kernel
theorem dX12_init_33 : decode cX12_init 33 = .ok (.putfield 19, 3) := by decide +kernel
theorem dX12_init_36 : decode cX12_init 36 = .ok (.aload_n 0, 1) := by decide +kernel
theorem dX12_init_37 : decode cX12_init 37 = .ok (.sipush 240, 3) := by decide +kernel
theorem dX12_init_40 : decode cX12_init 40 = .ok (.newarray .int, 2) := by decide +kernel
theorem dX12_init_42 : decode cX12_init 42 = .ok (.putfield 22, 3) := by decide +kernel
theorem dX12_init_45 : decode cX12_init 45 = .ok (.aload_n 0, 1) := by decide +kernel
theorem dX12_init_46 : decode cX12_init 46 = .ok (.bipush 10, 2) := by decide +kernel
theorem dX12_init_48 : decode cX12_init 48 = .ok (.newarray .int, 2) := by decide +kernel
theorem dX12_init_50 : decode cX12_init 50 = .ok (.putfield 25, 3) := by decide +kernel
theorem dX12_init_53 : decode cX12_init 53 = .ok (.aload_n 0, 1) := by decide +kernel
theorem dX12_init_54 : decode cX12_init 54 = .ok (.bipush 10, 2) := by decide +kernel
theorem dX12_init_56 : decode cX12_init 56 = .ok (.newarray .int, 2) := by decide +kernel
theorem dX12_init_58 : decode cX12_init 58 = .ok (.putfield 28, 3) := by decide +kernel
theorem dX12_init_61 : decode cX12_init 61 = .ok (.aload_n 0, 1) := by decide +kernel
theorem dX12_init_62 : decode cX12_init 62 = .ok (.bipush 100, 2) := by decide +kernel
theorem dX12_init_64 : decode cX12_init 64 = .ok (.newarray .int, 2) := by decide +kernel
theorem dX12_init_66 : decode cX12_init 66 = .ok (.putfield 31, 3) := by decide +kernel
theorem dX12_init_69 : decode cX12_init 69 = .ok (.aload_n 0, 1) := by decide +kernel
theorem dX12_init_70 : decode cX12_init 70 = .ok (.bipush 10, 2) := by decide +kernel
theorem dX12_init_72 : decode cX12_init 72 = .ok (.newarray .int, 2) := by decide +kernel
theorem dX12_init_74 : decode cX12_init 74 = .ok (.putfield 34, 3) := by decide +kernel
theorem dX12_init_77 : decode cX12_init 77 = .ok (.aload_n 0, 1) := by decide +kernel
theorem dX12_init_78 : decode cX12_init 78 = .ok (.bipush 24, 2) := by decide +kernel
theorem dX12_init_80 : decode cX12_init 80 = .ok (.newarray .int, 2) := by decide +kernel
theorem dX12_init_82 : decode cX12_init 82 = .ok (.putfield 37, 3) := by decide +kernel
theorem dX12_init_85 : decode cX12_init 85 = .ok (.aload_n 0, 1) := by decide +kernel
theorem dX12_init_86 : decode cX12_init 86 = .ok (.sipush 192, 3) := by decide +kernel
theorem dX12_init_89 : decode cX12_init 89 = .ok (.newarray .int, 2) := by decide +kernel
theorem dX12_init_91 : decode cX12_init 91 = .ok (.putfield 40, 3) := by decide +kernel
theorem dX12_init_94 : decode cX12_init 94 = .ok (.aload_n 0, 1) := by decide +kernel
theorem dX12_init_95 : decode cX12_init 95 = .ok (.bipush 60, 2) := by decide +kernel
theorem dX12_init_97 : decode cX12_init 97 = .ok (.newarray .int, 2) := by decide +kernel
theorem dX12_init_99 : decode cX12_init 99 = .ok (.putfield 43, 3) := by decide +kernel
theorem dX12_init_102 : decode cX12_init 102 = .ok (.aload_n 0, 1) := by decide +kernel
theorem dX12_init_103 : decode cX12_init 103 = .ok (.iconst 5, 1) := by decide +kernel
theorem dX12_init_104 : decode cX12_init 104 = .ok (.newarray .int, 2) := by decide +kernel
theorem dX12_init_106 : decode cX12_init 106 = .ok (.putfield 46, 3) := by decide +kernel
theorem dX12_init_109 : decode cX12_init 109 = .ok (.aload_n 0, 1) := by decide +kernel
theorem dX12_init_110 : decode cX12_init 110 = .ok (.bipush 72, 2) := by decide +kernel
theorem dX12_init_112 : decode cX12_init 112 = .ok (.newarray .long, 2) := by decide +kernel
theorem dX12_init_114 : decode cX12_init 114 = .ok (.putfield 49, 3) := by decide +kernel
theorem dX12_init_117 : decode cX12_init 117 = .ok (.aload_n 0, 1) := by decide +kernel
theorem dX12_init_118 : decode cX12_init 118 = .ok (.sipush 2880, 3) := by decide +kernel
theorem dX12_init_121 : decode cX12_init 121 = .ok (.newarray .long, 2) := by decide +kernel
theorem dX12_init_123 : decode cX12_init 123 = .ok (.putfield 53, 3) := by decide +kernel
theorem dX12_init_126 : decode cX12_init 126 = .ok (.aload_n 0, 1) := by decide +kernel
theorem dX12_init_127 : decode cX12_init 127 = .ok (.sipush 4050, 3) := by decide +kernel
theorem dX12_init_130 : decode cX12_init 130 = .ok (.newarray .int, 2) := by decide +kernel
theorem dX12_init_132 : decode cX12_init 132 = .ok (.putfield 56, 3) := by decide +kernel
theorem dX12_init_135 : decode cX12_init 135 = .ok (.aload_n 0, 1) := by decide +kernel
theorem dX12_init_136 : decode cX12_init 136 = .ok (.iconst 5, 1) := by decide +kernel
theorem dX12_init_137 : decode cX12_init 137 = .ok (.newarray .int, 2) := by decide +kernel
theorem dX12_init_139 : decode cX12_init 139 = .ok (.putfield 59, 3) := by decide +kernel
theorem dX12_init_142 : decode cX12_init 142 = .ok (.aload_n 0, 1) := by decide +kernel
theorem dX12_init_143 : decode cX12_init 143 = .ok (.bipush 40, 2) := by decide +kernel
theorem dX12_init_145 : decode cX12_init 145 = .ok (.newarray .int, 2) := by decide +kernel
theorem dX12_init_147 : decode cX12_init 147 = .ok (.putfield 62, 3) := by decide +kernel
theorem dX12_init_150 : decode cX12_init 150 = .ok (.aload_n 0, 1) := by decide +kernel
theorem dX12_init_151 : decode cX12_init 151 = .ok (.bipush 40, 2) := by decide +kernel
theorem dX12_init_153 : decode cX12_init 153 = .ok (.newarray .int, 2) := by decide +kernel
theorem dX12_init_155 : decode cX12_init 155 = .ok (.putfield 65, 3) := by decide +kernel
theorem dX12_init_158 : decode cX12_init 158 = .ok (.aload_n 0, 1) := by decide +kernel
theorem dX12_init_159 : decode cX12_init 159 = .ok (.sipush 320, 3) := by decide +kernel
theorem dX12_init_162 : decode cX12_init 162 = .ok (.newarray .int, 2) := by decide +kernel
theorem dX12_init_164 : decode cX12_init 164 = .ok (.putfield 68, 3) := by decide +kernel
theorem dX12_init_167 : decode cX12_init 167 = .ok (.aload_n 0, 1) := by decide +kernel
theorem dX12_init_168 : decode cX12_init 168 = .ok (.bipush 40, 2) := by decide +kernel
theorem dX12_init_170 : decode cX12_init 170 = .ok (.newarray .int, 2) := by decide +kernel
theorem dX12_init_172 : decode cX12_init 172 = .ok (.putfield 71, 3) := by decide +kernel
theorem dX12_init_175 : decode cX12_init 175 = .ok (.aload_n 0, 1) := by decide +kernel
theorem dX12_init_176 : decode cX12_init 176 = .ok (.iconst 0, 1) := by decide +kernel
theorem dX12_init_177 : decode cX12_init 177 = .ok (.invokevirtual 74, 3) := by decide +kernel
theorem dX12_init_180 : decode cX12_init 180 = .ok (.return_, 1) := by decide +kernel
theorem dX12_in_0 : decode cX12_in 0 = .ok (.lload_n 0, 1) := by decide +kernel
theorem dX12_in_1 : decode cX12_in 1 = .ok (.lload_n 2, 1) := by decide +kernel
theorem dX12_in_2 : decode cX12_in 2 = .ok (.lcmp, 1) := by decide +kernel
theorem dX12_in_3 : decode cX12_in 3 = .ok (.ifCond .lt 14, 3) := by decide +kernel
theorem dX12_in_6 : decode cX12_in 6 = .ok (.lload_n 0, 1) := by decide +kernel
theorem dX12_in_7 : decode cX12_in 7 = .ok (.lload 4, 2) := by decide +kernel
theorem dX12_in_9 : decode cX12_in 9 = .ok (.lcmp, 1) := by decide +kernel
theorem dX12_in_10 : decode cX12_in 10 = .ok (.ifCond .gt 7, 3) := by decide +kernel
theorem dX12_in_13 : decode cX12_in 13 = .ok (.iconst 1, 1) := by decide +kernel
theorem dX12_in_14 : decode cX12_in 14 = .ok (.goto 4, 3) := by decide +kernel
theorem dX12_in_17 : decode cX12_in 17 = .ok (.iconst 0, 1) := by decide +kernel
theorem dX12_in_18 : decode cX12_in 18 = .ok (.ireturn, 1) := by decide +kernel
theorem dX12_has_0 : decode cX12_has 0 = .ok (.iload_n 0, 1) := by decide +kernel
theorem dX12_has_1 : decode cX12_has 1 = .ok (.iload_n 1, 1) := by decide +kernel
theorem dX12_has_2 : decode cX12_has 2 = .ok (.ishr, 1) := by decide +kernel
theorem dX12_has_3 : decode cX12_has 3 = .ok (.iconst 1, 1) := by decide +kernel
theorem dX12_has_4 : decode cX12_has 4 = .ok (.iand, 1) := by decide +kernel
theorem dX12_has_5 : decode cX12_has 5 = .ok (.iconst 1, 1) := by decide +kernel
theorem dX12_has_6 : decode cX12_has 6 = .ok (.if_icmp .ne 7, 3) := by decide +kernel
theorem dX12_has_9 : decode cX12_has 9 = .ok (.iconst 1, 1) := by decide +kernel
theorem dX12_has_10 : decode cX12_has 10 = .ok (.goto 4, 3) := by decide +kernel
theorem dX12_has_13 : decode cX12_has 13 = .ok (.iconst 0, 1) := by decide +kernel
theorem dX12_has_14 : decode cX12_has 14 = .ok (.ireturn, 1) := by decide +kernel
theorem dX12_noPrices_0 : decode cX12_noPrices 0 = .ok (.aload_n 0, 1) := by decide +kernel
theorem dX12_noPrices_1 : decode cX12_noPrices 1 = .ok (.getfield 25, 3) := by decide +kernel
theorem dX12_noPrices_4 : decode cX12_noPrices 4 = .ok (.iconst 5, 1) := by decide +kernel
theorem dX12_noPrices_5 : decode cX12_noPrices 5 = .ok (.iload_n 1, 1) := by decide +kernel
theorem dX12_noPrices_6 : decode cX12_noPrices 6 = .ok (.imul, 1) := by decide +kernel
theorem dX12_noPrices_7 : decode cX12_noPrices 7 = .ok (.iconst 3, 1) := by decide +kernel
theorem dX12_noPrices_8 : decode cX12_noPrices 8 = .ok (.iastore, 1) := by decide +kernel
theorem dX12_noPrices_9 : decode cX12_noPrices 9 = .ok (.aload_n 0, 1) := by decide +kernel
theorem dX12_noPrices_10 : decode cX12_noPrices 10 = .ok (.getfield 25, 3) := by decide +kernel
theorem dX12_noPrices_13 : decode cX12_noPrices 13 = .ok (.iconst 5, 1) := by decide +kernel
theorem dX12_noPrices_14 : decode cX12_noPrices 14 = .ok (.iload_n 1, 1) := by decide +kernel
theorem dX12_noPrices_15 : decode cX12_noPrices 15 = .ok (.imul, 1) := by decide +kernel
theorem dX12_noPrices_16 : decode cX12_noPrices 16 = .ok (.iconst 1, 1) := by decide +kernel
theorem dX12_noPrices_17 : decode cX12_noPrices 17 = .ok (.iadd, 1) := by decide +kernel
theorem dX12_noPrices_18 : decode cX12_noPrices 18 = .ok (.iconst 4, 1) := by decide +kernel
theorem dX12_noPrices_19 : decode cX12_noPrices 19 = .ok (.iastore, 1) := by decide +kernel
theorem dX12_noPrices_20 : decode cX12_noPrices 20 = .ok (.aload_n 0, 1) := by decide +kernel
theorem dX12_noPrices_21 : decode cX12_noPrices 21 = .ok (.getfield 25, 3) := by decide +kernel
theorem dX12_noPrices_24 : decode cX12_noPrices 24 = .ok (.iconst 5, 1) := by decide +kernel
theorem dX12_noPrices_25 : decode cX12_noPrices 25 = .ok (.iload_n 1, 1) := by decide +kernel
theorem dX12_noPrices_26 : decode cX12_noPrices 26 = .ok (.imul, 1) := by decide +kernel
theorem dX12_noPrices_27 : decode cX12_noPrices 27 = .ok (.iconst 2, 1) := by decide +kernel
theorem dX12_noPrices_28 : decode cX12_noPrices 28 = .ok (.iadd, 1) := by decide +kernel
theorem dX12_noPrices_29 : decode cX12_noPrices 29 = .ok (.bipush 6, 2) := by decide +kernel
theorem dX12_noPrices_31 : decode cX12_noPrices 31 = .ok (.iastore, 1) := by decide +kernel
theorem dX12_noPrices_32 : decode cX12_noPrices 32 = .ok (.aload_n 0, 1) := by decide +kernel
theorem dX12_noPrices_33 : decode cX12_noPrices 33 = .ok (.getfield 25, 3) := by decide +kernel
theorem dX12_noPrices_36 : decode cX12_noPrices 36 = .ok (.iconst 5, 1) := by decide +kernel
theorem dX12_noPrices_37 : decode cX12_noPrices 37 = .ok (.iload_n 1, 1) := by decide +kernel
theorem dX12_noPrices_38 : decode cX12_noPrices 38 = .ok (.imul, 1) := by decide +kernel
theorem dX12_noPrices_39 : decode cX12_noPrices 39 = .ok (.iconst 3, 1) := by decide +kernel
theorem dX12_noPrices_40 : decode cX12_noPrices 40 = .ok (.iadd, 1) := by decide +kernel
theorem dX12_noPrices_41 : decode cX12_noPrices 41 = .ok (.iconst 5, 1) := by decide +kernel
theorem dX12_noPrices_42 : decode cX12_noPrices 42 = .ok (.iastore, 1) := by decide +kernel
theorem dX12_noPrices_43 : decode cX12_noPrices 43 = .ok (.aload_n 0, 1) := by decide +kernel
theorem dX12_noPrices_44 : decode cX12_noPrices 44 = .ok (.getfield 25, 3) := by decide +kernel
theorem dX12_noPrices_47 : decode cX12_noPrices 47 = .ok (.iconst 5, 1) := by decide +kernel
theorem dX12_noPrices_48 : decode cX12_noPrices 48 = .ok (.iload_n 1, 1) := by decide +kernel
theorem dX12_noPrices_49 : decode cX12_noPrices 49 = .ok (.imul, 1) := by decide +kernel
theorem dX12_noPrices_50 : decode cX12_noPrices 50 = .ok (.iconst 4, 1) := by decide +kernel
theorem dX12_noPrices_51 : decode cX12_noPrices 51 = .ok (.iadd, 1) := by decide +kernel
theorem dX12_noPrices_52 : decode cX12_noPrices 52 = .ok (.iconst 5, 1) := by decide +kernel
theorem dX12_noPrices_53 : decode cX12_noPrices 53 = .ok (.iastore, 1) := by decide +kernel
theorem dX12_noPrices_54 : decode cX12_noPrices 54 = .ok (.return_, 1) := by decide +kernel
theorem dX12_write_0 : decode cX12_write 0 = .ok (.iload_n 1, 1) := by decide +kernel
theorem dX12_write_1 : decode cX12_write 1 = .ok (.i2l, 1) := by decide +kernel
theorem dX12_write_2 : decode cX12_write 2 = .ok (.lconst 1, 1) := by decide +kernel
theorem dX12_write_3 : decode cX12_write 3 = .ok (.ldc2_w 78, 3) := by decide +kernel
theorem dX12_write_6 : decode cX12_write 6 = .ok (.invokestatic 80, 3) := by decide +kernel
theorem dX12_write_9 : decode cX12_write 9 = .ok (.ifCond .ne 5, 3) := by decide +kernel
theorem dX12_write_12 : decode cX12_write 12 = .ok (.iconst (-1), 1) := by decide +kernel
theorem dX12_write_13 : decode cX12_write 13 = .ok (.ireturn, 1) := by decide +kernel
theorem dX12_write_14 : decode cX12_write 14 = .ok (.aload_n 0, 1) := by decide +kernel
theorem dX12_write_15 : decode cX12_write 15 = .ok (.getfield 84, 3) := by decide +kernel
theorem dX12_write_18 : decode cX12_write 18 = .ok (.iload_n 1, 1) := by decide +kernel
theorem dX12_write_19 : decode cX12_write 19 = .ok (.iadd, 1) := by decide +kernel
theorem dX12_write_20 : decode cX12_write 20 = .ok (.sipush 400, 3) := by decide +kernel
theorem dX12_write_23 : decode cX12_write 23 = .ok (.if_icmp .le 6, 3) := by decide +kernel
theorem dX12_write_26 : decode cX12_write 26 = .ok (.bipush (-3), 2) := by decide +kernel
theorem dX12_write_28 : decode cX12_write 28 = .ok (.ireturn, 1) := by decide +kernel
theorem dX12_write_29 : decode cX12_write 29 = .ok (.iload_n 1, 1) := by decide +kernel
theorem dX12_write_30 : decode cX12_write 30 = .ok (.iconst 1, 1) := by decide +kernel
theorem dX12_write_31 : decode cX12_write 31 = .ok (.isub, 1) := by decide +kernel
theorem dX12_write_32 : decode cX12_write 32 = .ok (.istore 4, 2) := by decide +kernel
theorem dX12_write_34 : decode cX12_write 34 = .ok (.iload 4, 2) := by decide +kernel
theorem dX12_write_36 : decode cX12_write 36 = .ok (.ifCond .lt 40, 3) := by decide +kernel
theorem dX12_write_39 : decode cX12_write 39 = .ok (.aload_n 0, 1) := by decide +kernel
theorem dX12_write_40 : decode cX12_write 40 = .ok (.getfield 7, 3) := by decide +kernel
theorem dX12_write_43 : decode cX12_write 43 = .ok (.aload_n 0, 1) := by decide +kernel
theorem dX12_write_44 : decode cX12_write 44 = .ok (.getfield 84, 3) := by decide +kernel
theorem dX12_write_47 : decode cX12_write 47 = .ok (.lload_n 2, 1) := by decide +kernel
theorem dX12_write_48 : decode cX12_write 48 = .ok (.bipush 8, 2) := by decide +kernel
theorem dX12_write_50 : decode cX12_write 50 = .ok (.iload 4, 2) := by decide +kernel
theorem dX12_write_52 : decode cX12_write 52 = .ok (.imul, 1) := by decide +kernel
theorem dX12_write_53 : decode cX12_write 53 = .ok (.lshr, 1) := by decide +kernel
theorem dX12_write_54 : decode cX12_write 54 = .ok (.ldc2_w 88, 3) := by decide +kernel
theorem dX12_write_57 : decode cX12_write 57 = .ok (.land, 1) := by decide +kernel
theorem dX12_write_58 : decode cX12_write 58 = .ok (.l2i, 1) := by decide +kernel
theorem dX12_write_59 : decode cX12_write 59 = .ok (.iastore, 1) := by decide +kernel
theorem dX12_write_60 : decode cX12_write 60 = .ok (.aload_n 0, 1) := by decide +kernel
theorem dX12_write_61 : decode cX12_write 61 = .ok (.dup, 1) := by decide +kernel
theorem dX12_write_62 : decode cX12_write 62 = .ok (.getfield 84, 3) := by decide +kernel
theorem dX12_write_65 : decode cX12_write 65 = .ok (.iconst 1, 1) := by decide +kernel
theorem dX12_write_66 : decode cX12_write 66 = .ok (.iadd, 1) := by decide +kernel
theorem dX12_write_67 : decode cX12_write 67 = .ok (.putfield 84, 3) := by decide +kernel
theorem dX12_write_70 : decode cX12_write 70 = .ok (.iinc 4 (-1), 3) := by decide +kernel
theorem dX12_write_73 : decode cX12_write 73 = .ok (.goto (-39), 3) := by decide +kernel
theorem dX12_write_76 : decode cX12_write 76 = .ok (.aload_n 0, 1) := by decide +kernel
theorem dX12_write_77 : decode cX12_write 77 = .ok (.getfield 84, 3) := by decide +kernel
theorem dX12_write_80 : decode cX12_write 80 = .ok (.ireturn, 1) := by decide +kernel
theorem dX12_wipe_0 : decode cX12_wipe 0 = .ok (.aload_n 0, 1) := by decide +kernel
theorem dX12_wipe_1 : decode cX12_wipe 1 = .ok (.getfield 84, 3) := by decide +kernel
theorem dX12_wipe_4 : decode cX12_wipe 4 = .ok (.istore_n 1, 1) := by decide +kernel
theorem dX12_wipe_5 : decode cX12_wipe 5 = .ok (.aload_n 0, 1) := by decide +kernel
theorem dX12_wipe_6 : decode cX12_wipe 6 = .ok (.iconst 0, 1) := by decide +kernel
theorem dX12_wipe_7 : decode cX12_wipe 7 = .ok (.putfield 84, 3) := by decide +kernel
theorem dX12_wipe_10 : decode cX12_wipe 10 = .ok (.iload_n 1, 1) := by decide +kernel
theorem dX12_wipe_11 : decode cX12_wipe 11 = .ok (.ireturn, 1) := by decide +kernel
theorem dX12_figures_0 : decode cX12_figures 0 = .ok (.iconst 0, 1) := by decide +kernel
theorem dX12_figures_1 : decode cX12_figures 1 = .ok (.istore_n 2, 1) := by decide +kernel
theorem dX12_figures_2 : decode cX12_figures 2 = .ok (.iload_n 2, 1) := by decide +kernel
theorem dX12_figures_3 : decode cX12_figures 3 = .ok (.iload_n 1, 1) := by decide +kernel
theorem dX12_figures_4 : decode cX12_figures 4 = .ok (.if_icmp .ge 157, 3) := by decide +kernel
theorem dX12_figures_7 : decode cX12_figures 7 = .ok (.iconst 0, 1) := by decide +kernel
theorem dX12_figures_8 : decode cX12_figures 8 = .ok (.istore_n 3, 1) := by decide +kernel
theorem dX12_figures_9 : decode cX12_figures 9 = .ok (.iconst 0, 1) := by decide +kernel
theorem dX12_figures_10 : decode cX12_figures 10 = .ok (.istore 4, 2) := by decide +kernel
theorem dX12_figures_12 : decode cX12_figures 12 = .ok (.aload_n 0, 1) := by decide +kernel
theorem dX12_figures_13 : decode cX12_figures 13 = .ok (.getfield 90, 3) := by decide +kernel
theorem dX12_figures_16 : decode cX12_figures 16 = .ok (.aload_n 0, 1) := by decide +kernel
theorem dX12_figures_17 : decode cX12_figures 17 = .ok (.getfield 84, 3) := by decide +kernel
theorem dX12_figures_20 : decode cX12_figures 20 = .ok (.if_icmp .ge 66, 3) := by decide +kernel
theorem dX12_figures_23 : decode cX12_figures 23 = .ok (.aload_n 0, 1) := by decide +kernel
theorem dX12_figures_24 : decode cX12_figures 24 = .ok (.getfield 7, 3) := by decide +kernel
theorem dX12_figures_27 : decode cX12_figures 27 = .ok (.aload_n 0, 1) := by decide +kernel
theorem dX12_figures_28 : decode cX12_figures 28 = .ok (.getfield 90, 3) := by decide +kernel
theorem dX12_figures_31 : decode cX12_figures 31 = .ok (.iaload, 1) := by decide +kernel
theorem dX12_figures_32 : decode cX12_figures 32 = .ok (.i2l, 1) := by decide +kernel
theorem dX12_figures_33 : decode cX12_figures 33 = .ok (.ldc2_w 93, 3) := by decide +kernel
theorem dX12_figures_36 : decode cX12_figures 36 = .ok (.ldc2_w 95, 3) := by decide +kernel
theorem dX12_figures_39 : decode cX12_figures 39 = .ok (.invokestatic 80, 3) := by decide +kernel
theorem dX12_figures_42 : decode cX12_figures 42 = .ok (.ifCond .eq 44, 3) := by decide +kernel
theorem dX12_figures_45 : decode cX12_figures 45 = .ok (.iload_n 3, 1) := by decide +kernel
theorem dX12_figures_46 : decode cX12_figures 46 = .ok (.iconst 3, 1) := by decide +kernel
theorem dX12_figures_47 : decode cX12_figures 47 = .ok (.if_icmp .ge 39, 3) := by decide +kernel
theorem dX12_figures_50 : decode cX12_figures 50 = .ok (.bipush 10, 2) := by decide +kernel
theorem dX12_figures_52 : decode cX12_figures 52 = .ok (.iload 4, 2) := by decide +kernel
theorem dX12_figures_54 : decode cX12_figures 54 = .ok (.imul, 1) := by decide +kernel
theorem dX12_figures_55 : decode cX12_figures 55 = .ok (.aload_n 0, 1) := by decide +kernel
theorem dX12_figures_56 : decode cX12_figures 56 = .ok (.getfield 7, 3) := by decide +kernel
theorem dX12_figures_59 : decode cX12_figures 59 = .ok (.aload_n 0, 1) := by decide +kernel
theorem dX12_figures_60 : decode cX12_figures 60 = .ok (.getfield 90, 3) := by decide +kernel
theorem dX12_figures_63 : decode cX12_figures 63 = .ok (.iaload, 1) := by decide +kernel
theorem dX12_figures_64 : decode cX12_figures 64 = .ok (.iadd, 1) := by decide +kernel
theorem dX12_figures_65 : decode cX12_figures 65 = .ok (.bipush 48, 2) := by decide +kernel
theorem dX12_figures_67 : decode cX12_figures 67 = .ok (.isub, 1) := by decide +kernel
theorem dX12_figures_68 : decode cX12_figures 68 = .ok (.istore 4, 2) := by decide +kernel
theorem dX12_figures_70 : decode cX12_figures 70 = .ok (.iinc 3 1, 3) := by decide +kernel
theorem dX12_figures_73 : decode cX12_figures 73 = .ok (.aload_n 0, 1) := by decide +kernel
theorem dX12_figures_74 : decode cX12_figures 74 = .ok (.dup, 1) := by decide +kernel
theorem dX12_figures_75 : decode cX12_figures 75 = .ok (.getfield 90, 3) := by decide +kernel
theorem dX12_figures_78 : decode cX12_figures 78 = .ok (.iconst 1, 1) := by decide +kernel
theorem dX12_figures_79 : decode cX12_figures 79 = .ok (.iadd, 1) := by decide +kernel
theorem dX12_figures_80 : decode cX12_figures 80 = .ok (.putfield 90, 3) := by decide +kernel
theorem dX12_figures_83 : decode cX12_figures 83 = .ok (.goto (-71), 3) := by decide +kernel
theorem dX12_figures_86 : decode cX12_figures 86 = .ok (.iload_n 3, 1) := by decide +kernel
theorem dX12_figures_87 : decode cX12_figures 87 = .ok (.i2l, 1) := by decide +kernel
theorem dX12_figures_88 : decode cX12_figures 88 = .ok (.lconst 1, 1) := by decide +kernel
theorem dX12_figures_89 : decode cX12_figures 89 = .ok (.ldc2_w 97, 3) := by decide +kernel
theorem dX12_figures_92 : decode cX12_figures 92 = .ok (.invokestatic 80, 3) := by decide +kernel
theorem dX12_figures_95 : decode cX12_figures 95 = .ok (.ifCond .eq 40, 3) := by decide +kernel
theorem dX12_figures_98 : decode cX12_figures 98 = .ok (.aload_n 0, 1) := by decide +kernel
theorem dX12_figures_99 : decode cX12_figures 99 = .ok (.getfield 90, 3) := by decide +kernel
theorem dX12_figures_102 : decode cX12_figures 102 = .ok (.aload_n 0, 1) := by decide +kernel
theorem dX12_figures_103 : decode cX12_figures 103 = .ok (.getfield 84, 3) := by decide +kernel
theorem dX12_figures_106 : decode cX12_figures 106 = .ok (.if_icmp .eq 29, 3) := by decide +kernel
theorem dX12_figures_109 : decode cX12_figures 109 = .ok (.aload_n 0, 1) := by decide +kernel
theorem dX12_figures_110 : decode cX12_figures 110 = .ok (.getfield 7, 3) := by decide +kernel
theorem dX12_figures_113 : decode cX12_figures 113 = .ok (.aload_n 0, 1) := by decide +kernel
theorem dX12_figures_114 : decode cX12_figures 114 = .ok (.getfield 90, 3) := by decide +kernel
theorem dX12_figures_117 : decode cX12_figures 117 = .ok (.iaload, 1) := by decide +kernel
theorem dX12_figures_118 : decode cX12_figures 118 = .ok (.iload_n 2, 1) := by decide +kernel
theorem dX12_figures_119 : decode cX12_figures 119 = .ok (.iload_n 1, 1) := by decide +kernel
theorem dX12_figures_120 : decode cX12_figures 120 = .ok (.iconst 1, 1) := by decide +kernel
theorem dX12_figures_121 : decode cX12_figures 121 = .ok (.isub, 1) := by decide +kernel
theorem dX12_figures_122 : decode cX12_figures 122 = .ok (.if_icmp .ge 8, 3) := by decide +kernel
theorem dX12_figures_125 : decode cX12_figures 125 = .ok (.bipush 44, 2) := by decide +kernel
theorem dX12_figures_127 : decode cX12_figures 127 = .ok (.goto 5, 3) := by decide +kernel
theorem dX12_figures_130 : decode cX12_figures 130 = .ok (.bipush 59, 2) := by decide +kernel
theorem dX12_figures_132 : decode cX12_figures 132 = .ok (.if_icmp .eq 5, 3) := by decide +kernel
theorem dX12_figures_135 : decode cX12_figures 135 = .ok (.iconst 0, 1) := by decide +kernel
theorem dX12_figures_136 : decode cX12_figures 136 = .ok (.ireturn, 1) := by decide +kernel
theorem dX12_figures_137 : decode cX12_figures 137 = .ok (.aload_n 0, 1) := by decide +kernel
theorem dX12_figures_138 : decode cX12_figures 138 = .ok (.getfield 46, 3) := by decide +kernel
theorem dX12_figures_141 : decode cX12_figures 141 = .ok (.iload_n 2, 1) := by decide +kernel
theorem dX12_figures_142 : decode cX12_figures 142 = .ok (.iload 4, 2) := by decide +kernel
theorem dX12_figures_144 : decode cX12_figures 144 = .ok (.iastore, 1) := by decide +kernel
theorem dX12_figures_145 : decode cX12_figures 145 = .ok (.aload_n 0, 1) := by decide +kernel
theorem dX12_figures_146 : decode cX12_figures 146 = .ok (.dup, 1) := by decide +kernel
theorem dX12_figures_147 : decode cX12_figures 147 = .ok (.getfield 90, 3) := by decide +kernel
theorem dX12_figures_150 : decode cX12_figures 150 = .ok (.iconst 1, 1) := by decide +kernel
theorem dX12_figures_151 : decode cX12_figures 151 = .ok (.iadd, 1) := by decide +kernel
theorem dX12_figures_152 : decode cX12_figures 152 = .ok (.putfield 90, 3) := by decide +kernel
theorem dX12_figures_155 : decode cX12_figures 155 = .ok (.iinc 2 1, 3) := by decide +kernel
theorem dX12_figures_158 : decode cX12_figures 158 = .ok (.goto (-156), 3) := by decide +kernel
theorem dX12_figures_161 : decode cX12_figures 161 = .ok (.iconst 1, 1) := by decide +kernel
theorem dX12_figures_162 : decode cX12_figures 162 = .ok (.ireturn, 1) := by decide +kernel
theorem dX12_wordItem_0 : decode cX12_wordItem 0 = .ok (.aload_n 0, 1) := by decide +kernel
theorem dX12_wordItem_1 : decode cX12_wordItem 1 = .ok (.iconst 4, 1) := by decide +kernel
theorem dX12_wordItem_2 : decode cX12_wordItem 2 = .ok (.invokevirtual 99, 3) := by decide +kernel
theorem dX12_wordItem_5 : decode cX12_wordItem 5 = .ok (.ifCond .eq 57, 3) := by decide +kernel
theorem dX12_wordItem_8 : decode cX12_wordItem 8 = .ok (.aload_n 0, 1) := by decide +kernel
theorem dX12_wordItem_9 : decode cX12_wordItem 9 = .ok (.getfield 46, 3) := by decide +kernel
theorem dX12_wordItem_12 : decode cX12_wordItem 12 = .ok (.iconst 0, 1) := by decide +kernel
theorem dX12_wordItem_13 : decode cX12_wordItem 13 = .ok (.iaload, 1) := by decide +kernel
theorem dX12_wordItem_14 : decode cX12_wordItem 14 = .ok (.bipush 9, 2) := by decide +kernel
theorem dX12_wordItem_16 : decode cX12_wordItem 16 = .ok (.if_icmp .gt 46, 3) := by decide +kernel
theorem dX12_wordItem_19 : decode cX12_wordItem 19 = .ok (.aload_n 0, 1) := by decide +kernel
theorem dX12_wordItem_20 : decode cX12_wordItem 20 = .ok (.getfield 46, 3) := by decide +kernel
theorem dX12_wordItem_23 : decode cX12_wordItem 23 = .ok (.iconst 1, 1) := by decide +kernel
theorem dX12_wordItem_24 : decode cX12_wordItem 24 = .ok (.iaload, 1) := by decide +kernel
theorem dX12_wordItem_25 : decode cX12_wordItem 25 = .ok (.iconst 3, 1) := by decide +kernel
theorem dX12_wordItem_26 : decode cX12_wordItem 26 = .ok (.if_icmp .gt 36, 3) := by decide +kernel
theorem dX12_wordItem_29 : decode cX12_wordItem 29 = .ok (.aload_n 0, 1) := by decide +kernel
theorem dX12_wordItem_30 : decode cX12_wordItem 30 = .ok (.getfield 46, 3) := by decide +kernel
theorem dX12_wordItem_33 : decode cX12_wordItem 33 = .ok (.iconst 2, 1) := by decide +kernel
theorem dX12_wordItem_34 : decode cX12_wordItem 34 = .ok (.iaload, 1) := by decide +kernel
theorem dX12_wordItem_35 : decode cX12_wordItem 35 = .ok (.bipush 15, 2) := by decide +kernel
theorem dX12_wordItem_37 : decode cX12_wordItem 37 = .ok (.if_icmp .gt 25, 3) := by decide +kernel
theorem dX12_wordItem_40 : decode cX12_wordItem 40 = .ok (.aload_n 0, 1) := by decide +kernel
theorem dX12_wordItem_41 : decode cX12_wordItem 41 = .ok (.getfield 46, 3) := by decide +kernel
theorem dX12_wordItem_44 : decode cX12_wordItem 44 = .ok (.iconst 3, 1) := by decide +kernel
theorem dX12_wordItem_45 : decode cX12_wordItem 45 = .ok (.iaload, 1) := by decide +kernel
theorem dX12_wordItem_46 : decode cX12_wordItem 46 = .ok (.bipush 15, 2) := by decide +kernel
theorem dX12_wordItem_48 : decode cX12_wordItem 48 = .ok (.if_icmp .gt 14, 3) := by decide +kernel
theorem dX12_wordItem_51 : decode cX12_wordItem 51 = .ok (.aload_n 0, 1) := by decide +kernel
theorem dX12_wordItem_52 : decode cX12_wordItem 52 = .ok (.getfield 13, 3) := by decide +kernel
theorem dX12_wordItem_55 : decode cX12_wordItem 55 = .ok (.iconst 1, 1) := by decide +kernel
theorem dX12_wordItem_56 : decode cX12_wordItem 56 = .ok (.iaload, 1) := by decide +kernel
theorem dX12_wordItem_57 : decode cX12_wordItem 57 = .ok (.bipush 16, 2) := by decide +kernel
theorem dX12_wordItem_59 : decode cX12_wordItem 59 = .ok (.if_icmp .ne 5, 3) := by decide +kernel
theorem dX12_wordItem_62 : decode cX12_wordItem 62 = .ok (.iconst 0, 1) := by decide +kernel
theorem dX12_wordItem_63 : decode cX12_wordItem 63 = .ok (.ireturn, 1) := by decide +kernel
theorem dX12_wordItem_64 : decode cX12_wordItem 64 = .ok (.iconst 0, 1) := by decide +kernel
theorem dX12_wordItem_65 : decode cX12_wordItem 65 = .ok (.istore_n 1, 1) := by decide +kernel
theorem dX12_wordItem_66 : decode cX12_wordItem 66 = .ok (.iload_n 1, 1) := by decide +kernel
theorem dX12_wordItem_67 : decode cX12_wordItem 67 = .ok (.iconst 4, 1) := by decide +kernel
theorem dX12_wordItem_68 : decode cX12_wordItem 68 = .ok (.if_icmp .ge 33, 3) := by decide +kernel
theorem dX12_wordItem_71 : decode cX12_wordItem 71 = .ok (.aload_n 0, 1) := by decide +kernel
theorem dX12_wordItem_72 : decode cX12_wordItem 72 = .ok (.getfield 16, 3) := by decide +kernel
theorem dX12_wordItem_75 : decode cX12_wordItem 75 = .ok (.bipush 64, 2) := by decide +kernel
theorem dX12_wordItem_77 : decode cX12_wordItem 77 = .ok (.iconst 4, 1) := by decide +kernel
theorem dX12_wordItem_78 : decode cX12_wordItem 78 = .ok (.aload_n 0, 1) := by decide +kernel
theorem dX12_wordItem_79 : decode cX12_wordItem 79 = .ok (.getfield 13, 3) := by decide +kernel
theorem dX12_wordItem_82 : decode cX12_wordItem 82 = .ok (.iconst 1, 1) := by decide +kernel
theorem dX12_wordItem_83 : decode cX12_wordItem 83 = .ok (.iaload, 1) := by decide +kernel
theorem dX12_wordItem_84 : decode cX12_wordItem 84 = .ok (.imul, 1) := by decide +kernel
theorem dX12_wordItem_85 : decode cX12_wordItem 85 = .ok (.iadd, 1) := by decide +kernel
theorem dX12_wordItem_86 : decode cX12_wordItem 86 = .ok (.iload_n 1, 1) := by decide +kernel
theorem dX12_wordItem_87 : decode cX12_wordItem 87 = .ok (.iadd, 1) := by decide +kernel
theorem dX12_wordItem_88 : decode cX12_wordItem 88 = .ok (.aload_n 0, 1) := by decide +kernel
theorem dX12_wordItem_89 : decode cX12_wordItem 89 = .ok (.getfield 46, 3) := by decide +kernel
theorem dX12_wordItem_92 : decode cX12_wordItem 92 = .ok (.iload_n 1, 1) := by decide +kernel
theorem dX12_wordItem_93 : decode cX12_wordItem 93 = .ok (.iaload, 1) := by decide +kernel
theorem dX12_wordItem_94 : decode cX12_wordItem 94 = .ok (.iastore, 1) := by decide +kernel
theorem dX12_wordItem_95 : decode cX12_wordItem 95 = .ok (.iinc 1 1, 3) := by decide +kernel
theorem dX12_wordItem_98 : decode cX12_wordItem 98 = .ok (.goto (-32), 3) := by decide +kernel
theorem dX12_wordItem_101 : decode cX12_wordItem 101 = .ok (.aload_n 0, 1) := by decide +kernel
theorem dX12_wordItem_102 : decode cX12_wordItem 102 = .ok (.getfield 13, 3) := by decide +kernel
theorem dX12_wordItem_105 : decode cX12_wordItem 105 = .ok (.iconst 1, 1) := by decide +kernel
theorem dX12_wordItem_106 : decode cX12_wordItem 106 = .ok (.dup2, 1) := by decide +kernel
theorem dX12_wordItem_107 : decode cX12_wordItem 107 = .ok (.iaload, 1) := by decide +kernel
theorem dX12_wordItem_108 : decode cX12_wordItem 108 = .ok (.iconst 1, 1) := by decide +kernel
theorem dX12_wordItem_109 : decode cX12_wordItem 109 = .ok (.iadd, 1) := by decide +kernel
theorem dX12_wordItem_110 : decode cX12_wordItem 110 = .ok (.iastore, 1) := by decide +kernel
theorem dX12_wordItem_111 : decode cX12_wordItem 111 = .ok (.iconst 1, 1) := by decide +kernel
theorem dX12_wordItem_112 : decode cX12_wordItem 112 = .ok (.ireturn, 1) := by decide +kernel
theorem dX12_ruleItem_0 : decode cX12_ruleItem 0 = .ok (.aload_n 0, 1) := by decide +kernel
theorem dX12_ruleItem_1 : decode cX12_ruleItem 1 = .ok (.iconst 5, 1) := by decide +kernel
theorem dX12_ruleItem_2 : decode cX12_ruleItem 2 = .ok (.invokevirtual 99, 3) := by decide +kernel
theorem dX12_ruleItem_5 : decode cX12_ruleItem 5 = .ok (.ifCond .eq 67, 3) := by decide +kernel
theorem dX12_ruleItem_8 : decode cX12_ruleItem 8 = .ok (.aload_n 0, 1) := by decide +kernel
theorem dX12_ruleItem_9 : decode cX12_ruleItem 9 = .ok (.getfield 46, 3) := by decide +kernel
theorem dX12_ruleItem_12 : decode cX12_ruleItem 12 = .ok (.iconst 0, 1) := by decide +kernel
theorem dX12_ruleItem_13 : decode cX12_ruleItem 13 = .ok (.iaload, 1) := by decide +kernel
theorem dX12_ruleItem_14 : decode cX12_ruleItem 14 = .ok (.bipush 9, 2) := by decide +kernel
theorem dX12_ruleItem_16 : decode cX12_ruleItem 16 = .ok (.if_icmp .gt 56, 3) := by decide +kernel
theorem dX12_ruleItem_19 : decode cX12_ruleItem 19 = .ok (.aload_n 0, 1) := by decide +kernel
theorem dX12_ruleItem_20 : decode cX12_ruleItem 20 = .ok (.getfield 46, 3) := by decide +kernel
theorem dX12_ruleItem_23 : decode cX12_ruleItem 23 = .ok (.iconst 1, 1) := by decide +kernel
theorem dX12_ruleItem_24 : decode cX12_ruleItem 24 = .ok (.iaload, 1) := by decide +kernel
theorem dX12_ruleItem_25 : decode cX12_ruleItem 25 = .ok (.bipush 9, 2) := by decide +kernel
theorem dX12_ruleItem_27 : decode cX12_ruleItem 27 = .ok (.if_icmp .gt 45, 3) := by decide +kernel
theorem dX12_ruleItem_30 : decode cX12_ruleItem 30 = .ok (.aload_n 0, 1) := by decide +kernel
theorem dX12_ruleItem_31 : decode cX12_ruleItem 31 = .ok (.getfield 46, 3) := by decide +kernel
theorem dX12_ruleItem_34 : decode cX12_ruleItem 34 = .ok (.iconst 2, 1) := by decide +kernel
theorem dX12_ruleItem_35 : decode cX12_ruleItem 35 = .ok (.iaload, 1) := by decide +kernel
theorem dX12_ruleItem_36 : decode cX12_ruleItem 36 = .ok (.bipush 9, 2) := by decide +kernel
theorem dX12_ruleItem_38 : decode cX12_ruleItem 38 = .ok (.if_icmp .gt 34, 3) := by decide +kernel
theorem dX12_ruleItem_41 : decode cX12_ruleItem 41 = .ok (.aload_n 0, 1) := by decide +kernel
theorem dX12_ruleItem_42 : decode cX12_ruleItem 42 = .ok (.getfield 46, 3) := by decide +kernel
theorem dX12_ruleItem_45 : decode cX12_ruleItem 45 = .ok (.iconst 3, 1) := by decide +kernel
theorem dX12_ruleItem_46 : decode cX12_ruleItem 46 = .ok (.iaload, 1) := by decide +kernel
theorem dX12_ruleItem_47 : decode cX12_ruleItem 47 = .ok (.iconst 1, 1) := by decide +kernel
theorem dX12_ruleItem_48 : decode cX12_ruleItem 48 = .ok (.if_icmp .gt 24, 3) := by decide +kernel
theorem dX12_ruleItem_51 : decode cX12_ruleItem 51 = .ok (.aload_n 0, 1) := by decide +kernel
theorem dX12_ruleItem_52 : decode cX12_ruleItem 52 = .ok (.getfield 46, 3) := by decide +kernel
theorem dX12_ruleItem_55 : decode cX12_ruleItem 55 = .ok (.iconst 4, 1) := by decide +kernel
theorem dX12_ruleItem_56 : decode cX12_ruleItem 56 = .ok (.iaload, 1) := by decide +kernel
theorem dX12_ruleItem_57 : decode cX12_ruleItem 57 = .ok (.iconst 1, 1) := by decide +kernel
theorem dX12_ruleItem_58 : decode cX12_ruleItem 58 = .ok (.if_icmp .gt 14, 3) := by decide +kernel
theorem dX12_ruleItem_61 : decode cX12_ruleItem 61 = .ok (.aload_n 0, 1) := by decide +kernel
theorem dX12_ruleItem_62 : decode cX12_ruleItem 62 = .ok (.getfield 19, 3) := by decide +kernel
theorem dX12_ruleItem_65 : decode cX12_ruleItem 65 = .ok (.iconst 1, 1) := by decide +kernel
theorem dX12_ruleItem_66 : decode cX12_ruleItem 66 = .ok (.iaload, 1) := by decide +kernel
theorem dX12_ruleItem_67 : decode cX12_ruleItem 67 = .ok (.bipush 24, 2) := by decide +kernel
theorem dX12_ruleItem_69 : decode cX12_ruleItem 69 = .ok (.if_icmp .ne 5, 3) := by decide +kernel
theorem dX12_ruleItem_72 : decode cX12_ruleItem 72 = .ok (.iconst 0, 1) := by decide +kernel
theorem dX12_ruleItem_73 : decode cX12_ruleItem 73 = .ok (.ireturn, 1) := by decide +kernel
theorem dX12_ruleItem_74 : decode cX12_ruleItem 74 = .ok (.iconst 0, 1) := by decide +kernel
theorem dX12_ruleItem_75 : decode cX12_ruleItem 75 = .ok (.istore_n 1, 1) := by decide +kernel
theorem dX12_ruleItem_76 : decode cX12_ruleItem 76 = .ok (.iload_n 1, 1) := by decide +kernel
theorem dX12_ruleItem_77 : decode cX12_ruleItem 77 = .ok (.iconst 5, 1) := by decide +kernel
theorem dX12_ruleItem_78 : decode cX12_ruleItem 78 = .ok (.if_icmp .ge 33, 3) := by decide +kernel
theorem dX12_ruleItem_81 : decode cX12_ruleItem 81 = .ok (.aload_n 0, 1) := by decide +kernel
theorem dX12_ruleItem_82 : decode cX12_ruleItem 82 = .ok (.getfield 22, 3) := by decide +kernel
theorem dX12_ruleItem_85 : decode cX12_ruleItem 85 = .ok (.bipush 120, 2) := by decide +kernel
theorem dX12_ruleItem_87 : decode cX12_ruleItem 87 = .ok (.iconst 5, 1) := by decide +kernel
theorem dX12_ruleItem_88 : decode cX12_ruleItem 88 = .ok (.aload_n 0, 1) := by decide +kernel
theorem dX12_ruleItem_89 : decode cX12_ruleItem 89 = .ok (.getfield 19, 3) := by decide +kernel
theorem dX12_ruleItem_92 : decode cX12_ruleItem 92 = .ok (.iconst 1, 1) := by decide +kernel
theorem dX12_ruleItem_93 : decode cX12_ruleItem 93 = .ok (.iaload, 1) := by decide +kernel
theorem dX12_ruleItem_94 : decode cX12_ruleItem 94 = .ok (.imul, 1) := by decide +kernel
theorem dX12_ruleItem_95 : decode cX12_ruleItem 95 = .ok (.iadd, 1) := by decide +kernel
theorem dX12_ruleItem_96 : decode cX12_ruleItem 96 = .ok (.iload_n 1, 1) := by decide +kernel
theorem dX12_ruleItem_97 : decode cX12_ruleItem 97 = .ok (.iadd, 1) := by decide +kernel
theorem dX12_ruleItem_98 : decode cX12_ruleItem 98 = .ok (.aload_n 0, 1) := by decide +kernel
theorem dX12_ruleItem_99 : decode cX12_ruleItem 99 = .ok (.getfield 46, 3) := by decide +kernel
theorem dX12_ruleItem_102 : decode cX12_ruleItem 102 = .ok (.iload_n 1, 1) := by decide +kernel
theorem dX12_ruleItem_103 : decode cX12_ruleItem 103 = .ok (.iaload, 1) := by decide +kernel
theorem dX12_ruleItem_104 : decode cX12_ruleItem 104 = .ok (.iastore, 1) := by decide +kernel
theorem dX12_ruleItem_105 : decode cX12_ruleItem 105 = .ok (.iinc 1 1, 3) := by decide +kernel
theorem dX12_ruleItem_108 : decode cX12_ruleItem 108 = .ok (.goto (-32), 3) := by decide +kernel
theorem dX12_ruleItem_111 : decode cX12_ruleItem 111 = .ok (.aload_n 0, 1) := by decide +kernel
theorem dX12_ruleItem_112 : decode cX12_ruleItem 112 = .ok (.getfield 19, 3) := by decide +kernel
theorem dX12_ruleItem_115 : decode cX12_ruleItem 115 = .ok (.iconst 1, 1) := by decide +kernel
theorem dX12_ruleItem_116 : decode cX12_ruleItem 116 = .ok (.dup2, 1) := by decide +kernel
theorem dX12_ruleItem_117 : decode cX12_ruleItem 117 = .ok (.iaload, 1) := by decide +kernel
theorem dX12_ruleItem_118 : decode cX12_ruleItem 118 = .ok (.iconst 1, 1) := by decide +kernel
theorem dX12_ruleItem_119 : decode cX12_ruleItem 119 = .ok (.iadd, 1) := by decide +kernel
theorem dX12_ruleItem_120 : decode cX12_ruleItem 120 = .ok (.iastore, 1) := by decide +kernel
theorem dX12_ruleItem_121 : decode cX12_ruleItem 121 = .ok (.iconst 1, 1) := by decide +kernel
theorem dX12_ruleItem_122 : decode cX12_ruleItem 122 = .ok (.ireturn, 1) := by decide +kernel
theorem dX12_priceItem_0 : decode cX12_priceItem 0 = .ok (.aload_n 0, 1) := by decide +kernel
theorem dX12_priceItem_1 : decode cX12_priceItem 1 = .ok (.iconst 2, 1) := by decide +kernel
theorem dX12_priceItem_2 : decode cX12_priceItem 2 = .ok (.invokevirtual 99, 3) := by decide +kernel
theorem dX12_priceItem_5 : decode cX12_priceItem 5 = .ok (.ifCond .eq 13, 3) := by decide +kernel
theorem dX12_priceItem_8 : decode cX12_priceItem 8 = .ok (.aload_n 0, 1) := by decide +kernel
theorem dX12_priceItem_9 : decode cX12_priceItem 9 = .ok (.getfield 46, 3) := by decide +kernel
theorem dX12_priceItem_12 : decode cX12_priceItem 12 = .ok (.iconst 0, 1) := by decide +kernel
theorem dX12_priceItem_13 : decode cX12_priceItem 13 = .ok (.iaload, 1) := by decide +kernel
theorem dX12_priceItem_14 : decode cX12_priceItem 14 = .ok (.iconst 4, 1) := by decide +kernel
theorem dX12_priceItem_15 : decode cX12_priceItem 15 = .ok (.if_icmp .le 5, 3) := by decide +kernel
theorem dX12_priceItem_18 : decode cX12_priceItem 18 = .ok (.iconst 0, 1) := by decide +kernel
theorem dX12_priceItem_19 : decode cX12_priceItem 19 = .ok (.ireturn, 1) := by decide +kernel
theorem dX12_priceItem_20 : decode cX12_priceItem 20 = .ok (.aload_n 0, 1) := by decide +kernel
theorem dX12_priceItem_21 : decode cX12_priceItem 21 = .ok (.getfield 25, 3) := by decide +kernel
theorem dX12_priceItem_24 : decode cX12_priceItem 24 = .ok (.iconst 5, 1) := by decide +kernel
theorem dX12_priceItem_25 : decode cX12_priceItem 25 = .ok (.aload_n 0, 1) := by decide +kernel
theorem dX12_priceItem_26 : decode cX12_priceItem 26 = .ok (.getfield 46, 3) := by decide +kernel
theorem dX12_priceItem_29 : decode cX12_priceItem 29 = .ok (.iconst 0, 1) := by decide +kernel
theorem dX12_priceItem_30 : decode cX12_priceItem 30 = .ok (.iaload, 1) := by decide +kernel
theorem dX12_priceItem_31 : decode cX12_priceItem 31 = .ok (.iadd, 1) := by decide +kernel
theorem dX12_priceItem_32 : decode cX12_priceItem 32 = .ok (.aload_n 0, 1) := by decide +kernel
theorem dX12_priceItem_33 : decode cX12_priceItem 33 = .ok (.getfield 46, 3) := by decide +kernel
theorem dX12_priceItem_36 : decode cX12_priceItem 36 = .ok (.iconst 1, 1) := by decide +kernel
theorem dX12_priceItem_37 : decode cX12_priceItem 37 = .ok (.iaload, 1) := by decide +kernel
theorem dX12_priceItem_38 : decode cX12_priceItem 38 = .ok (.iastore, 1) := by decide +kernel
theorem dX12_priceItem_39 : decode cX12_priceItem 39 = .ok (.iconst 1, 1) := by decide +kernel
theorem dX12_priceItem_40 : decode cX12_priceItem 40 = .ok (.ireturn, 1) := by decide +kernel
theorem dX12_readAll_0 : decode cX12_readAll 0 = .ok (.aload_n 0, 1) := by decide +kernel
theorem dX12_readAll_1 : decode cX12_readAll 1 = .ok (.getfield 13, 3) := by decide +kernel
theorem dX12_readAll_4 : decode cX12_readAll 4 = .ok (.iconst 1, 1) := by decide +kernel
theorem dX12_readAll_5 : decode cX12_readAll 5 = .ok (.iconst 0, 1) := by decide +kernel
theorem dX12_readAll_6 : decode cX12_readAll 6 = .ok (.iastore, 1) := by decide +kernel
theorem dX12_readAll_7 : decode cX12_readAll 7 = .ok (.aload_n 0, 1) := by decide +kernel
theorem dX12_readAll_8 : decode cX12_readAll 8 = .ok (.getfield 19, 3) := by decide +kernel
theorem dX12_readAll_11 : decode cX12_readAll 11 = .ok (.iconst 1, 1) := by decide +kernel
theorem dX12_readAll_12 : decode cX12_readAll 12 = .ok (.iconst 0, 1) := by decide +kernel
theorem dX12_readAll_13 : decode cX12_readAll 13 = .ok (.iastore, 1) := by decide +kernel
theorem dX12_readAll_14 : decode cX12_readAll 14 = .ok (.aload_n 0, 1) := by decide +kernel
theorem dX12_readAll_15 : decode cX12_readAll 15 = .ok (.iconst 1, 1) := by decide +kernel
theorem dX12_readAll_16 : decode cX12_readAll 16 = .ok (.invokevirtual 74, 3) := by decide +kernel
theorem dX12_readAll_19 : decode cX12_readAll 19 = .ok (.aload_n 0, 1) := by decide +kernel
theorem dX12_readAll_20 : decode cX12_readAll 20 = .ok (.iconst 0, 1) := by decide +kernel
theorem dX12_readAll_21 : decode cX12_readAll 21 = .ok (.putfield 90, 3) := by decide +kernel
theorem dX12_readAll_24 : decode cX12_readAll 24 = .ok (.aload_n 0, 1) := by decide +kernel
theorem dX12_readAll_25 : decode cX12_readAll 25 = .ok (.getfield 90, 3) := by decide +kernel
theorem dX12_readAll_28 : decode cX12_readAll 28 = .ok (.aload_n 0, 1) := by decide +kernel
theorem dX12_readAll_29 : decode cX12_readAll 29 = .ok (.getfield 84, 3) := by decide +kernel
theorem dX12_readAll_32 : decode cX12_readAll 32 = .ok (.if_icmp .ge 82, 3) := by decide +kernel
theorem dX12_readAll_35 : decode cX12_readAll 35 = .ok (.aload_n 0, 1) := by decide +kernel
theorem dX12_readAll_36 : decode cX12_readAll 36 = .ok (.getfield 90, 3) := by decide +kernel
theorem dX12_readAll_39 : decode cX12_readAll 39 = .ok (.istore_n 1, 1) := by decide +kernel
theorem dX12_readAll_40 : decode cX12_readAll 40 = .ok (.aload_n 0, 1) := by decide +kernel
theorem dX12_readAll_41 : decode cX12_readAll 41 = .ok (.getfield 7, 3) := by decide +kernel
theorem dX12_readAll_44 : decode cX12_readAll 44 = .ok (.aload_n 0, 1) := by decide +kernel
theorem dX12_readAll_45 : decode cX12_readAll 45 = .ok (.getfield 90, 3) := by decide +kernel
theorem dX12_readAll_48 : decode cX12_readAll 48 = .ok (.iaload, 1) := by decide +kernel
theorem dX12_readAll_49 : decode cX12_readAll 49 = .ok (.istore_n 2, 1) := by decide +kernel
theorem dX12_readAll_50 : decode cX12_readAll 50 = .ok (.aload_n 0, 1) := by decide +kernel
theorem dX12_readAll_51 : decode cX12_readAll 51 = .ok (.dup, 1) := by decide +kernel
theorem dX12_readAll_52 : decode cX12_readAll 52 = .ok (.getfield 90, 3) := by decide +kernel
theorem dX12_readAll_55 : decode cX12_readAll 55 = .ok (.iconst 1, 1) := by decide +kernel
theorem dX12_readAll_56 : decode cX12_readAll 56 = .ok (.iadd, 1) := by decide +kernel
theorem dX12_readAll_57 : decode cX12_readAll 57 = .ok (.putfield 90, 3) := by decide +kernel
theorem dX12_readAll_60 : decode cX12_readAll 60 = .ok (.iload_n 2, 1) := by decide +kernel
theorem dX12_readAll_61 : decode cX12_readAll 61 = .ok (.bipush 119, 2) := by decide +kernel
theorem dX12_readAll_63 : decode cX12_readAll 63 = .ok (.if_icmp .ne 10, 3) := by decide +kernel
theorem dX12_readAll_66 : decode cX12_readAll 66 = .ok (.aload_n 0, 1) := by decide +kernel
theorem dX12_readAll_67 : decode cX12_readAll 67 = .ok (.invokevirtual 103, 3) := by decide +kernel
theorem dX12_readAll_70 : decode cX12_readAll 70 = .ok (.goto 34, 3) := by decide +kernel
theorem dX12_readAll_73 : decode cX12_readAll 73 = .ok (.iload_n 2, 1) := by decide +kernel
theorem dX12_readAll_74 : decode cX12_readAll 74 = .ok (.bipush 114, 2) := by decide +kernel
theorem dX12_readAll_76 : decode cX12_readAll 76 = .ok (.if_icmp .ne 10, 3) := by decide +kernel
theorem dX12_readAll_79 : decode cX12_readAll 79 = .ok (.aload_n 0, 1) := by decide +kernel
theorem dX12_readAll_80 : decode cX12_readAll 80 = .ok (.invokevirtual 107, 3) := by decide +kernel
theorem dX12_readAll_83 : decode cX12_readAll 83 = .ok (.goto 21, 3) := by decide +kernel
theorem dX12_readAll_86 : decode cX12_readAll 86 = .ok (.iload_n 2, 1) := by decide +kernel
theorem dX12_readAll_87 : decode cX12_readAll 87 = .ok (.bipush 112, 2) := by decide +kernel
theorem dX12_readAll_89 : decode cX12_readAll 89 = .ok (.if_icmp .ne 14, 3) := by decide +kernel
theorem dX12_readAll_92 : decode cX12_readAll 92 = .ok (.aload_n 0, 1) := by decide +kernel
theorem dX12_readAll_93 : decode cX12_readAll 93 = .ok (.invokevirtual 110, 3) := by decide +kernel
theorem dX12_readAll_96 : decode cX12_readAll 96 = .ok (.ifCond .eq 7, 3) := by decide +kernel
theorem dX12_readAll_99 : decode cX12_readAll 99 = .ok (.iconst 1, 1) := by decide +kernel
theorem dX12_readAll_100 : decode cX12_readAll 100 = .ok (.goto 4, 3) := by decide +kernel
theorem dX12_readAll_103 : decode cX12_readAll 103 = .ok (.iconst 0, 1) := by decide +kernel
theorem dX12_readAll_104 : decode cX12_readAll 104 = .ok (.istore_n 3, 1) := by decide +kernel
theorem dX12_readAll_105 : decode cX12_readAll 105 = .ok (.iload_n 3, 1) := by decide +kernel
theorem dX12_readAll_106 : decode cX12_readAll 106 = .ok (.ifCond .ne 5, 3) := by decide +kernel
theorem dX12_readAll_109 : decode cX12_readAll 109 = .ok (.iload_n 1, 1) := by decide +kernel
theorem dX12_readAll_110 : decode cX12_readAll 110 = .ok (.ireturn, 1) := by decide +kernel
theorem dX12_readAll_111 : decode cX12_readAll 111 = .ok (.goto (-87), 3) := by decide +kernel
theorem dX12_readAll_114 : decode cX12_readAll 114 = .ok (.bipush (-4), 2) := by decide +kernel
theorem dX12_readAll_116 : decode cX12_readAll 116 = .ok (.ireturn, 1) := by decide +kernel
theorem dX12_fault_0 : decode cX12_fault 0 = .ok (.aload_n 0, 1) := by decide +kernel
theorem dX12_fault_1 : decode cX12_fault 1 = .ok (.invokevirtual 113, 3) := by decide +kernel
theorem dX12_fault_4 : decode cX12_fault 4 = .ok (.ireturn, 1) := by decide +kernel
theorem dX12_lay_0 : decode cX12_lay 0 = .ok (.aload_n 0, 1) := by decide +kernel
theorem dX12_lay_1 : decode cX12_lay 1 = .ok (.invokevirtual 113, 3) := by decide +kernel
theorem dX12_lay_4 : decode cX12_lay 4 = .ok (.bipush (-4), 2) := by decide +kernel
theorem dX12_lay_6 : decode cX12_lay 6 = .ok (.if_icmp .eq 6, 3) := by decide +kernel
theorem dX12_lay_9 : decode cX12_lay 9 = .ok (.bipush (-2), 2) := by decide +kernel
theorem dX12_lay_11 : decode cX12_lay 11 = .ok (.ireturn, 1) := by decide +kernel
theorem dX12_lay_12 : decode cX12_lay 12 = .ok (.aload_n 0, 1) := by decide +kernel
theorem dX12_lay_13 : decode cX12_lay 13 = .ok (.getfield 13, 3) := by decide +kernel
theorem dX12_lay_16 : decode cX12_lay 16 = .ok (.iconst 0, 1) := by decide +kernel
theorem dX12_lay_17 : decode cX12_lay 17 = .ok (.aload_n 0, 1) := by decide +kernel
theorem dX12_lay_18 : decode cX12_lay 18 = .ok (.getfield 13, 3) := by decide +kernel
theorem dX12_lay_21 : decode cX12_lay 21 = .ok (.iconst 1, 1) := by decide +kernel
theorem dX12_lay_22 : decode cX12_lay 22 = .ok (.iaload, 1) := by decide +kernel
theorem dX12_lay_23 : decode cX12_lay 23 = .ok (.iastore, 1) := by decide +kernel
theorem dX12_lay_24 : decode cX12_lay 24 = .ok (.aload_n 0, 1) := by decide +kernel
theorem dX12_lay_25 : decode cX12_lay 25 = .ok (.getfield 19, 3) := by decide +kernel
theorem dX12_lay_28 : decode cX12_lay 28 = .ok (.iconst 0, 1) := by decide +kernel
theorem dX12_lay_29 : decode cX12_lay 29 = .ok (.aload_n 0, 1) := by decide +kernel
theorem dX12_lay_30 : decode cX12_lay 30 = .ok (.getfield 19, 3) := by decide +kernel
theorem dX12_lay_33 : decode cX12_lay 33 = .ok (.iconst 1, 1) := by decide +kernel
theorem dX12_lay_34 : decode cX12_lay 34 = .ok (.iaload, 1) := by decide +kernel
theorem dX12_lay_35 : decode cX12_lay 35 = .ok (.iastore, 1) := by decide +kernel
theorem dX12_lay_36 : decode cX12_lay 36 = .ok (.iconst 0, 1) := by decide +kernel
theorem dX12_lay_37 : decode cX12_lay 37 = .ok (.istore_n 1, 1) := by decide +kernel
theorem dX12_lay_38 : decode cX12_lay 38 = .ok (.iload_n 1, 1) := by decide +kernel
theorem dX12_lay_39 : decode cX12_lay 39 = .ok (.bipush 64, 2) := by decide +kernel
theorem dX12_lay_41 : decode cX12_lay 41 = .ok (.if_icmp .ge 24, 3) := by decide +kernel
theorem dX12_lay_44 : decode cX12_lay 44 = .ok (.aload_n 0, 1) := by decide +kernel
theorem dX12_lay_45 : decode cX12_lay 45 = .ok (.getfield 16, 3) := by decide +kernel
theorem dX12_lay_48 : decode cX12_lay 48 = .ok (.iload_n 1, 1) := by decide +kernel
theorem dX12_lay_49 : decode cX12_lay 49 = .ok (.aload_n 0, 1) := by decide +kernel
theorem dX12_lay_50 : decode cX12_lay 50 = .ok (.getfield 16, 3) := by decide +kernel
theorem dX12_lay_53 : decode cX12_lay 53 = .ok (.bipush 64, 2) := by decide +kernel
theorem dX12_lay_55 : decode cX12_lay 55 = .ok (.iload_n 1, 1) := by decide +kernel
theorem dX12_lay_56 : decode cX12_lay 56 = .ok (.iadd, 1) := by decide +kernel
theorem dX12_lay_57 : decode cX12_lay 57 = .ok (.iaload, 1) := by decide +kernel
theorem dX12_lay_58 : decode cX12_lay 58 = .ok (.iastore, 1) := by decide +kernel
theorem dX12_lay_59 : decode cX12_lay 59 = .ok (.iinc 1 1, 3) := by decide +kernel
theorem dX12_lay_62 : decode cX12_lay 62 = .ok (.goto (-24), 3) := by decide +kernel
theorem dX12_lay_65 : decode cX12_lay 65 = .ok (.iconst 0, 1) := by decide +kernel
theorem dX12_lay_66 : decode cX12_lay 66 = .ok (.istore_n 1, 1) := by decide +kernel
theorem dX12_lay_67 : decode cX12_lay 67 = .ok (.iload_n 1, 1) := by decide +kernel
theorem dX12_lay_68 : decode cX12_lay 68 = .ok (.bipush 120, 2) := by decide +kernel
theorem dX12_lay_70 : decode cX12_lay 70 = .ok (.if_icmp .ge 24, 3) := by decide +kernel
theorem dX12_lay_73 : decode cX12_lay 73 = .ok (.aload_n 0, 1) := by decide +kernel
theorem dX12_lay_74 : decode cX12_lay 74 = .ok (.getfield 22, 3) := by decide +kernel
theorem dX12_lay_77 : decode cX12_lay 77 = .ok (.iload_n 1, 1) := by decide +kernel
theorem dX12_lay_78 : decode cX12_lay 78 = .ok (.aload_n 0, 1) := by decide +kernel
theorem dX12_lay_79 : decode cX12_lay 79 = .ok (.getfield 22, 3) := by decide +kernel
theorem dX12_lay_82 : decode cX12_lay 82 = .ok (.bipush 120, 2) := by decide +kernel
theorem dX12_lay_84 : decode cX12_lay 84 = .ok (.iload_n 1, 1) := by decide +kernel
theorem dX12_lay_85 : decode cX12_lay 85 = .ok (.iadd, 1) := by decide +kernel
theorem dX12_lay_86 : decode cX12_lay 86 = .ok (.iaload, 1) := by decide +kernel
theorem dX12_lay_87 : decode cX12_lay 87 = .ok (.iastore, 1) := by decide +kernel
theorem dX12_lay_88 : decode cX12_lay 88 = .ok (.iinc 1 1, 3) := by decide +kernel
theorem dX12_lay_91 : decode cX12_lay 91 = .ok (.goto (-24), 3) := by decide +kernel
theorem dX12_lay_94 : decode cX12_lay 94 = .ok (.iconst 0, 1) := by decide +kernel
theorem dX12_lay_95 : decode cX12_lay 95 = .ok (.istore_n 1, 1) := by decide +kernel
theorem dX12_lay_96 : decode cX12_lay 96 = .ok (.iload_n 1, 1) := by decide +kernel
theorem dX12_lay_97 : decode cX12_lay 97 = .ok (.iconst 5, 1) := by decide +kernel
theorem dX12_lay_98 : decode cX12_lay 98 = .ok (.if_icmp .ge 23, 3) := by decide +kernel
theorem dX12_lay_101 : decode cX12_lay 101 = .ok (.aload_n 0, 1) := by decide +kernel
theorem dX12_lay_102 : decode cX12_lay 102 = .ok (.getfield 25, 3) := by decide +kernel
theorem dX12_lay_105 : decode cX12_lay 105 = .ok (.iload_n 1, 1) := by decide +kernel
theorem dX12_lay_106 : decode cX12_lay 106 = .ok (.aload_n 0, 1) := by decide +kernel
theorem dX12_lay_107 : decode cX12_lay 107 = .ok (.getfield 25, 3) := by decide +kernel
theorem dX12_lay_110 : decode cX12_lay 110 = .ok (.iconst 5, 1) := by decide +kernel
theorem dX12_lay_111 : decode cX12_lay 111 = .ok (.iload_n 1, 1) := by decide +kernel
theorem dX12_lay_112 : decode cX12_lay 112 = .ok (.iadd, 1) := by decide +kernel
theorem dX12_lay_113 : decode cX12_lay 113 = .ok (.iaload, 1) := by decide +kernel
theorem dX12_lay_114 : decode cX12_lay 114 = .ok (.iastore, 1) := by decide +kernel
theorem dX12_lay_115 : decode cX12_lay 115 = .ok (.iinc 1 1, 3) := by decide +kernel
theorem dX12_lay_118 : decode cX12_lay 118 = .ok (.goto (-22), 3) := by decide +kernel
theorem dX12_lay_121 : decode cX12_lay 121 = .ok (.iconst 0, 1) := by decide +kernel
theorem dX12_lay_122 : decode cX12_lay 122 = .ok (.istore_n 1, 1) := by decide +kernel
theorem dX12_lay_123 : decode cX12_lay 123 = .ok (.iload_n 1, 1) := by decide +kernel
theorem dX12_lay_124 : decode cX12_lay 124 = .ok (.bipush 8, 2) := by decide +kernel
theorem dX12_lay_126 : decode cX12_lay 126 = .ok (.if_icmp .ge 23, 3) := by decide +kernel
theorem dX12_lay_129 : decode cX12_lay 129 = .ok (.aload_n 0, 1) := by decide +kernel
theorem dX12_lay_130 : decode cX12_lay 130 = .ok (.getfield 28, 3) := by decide +kernel
theorem dX12_lay_133 : decode cX12_lay 133 = .ok (.iload_n 1, 1) := by decide +kernel
theorem dX12_lay_134 : decode cX12_lay 134 = .ok (.iconst 0, 1) := by decide +kernel
theorem dX12_lay_135 : decode cX12_lay 135 = .ok (.iastore, 1) := by decide +kernel
theorem dX12_lay_136 : decode cX12_lay 136 = .ok (.aload_n 0, 1) := by decide +kernel
theorem dX12_lay_137 : decode cX12_lay 137 = .ok (.getfield 34, 3) := by decide +kernel
theorem dX12_lay_140 : decode cX12_lay 140 = .ok (.iload_n 1, 1) := by decide +kernel
theorem dX12_lay_141 : decode cX12_lay 141 = .ok (.iconst 0, 1) := by decide +kernel
theorem dX12_lay_142 : decode cX12_lay 142 = .ok (.iastore, 1) := by decide +kernel
theorem dX12_lay_143 : decode cX12_lay 143 = .ok (.iinc 1 1, 3) := by decide +kernel
theorem dX12_lay_146 : decode cX12_lay 146 = .ok (.goto (-23), 3) := by decide +kernel
theorem dX12_lay_149 : decode cX12_lay 149 = .ok (.aload_n 0, 1) := by decide +kernel
theorem dX12_lay_150 : decode cX12_lay 150 = .ok (.iconst 0, 1) := by decide +kernel
theorem dX12_lay_151 : decode cX12_lay 151 = .ok (.putfield 117, 3) := by decide +kernel
theorem dX12_lay_154 : decode cX12_lay 154 = .ok (.aload_n 0, 1) := by decide +kernel
theorem dX12_lay_155 : decode cX12_lay 155 = .ok (.iconst 0, 1) := by decide +kernel
theorem dX12_lay_156 : decode cX12_lay 156 = .ok (.putfield 120, 3) := by decide +kernel
theorem dX12_lay_159 : decode cX12_lay 159 = .ok (.aload_n 0, 1) := by decide +kernel
theorem dX12_lay_160 : decode cX12_lay 160 = .ok (.getfield 13, 3) := by decide +kernel
theorem dX12_lay_163 : decode cX12_lay 163 = .ok (.iconst 0, 1) := by decide +kernel
theorem dX12_lay_164 : decode cX12_lay 164 = .ok (.iaload, 1) := by decide +kernel
theorem dX12_lay_165 : decode cX12_lay 165 = .ok (.ireturn, 1) := by decide +kernel
theorem dX12_fitted_0 : decode cX12_fitted 0 = .ok (.aload_n 0, 1) := by decide +kernel
theorem dX12_fitted_1 : decode cX12_fitted 1 = .ok (.getfield 120, 3) := by decide +kernel
theorem dX12_fitted_4 : decode cX12_fitted 4 = .ok (.ifCond .ne 10, 3) := by decide +kernel
theorem dX12_fitted_7 : decode cX12_fitted 7 = .ok (.aload_n 0, 1) := by decide +kernel
theorem dX12_fitted_8 : decode cX12_fitted 8 = .ok (.getfield 25, 3) := by decide +kernel
theorem dX12_fitted_11 : decode cX12_fitted 11 = .ok (.iload_n 1, 1) := by decide +kernel
theorem dX12_fitted_12 : decode cX12_fitted 12 = .ok (.iaload, 1) := by decide +kernel
theorem dX12_fitted_13 : decode cX12_fitted 13 = .ok (.ireturn, 1) := by decide +kernel
theorem dX12_fitted_14 : decode cX12_fitted 14 = .ok (.iconst 0, 1) := by decide +kernel
theorem dX12_fitted_15 : decode cX12_fitted 15 = .ok (.istore_n 2, 1) := by decide +kernel
theorem dX12_fitted_16 : decode cX12_fitted 16 = .ok (.iconst 0, 1) := by decide +kernel
theorem dX12_fitted_17 : decode cX12_fitted 17 = .ok (.istore_n 3, 1) := by decide +kernel
theorem dX12_fitted_18 : decode cX12_fitted 18 = .ok (.iload_n 3, 1) := by decide +kernel
theorem dX12_fitted_19 : decode cX12_fitted 19 = .ok (.aload_n 0, 1) := by decide +kernel
theorem dX12_fitted_20 : decode cX12_fitted 20 = .ok (.getfield 120, 3) := by decide +kernel
theorem dX12_fitted_23 : decode cX12_fitted 23 = .ok (.if_icmp .ge 27, 3) := by decide +kernel
theorem dX12_fitted_26 : decode cX12_fitted 26 = .ok (.iload_n 2, 1) := by decide +kernel
theorem dX12_fitted_27 : decode cX12_fitted 27 = .ok (.aload_n 0, 1) := by decide +kernel
theorem dX12_fitted_28 : decode cX12_fitted 28 = .ok (.getfield 43, 3) := by decide +kernel
theorem dX12_fitted_31 : decode cX12_fitted 31 = .ok (.iload_n 3, 1) := by decide +kernel
theorem dX12_fitted_32 : decode cX12_fitted 32 = .ok (.iaload, 1) := by decide +kernel
theorem dX12_fitted_33 : decode cX12_fitted 33 = .ok (.iload_n 1, 1) := by decide +kernel
theorem dX12_fitted_34 : decode cX12_fitted 34 = .ok (.if_icmp .ne 7, 3) := by decide +kernel
theorem dX12_fitted_37 : decode cX12_fitted 37 = .ok (.iconst 1, 1) := by decide +kernel
theorem dX12_fitted_38 : decode cX12_fitted 38 = .ok (.goto 4, 3) := by decide +kernel
theorem dX12_fitted_41 : decode cX12_fitted 41 = .ok (.iconst 0, 1) := by decide +kernel
theorem dX12_fitted_42 : decode cX12_fitted 42 = .ok (.iadd, 1) := by decide +kernel
theorem dX12_fitted_43 : decode cX12_fitted 43 = .ok (.istore_n 2, 1) := by decide +kernel
theorem dX12_fitted_44 : decode cX12_fitted 44 = .ok (.iinc 3 1, 3) := by decide +kernel
theorem dX12_fitted_47 : decode cX12_fitted 47 = .ok (.goto (-29), 3) := by decide +kernel
theorem dX12_fitted_50 : decode cX12_fitted 50 = .ok (.bipush 10, 2) := by decide +kernel
theorem dX12_fitted_52 : decode cX12_fitted 52 = .ok (.bipush 9, 2) := by decide +kernel
theorem dX12_fitted_54 : decode cX12_fitted 54 = .ok (.iload_n 2, 1) := by decide +kernel
theorem dX12_fitted_55 : decode cX12_fitted 55 = .ok (.imul, 1) := by decide +kernel
theorem dX12_fitted_56 : decode cX12_fitted 56 = .ok (.aload_n 0, 1) := by decide +kernel
theorem dX12_fitted_57 : decode cX12_fitted 57 = .ok (.getfield 120, 3) := by decide +kernel
theorem dX12_fitted_60 : decode cX12_fitted 60 = .ok (.idiv, 1) := by decide +kernel
theorem dX12_fitted_61 : decode cX12_fitted 61 = .ok (.isub, 1) := by decide +kernel
theorem dX12_fitted_62 : decode cX12_fitted 62 = .ok (.ireturn, 1) := by decide +kernel
theorem dX12_isChange_0 : decode cX12_isChange 0 = .ok (.iload_n 0, 1) := by decide +kernel
theorem dX12_isChange_1 : decode cX12_isChange 1 = .ok (.i2l, 1) := by decide +kernel
theorem dX12_isChange_2 : decode cX12_isChange 2 = .ok (.lconst 0, 1) := by decide +kernel
theorem dX12_isChange_3 : decode cX12_isChange 3 = .ok (.ldc2_w 123, 3) := by decide +kernel
theorem dX12_isChange_6 : decode cX12_isChange 6 = .ok (.invokestatic 80, 3) := by decide +kernel
theorem dX12_isChange_9 : decode cX12_isChange 9 = .ok (.ireturn, 1) := by decide +kernel
theorem dX12_price_0 : decode cX12_price 0 = .ok (.iload_n 1, 1) := by decide +kernel
theorem dX12_price_1 : decode cX12_price 1 = .ok (.invokestatic 125, 3) := by decide +kernel
theorem dX12_price_4 : decode cX12_price 4 = .ok (.ifCond .ne 7, 3) := by decide +kernel
theorem dX12_price_7 : decode cX12_price 7 = .ok (.iconst (-1), 1) := by decide +kernel
theorem dX12_price_8 : decode cX12_price 8 = .ok (.goto 21, 3) := by decide +kernel
theorem dX12_price_11 : decode cX12_price 11 = .ok (.iload_n 2, 1) := by decide +kernel
theorem dX12_price_12 : decode cX12_price 12 = .ok (.ifCond .eq 11, 3) := by decide +kernel
theorem dX12_price_15 : decode cX12_price 15 = .ok (.aload_n 0, 1) := by decide +kernel
theorem dX12_price_16 : decode cX12_price 16 = .ok (.iload_n 1, 1) := by decide +kernel
theorem dX12_price_17 : decode cX12_price 17 = .ok (.invokevirtual 128, 3) := by decide +kernel
theorem dX12_price_20 : decode cX12_price 20 = .ok (.goto 9, 3) := by decide +kernel
theorem dX12_price_23 : decode cX12_price 23 = .ok (.aload_n 0, 1) := by decide +kernel
theorem dX12_price_24 : decode cX12_price 24 = .ok (.getfield 25, 3) := by decide +kernel
theorem dX12_price_27 : decode cX12_price 27 = .ok (.iload_n 1, 1) := by decide +kernel
theorem dX12_price_28 : decode cX12_price 28 = .ok (.iaload, 1) := by decide +kernel
theorem dX12_price_29 : decode cX12_price 29 = .ok (.ireturn, 1) := by decide +kernel
theorem dX12_isSentence_0 : decode cX12_isSentence 0 = .ok (.iload_n 0, 1) := by decide +kernel
theorem dX12_isSentence_1 : decode cX12_isSentence 1 = .ok (.i2l, 1) := by decide +kernel
theorem dX12_isSentence_2 : decode cX12_isSentence 2 = .ok (.lconst 0, 1) := by decide +kernel
theorem dX12_isSentence_3 : decode cX12_isSentence 3 = .ok (.ldc2_w 132, 3) := by decide +kernel
theorem dX12_isSentence_6 : decode cX12_isSentence 6 = .ok (.invokestatic 80, 3) := by decide +kernel
theorem dX12_isSentence_9 : decode cX12_isSentence 9 = .ok (.ireturn, 1) := by decide +kernel
theorem dX12_word_0 : decode cX12_word 0 = .ok (.iload_n 1, 1) := by decide +kernel
theorem dX12_word_1 : decode cX12_word 1 = .ok (.invokestatic 134, 3) := by decide +kernel
theorem dX12_word_4 : decode cX12_word 4 = .ok (.ifCond .eq 21, 3) := by decide +kernel
theorem dX12_word_7 : decode cX12_word 7 = .ok (.iload_n 2, 1) := by decide +kernel
theorem dX12_word_8 : decode cX12_word 8 = .ok (.i2l, 1) := by decide +kernel
theorem dX12_word_9 : decode cX12_word 9 = .ok (.lconst 0, 1) := by decide +kernel
theorem dX12_word_10 : decode cX12_word 10 = .ok (.aload_n 0, 1) := by decide +kernel
theorem dX12_word_11 : decode cX12_word 11 = .ok (.getfield 13, 3) := by decide +kernel
theorem dX12_word_14 : decode cX12_word 14 = .ok (.iconst 0, 1) := by decide +kernel
theorem dX12_word_15 : decode cX12_word 15 = .ok (.iaload, 1) := by decide +kernel
theorem dX12_word_16 : decode cX12_word 16 = .ok (.iconst 1, 1) := by decide +kernel
theorem dX12_word_17 : decode cX12_word 17 = .ok (.isub, 1) := by decide +kernel
theorem dX12_word_18 : decode cX12_word 18 = .ok (.i2l, 1) := by decide +kernel
theorem dX12_word_19 : decode cX12_word 19 = .ok (.invokestatic 80, 3) := by decide +kernel
theorem dX12_word_22 : decode cX12_word 22 = .ok (.ifCond .ne 5, 3) := by decide +kernel
theorem dX12_word_25 : decode cX12_word 25 = .ok (.iconst (-1), 1) := by decide +kernel
theorem dX12_word_26 : decode cX12_word 26 = .ok (.ireturn, 1) := by decide +kernel
theorem dX12_word_27 : decode cX12_word 27 = .ok (.aload_n 0, 1) := by decide +kernel
theorem dX12_word_28 : decode cX12_word 28 = .ok (.getfield 28, 3) := by decide +kernel
theorem dX12_word_31 : decode cX12_word 31 = .ok (.iload_n 1, 1) := by decide +kernel
theorem dX12_word_32 : decode cX12_word 32 = .ok (.iaload, 1) := by decide +kernel
theorem dX12_word_33 : decode cX12_word 33 = .ok (.bipush 8, 2) := by decide +kernel
theorem dX12_word_35 : decode cX12_word 35 = .ok (.if_icmp .ne 6, 3) := by decide +kernel
theorem dX12_word_38 : decode cX12_word 38 = .ok (.bipush (-3), 2) := by decide +kernel
theorem dX12_word_40 : decode cX12_word 40 = .ok (.ireturn, 1) := by decide +kernel
theorem dX12_word_41 : decode cX12_word 41 = .ok (.aload_n 0, 1) := by decide +kernel
theorem dX12_word_42 : decode cX12_word 42 = .ok (.getfield 31, 3) := by decide +kernel
theorem dX12_word_45 : decode cX12_word 45 = .ok (.bipush 10, 2) := by decide +kernel
theorem dX12_word_47 : decode cX12_word 47 = .ok (.iload_n 1, 1) := by decide +kernel
theorem dX12_word_48 : decode cX12_word 48 = .ok (.imul, 1) := by decide +kernel
theorem dX12_word_49 : decode cX12_word 49 = .ok (.aload_n 0, 1) := by decide +kernel
theorem dX12_word_50 : decode cX12_word 50 = .ok (.getfield 28, 3) := by decide +kernel
theorem dX12_word_53 : decode cX12_word 53 = .ok (.iload_n 1, 1) := by decide +kernel
theorem dX12_word_54 : decode cX12_word 54 = .ok (.iaload, 1) := by decide +kernel
theorem dX12_word_55 : decode cX12_word 55 = .ok (.iadd, 1) := by decide +kernel
theorem dX12_word_56 : decode cX12_word 56 = .ok (.iload_n 2, 1) := by decide +kernel
theorem dX12_word_57 : decode cX12_word 57 = .ok (.iastore, 1) := by decide +kernel
theorem dX12_word_58 : decode cX12_word 58 = .ok (.aload_n 0, 1) := by decide +kernel
theorem dX12_word_59 : decode cX12_word 59 = .ok (.getfield 28, 3) := by decide +kernel
theorem dX12_word_62 : decode cX12_word 62 = .ok (.iload_n 1, 1) := by decide +kernel
theorem dX12_word_63 : decode cX12_word 63 = .ok (.dup2, 1) := by decide +kernel
theorem dX12_word_64 : decode cX12_word 64 = .ok (.iaload, 1) := by decide +kernel
theorem dX12_word_65 : decode cX12_word 65 = .ok (.iconst 1, 1) := by decide +kernel
theorem dX12_word_66 : decode cX12_word 66 = .ok (.iadd, 1) := by decide +kernel
theorem dX12_word_67 : decode cX12_word 67 = .ok (.iastore, 1) := by decide +kernel
theorem dX12_word_68 : decode cX12_word 68 = .ok (.aload_n 0, 1) := by decide +kernel
theorem dX12_word_69 : decode cX12_word 69 = .ok (.getfield 28, 3) := by decide +kernel
theorem dX12_word_72 : decode cX12_word 72 = .ok (.iload_n 1, 1) := by decide +kernel
theorem dX12_word_73 : decode cX12_word 73 = .ok (.iaload, 1) := by decide +kernel
theorem dX12_word_74 : decode cX12_word 74 = .ok (.ireturn, 1) := by decide +kernel
theorem dX12_clear_0 : decode cX12_clear 0 = .ok (.iload_n 1, 1) := by decide +kernel
theorem dX12_clear_1 : decode cX12_clear 1 = .ok (.invokestatic 134, 3) := by decide +kernel
theorem dX12_clear_4 : decode cX12_clear 4 = .ok (.ifCond .ne 5, 3) := by decide +kernel
theorem dX12_clear_7 : decode cX12_clear 7 = .ok (.iconst (-1), 1) := by decide +kernel
theorem dX12_clear_8 : decode cX12_clear 8 = .ok (.ireturn, 1) := by decide +kernel
theorem dX12_clear_9 : decode cX12_clear 9 = .ok (.aload_n 0, 1) := by decide +kernel
theorem dX12_clear_10 : decode cX12_clear 10 = .ok (.getfield 28, 3) := by decide +kernel
theorem dX12_clear_13 : decode cX12_clear 13 = .ok (.iload_n 1, 1) := by decide +kernel
theorem dX12_clear_14 : decode cX12_clear 14 = .ok (.iaload, 1) := by decide +kernel
theorem dX12_clear_15 : decode cX12_clear 15 = .ok (.istore_n 2, 1) := by decide +kernel
theorem dX12_clear_16 : decode cX12_clear 16 = .ok (.aload_n 0, 1) := by decide +kernel
theorem dX12_clear_17 : decode cX12_clear 17 = .ok (.getfield 28, 3) := by decide +kernel
theorem dX12_clear_20 : decode cX12_clear 20 = .ok (.iload_n 1, 1) := by decide +kernel
theorem dX12_clear_21 : decode cX12_clear 21 = .ok (.iconst 0, 1) := by decide +kernel
theorem dX12_clear_22 : decode cX12_clear 22 = .ok (.iastore, 1) := by decide +kernel
theorem dX12_clear_23 : decode cX12_clear 23 = .ok (.aload_n 0, 1) := by decide +kernel
theorem dX12_clear_24 : decode cX12_clear 24 = .ok (.getfield 34, 3) := by decide +kernel
theorem dX12_clear_27 : decode cX12_clear 27 = .ok (.iload_n 1, 1) := by decide +kernel
theorem dX12_clear_28 : decode cX12_clear 28 = .ok (.iconst 0, 1) := by decide +kernel
theorem dX12_clear_29 : decode cX12_clear 29 = .ok (.iastore, 1) := by decide +kernel
theorem dX12_clear_30 : decode cX12_clear 30 = .ok (.iload_n 2, 1) := by decide +kernel
theorem dX12_clear_31 : decode cX12_clear 31 = .ok (.ireturn, 1) := by decide +kernel
theorem dX12_quote_0 : decode cX12_quote 0 = .ok (.iload_n 1, 1) := by decide +kernel
theorem dX12_quote_1 : decode cX12_quote 1 = .ok (.invokestatic 134, 3) := by decide +kernel
theorem dX12_quote_4 : decode cX12_quote 4 = .ok (.ifCond .eq 15, 3) := by decide +kernel
theorem dX12_quote_7 : decode cX12_quote 7 = .ok (.iload_n 2, 1) := by decide +kernel
theorem dX12_quote_8 : decode cX12_quote 8 = .ok (.i2l, 1) := by decide +kernel
theorem dX12_quote_9 : decode cX12_quote 9 = .ok (.lconst 0, 1) := by decide +kernel
theorem dX12_quote_10 : decode cX12_quote 10 = .ok (.ldc2_w 88, 3) := by decide +kernel
theorem dX12_quote_13 : decode cX12_quote 13 = .ok (.invokestatic 80, 3) := by decide +kernel
theorem dX12_quote_16 : decode cX12_quote 16 = .ok (.ifCond .ne 5, 3) := by decide +kernel
theorem dX12_quote_19 : decode cX12_quote 19 = .ok (.iconst (-1), 1) := by decide +kernel
theorem dX12_quote_20 : decode cX12_quote 20 = .ok (.ireturn, 1) := by decide +kernel
theorem dX12_quote_21 : decode cX12_quote 21 = .ok (.aload_n 0, 1) := by decide +kernel
theorem dX12_quote_22 : decode cX12_quote 22 = .ok (.getfield 34, 3) := by decide +kernel
theorem dX12_quote_25 : decode cX12_quote 25 = .ok (.iload_n 1, 1) := by decide +kernel
theorem dX12_quote_26 : decode cX12_quote 26 = .ok (.iaload, 1) := by decide +kernel
theorem dX12_quote_27 : decode cX12_quote 27 = .ok (.istore_n 3, 1) := by decide +kernel
theorem dX12_quote_28 : decode cX12_quote 28 = .ok (.aload_n 0, 1) := by decide +kernel
theorem dX12_quote_29 : decode cX12_quote 29 = .ok (.getfield 34, 3) := by decide +kernel
theorem dX12_quote_32 : decode cX12_quote 32 = .ok (.iload_n 1, 1) := by decide +kernel
theorem dX12_quote_33 : decode cX12_quote 33 = .ok (.iload_n 2, 1) := by decide +kernel
theorem dX12_quote_34 : decode cX12_quote 34 = .ok (.iastore, 1) := by decide +kernel
theorem dX12_quote_35 : decode cX12_quote 35 = .ok (.iload_n 3, 1) := by decide +kernel
theorem dX12_quote_36 : decode cX12_quote 36 = .ok (.ireturn, 1) := by decide +kernel
theorem dX12_marksOf_0 : decode cX12_marksOf 0 = .ok (.aload_n 0, 1) := by decide +kernel
theorem dX12_marksOf_1 : decode cX12_marksOf 1 = .ok (.getfield 49, 3) := by decide +kernel
theorem dX12_marksOf_4 : decode cX12_marksOf 4 = .ok (.bipush 9, 2) := by decide +kernel
theorem dX12_marksOf_6 : decode cX12_marksOf 6 = .ok (.iload_n 1, 1) := by decide +kernel
theorem dX12_marksOf_7 : decode cX12_marksOf 7 = .ok (.imul, 1) := by decide +kernel
theorem dX12_marksOf_8 : decode cX12_marksOf 8 = .ok (.iload_n 2, 1) := by decide +kernel
theorem dX12_marksOf_9 : decode cX12_marksOf 9 = .ok (.iadd, 1) := by decide +kernel
theorem dX12_marksOf_10 : decode cX12_marksOf 10 = .ok (.laload, 1) := by decide +kernel
theorem dX12_marksOf_11 : decode cX12_marksOf 11 = .ok (.iconst 4, 1) := by decide +kernel
theorem dX12_marksOf_12 : decode cX12_marksOf 12 = .ok (.iload_n 3, 1) := by decide +kernel
theorem dX12_marksOf_13 : decode cX12_marksOf 13 = .ok (.imul, 1) := by decide +kernel
theorem dX12_marksOf_14 : decode cX12_marksOf 14 = .ok (.lshr, 1) := by decide +kernel
theorem dX12_marksOf_15 : decode cX12_marksOf 15 = .ok (.ldc2_w 137, 3) := by decide +kernel
theorem dX12_marksOf_18 : decode cX12_marksOf 18 = .ok (.land, 1) := by decide +kernel
theorem dX12_marksOf_19 : decode cX12_marksOf 19 = .ok (.l2i, 1) := by decide +kernel
theorem dX12_marksOf_20 : decode cX12_marksOf 20 = .ok (.ireturn, 1) := by decide +kernel
theorem dX12_laySpans_0 : decode cX12_laySpans 0 = .ok (.iconst 1, 1) := by decide +kernel
theorem dX12_laySpans_1 : decode cX12_laySpans 1 = .ok (.istore_n 3, 1) := by decide +kernel
theorem dX12_laySpans_2 : decode cX12_laySpans 2 = .ok (.iload_n 3, 1) := by decide +kernel
theorem dX12_laySpans_3 : decode cX12_laySpans 3 = .ok (.aload_n 0, 1) := by decide +kernel
theorem dX12_laySpans_4 : decode cX12_laySpans 4 = .ok (.getfield 28, 3) := by decide +kernel
theorem dX12_laySpans_7 : decode cX12_laySpans 7 = .ok (.iload_n 1, 1) := by decide +kernel
theorem dX12_laySpans_8 : decode cX12_laySpans 8 = .ok (.iaload, 1) := by decide +kernel
theorem dX12_laySpans_9 : decode cX12_laySpans 9 = .ok (.if_icmp .gt 282, 3) := by decide +kernel
theorem dX12_laySpans_12 : decode cX12_laySpans 12 = .ok (.iconst 0, 1) := by decide +kernel
theorem dX12_laySpans_13 : decode cX12_laySpans 13 = .ok (.istore 4, 2) := by decide +kernel
theorem dX12_laySpans_15 : decode cX12_laySpans 15 = .ok (.iload 4, 2) := by decide +kernel
theorem dX12_laySpans_17 : decode cX12_laySpans 17 = .ok (.iload_n 3, 1) := by decide +kernel
theorem dX12_laySpans_18 : decode cX12_laySpans 18 = .ok (.iadd, 1) := by decide +kernel
theorem dX12_laySpans_19 : decode cX12_laySpans 19 = .ok (.aload_n 0, 1) := by decide +kernel
theorem dX12_laySpans_20 : decode cX12_laySpans 20 = .ok (.getfield 28, 3) := by decide +kernel
theorem dX12_laySpans_23 : decode cX12_laySpans 23 = .ok (.iload_n 1, 1) := by decide +kernel
theorem dX12_laySpans_24 : decode cX12_laySpans 24 = .ok (.iaload, 1) := by decide +kernel
theorem dX12_laySpans_25 : decode cX12_laySpans 25 = .ok (.if_icmp .gt 260, 3) := by decide +kernel
theorem dX12_laySpans_28 : decode cX12_laySpans 28 = .ok (.iconst 4, 1) := by decide +kernel
theorem dX12_laySpans_29 : decode cX12_laySpans 29 = .ok (.aload_n 0, 1) := by decide +kernel
theorem dX12_laySpans_30 : decode cX12_laySpans 30 = .ok (.getfield 31, 3) := by decide +kernel
theorem dX12_laySpans_33 : decode cX12_laySpans 33 = .ok (.bipush 10, 2) := by decide +kernel
theorem dX12_laySpans_35 : decode cX12_laySpans 35 = .ok (.iload_n 1, 1) := by decide +kernel
theorem dX12_laySpans_36 : decode cX12_laySpans 36 = .ok (.imul, 1) := by decide +kernel
theorem dX12_laySpans_37 : decode cX12_laySpans 37 = .ok (.iload 4, 2) := by decide +kernel
theorem dX12_laySpans_39 : decode cX12_laySpans 39 = .ok (.iadd, 1) := by decide +kernel
theorem dX12_laySpans_40 : decode cX12_laySpans 40 = .ok (.iaload, 1) := by decide +kernel
theorem dX12_laySpans_41 : decode cX12_laySpans 41 = .ok (.imul, 1) := by decide +kernel
theorem dX12_laySpans_42 : decode cX12_laySpans 42 = .ok (.istore 5, 2) := by decide +kernel
theorem dX12_laySpans_44 : decode cX12_laySpans 44 = .ok (.aload_n 0, 1) := by decide +kernel
theorem dX12_laySpans_45 : decode cX12_laySpans 45 = .ok (.getfield 49, 3) := by decide +kernel
theorem dX12_laySpans_48 : decode cX12_laySpans 48 = .ok (.bipush 9, 2) := by decide +kernel
theorem dX12_laySpans_50 : decode cX12_laySpans 50 = .ok (.iload 4, 2) := by decide +kernel
theorem dX12_laySpans_52 : decode cX12_laySpans 52 = .ok (.imul, 1) := by decide +kernel
theorem dX12_laySpans_53 : decode cX12_laySpans 53 = .ok (.iload_n 3, 1) := by decide +kernel
theorem dX12_laySpans_54 : decode cX12_laySpans 54 = .ok (.iadd, 1) := by decide +kernel
theorem dX12_laySpans_55 : decode cX12_laySpans 55 = .ok (.iload_n 3, 1) := by decide +kernel
theorem dX12_laySpans_56 : decode cX12_laySpans 56 = .ok (.iconst 1, 1) := by decide +kernel
theorem dX12_laySpans_57 : decode cX12_laySpans 57 = .ok (.if_icmp .ne 27, 3) := by decide +kernel
theorem dX12_laySpans_60 : decode cX12_laySpans 60 = .ok (.lconst 1, 1) := by decide +kernel
theorem dX12_laySpans_61 : decode cX12_laySpans 61 = .ok (.iconst 4, 1) := by decide +kernel
theorem dX12_laySpans_62 : decode cX12_laySpans 62 = .ok (.aload_n 0, 1) := by decide +kernel
theorem dX12_laySpans_63 : decode cX12_laySpans 63 = .ok (.getfield 16, 3) := by decide +kernel
theorem dX12_laySpans_66 : decode cX12_laySpans 66 = .ok (.iload 5, 2) := by decide +kernel
theorem dX12_laySpans_68 : decode cX12_laySpans 68 = .ok (.iaload, 1) := by decide +kernel
theorem dX12_laySpans_69 : decode cX12_laySpans 69 = .ok (.imul, 1) := by decide +kernel
theorem dX12_laySpans_70 : decode cX12_laySpans 70 = .ok (.aload_n 0, 1) := by decide +kernel
theorem dX12_laySpans_71 : decode cX12_laySpans 71 = .ok (.getfield 16, 3) := by decide +kernel
theorem dX12_laySpans_74 : decode cX12_laySpans 74 = .ok (.iload 5, 2) := by decide +kernel
theorem dX12_laySpans_76 : decode cX12_laySpans 76 = .ok (.iconst 1, 1) := by decide +kernel
theorem dX12_laySpans_77 : decode cX12_laySpans 77 = .ok (.iadd, 1) := by decide +kernel
theorem dX12_laySpans_78 : decode cX12_laySpans 78 = .ok (.iaload, 1) := by decide +kernel
theorem dX12_laySpans_79 : decode cX12_laySpans 79 = .ok (.iadd, 1) := by decide +kernel
theorem dX12_laySpans_80 : decode cX12_laySpans 80 = .ok (.lshl, 1) := by decide +kernel
theorem dX12_laySpans_81 : decode cX12_laySpans 81 = .ok (.goto 4, 3) := by decide +kernel
theorem dX12_laySpans_84 : decode cX12_laySpans 84 = .ok (.lconst 0, 1) := by decide +kernel
theorem dX12_laySpans_85 : decode cX12_laySpans 85 = .ok (.lastore, 1) := by decide +kernel
theorem dX12_laySpans_86 : decode cX12_laySpans 86 = .ok (.iconst 1, 1) := by decide +kernel
theorem dX12_laySpans_87 : decode cX12_laySpans 87 = .ok (.istore 6, 2) := by decide +kernel
theorem dX12_laySpans_89 : decode cX12_laySpans 89 = .ok (.iload 6, 2) := by decide +kernel
theorem dX12_laySpans_91 : decode cX12_laySpans 91 = .ok (.iload_n 3, 1) := by decide +kernel
theorem dX12_laySpans_92 : decode cX12_laySpans 92 = .ok (.if_icmp .ge 187, 3) := by decide +kernel
theorem dX12_laySpans_95 : decode cX12_laySpans 95 = .ok (.iconst 0, 1) := by decide +kernel
theorem dX12_laySpans_96 : decode cX12_laySpans 96 = .ok (.istore 7, 2) := by decide +kernel
theorem dX12_laySpans_98 : decode cX12_laySpans 98 = .ok (.iload 7, 2) := by decide +kernel
theorem dX12_laySpans_100 : decode cX12_laySpans 100 = .ok (.aload_n 0, 1) := by decide +kernel
theorem dX12_laySpans_101 : decode cX12_laySpans 101 = .ok (.getfield 19, 3) := by decide +kernel
theorem dX12_laySpans_104 : decode cX12_laySpans 104 = .ok (.iconst 0, 1) := by decide +kernel
theorem dX12_laySpans_105 : decode cX12_laySpans 105 = .ok (.iaload, 1) := by decide +kernel
theorem dX12_laySpans_106 : decode cX12_laySpans 106 = .ok (.if_icmp .ge 167, 3) := by decide +kernel
theorem dX12_laySpans_109 : decode cX12_laySpans 109 = .ok (.aload_n 0, 1) := by decide +kernel
theorem dX12_laySpans_110 : decode cX12_laySpans 110 = .ok (.iload 4, 2) := by decide +kernel
theorem dX12_laySpans_112 : decode cX12_laySpans 112 = .ok (.iload 6, 2) := by decide +kernel
theorem dX12_laySpans_114 : decode cX12_laySpans 114 = .ok (.aload_n 0, 1) := by decide +kernel
theorem dX12_laySpans_115 : decode cX12_laySpans 115 = .ok (.getfield 22, 3) := by decide +kernel
theorem dX12_laySpans_118 : decode cX12_laySpans 118 = .ok (.iconst 5, 1) := by decide +kernel
theorem dX12_laySpans_119 : decode cX12_laySpans 119 = .ok (.iload 7, 2) := by decide +kernel
theorem dX12_laySpans_121 : decode cX12_laySpans 121 = .ok (.imul, 1) := by decide +kernel
theorem dX12_laySpans_122 : decode cX12_laySpans 122 = .ok (.iconst 1, 1) := by decide +kernel
theorem dX12_laySpans_123 : decode cX12_laySpans 123 = .ok (.iadd, 1) := by decide +kernel
theorem dX12_laySpans_124 : decode cX12_laySpans 124 = .ok (.iaload, 1) := by decide +kernel
theorem dX12_laySpans_125 : decode cX12_laySpans 125 = .ok (.invokevirtual 139, 3) := by decide +kernel
theorem dX12_laySpans_128 : decode cX12_laySpans 128 = .ok (.istore 8, 2) := by decide +kernel
theorem dX12_laySpans_130 : decode cX12_laySpans 130 = .ok (.aload_n 0, 1) := by decide +kernel
theorem dX12_laySpans_131 : decode cX12_laySpans 131 = .ok (.iload 4, 2) := by decide +kernel
theorem dX12_laySpans_133 : decode cX12_laySpans 133 = .ok (.iload 6, 2) := by decide +kernel
theorem dX12_laySpans_135 : decode cX12_laySpans 135 = .ok (.iadd, 1) := by decide +kernel
theorem dX12_laySpans_136 : decode cX12_laySpans 136 = .ok (.iload_n 3, 1) := by decide +kernel
theorem dX12_laySpans_137 : decode cX12_laySpans 137 = .ok (.iload 6, 2) := by decide +kernel
theorem dX12_laySpans_139 : decode cX12_laySpans 139 = .ok (.isub, 1) := by decide +kernel
theorem dX12_laySpans_140 : decode cX12_laySpans 140 = .ok (.aload_n 0, 1) := by decide +kernel
theorem dX12_laySpans_141 : decode cX12_laySpans 141 = .ok (.getfield 22, 3) := by decide +kernel
theorem dX12_laySpans_144 : decode cX12_laySpans 144 = .ok (.iconst 5, 1) := by decide +kernel
theorem dX12_laySpans_145 : decode cX12_laySpans 145 = .ok (.iload 7, 2) := by decide +kernel
theorem dX12_laySpans_147 : decode cX12_laySpans 147 = .ok (.imul, 1) := by decide +kernel
theorem dX12_laySpans_148 : decode cX12_laySpans 148 = .ok (.iconst 2, 1) := by decide +kernel
theorem dX12_laySpans_149 : decode cX12_laySpans 149 = .ok (.iadd, 1) := by decide +kernel
theorem dX12_laySpans_150 : decode cX12_laySpans 150 = .ok (.iaload, 1) := by decide +kernel
theorem dX12_laySpans_151 : decode cX12_laySpans 151 = .ok (.invokevirtual 139, 3) := by decide +kernel
theorem dX12_laySpans_154 : decode cX12_laySpans 154 = .ok (.istore 9, 2) := by decide +kernel
theorem dX12_laySpans_156 : decode cX12_laySpans 156 = .ok (.aload_n 0, 1) := by decide +kernel
theorem dX12_laySpans_157 : decode cX12_laySpans 157 = .ok (.getfield 22, 3) := by decide +kernel
theorem dX12_laySpans_160 : decode cX12_laySpans 160 = .ok (.iconst 5, 1) := by decide +kernel
theorem dX12_laySpans_161 : decode cX12_laySpans 161 = .ok (.iload 7, 2) := by decide +kernel
theorem dX12_laySpans_163 : decode cX12_laySpans 163 = .ok (.imul, 1) := by decide +kernel
theorem dX12_laySpans_164 : decode cX12_laySpans 164 = .ok (.iconst 3, 1) := by decide +kernel
theorem dX12_laySpans_165 : decode cX12_laySpans 165 = .ok (.iadd, 1) := by decide +kernel
theorem dX12_laySpans_166 : decode cX12_laySpans 166 = .ok (.iaload, 1) := by decide +kernel
theorem dX12_laySpans_167 : decode cX12_laySpans 167 = .ok (.iconst 1, 1) := by decide +kernel
theorem dX12_laySpans_168 : decode cX12_laySpans 168 = .ok (.if_icmp .ne 16, 3) := by decide +kernel
theorem dX12_laySpans_171 : decode cX12_laySpans 171 = .ok (.iload_n 2, 1) := by decide +kernel
theorem dX12_laySpans_172 : decode cX12_laySpans 172 = .ok (.iload 7, 2) := by decide +kernel
theorem dX12_laySpans_174 : decode cX12_laySpans 174 = .ok (.invokestatic 143, 3) := by decide +kernel
theorem dX12_laySpans_177 : decode cX12_laySpans 177 = .ok (.ifCond .ne 7, 3) := by decide +kernel
theorem dX12_laySpans_180 : decode cX12_laySpans 180 = .ok (.iconst 1, 1) := by decide +kernel
theorem dX12_laySpans_181 : decode cX12_laySpans 181 = .ok (.goto 4, 3) := by decide +kernel
theorem dX12_laySpans_184 : decode cX12_laySpans 184 = .ok (.iconst 0, 1) := by decide +kernel
theorem dX12_laySpans_185 : decode cX12_laySpans 185 = .ok (.istore 10, 2) := by decide +kernel
theorem dX12_laySpans_187 : decode cX12_laySpans 187 = .ok (.iload 8, 2) := by decide +kernel
theorem dX12_laySpans_189 : decode cX12_laySpans 189 = .ok (.ifCond .eq 8, 3) := by decide +kernel
theorem dX12_laySpans_192 : decode cX12_laySpans 192 = .ok (.iload 9, 2) := by decide +kernel
theorem dX12_laySpans_194 : decode cX12_laySpans 194 = .ok (.ifCond .ne 7, 3) := by decide +kernel
theorem dX12_laySpans_197 : decode cX12_laySpans 197 = .ok (.iconst 0, 1) := by decide +kernel
theorem dX12_laySpans_198 : decode cX12_laySpans 198 = .ok (.goto 37, 3) := by decide +kernel
theorem dX12_laySpans_201 : decode cX12_laySpans 201 = .ok (.iload 10, 2) := by decide +kernel
theorem dX12_laySpans_203 : decode cX12_laySpans 203 = .ok (.ifCond .eq 11, 3) := by decide +kernel
theorem dX12_laySpans_206 : decode cX12_laySpans 206 = .ok (.iload 8, 2) := by decide +kernel
theorem dX12_laySpans_208 : decode cX12_laySpans 208 = .ok (.iload 9, 2) := by decide +kernel
theorem dX12_laySpans_210 : decode cX12_laySpans 210 = .ok (.iand, 1) := by decide +kernel
theorem dX12_laySpans_211 : decode cX12_laySpans 211 = .ok (.goto 24, 3) := by decide +kernel
theorem dX12_laySpans_214 : decode cX12_laySpans 214 = .ok (.aload_n 0, 1) := by decide +kernel
theorem dX12_laySpans_215 : decode cX12_laySpans 215 = .ok (.getfield 22, 3) := by decide +kernel
theorem dX12_laySpans_218 : decode cX12_laySpans 218 = .ok (.iconst 5, 1) := by decide +kernel
theorem dX12_laySpans_219 : decode cX12_laySpans 219 = .ok (.iload 7, 2) := by decide +kernel
theorem dX12_laySpans_221 : decode cX12_laySpans 221 = .ok (.imul, 1) := by decide +kernel
theorem dX12_laySpans_222 : decode cX12_laySpans 222 = .ok (.iconst 4, 1) := by decide +kernel
theorem dX12_laySpans_223 : decode cX12_laySpans 223 = .ok (.iadd, 1) := by decide +kernel
theorem dX12_laySpans_224 : decode cX12_laySpans 224 = .ok (.iaload, 1) := by decide +kernel
theorem dX12_laySpans_225 : decode cX12_laySpans 225 = .ok (.ifCond .ne 8, 3) := by decide +kernel
theorem dX12_laySpans_228 : decode cX12_laySpans 228 = .ok (.iload 8, 2) := by decide +kernel
theorem dX12_laySpans_230 : decode cX12_laySpans 230 = .ok (.goto 5, 3) := by decide +kernel
theorem dX12_laySpans_233 : decode cX12_laySpans 233 = .ok (.iload 9, 2) := by decide +kernel
theorem dX12_laySpans_235 : decode cX12_laySpans 235 = .ok (.istore 11, 2) := by decide +kernel
theorem dX12_laySpans_237 : decode cX12_laySpans 237 = .ok (.aload_n 0, 1) := by decide +kernel
theorem dX12_laySpans_238 : decode cX12_laySpans 238 = .ok (.getfield 49, 3) := by decide +kernel
theorem dX12_laySpans_241 : decode cX12_laySpans 241 = .ok (.bipush 9, 2) := by decide +kernel
theorem dX12_laySpans_243 : decode cX12_laySpans 243 = .ok (.iload 4, 2) := by decide +kernel
theorem dX12_laySpans_245 : decode cX12_laySpans 245 = .ok (.imul, 1) := by decide +kernel
theorem dX12_laySpans_246 : decode cX12_laySpans 246 = .ok (.iload_n 3, 1) := by decide +kernel
theorem dX12_laySpans_247 : decode cX12_laySpans 247 = .ok (.iadd, 1) := by decide +kernel
theorem dX12_laySpans_248 : decode cX12_laySpans 248 = .ok (.dup2, 1) := by decide +kernel
theorem dX12_laySpans_249 : decode cX12_laySpans 249 = .ok (.laload, 1) := by decide +kernel
theorem dX12_laySpans_250 : decode cX12_laySpans 250 = .ok (.iload 11, 2) := by decide +kernel
theorem dX12_laySpans_252 : decode cX12_laySpans 252 = .ok (.i2l, 1) := by decide +kernel
theorem dX12_laySpans_253 : decode cX12_laySpans 253 = .ok (.iconst 4, 1) := by decide +kernel
theorem dX12_laySpans_254 : decode cX12_laySpans 254 = .ok (.aload_n 0, 1) := by decide +kernel
theorem dX12_laySpans_255 : decode cX12_laySpans 255 = .ok (.getfield 22, 3) := by decide +kernel
theorem dX12_laySpans_258 : decode cX12_laySpans 258 = .ok (.iconst 5, 1) := by decide +kernel
theorem dX12_laySpans_259 : decode cX12_laySpans 259 = .ok (.iload 7, 2) := by decide +kernel
theorem dX12_laySpans_261 : decode cX12_laySpans 261 = .ok (.imul, 1) := by decide +kernel
theorem dX12_laySpans_262 : decode cX12_laySpans 262 = .ok (.iaload, 1) := by decide +kernel
theorem dX12_laySpans_263 : decode cX12_laySpans 263 = .ok (.imul, 1) := by decide +kernel
theorem dX12_laySpans_264 : decode cX12_laySpans 264 = .ok (.lshl, 1) := by decide +kernel
theorem dX12_laySpans_265 : decode cX12_laySpans 265 = .ok (.lor, 1) := by decide +kernel
theorem dX12_laySpans_266 : decode cX12_laySpans 266 = .ok (.lastore, 1) := by decide +kernel
theorem dX12_laySpans_267 : decode cX12_laySpans 267 = .ok (.iinc 7 1, 3) := by decide +kernel
theorem dX12_laySpans_270 : decode cX12_laySpans 270 = .ok (.goto (-172), 3) := by decide +kernel
theorem dX12_laySpans_273 : decode cX12_laySpans 273 = .ok (.iinc 6 1, 3) := by decide +kernel
theorem dX12_laySpans_276 : decode cX12_laySpans 276 = .ok (.goto (-187), 3) := by decide +kernel
theorem dX12_laySpans_279 : decode cX12_laySpans 279 = .ok (.iinc 4 1, 3) := by decide +kernel
theorem dX12_laySpans_282 : decode cX12_laySpans 282 = .ok (.goto (-267), 3) := by decide +kernel
theorem dX12_laySpans_285 : decode cX12_laySpans 285 = .ok (.iinc 3 1, 3) := by decide +kernel
theorem dX12_laySpans_288 : decode cX12_laySpans 288 = .ok (.goto (-286), 3) := by decide +kernel
theorem dX12_laySpans_291 : decode cX12_laySpans 291 = .ok (.return_, 1) := by decide +kernel
theorem dX12_isRead_0 : decode cX12_isRead 0 = .ok (.aload_n 0, 1) := by decide +kernel
theorem dX12_isRead_1 : decode cX12_isRead 1 = .ok (.getfield 28, 3) := by decide +kernel
theorem dX12_isRead_4 : decode cX12_isRead 4 = .ok (.iload_n 1, 1) := by decide +kernel
theorem dX12_isRead_5 : decode cX12_isRead 5 = .ok (.iaload, 1) := by decide +kernel
theorem dX12_isRead_6 : decode cX12_isRead 6 = .ok (.ifCond .ne 5, 3) := by decide +kernel
theorem dX12_isRead_9 : decode cX12_isRead 9 = .ok (.iconst 0, 1) := by decide +kernel
theorem dX12_isRead_10 : decode cX12_isRead 10 = .ok (.ireturn, 1) := by decide +kernel
theorem dX12_isRead_11 : decode cX12_isRead 11 = .ok (.aload_n 0, 1) := by decide +kernel
theorem dX12_isRead_12 : decode cX12_isRead 12 = .ok (.iload_n 1, 1) := by decide +kernel
theorem dX12_isRead_13 : decode cX12_isRead 13 = .ok (.iload_n 2, 1) := by decide +kernel
theorem dX12_isRead_14 : decode cX12_isRead 14 = .ok (.invokevirtual 147, 3) := by decide +kernel
theorem dX12_isRead_17 : decode cX12_isRead 17 = .ok (.aload_n 0, 1) := by decide +kernel
theorem dX12_isRead_18 : decode cX12_isRead 18 = .ok (.iconst 0, 1) := by decide +kernel
theorem dX12_isRead_19 : decode cX12_isRead 19 = .ok (.aload_n 0, 1) := by decide +kernel
theorem dX12_isRead_20 : decode cX12_isRead 20 = .ok (.getfield 28, 3) := by decide +kernel
theorem dX12_isRead_23 : decode cX12_isRead 23 = .ok (.iload_n 1, 1) := by decide +kernel
theorem dX12_isRead_24 : decode cX12_isRead 24 = .ok (.iaload, 1) := by decide +kernel
theorem dX12_isRead_25 : decode cX12_isRead 25 = .ok (.iconst 0, 1) := by decide +kernel
theorem dX12_isRead_26 : decode cX12_isRead 26 = .ok (.invokevirtual 139, 3) := by decide +kernel
theorem dX12_isRead_29 : decode cX12_isRead 29 = .ok (.ifCond .eq 7, 3) := by decide +kernel
theorem dX12_isRead_32 : decode cX12_isRead 32 = .ok (.iconst 1, 1) := by decide +kernel
theorem dX12_isRead_33 : decode cX12_isRead 33 = .ok (.goto 4, 3) := by decide +kernel
theorem dX12_isRead_36 : decode cX12_isRead 36 = .ok (.iconst 0, 1) := by decide +kernel
theorem dX12_isRead_37 : decode cX12_isRead 37 = .ok (.ireturn, 1) := by decide +kernel
theorem dX12_layCounts_0 : decode cX12_layCounts 0 = .ok (.iconst 1, 1) := by decide +kernel
theorem dX12_layCounts_1 : decode cX12_layCounts 1 = .ok (.istore_n 2, 1) := by decide +kernel
theorem dX12_layCounts_2 : decode cX12_layCounts 2 = .ok (.iload_n 2, 1) := by decide +kernel
theorem dX12_layCounts_3 : decode cX12_layCounts 3 = .ok (.aload_n 0, 1) := by decide +kernel
theorem dX12_layCounts_4 : decode cX12_layCounts 4 = .ok (.getfield 28, 3) := by decide +kernel
theorem dX12_layCounts_7 : decode cX12_layCounts 7 = .ok (.iload_n 1, 1) := by decide +kernel
theorem dX12_layCounts_8 : decode cX12_layCounts 8 = .ok (.iaload, 1) := by decide +kernel
theorem dX12_layCounts_9 : decode cX12_layCounts 9 = .ok (.if_icmp .gt 213, 3) := by decide +kernel
theorem dX12_layCounts_12 : decode cX12_layCounts 12 = .ok (.iconst 0, 1) := by decide +kernel
theorem dX12_layCounts_13 : decode cX12_layCounts 13 = .ok (.istore_n 3, 1) := by decide +kernel
theorem dX12_layCounts_14 : decode cX12_layCounts 14 = .ok (.iload_n 3, 1) := by decide +kernel
theorem dX12_layCounts_15 : decode cX12_layCounts 15 = .ok (.iload_n 2, 1) := by decide +kernel
theorem dX12_layCounts_16 : decode cX12_layCounts 16 = .ok (.iadd, 1) := by decide +kernel
theorem dX12_layCounts_17 : decode cX12_layCounts 17 = .ok (.aload_n 0, 1) := by decide +kernel
theorem dX12_layCounts_18 : decode cX12_layCounts 18 = .ok (.getfield 28, 3) := by decide +kernel
theorem dX12_layCounts_21 : decode cX12_layCounts 21 = .ok (.iload_n 1, 1) := by decide +kernel
theorem dX12_layCounts_22 : decode cX12_layCounts 22 = .ok (.iaload, 1) := by decide +kernel
theorem dX12_layCounts_23 : decode cX12_layCounts 23 = .ok (.if_icmp .gt 193, 3) := by decide +kernel
theorem dX12_layCounts_26 : decode cX12_layCounts 26 = .ok (.bipush 40, 2) := by decide +kernel
theorem dX12_layCounts_28 : decode cX12_layCounts 28 = .ok (.bipush 9, 2) := by decide +kernel
theorem dX12_layCounts_30 : decode cX12_layCounts 30 = .ok (.iload_n 3, 1) := by decide +kernel
theorem dX12_layCounts_31 : decode cX12_layCounts 31 = .ok (.imul, 1) := by decide +kernel
theorem dX12_layCounts_32 : decode cX12_layCounts 32 = .ok (.iload_n 2, 1) := by decide +kernel
theorem dX12_layCounts_33 : decode cX12_layCounts 33 = .ok (.iadd, 1) := by decide +kernel
theorem dX12_layCounts_34 : decode cX12_layCounts 34 = .ok (.imul, 1) := by decide +kernel
theorem dX12_layCounts_35 : decode cX12_layCounts 35 = .ok (.istore 4, 2) := by decide +kernel
theorem dX12_layCounts_37 : decode cX12_layCounts 37 = .ok (.iconst 4, 1) := by decide +kernel
theorem dX12_layCounts_38 : decode cX12_layCounts 38 = .ok (.aload_n 0, 1) := by decide +kernel
theorem dX12_layCounts_39 : decode cX12_layCounts 39 = .ok (.getfield 31, 3) := by decide +kernel
theorem dX12_layCounts_42 : decode cX12_layCounts 42 = .ok (.bipush 10, 2) := by decide +kernel
theorem dX12_layCounts_44 : decode cX12_layCounts 44 = .ok (.iload_n 1, 1) := by decide +kernel
theorem dX12_layCounts_45 : decode cX12_layCounts 45 = .ok (.imul, 1) := by decide +kernel
theorem dX12_layCounts_46 : decode cX12_layCounts 46 = .ok (.iload_n 3, 1) := by decide +kernel
theorem dX12_layCounts_47 : decode cX12_layCounts 47 = .ok (.iadd, 1) := by decide +kernel
theorem dX12_layCounts_48 : decode cX12_layCounts 48 = .ok (.iaload, 1) := by decide +kernel
theorem dX12_layCounts_49 : decode cX12_layCounts 49 = .ok (.imul, 1) := by decide +kernel
theorem dX12_layCounts_50 : decode cX12_layCounts 50 = .ok (.istore 5, 2) := by decide +kernel
theorem dX12_layCounts_52 : decode cX12_layCounts 52 = .ok (.iconst 0, 1) := by decide +kernel
theorem dX12_layCounts_53 : decode cX12_layCounts 53 = .ok (.istore 6, 2) := by decide +kernel
theorem dX12_layCounts_55 : decode cX12_layCounts 55 = .ok (.iload 6, 2) := by decide +kernel
theorem dX12_layCounts_57 : decode cX12_layCounts 57 = .ok (.bipush 40, 2) := by decide +kernel
theorem dX12_layCounts_59 : decode cX12_layCounts 59 = .ok (.if_icmp .ge 53, 3) := by decide +kernel
theorem dX12_layCounts_62 : decode cX12_layCounts 62 = .ok (.aload_n 0, 1) := by decide +kernel
theorem dX12_layCounts_63 : decode cX12_layCounts 63 = .ok (.getfield 53, 3) := by decide +kernel
theorem dX12_layCounts_66 : decode cX12_layCounts 66 = .ok (.iload 4, 2) := by decide +kernel
theorem dX12_layCounts_68 : decode cX12_layCounts 68 = .ok (.iload 6, 2) := by decide +kernel
theorem dX12_layCounts_70 : decode cX12_layCounts 70 = .ok (.iadd, 1) := by decide +kernel
theorem dX12_layCounts_71 : decode cX12_layCounts 71 = .ok (.iload_n 2, 1) := by decide +kernel
theorem dX12_layCounts_72 : decode cX12_layCounts 72 = .ok (.iconst 1, 1) := by decide +kernel
theorem dX12_layCounts_73 : decode cX12_layCounts 73 = .ok (.if_icmp .ne 31, 3) := by decide +kernel
theorem dX12_layCounts_76 : decode cX12_layCounts 76 = .ok (.iload 6, 2) := by decide +kernel
theorem dX12_layCounts_78 : decode cX12_layCounts 78 = .ok (.iconst 4, 1) := by decide +kernel
theorem dX12_layCounts_79 : decode cX12_layCounts 79 = .ok (.aload_n 0, 1) := by decide +kernel
theorem dX12_layCounts_80 : decode cX12_layCounts 80 = .ok (.getfield 16, 3) := by decide +kernel
theorem dX12_layCounts_83 : decode cX12_layCounts 83 = .ok (.iload 5, 2) := by decide +kernel
theorem dX12_layCounts_85 : decode cX12_layCounts 85 = .ok (.iaload, 1) := by decide +kernel
theorem dX12_layCounts_86 : decode cX12_layCounts 86 = .ok (.imul, 1) := by decide +kernel
theorem dX12_layCounts_87 : decode cX12_layCounts 87 = .ok (.aload_n 0, 1) := by decide +kernel
theorem dX12_layCounts_88 : decode cX12_layCounts 88 = .ok (.getfield 16, 3) := by decide +kernel
theorem dX12_layCounts_91 : decode cX12_layCounts 91 = .ok (.iload 5, 2) := by decide +kernel
theorem dX12_layCounts_93 : decode cX12_layCounts 93 = .ok (.iconst 1, 1) := by decide +kernel
theorem dX12_layCounts_94 : decode cX12_layCounts 94 = .ok (.iadd, 1) := by decide +kernel
theorem dX12_layCounts_95 : decode cX12_layCounts 95 = .ok (.iaload, 1) := by decide +kernel
theorem dX12_layCounts_96 : decode cX12_layCounts 96 = .ok (.iadd, 1) := by decide +kernel
theorem dX12_layCounts_97 : decode cX12_layCounts 97 = .ok (.if_icmp .ne 7, 3) := by decide +kernel
theorem dX12_layCounts_100 : decode cX12_layCounts 100 = .ok (.lconst 1, 1) := by decide +kernel
theorem dX12_layCounts_101 : decode cX12_layCounts 101 = .ok (.goto 4, 3) := by decide +kernel
theorem dX12_layCounts_104 : decode cX12_layCounts 104 = .ok (.lconst 0, 1) := by decide +kernel
theorem dX12_layCounts_105 : decode cX12_layCounts 105 = .ok (.lastore, 1) := by decide +kernel
theorem dX12_layCounts_106 : decode cX12_layCounts 106 = .ok (.iinc 6 1, 3) := by decide +kernel
theorem dX12_layCounts_109 : decode cX12_layCounts 109 = .ok (.goto (-54), 3) := by decide +kernel
theorem dX12_layCounts_112 : decode cX12_layCounts 112 = .ok (.iconst 1, 1) := by decide +kernel
theorem dX12_layCounts_113 : decode cX12_layCounts 113 = .ok (.istore 6, 2) := by decide +kernel
theorem dX12_layCounts_115 : decode cX12_layCounts 115 = .ok (.iload 6, 2) := by decide +kernel
theorem dX12_layCounts_117 : decode cX12_layCounts 117 = .ok (.iload_n 2, 1) := by decide +kernel
theorem dX12_layCounts_118 : decode cX12_layCounts 118 = .ok (.if_icmp .ge 92, 3) := by decide +kernel
theorem dX12_layCounts_121 : decode cX12_layCounts 121 = .ok (.iconst 0, 1) := by decide +kernel
theorem dX12_layCounts_122 : decode cX12_layCounts 122 = .ok (.istore 7, 2) := by decide +kernel
theorem dX12_layCounts_124 : decode cX12_layCounts 124 = .ok (.iload 7, 2) := by decide +kernel
theorem dX12_layCounts_126 : decode cX12_layCounts 126 = .ok (.aload_n 0, 1) := by decide +kernel
theorem dX12_layCounts_127 : decode cX12_layCounts 127 = .ok (.getfield 19, 3) := by decide +kernel
theorem dX12_layCounts_130 : decode cX12_layCounts 130 = .ok (.iconst 0, 1) := by decide +kernel
theorem dX12_layCounts_131 : decode cX12_layCounts 131 = .ok (.iaload, 1) := by decide +kernel
theorem dX12_layCounts_132 : decode cX12_layCounts 132 = .ok (.if_icmp .ge 72, 3) := by decide +kernel
theorem dX12_layCounts_135 : decode cX12_layCounts 135 = .ok (.aload_n 0, 1) := by decide +kernel
theorem dX12_layCounts_136 : decode cX12_layCounts 136 = .ok (.iload 4, 2) := by decide +kernel
theorem dX12_layCounts_138 : decode cX12_layCounts 138 = .ok (.bipush 40, 2) := by decide +kernel
theorem dX12_layCounts_140 : decode cX12_layCounts 140 = .ok (.bipush 9, 2) := by decide +kernel
theorem dX12_layCounts_142 : decode cX12_layCounts 142 = .ok (.iload_n 3, 1) := by decide +kernel
theorem dX12_layCounts_143 : decode cX12_layCounts 143 = .ok (.imul, 1) := by decide +kernel
theorem dX12_layCounts_144 : decode cX12_layCounts 144 = .ok (.iload 6, 2) := by decide +kernel
theorem dX12_layCounts_146 : decode cX12_layCounts 146 = .ok (.iadd, 1) := by decide +kernel
theorem dX12_layCounts_147 : decode cX12_layCounts 147 = .ok (.imul, 1) := by decide +kernel
theorem dX12_layCounts_148 : decode cX12_layCounts 148 = .ok (.iconst 4, 1) := by decide +kernel
theorem dX12_layCounts_149 : decode cX12_layCounts 149 = .ok (.aload_n 0, 1) := by decide +kernel
theorem dX12_layCounts_150 : decode cX12_layCounts 150 = .ok (.getfield 22, 3) := by decide +kernel
theorem dX12_layCounts_153 : decode cX12_layCounts 153 = .ok (.iconst 5, 1) := by decide +kernel
theorem dX12_layCounts_154 : decode cX12_layCounts 154 = .ok (.iload 7, 2) := by decide +kernel
theorem dX12_layCounts_156 : decode cX12_layCounts 156 = .ok (.imul, 1) := by decide +kernel
theorem dX12_layCounts_157 : decode cX12_layCounts 157 = .ok (.iconst 1, 1) := by decide +kernel
theorem dX12_layCounts_158 : decode cX12_layCounts 158 = .ok (.iadd, 1) := by decide +kernel
theorem dX12_layCounts_159 : decode cX12_layCounts 159 = .ok (.iaload, 1) := by decide +kernel
theorem dX12_layCounts_160 : decode cX12_layCounts 160 = .ok (.imul, 1) := by decide +kernel
theorem dX12_layCounts_161 : decode cX12_layCounts 161 = .ok (.iadd, 1) := by decide +kernel
theorem dX12_layCounts_162 : decode cX12_layCounts 162 = .ok (.bipush 40, 2) := by decide +kernel
theorem dX12_layCounts_164 : decode cX12_layCounts 164 = .ok (.bipush 9, 2) := by decide +kernel
theorem dX12_layCounts_166 : decode cX12_layCounts 166 = .ok (.iload_n 3, 1) := by decide +kernel
theorem dX12_layCounts_167 : decode cX12_layCounts 167 = .ok (.iload 6, 2) := by decide +kernel
theorem dX12_layCounts_169 : decode cX12_layCounts 169 = .ok (.iadd, 1) := by decide +kernel
theorem dX12_layCounts_170 : decode cX12_layCounts 170 = .ok (.imul, 1) := by decide +kernel
theorem dX12_layCounts_171 : decode cX12_layCounts 171 = .ok (.iload_n 2, 1) := by decide +kernel
theorem dX12_layCounts_172 : decode cX12_layCounts 172 = .ok (.iadd, 1) := by decide +kernel
theorem dX12_layCounts_173 : decode cX12_layCounts 173 = .ok (.iload 6, 2) := by decide +kernel
theorem dX12_layCounts_175 : decode cX12_layCounts 175 = .ok (.isub, 1) := by decide +kernel
theorem dX12_layCounts_176 : decode cX12_layCounts 176 = .ok (.imul, 1) := by decide +kernel
theorem dX12_layCounts_177 : decode cX12_layCounts 177 = .ok (.iconst 4, 1) := by decide +kernel
theorem dX12_layCounts_178 : decode cX12_layCounts 178 = .ok (.aload_n 0, 1) := by decide +kernel
theorem dX12_layCounts_179 : decode cX12_layCounts 179 = .ok (.getfield 22, 3) := by decide +kernel
theorem dX12_layCounts_182 : decode cX12_layCounts 182 = .ok (.iconst 5, 1) := by decide +kernel
theorem dX12_layCounts_183 : decode cX12_layCounts 183 = .ok (.iload 7, 2) := by decide +kernel
theorem dX12_layCounts_185 : decode cX12_layCounts 185 = .ok (.imul, 1) := by decide +kernel
theorem dX12_layCounts_186 : decode cX12_layCounts 186 = .ok (.iconst 2, 1) := by decide +kernel
theorem dX12_layCounts_187 : decode cX12_layCounts 187 = .ok (.iadd, 1) := by decide +kernel
theorem dX12_layCounts_188 : decode cX12_layCounts 188 = .ok (.iaload, 1) := by decide +kernel
theorem dX12_layCounts_189 : decode cX12_layCounts 189 = .ok (.imul, 1) := by decide +kernel
theorem dX12_layCounts_190 : decode cX12_layCounts 190 = .ok (.iadd, 1) := by decide +kernel
theorem dX12_layCounts_191 : decode cX12_layCounts 191 = .ok (.iconst 5, 1) := by decide +kernel
theorem dX12_layCounts_192 : decode cX12_layCounts 192 = .ok (.iload 7, 2) := by decide +kernel
theorem dX12_layCounts_194 : decode cX12_layCounts 194 = .ok (.imul, 1) := by decide +kernel
theorem dX12_layCounts_195 : decode cX12_layCounts 195 = .ok (.invokevirtual 151, 3) := by decide +kernel
theorem dX12_layCounts_198 : decode cX12_layCounts 198 = .ok (.iinc 7 1, 3) := by decide +kernel
theorem dX12_layCounts_201 : decode cX12_layCounts 201 = .ok (.goto (-77), 3) := by decide +kernel
theorem dX12_layCounts_204 : decode cX12_layCounts 204 = .ok (.iinc 6 1, 3) := by decide +kernel
theorem dX12_layCounts_207 : decode cX12_layCounts 207 = .ok (.goto (-92), 3) := by decide +kernel
theorem dX12_layCounts_210 : decode cX12_layCounts 210 = .ok (.iinc 3 1, 3) := by decide +kernel
theorem dX12_layCounts_213 : decode cX12_layCounts 213 = .ok (.goto (-199), 3) := by decide +kernel
theorem dX12_layCounts_216 : decode cX12_layCounts 216 = .ok (.iinc 2 1, 3) := by decide +kernel
theorem dX12_layCounts_219 : decode cX12_layCounts 219 = .ok (.goto (-217), 3) := by decide +kernel
theorem dX12_layCounts_222 : decode cX12_layCounts 222 = .ok (.return_, 1) := by decide +kernel
theorem dX12_addTrees_0 : decode cX12_addTrees 0 = .ok (.iconst 0, 1) := by decide +kernel
theorem dX12_addTrees_1 : decode cX12_addTrees 1 = .ok (.istore 5, 2) := by decide +kernel
theorem dX12_addTrees_3 : decode cX12_addTrees 3 = .ok (.iload 5, 2) := by decide +kernel
theorem dX12_addTrees_5 : decode cX12_addTrees 5 = .ok (.iconst 4, 1) := by decide +kernel
theorem dX12_addTrees_6 : decode cX12_addTrees 6 = .ok (.if_icmp .ge 101, 3) := by decide +kernel
theorem dX12_addTrees_9 : decode cX12_addTrees 9 = .ok (.iconst 0, 1) := by decide +kernel
theorem dX12_addTrees_10 : decode cX12_addTrees 10 = .ok (.istore 6, 2) := by decide +kernel
theorem dX12_addTrees_12 : decode cX12_addTrees 12 = .ok (.iload 6, 2) := by decide +kernel
theorem dX12_addTrees_14 : decode cX12_addTrees 14 = .ok (.iconst 4, 1) := by decide +kernel
theorem dX12_addTrees_15 : decode cX12_addTrees 15 = .ok (.if_icmp .ge 86, 3) := by decide +kernel
theorem dX12_addTrees_18 : decode cX12_addTrees 18 = .ok (.aload_n 0, 1) := by decide +kernel
theorem dX12_addTrees_19 : decode cX12_addTrees 19 = .ok (.getfield 22, 3) := by decide +kernel
theorem dX12_addTrees_22 : decode cX12_addTrees 22 = .ok (.iload 4, 2) := by decide +kernel
theorem dX12_addTrees_24 : decode cX12_addTrees 24 = .ok (.iconst 3, 1) := by decide +kernel
theorem dX12_addTrees_25 : decode cX12_addTrees 25 = .ok (.iadd, 1) := by decide +kernel
theorem dX12_addTrees_26 : decode cX12_addTrees 26 = .ok (.iaload, 1) := by decide +kernel
theorem dX12_addTrees_27 : decode cX12_addTrees 27 = .ok (.ifCond .eq 10, 3) := by decide +kernel
theorem dX12_addTrees_30 : decode cX12_addTrees 30 = .ok (.iload 5, 2) := by decide +kernel
theorem dX12_addTrees_32 : decode cX12_addTrees 32 = .ok (.iload 6, 2) := by decide +kernel
theorem dX12_addTrees_34 : decode cX12_addTrees 34 = .ok (.if_icmp .ne 61, 3) := by decide +kernel
theorem dX12_addTrees_37 : decode cX12_addTrees 37 = .ok (.aload_n 0, 1) := by decide +kernel
theorem dX12_addTrees_38 : decode cX12_addTrees 38 = .ok (.getfield 53, 3) := by decide +kernel
theorem dX12_addTrees_41 : decode cX12_addTrees 41 = .ok (.iload_n 1, 1) := by decide +kernel
theorem dX12_addTrees_42 : decode cX12_addTrees 42 = .ok (.iconst 4, 1) := by decide +kernel
theorem dX12_addTrees_43 : decode cX12_addTrees 43 = .ok (.aload_n 0, 1) := by decide +kernel
theorem dX12_addTrees_44 : decode cX12_addTrees 44 = .ok (.getfield 22, 3) := by decide +kernel
theorem dX12_addTrees_47 : decode cX12_addTrees 47 = .ok (.iload 4, 2) := by decide +kernel
theorem dX12_addTrees_49 : decode cX12_addTrees 49 = .ok (.iaload, 1) := by decide +kernel
theorem dX12_addTrees_50 : decode cX12_addTrees 50 = .ok (.imul, 1) := by decide +kernel
theorem dX12_addTrees_51 : decode cX12_addTrees 51 = .ok (.iadd, 1) := by decide +kernel
theorem dX12_addTrees_52 : decode cX12_addTrees 52 = .ok (.aload_n 0, 1) := by decide +kernel
theorem dX12_addTrees_53 : decode cX12_addTrees 53 = .ok (.getfield 22, 3) := by decide +kernel
theorem dX12_addTrees_56 : decode cX12_addTrees 56 = .ok (.iload 4, 2) := by decide +kernel
theorem dX12_addTrees_58 : decode cX12_addTrees 58 = .ok (.iconst 4, 1) := by decide +kernel
theorem dX12_addTrees_59 : decode cX12_addTrees 59 = .ok (.iadd, 1) := by decide +kernel
theorem dX12_addTrees_60 : decode cX12_addTrees 60 = .ok (.iaload, 1) := by decide +kernel
theorem dX12_addTrees_61 : decode cX12_addTrees 61 = .ok (.ifCond .ne 8, 3) := by decide +kernel
theorem dX12_addTrees_64 : decode cX12_addTrees 64 = .ok (.iload 5, 2) := by decide +kernel
theorem dX12_addTrees_66 : decode cX12_addTrees 66 = .ok (.goto 5, 3) := by decide +kernel
theorem dX12_addTrees_69 : decode cX12_addTrees 69 = .ok (.iload 6, 2) := by decide +kernel
theorem dX12_addTrees_71 : decode cX12_addTrees 71 = .ok (.iadd, 1) := by decide +kernel
theorem dX12_addTrees_72 : decode cX12_addTrees 72 = .ok (.dup2, 1) := by decide +kernel
theorem dX12_addTrees_73 : decode cX12_addTrees 73 = .ok (.laload, 1) := by decide +kernel
theorem dX12_addTrees_74 : decode cX12_addTrees 74 = .ok (.aload_n 0, 1) := by decide +kernel
theorem dX12_addTrees_75 : decode cX12_addTrees 75 = .ok (.getfield 53, 3) := by decide +kernel
theorem dX12_addTrees_78 : decode cX12_addTrees 78 = .ok (.iload_n 2, 1) := by decide +kernel
theorem dX12_addTrees_79 : decode cX12_addTrees 79 = .ok (.iload 5, 2) := by decide +kernel
theorem dX12_addTrees_81 : decode cX12_addTrees 81 = .ok (.iadd, 1) := by decide +kernel
theorem dX12_addTrees_82 : decode cX12_addTrees 82 = .ok (.laload, 1) := by decide +kernel
theorem dX12_addTrees_83 : decode cX12_addTrees 83 = .ok (.aload_n 0, 1) := by decide +kernel
theorem dX12_addTrees_84 : decode cX12_addTrees 84 = .ok (.getfield 53, 3) := by decide +kernel
theorem dX12_addTrees_87 : decode cX12_addTrees 87 = .ok (.iload_n 3, 1) := by decide +kernel
theorem dX12_addTrees_88 : decode cX12_addTrees 88 = .ok (.iload 6, 2) := by decide +kernel
theorem dX12_addTrees_90 : decode cX12_addTrees 90 = .ok (.iadd, 1) := by decide +kernel
theorem dX12_addTrees_91 : decode cX12_addTrees 91 = .ok (.laload, 1) := by decide +kernel
theorem dX12_addTrees_92 : decode cX12_addTrees 92 = .ok (.lmul, 1) := by decide +kernel
theorem dX12_addTrees_93 : decode cX12_addTrees 93 = .ok (.ladd, 1) := by decide +kernel
theorem dX12_addTrees_94 : decode cX12_addTrees 94 = .ok (.lastore, 1) := by decide +kernel
theorem dX12_addTrees_95 : decode cX12_addTrees 95 = .ok (.iinc 6 1, 3) := by decide +kernel
theorem dX12_addTrees_98 : decode cX12_addTrees 98 = .ok (.goto (-86), 3) := by decide +kernel
theorem dX12_addTrees_101 : decode cX12_addTrees 101 = .ok (.iinc 5 1, 3) := by decide +kernel
theorem dX12_addTrees_104 : decode cX12_addTrees 104 = .ok (.goto (-101), 3) := by decide +kernel
theorem dX12_addTrees_107 : decode cX12_addTrees 107 = .ok (.return_, 1) := by decide +kernel
theorem dX12_trees_0 : decode cX12_trees 0 = .ok (.iload_n 1, 1) := by decide +kernel
theorem dX12_trees_1 : decode cX12_trees 1 = .ok (.invokestatic 134, 3) := by decide +kernel
theorem dX12_trees_4 : decode cX12_trees 4 = .ok (.ifCond .eq 17, 3) := by decide +kernel
theorem dX12_trees_7 : decode cX12_trees 7 = .ok (.iload_n 2, 1) := by decide +kernel
theorem dX12_trees_8 : decode cX12_trees 8 = .ok (.i2l, 1) := by decide +kernel
theorem dX12_trees_9 : decode cX12_trees 9 = .ok (.ldc2_w 155, 3) := by decide +kernel
theorem dX12_trees_12 : decode cX12_trees 12 = .ok (.ldc2_w 157, 3) := by decide +kernel
theorem dX12_trees_15 : decode cX12_trees 15 = .ok (.invokestatic 80, 3) := by decide +kernel
theorem dX12_trees_18 : decode cX12_trees 18 = .ok (.ifCond .ne 7, 3) := by decide +kernel
theorem dX12_trees_21 : decode cX12_trees 21 = .ok (.ldc2_w 155, 3) := by decide +kernel
theorem dX12_trees_24 : decode cX12_trees 24 = .ok (.lreturn, 1) := by decide +kernel
theorem dX12_trees_25 : decode cX12_trees 25 = .ok (.aload_n 0, 1) := by decide +kernel
theorem dX12_trees_26 : decode cX12_trees 26 = .ok (.getfield 28, 3) := by decide +kernel
theorem dX12_trees_29 : decode cX12_trees 29 = .ok (.iload_n 1, 1) := by decide +kernel
theorem dX12_trees_30 : decode cX12_trees 30 = .ok (.iaload, 1) := by decide +kernel
theorem dX12_trees_31 : decode cX12_trees 31 = .ok (.ifCond .ne 7, 3) := by decide +kernel
theorem dX12_trees_34 : decode cX12_trees 34 = .ok (.ldc2_w 159, 3) := by decide +kernel
theorem dX12_trees_37 : decode cX12_trees 37 = .ok (.lreturn, 1) := by decide +kernel
theorem dX12_trees_38 : decode cX12_trees 38 = .ok (.aload_n 0, 1) := by decide +kernel
theorem dX12_trees_39 : decode cX12_trees 39 = .ok (.iload_n 1, 1) := by decide +kernel
theorem dX12_trees_40 : decode cX12_trees 40 = .ok (.invokevirtual 161, 3) := by decide +kernel
theorem dX12_trees_43 : decode cX12_trees 43 = .ok (.bipush 40, 2) := by decide +kernel
theorem dX12_trees_45 : decode cX12_trees 45 = .ok (.aload_n 0, 1) := by decide +kernel
theorem dX12_trees_46 : decode cX12_trees 46 = .ok (.getfield 28, 3) := by decide +kernel
theorem dX12_trees_49 : decode cX12_trees 49 = .ok (.iload_n 1, 1) := by decide +kernel
theorem dX12_trees_50 : decode cX12_trees 50 = .ok (.iaload, 1) := by decide +kernel
theorem dX12_trees_51 : decode cX12_trees 51 = .ok (.imul, 1) := by decide +kernel
theorem dX12_trees_52 : decode cX12_trees 52 = .ok (.istore_n 3, 1) := by decide +kernel
theorem dX12_trees_53 : decode cX12_trees 53 = .ok (.iload_n 2, 1) := by decide +kernel
theorem dX12_trees_54 : decode cX12_trees 54 = .ok (.ifCond .ge 39, 3) := by decide +kernel
theorem dX12_trees_57 : decode cX12_trees 57 = .ok (.aload_n 0, 1) := by decide +kernel
theorem dX12_trees_58 : decode cX12_trees 58 = .ok (.getfield 53, 3) := by decide +kernel
theorem dX12_trees_61 : decode cX12_trees 61 = .ok (.iload_n 3, 1) := by decide +kernel
theorem dX12_trees_62 : decode cX12_trees 62 = .ok (.laload, 1) := by decide +kernel
theorem dX12_trees_63 : decode cX12_trees 63 = .ok (.aload_n 0, 1) := by decide +kernel
theorem dX12_trees_64 : decode cX12_trees 64 = .ok (.getfield 53, 3) := by decide +kernel
theorem dX12_trees_67 : decode cX12_trees 67 = .ok (.iload_n 3, 1) := by decide +kernel
theorem dX12_trees_68 : decode cX12_trees 68 = .ok (.iconst 1, 1) := by decide +kernel
theorem dX12_trees_69 : decode cX12_trees 69 = .ok (.iadd, 1) := by decide +kernel
theorem dX12_trees_70 : decode cX12_trees 70 = .ok (.laload, 1) := by decide +kernel
theorem dX12_trees_71 : decode cX12_trees 71 = .ok (.ladd, 1) := by decide +kernel
theorem dX12_trees_72 : decode cX12_trees 72 = .ok (.aload_n 0, 1) := by decide +kernel
theorem dX12_trees_73 : decode cX12_trees 73 = .ok (.getfield 53, 3) := by decide +kernel
theorem dX12_trees_76 : decode cX12_trees 76 = .ok (.iload_n 3, 1) := by decide +kernel
theorem dX12_trees_77 : decode cX12_trees 77 = .ok (.iconst 2, 1) := by decide +kernel
theorem dX12_trees_78 : decode cX12_trees 78 = .ok (.iadd, 1) := by decide +kernel
theorem dX12_trees_79 : decode cX12_trees 79 = .ok (.laload, 1) := by decide +kernel
theorem dX12_trees_80 : decode cX12_trees 80 = .ok (.ladd, 1) := by decide +kernel
theorem dX12_trees_81 : decode cX12_trees 81 = .ok (.aload_n 0, 1) := by decide +kernel
theorem dX12_trees_82 : decode cX12_trees 82 = .ok (.getfield 53, 3) := by decide +kernel
theorem dX12_trees_85 : decode cX12_trees 85 = .ok (.iload_n 3, 1) := by decide +kernel
theorem dX12_trees_86 : decode cX12_trees 86 = .ok (.iconst 3, 1) := by decide +kernel
theorem dX12_trees_87 : decode cX12_trees 87 = .ok (.iadd, 1) := by decide +kernel
theorem dX12_trees_88 : decode cX12_trees 88 = .ok (.laload, 1) := by decide +kernel
theorem dX12_trees_89 : decode cX12_trees 89 = .ok (.ladd, 1) := by decide +kernel
theorem dX12_trees_90 : decode cX12_trees 90 = .ok (.goto 11, 3) := by decide +kernel
theorem dX12_trees_93 : decode cX12_trees 93 = .ok (.aload_n 0, 1) := by decide +kernel
theorem dX12_trees_94 : decode cX12_trees 94 = .ok (.getfield 53, 3) := by decide +kernel
theorem dX12_trees_97 : decode cX12_trees 97 = .ok (.iload_n 3, 1) := by decide +kernel
theorem dX12_trees_98 : decode cX12_trees 98 = .ok (.iload_n 2, 1) := by decide +kernel
theorem dX12_trees_99 : decode cX12_trees 99 = .ok (.iadd, 1) := by decide +kernel
theorem dX12_trees_100 : decode cX12_trees 100 = .ok (.laload, 1) := by decide +kernel
theorem dX12_trees_101 : decode cX12_trees 101 = .ok (.lreturn, 1) := by decide +kernel
theorem dX12_part_0 : decode cX12_part 0 = .ok (.iload_n 1, 1) := by decide +kernel
theorem dX12_part_1 : decode cX12_part 1 = .ok (.invokestatic 134, 3) := by decide +kernel
theorem dX12_part_4 : decode cX12_part 4 = .ok (.ifCond .eq 59, 3) := by decide +kernel
theorem dX12_part_7 : decode cX12_part 7 = .ok (.iload_n 2, 1) := by decide +kernel
theorem dX12_part_8 : decode cX12_part 8 = .ok (.i2l, 1) := by decide +kernel
theorem dX12_part_9 : decode cX12_part 9 = .ok (.lconst 0, 1) := by decide +kernel
theorem dX12_part_10 : decode cX12_part 10 = .ok (.ldc2_w 132, 3) := by decide +kernel
theorem dX12_part_13 : decode cX12_part 13 = .ok (.invokestatic 80, 3) := by decide +kernel
theorem dX12_part_16 : decode cX12_part 16 = .ok (.ifCond .eq 47, 3) := by decide +kernel
theorem dX12_part_19 : decode cX12_part 19 = .ok (.iload_n 3, 1) := by decide +kernel
theorem dX12_part_20 : decode cX12_part 20 = .ok (.i2l, 1) := by decide +kernel
theorem dX12_part_21 : decode cX12_part 21 = .ok (.lconst 1, 1) := by decide +kernel
theorem dX12_part_22 : decode cX12_part 22 = .ok (.aload_n 0, 1) := by decide +kernel
theorem dX12_part_23 : decode cX12_part 23 = .ok (.getfield 28, 3) := by decide +kernel
theorem dX12_part_26 : decode cX12_part 26 = .ok (.iload_n 1, 1) := by decide +kernel
theorem dX12_part_27 : decode cX12_part 27 = .ok (.iaload, 1) := by decide +kernel
theorem dX12_part_28 : decode cX12_part 28 = .ok (.iload_n 2, 1) := by decide +kernel
theorem dX12_part_29 : decode cX12_part 29 = .ok (.isub, 1) := by decide +kernel
theorem dX12_part_30 : decode cX12_part 30 = .ok (.i2l, 1) := by decide +kernel
theorem dX12_part_31 : decode cX12_part 31 = .ok (.invokestatic 80, 3) := by decide +kernel
theorem dX12_part_34 : decode cX12_part 34 = .ok (.ifCond .eq 29, 3) := by decide +kernel
theorem dX12_part_37 : decode cX12_part 37 = .ok (.iload 4, 2) := by decide +kernel
theorem dX12_part_39 : decode cX12_part 39 = .ok (.i2l, 1) := by decide +kernel
theorem dX12_part_40 : decode cX12_part 40 = .ok (.lconst 0, 1) := by decide +kernel
theorem dX12_part_41 : decode cX12_part 41 = .ok (.ldc2_w 164, 3) := by decide +kernel
theorem dX12_part_44 : decode cX12_part 44 = .ok (.invokestatic 80, 3) := by decide +kernel
theorem dX12_part_47 : decode cX12_part 47 = .ok (.ifCond .eq 16, 3) := by decide +kernel
theorem dX12_part_50 : decode cX12_part 50 = .ok (.iload 5, 2) := by decide +kernel
theorem dX12_part_52 : decode cX12_part 52 = .ok (.i2l, 1) := by decide +kernel
theorem dX12_part_53 : decode cX12_part 53 = .ok (.lconst 0, 1) := by decide +kernel
theorem dX12_part_54 : decode cX12_part 54 = .ok (.ldc2_w 157, 3) := by decide +kernel
theorem dX12_part_57 : decode cX12_part 57 = .ok (.invokestatic 80, 3) := by decide +kernel
theorem dX12_part_60 : decode cX12_part 60 = .ok (.ifCond .ne 5, 3) := by decide +kernel
theorem dX12_part_63 : decode cX12_part 63 = .ok (.iconst (-1), 1) := by decide +kernel
theorem dX12_part_64 : decode cX12_part 64 = .ok (.ireturn, 1) := by decide +kernel
theorem dX12_part_65 : decode cX12_part 65 = .ok (.aload_n 0, 1) := by decide +kernel
theorem dX12_part_66 : decode cX12_part 66 = .ok (.iload_n 1, 1) := by decide +kernel
theorem dX12_part_67 : decode cX12_part 67 = .ok (.iconst 0, 1) := by decide +kernel
theorem dX12_part_68 : decode cX12_part 68 = .ok (.invokevirtual 147, 3) := by decide +kernel
theorem dX12_part_71 : decode cX12_part 71 = .ok (.aload_n 0, 1) := by decide +kernel
theorem dX12_part_72 : decode cX12_part 72 = .ok (.iload_n 2, 1) := by decide +kernel
theorem dX12_part_73 : decode cX12_part 73 = .ok (.iload_n 3, 1) := by decide +kernel
theorem dX12_part_74 : decode cX12_part 74 = .ok (.iload 4, 2) := by decide +kernel
theorem dX12_part_76 : decode cX12_part 76 = .ok (.invokevirtual 139, 3) := by decide +kernel
theorem dX12_part_79 : decode cX12_part 79 = .ok (.iload 5, 2) := by decide +kernel
theorem dX12_part_81 : decode cX12_part 81 = .ok (.ishr, 1) := by decide +kernel
theorem dX12_part_82 : decode cX12_part 82 = .ok (.iconst 1, 1) := by decide +kernel
theorem dX12_part_83 : decode cX12_part 83 = .ok (.iand, 1) := by decide +kernel
theorem dX12_part_84 : decode cX12_part 84 = .ok (.ireturn, 1) := by decide +kernel
theorem dX12_changes_0 : decode cX12_changes 0 = .ok (.iconst 4, 1) := by decide +kernel
theorem dX12_changes_1 : decode cX12_changes 1 = .ok (.iload_n 1, 1) := by decide +kernel
theorem dX12_changes_2 : decode cX12_changes 2 = .ok (.imul, 1) := by decide +kernel
theorem dX12_changes_3 : decode cX12_changes 3 = .ok (.istore_n 3, 1) := by decide +kernel
theorem dX12_changes_4 : decode cX12_changes 4 = .ok (.iconst 4, 1) := by decide +kernel
theorem dX12_changes_5 : decode cX12_changes 5 = .ok (.iload_n 2, 1) := by decide +kernel
theorem dX12_changes_6 : decode cX12_changes 6 = .ok (.imul, 1) := by decide +kernel
theorem dX12_changes_7 : decode cX12_changes 7 = .ok (.istore 4, 2) := by decide +kernel
theorem dX12_changes_9 : decode cX12_changes 9 = .ok (.ldc 166, 2) := by decide +kernel
theorem dX12_changes_11 : decode cX12_changes 11 = .ok (.istore 5, 2) := by decide +kernel
theorem dX12_changes_13 : decode cX12_changes 13 = .ok (.iconst 0, 1) := by decide +kernel
theorem dX12_changes_14 : decode cX12_changes 14 = .ok (.istore 6, 2) := by decide +kernel
theorem dX12_changes_16 : decode cX12_changes 16 = .ok (.iload 6, 2) := by decide +kernel
theorem dX12_changes_18 : decode cX12_changes 18 = .ok (.iconst 3, 1) := by decide +kernel
theorem dX12_changes_19 : decode cX12_changes 19 = .ok (.if_icmp .ge 84, 3) := by decide +kernel
theorem dX12_changes_22 : decode cX12_changes 22 = .ok (.iload_n 1, 1) := by decide +kernel
theorem dX12_changes_23 : decode cX12_changes 23 = .ok (.iload_n 2, 1) := by decide +kernel
theorem dX12_changes_24 : decode cX12_changes 24 = .ok (.if_icmp .eq 79, 3) := by decide +kernel
theorem dX12_changes_27 : decode cX12_changes 27 = .ok (.iload 6, 2) := by decide +kernel
theorem dX12_changes_29 : decode cX12_changes 29 = .ok (.ifCond .ne 7, 3) := by decide +kernel
theorem dX12_changes_32 : decode cX12_changes 32 = .ok (.iconst 2, 1) := by decide +kernel
theorem dX12_changes_33 : decode cX12_changes 33 = .ok (.goto 14, 3) := by decide +kernel
theorem dX12_changes_36 : decode cX12_changes 36 = .ok (.iload 6, 2) := by decide +kernel
theorem dX12_changes_38 : decode cX12_changes 38 = .ok (.iconst 1, 1) := by decide +kernel
theorem dX12_changes_39 : decode cX12_changes 39 = .ok (.if_icmp .ne 7, 3) := by decide +kernel
theorem dX12_changes_42 : decode cX12_changes 42 = .ok (.iconst 3, 1) := by decide +kernel
theorem dX12_changes_43 : decode cX12_changes 43 = .ok (.goto 4, 3) := by decide +kernel
theorem dX12_changes_46 : decode cX12_changes 46 = .ok (.iconst 0, 1) := by decide +kernel
theorem dX12_changes_47 : decode cX12_changes 47 = .ok (.istore 7, 2) := by decide +kernel
theorem dX12_changes_49 : decode cX12_changes 49 = .ok (.aload_n 0, 1) := by decide +kernel
theorem dX12_changes_50 : decode cX12_changes 50 = .ok (.getfield 16, 3) := by decide +kernel
theorem dX12_changes_53 : decode cX12_changes 53 = .ok (.iload_n 3, 1) := by decide +kernel
theorem dX12_changes_54 : decode cX12_changes 54 = .ok (.iload 7, 2) := by decide +kernel
theorem dX12_changes_56 : decode cX12_changes 56 = .ok (.iadd, 1) := by decide +kernel
theorem dX12_changes_57 : decode cX12_changes 57 = .ok (.iaload, 1) := by decide +kernel
theorem dX12_changes_58 : decode cX12_changes 58 = .ok (.aload_n 0, 1) := by decide +kernel
theorem dX12_changes_59 : decode cX12_changes 59 = .ok (.getfield 16, 3) := by decide +kernel
theorem dX12_changes_62 : decode cX12_changes 62 = .ok (.iload 4, 2) := by decide +kernel
theorem dX12_changes_64 : decode cX12_changes 64 = .ok (.iload 7, 2) := by decide +kernel
theorem dX12_changes_66 : decode cX12_changes 66 = .ok (.iadd, 1) := by decide +kernel
theorem dX12_changes_67 : decode cX12_changes 67 = .ok (.iaload, 1) := by decide +kernel
theorem dX12_changes_68 : decode cX12_changes 68 = .ok (.if_icmp .ne 25, 3) := by decide +kernel
theorem dX12_changes_71 : decode cX12_changes 71 = .ok (.aload_n 0, 1) := by decide +kernel
theorem dX12_changes_72 : decode cX12_changes 72 = .ok (.getfield 59, 3) := by decide +kernel
theorem dX12_changes_75 : decode cX12_changes 75 = .ok (.iload 6, 2) := by decide +kernel
theorem dX12_changes_77 : decode cX12_changes 77 = .ok (.iaload, 1) := by decide +kernel
theorem dX12_changes_78 : decode cX12_changes 78 = .ok (.iload 5, 2) := by decide +kernel
theorem dX12_changes_80 : decode cX12_changes 80 = .ok (.if_icmp .ge 13, 3) := by decide +kernel
theorem dX12_changes_83 : decode cX12_changes 83 = .ok (.aload_n 0, 1) := by decide +kernel
theorem dX12_changes_84 : decode cX12_changes 84 = .ok (.getfield 59, 3) := by decide +kernel
theorem dX12_changes_87 : decode cX12_changes 87 = .ok (.iload 6, 2) := by decide +kernel
theorem dX12_changes_89 : decode cX12_changes 89 = .ok (.iaload, 1) := by decide +kernel
theorem dX12_changes_90 : decode cX12_changes 90 = .ok (.goto 5, 3) := by decide +kernel
theorem dX12_changes_93 : decode cX12_changes 93 = .ok (.iload 5, 2) := by decide +kernel
theorem dX12_changes_95 : decode cX12_changes 95 = .ok (.istore 5, 2) := by decide +kernel
theorem dX12_changes_97 : decode cX12_changes 97 = .ok (.iinc 6 1, 3) := by decide +kernel
theorem dX12_changes_100 : decode cX12_changes 100 = .ok (.goto (-84), 3) := by decide +kernel
theorem dX12_changes_103 : decode cX12_changes 103 = .ok (.iload_n 1, 1) := by decide +kernel
theorem dX12_changes_104 : decode cX12_changes 104 = .ok (.iload_n 2, 1) := by decide +kernel
theorem dX12_changes_105 : decode cX12_changes 105 = .ok (.if_icmp .ne 7, 3) := by decide +kernel
theorem dX12_changes_108 : decode cX12_changes 108 = .ok (.iconst 0, 1) := by decide +kernel
theorem dX12_changes_109 : decode cX12_changes 109 = .ok (.goto 5, 3) := by decide +kernel
theorem dX12_changes_112 : decode cX12_changes 112 = .ok (.iload 5, 2) := by decide +kernel
theorem dX12_changes_114 : decode cX12_changes 114 = .ok (.ireturn, 1) := by decide +kernel
theorem dX12_costAt_0 : decode cX12_costAt 0 = .ok (.bipush 40, 2) := by decide +kernel
theorem dX12_costAt_2 : decode cX12_costAt 2 = .ok (.bipush 10, 2) := by decide +kernel
theorem dX12_costAt_4 : decode cX12_costAt 4 = .ok (.iload_n 1, 1) := by decide +kernel
theorem dX12_costAt_5 : decode cX12_costAt 5 = .ok (.imul, 1) := by decide +kernel
theorem dX12_costAt_6 : decode cX12_costAt 6 = .ok (.iload_n 2, 1) := by decide +kernel
theorem dX12_costAt_7 : decode cX12_costAt 7 = .ok (.iadd, 1) := by decide +kernel
theorem dX12_costAt_8 : decode cX12_costAt 8 = .ok (.imul, 1) := by decide +kernel
theorem dX12_costAt_9 : decode cX12_costAt 9 = .ok (.ireturn, 1) := by decide +kernel
theorem dX12_layLeaves_0 : decode cX12_layLeaves 0 = .ok (.aload_n 0, 1) := by decide +kernel
theorem dX12_layLeaves_1 : decode cX12_layLeaves 1 = .ok (.iload_n 2, 1) := by decide +kernel
theorem dX12_layLeaves_2 : decode cX12_layLeaves 2 = .ok (.iload_n 3, 1) := by decide +kernel
theorem dX12_layLeaves_3 : decode cX12_layLeaves 3 = .ok (.invokevirtual 167, 3) := by decide +kernel
theorem dX12_layLeaves_6 : decode cX12_layLeaves 6 = .ok (.istore 4, 2) := by decide +kernel
theorem dX12_layLeaves_8 : decode cX12_layLeaves 8 = .ok (.iconst 0, 1) := by decide +kernel
theorem dX12_layLeaves_9 : decode cX12_layLeaves 9 = .ok (.istore 5, 2) := by decide +kernel
theorem dX12_layLeaves_11 : decode cX12_layLeaves 11 = .ok (.iload 5, 2) := by decide +kernel
theorem dX12_layLeaves_13 : decode cX12_layLeaves 13 = .ok (.bipush 40, 2) := by decide +kernel
theorem dX12_layLeaves_15 : decode cX12_layLeaves 15 = .ok (.if_icmp .ge 21, 3) := by decide +kernel
theorem dX12_layLeaves_18 : decode cX12_layLeaves 18 = .ok (.aload_n 0, 1) := by decide +kernel
theorem dX12_layLeaves_19 : decode cX12_layLeaves 19 = .ok (.getfield 56, 3) := by decide +kernel
theorem dX12_layLeaves_22 : decode cX12_layLeaves 22 = .ok (.iload 4, 2) := by decide +kernel
theorem dX12_layLeaves_24 : decode cX12_layLeaves 24 = .ok (.iload 5, 2) := by decide +kernel
theorem dX12_layLeaves_26 : decode cX12_layLeaves 26 = .ok (.iadd, 1) := by decide +kernel
theorem dX12_layLeaves_27 : decode cX12_layLeaves 27 = .ok (.ldc 166, 2) := by decide +kernel
theorem dX12_layLeaves_29 : decode cX12_layLeaves 29 = .ok (.iastore, 1) := by decide +kernel
theorem dX12_layLeaves_30 : decode cX12_layLeaves 30 = .ok (.iinc 5 1, 3) := by decide +kernel
theorem dX12_layLeaves_33 : decode cX12_layLeaves 33 = .ok (.goto (-22), 3) := by decide +kernel
theorem dX12_layLeaves_36 : decode cX12_layLeaves 36 = .ok (.iconst 0, 1) := by decide +kernel
theorem dX12_layLeaves_37 : decode cX12_layLeaves 37 = .ok (.istore 5, 2) := by decide +kernel
theorem dX12_layLeaves_39 : decode cX12_layLeaves 39 = .ok (.iload 5, 2) := by decide +kernel
theorem dX12_layLeaves_41 : decode cX12_layLeaves 41 = .ok (.aload_n 0, 1) := by decide +kernel
theorem dX12_layLeaves_42 : decode cX12_layLeaves 42 = .ok (.getfield 13, 3) := by decide +kernel
theorem dX12_layLeaves_45 : decode cX12_layLeaves 45 = .ok (.iconst 0, 1) := by decide +kernel
theorem dX12_layLeaves_46 : decode cX12_layLeaves 46 = .ok (.iaload, 1) := by decide +kernel
theorem dX12_layLeaves_47 : decode cX12_layLeaves 47 = .ok (.if_icmp .ge 143, 3) := by decide +kernel
theorem dX12_layLeaves_50 : decode cX12_layLeaves 50 = .ok (.iload_n 3, 1) := by decide +kernel
theorem dX12_layLeaves_51 : decode cX12_layLeaves 51 = .ok (.iload_n 2, 1) := by decide +kernel
theorem dX12_layLeaves_52 : decode cX12_layLeaves 52 = .ok (.isub, 1) := by decide +kernel
theorem dX12_layLeaves_53 : decode cX12_layLeaves 53 = .ok (.iconst 2, 1) := by decide +kernel
theorem dX12_layLeaves_54 : decode cX12_layLeaves 54 = .ok (.if_icmp .ge 136, 3) := by decide +kernel
theorem dX12_layLeaves_57 : decode cX12_layLeaves 57 = .ok (.iconst 4, 1) := by decide +kernel
theorem dX12_layLeaves_58 : decode cX12_layLeaves 58 = .ok (.aload_n 0, 1) := by decide +kernel
theorem dX12_layLeaves_59 : decode cX12_layLeaves 59 = .ok (.getfield 16, 3) := by decide +kernel
theorem dX12_layLeaves_62 : decode cX12_layLeaves 62 = .ok (.iconst 4, 1) := by decide +kernel
theorem dX12_layLeaves_63 : decode cX12_layLeaves 63 = .ok (.iload 5, 2) := by decide +kernel
theorem dX12_layLeaves_65 : decode cX12_layLeaves 65 = .ok (.imul, 1) := by decide +kernel
theorem dX12_layLeaves_66 : decode cX12_layLeaves 66 = .ok (.iaload, 1) := by decide +kernel
theorem dX12_layLeaves_67 : decode cX12_layLeaves 67 = .ok (.imul, 1) := by decide +kernel
theorem dX12_layLeaves_68 : decode cX12_layLeaves 68 = .ok (.aload_n 0, 1) := by decide +kernel
theorem dX12_layLeaves_69 : decode cX12_layLeaves 69 = .ok (.getfield 16, 3) := by decide +kernel
theorem dX12_layLeaves_72 : decode cX12_layLeaves 72 = .ok (.iconst 4, 1) := by decide +kernel
theorem dX12_layLeaves_73 : decode cX12_layLeaves 73 = .ok (.iload 5, 2) := by decide +kernel
theorem dX12_layLeaves_75 : decode cX12_layLeaves 75 = .ok (.imul, 1) := by decide +kernel
theorem dX12_layLeaves_76 : decode cX12_layLeaves 76 = .ok (.iconst 1, 1) := by decide +kernel
theorem dX12_layLeaves_77 : decode cX12_layLeaves 77 = .ok (.iadd, 1) := by decide +kernel
theorem dX12_layLeaves_78 : decode cX12_layLeaves 78 = .ok (.iaload, 1) := by decide +kernel
theorem dX12_layLeaves_79 : decode cX12_layLeaves 79 = .ok (.iadd, 1) := by decide +kernel
theorem dX12_layLeaves_80 : decode cX12_layLeaves 80 = .ok (.istore 6, 2) := by decide +kernel
theorem dX12_layLeaves_82 : decode cX12_layLeaves 82 = .ok (.aload_n 0, 1) := by decide +kernel
theorem dX12_layLeaves_83 : decode cX12_layLeaves 83 = .ok (.getfield 31, 3) := by decide +kernel
theorem dX12_layLeaves_86 : decode cX12_layLeaves 86 = .ok (.bipush 10, 2) := by decide +kernel
theorem dX12_layLeaves_88 : decode cX12_layLeaves 88 = .ok (.iload_n 1, 1) := by decide +kernel
theorem dX12_layLeaves_89 : decode cX12_layLeaves 89 = .ok (.imul, 1) := by decide +kernel
theorem dX12_layLeaves_90 : decode cX12_layLeaves 90 = .ok (.iload_n 2, 1) := by decide +kernel
theorem dX12_layLeaves_91 : decode cX12_layLeaves 91 = .ok (.iadd, 1) := by decide +kernel
theorem dX12_layLeaves_92 : decode cX12_layLeaves 92 = .ok (.iaload, 1) := by decide +kernel
theorem dX12_layLeaves_93 : decode cX12_layLeaves 93 = .ok (.istore 7, 2) := by decide +kernel
theorem dX12_layLeaves_95 : decode cX12_layLeaves 95 = .ok (.iload_n 2, 1) := by decide +kernel
theorem dX12_layLeaves_96 : decode cX12_layLeaves 96 = .ok (.iload_n 3, 1) := by decide +kernel
theorem dX12_layLeaves_97 : decode cX12_layLeaves 97 = .ok (.if_icmp .ne 12, 3) := by decide +kernel
theorem dX12_layLeaves_100 : decode cX12_layLeaves 100 = .ok (.aload_n 0, 1) := by decide +kernel
theorem dX12_layLeaves_101 : decode cX12_layLeaves 101 = .ok (.getfield 59, 3) := by decide +kernel
theorem dX12_layLeaves_104 : decode cX12_layLeaves 104 = .ok (.iconst 4, 1) := by decide +kernel
theorem dX12_layLeaves_105 : decode cX12_layLeaves 105 = .ok (.iaload, 1) := by decide +kernel
theorem dX12_layLeaves_106 : decode cX12_layLeaves 106 = .ok (.goto 36, 3) := by decide +kernel
theorem dX12_layLeaves_109 : decode cX12_layLeaves 109 = .ok (.aload_n 0, 1) := by decide +kernel
theorem dX12_layLeaves_110 : decode cX12_layLeaves 110 = .ok (.getfield 34, 3) := by decide +kernel
theorem dX12_layLeaves_113 : decode cX12_layLeaves 113 = .ok (.iload_n 1, 1) := by decide +kernel
theorem dX12_layLeaves_114 : decode cX12_layLeaves 114 = .ok (.iaload, 1) := by decide +kernel
theorem dX12_layLeaves_115 : decode cX12_layLeaves 115 = .ok (.iload_n 2, 1) := by decide +kernel
theorem dX12_layLeaves_116 : decode cX12_layLeaves 116 = .ok (.invokestatic 143, 3) := by decide +kernel
theorem dX12_layLeaves_119 : decode cX12_layLeaves 119 = .ok (.ifCond .eq 15, 3) := by decide +kernel
theorem dX12_layLeaves_122 : decode cX12_layLeaves 122 = .ok (.iload 7, 2) := by decide +kernel
theorem dX12_layLeaves_124 : decode cX12_layLeaves 124 = .ok (.iload 5, 2) := by decide +kernel
theorem dX12_layLeaves_126 : decode cX12_layLeaves 126 = .ok (.if_icmp .eq 8, 3) := by decide +kernel
theorem dX12_layLeaves_129 : decode cX12_layLeaves 129 = .ok (.ldc 166, 2) := by decide +kernel
theorem dX12_layLeaves_131 : decode cX12_layLeaves 131 = .ok (.goto 11, 3) := by decide +kernel
theorem dX12_layLeaves_134 : decode cX12_layLeaves 134 = .ok (.aload_n 0, 1) := by decide +kernel
theorem dX12_layLeaves_135 : decode cX12_layLeaves 135 = .ok (.iload 7, 2) := by decide +kernel
theorem dX12_layLeaves_137 : decode cX12_layLeaves 137 = .ok (.iload 5, 2) := by decide +kernel
theorem dX12_layLeaves_139 : decode cX12_layLeaves 139 = .ok (.invokevirtual 171, 3) := by decide +kernel
theorem dX12_layLeaves_142 : decode cX12_layLeaves 142 = .ok (.istore 8, 2) := by decide +kernel
theorem dX12_layLeaves_144 : decode cX12_layLeaves 144 = .ok (.aload_n 0, 1) := by decide +kernel
theorem dX12_layLeaves_145 : decode cX12_layLeaves 145 = .ok (.getfield 56, 3) := by decide +kernel
theorem dX12_layLeaves_148 : decode cX12_layLeaves 148 = .ok (.iload 4, 2) := by decide +kernel
theorem dX12_layLeaves_150 : decode cX12_layLeaves 150 = .ok (.iload 6, 2) := by decide +kernel
theorem dX12_layLeaves_152 : decode cX12_layLeaves 152 = .ok (.iadd, 1) := by decide +kernel
theorem dX12_layLeaves_153 : decode cX12_layLeaves 153 = .ok (.iload 8, 2) := by decide +kernel
theorem dX12_layLeaves_155 : decode cX12_layLeaves 155 = .ok (.aload_n 0, 1) := by decide +kernel
theorem dX12_layLeaves_156 : decode cX12_layLeaves 156 = .ok (.getfield 56, 3) := by decide +kernel
theorem dX12_layLeaves_159 : decode cX12_layLeaves 159 = .ok (.iload 4, 2) := by decide +kernel
theorem dX12_layLeaves_161 : decode cX12_layLeaves 161 = .ok (.iload 6, 2) := by decide +kernel
theorem dX12_layLeaves_163 : decode cX12_layLeaves 163 = .ok (.iadd, 1) := by decide +kernel
theorem dX12_layLeaves_164 : decode cX12_layLeaves 164 = .ok (.iaload, 1) := by decide +kernel
theorem dX12_layLeaves_165 : decode cX12_layLeaves 165 = .ok (.if_icmp .ge 8, 3) := by decide +kernel
theorem dX12_layLeaves_168 : decode cX12_layLeaves 168 = .ok (.iload 8, 2) := by decide +kernel
theorem dX12_layLeaves_170 : decode cX12_layLeaves 170 = .ok (.goto 13, 3) := by decide +kernel
theorem dX12_layLeaves_173 : decode cX12_layLeaves 173 = .ok (.aload_n 0, 1) := by decide +kernel
theorem dX12_layLeaves_174 : decode cX12_layLeaves 174 = .ok (.getfield 56, 3) := by decide +kernel
theorem dX12_layLeaves_177 : decode cX12_layLeaves 177 = .ok (.iload 4, 2) := by decide +kernel
theorem dX12_layLeaves_179 : decode cX12_layLeaves 179 = .ok (.iload 6, 2) := by decide +kernel
theorem dX12_layLeaves_181 : decode cX12_layLeaves 181 = .ok (.iadd, 1) := by decide +kernel
theorem dX12_layLeaves_182 : decode cX12_layLeaves 182 = .ok (.iaload, 1) := by decide +kernel
theorem dX12_layLeaves_183 : decode cX12_layLeaves 183 = .ok (.iastore, 1) := by decide +kernel
theorem dX12_layLeaves_184 : decode cX12_layLeaves 184 = .ok (.iinc 5 1, 3) := by decide +kernel
theorem dX12_layLeaves_187 : decode cX12_layLeaves 187 = .ok (.goto (-148), 3) := by decide +kernel
theorem dX12_layLeaves_190 : decode cX12_layLeaves 190 = .ok (.return_, 1) := by decide +kernel
theorem dX12_cheaper_0 : decode cX12_cheaper 0 = .ok (.iload_n 2, 1) := by decide +kernel
theorem dX12_cheaper_1 : decode cX12_cheaper 1 = .ok (.aload_n 0, 1) := by decide +kernel
theorem dX12_cheaper_2 : decode cX12_cheaper 2 = .ok (.getfield 56, 3) := by decide +kernel
theorem dX12_cheaper_5 : decode cX12_cheaper 5 = .ok (.iload_n 1, 1) := by decide +kernel
theorem dX12_cheaper_6 : decode cX12_cheaper 6 = .ok (.iaload, 1) := by decide +kernel
theorem dX12_cheaper_7 : decode cX12_cheaper 7 = .ok (.if_icmp .lt 5, 3) := by decide +kernel
theorem dX12_cheaper_10 : decode cX12_cheaper 10 = .ok (.iconst 0, 1) := by decide +kernel
theorem dX12_cheaper_11 : decode cX12_cheaper 11 = .ok (.ireturn, 1) := by decide +kernel
theorem dX12_cheaper_12 : decode cX12_cheaper 12 = .ok (.aload_n 0, 1) := by decide +kernel
theorem dX12_cheaper_13 : decode cX12_cheaper 13 = .ok (.getfield 56, 3) := by decide +kernel
theorem dX12_cheaper_16 : decode cX12_cheaper 16 = .ok (.iload_n 1, 1) := by decide +kernel
theorem dX12_cheaper_17 : decode cX12_cheaper 17 = .ok (.iload_n 2, 1) := by decide +kernel
theorem dX12_cheaper_18 : decode cX12_cheaper 18 = .ok (.iastore, 1) := by decide +kernel
theorem dX12_cheaper_19 : decode cX12_cheaper 19 = .ok (.iconst 1, 1) := by decide +kernel
theorem dX12_cheaper_20 : decode cX12_cheaper 20 = .ok (.ireturn, 1) := by decide +kernel
theorem dX12_goOver_0 : decode cX12_goOver 0 = .ok (.iconst 0, 1) := by decide +kernel
theorem dX12_goOver_1 : decode cX12_goOver 1 = .ok (.istore 4, 2) := by decide +kernel
theorem dX12_goOver_3 : decode cX12_goOver 3 = .ok (.aload_n 0, 1) := by decide +kernel
theorem dX12_goOver_4 : decode cX12_goOver 4 = .ok (.iload_n 2, 1) := by decide +kernel
theorem dX12_goOver_5 : decode cX12_goOver 5 = .ok (.iload_n 3, 1) := by decide +kernel
theorem dX12_goOver_6 : decode cX12_goOver 6 = .ok (.invokevirtual 167, 3) := by decide +kernel
theorem dX12_goOver_9 : decode cX12_goOver 9 = .ok (.istore 5, 2) := by decide +kernel
theorem dX12_goOver_11 : decode cX12_goOver 11 = .ok (.iconst 0, 1) := by decide +kernel
theorem dX12_goOver_12 : decode cX12_goOver 12 = .ok (.istore 6, 2) := by decide +kernel
theorem dX12_goOver_14 : decode cX12_goOver 14 = .ok (.iload 6, 2) := by decide +kernel
theorem dX12_goOver_16 : decode cX12_goOver 16 = .ok (.bipush 40, 2) := by decide +kernel
theorem dX12_goOver_18 : decode cX12_goOver 18 = .ok (.if_icmp .ge 116, 3) := by decide +kernel
theorem dX12_goOver_21 : decode cX12_goOver 21 = .ok (.iload_n 2, 1) := by decide +kernel
theorem dX12_goOver_22 : decode cX12_goOver 22 = .ok (.iload_n 3, 1) := by decide +kernel
theorem dX12_goOver_23 : decode cX12_goOver 23 = .ok (.if_icmp .ge 111, 3) := by decide +kernel
theorem dX12_goOver_26 : decode cX12_goOver 26 = .ok (.aload_n 0, 1) := by decide +kernel
theorem dX12_goOver_27 : decode cX12_goOver 27 = .ok (.getfield 34, 3) := by decide +kernel
theorem dX12_goOver_30 : decode cX12_goOver 30 = .ok (.iload_n 1, 1) := by decide +kernel
theorem dX12_goOver_31 : decode cX12_goOver 31 = .ok (.iaload, 1) := by decide +kernel
theorem dX12_goOver_32 : decode cX12_goOver 32 = .ok (.iload_n 2, 1) := by decide +kernel
theorem dX12_goOver_33 : decode cX12_goOver 33 = .ok (.invokestatic 143, 3) := by decide +kernel
theorem dX12_goOver_36 : decode cX12_goOver 36 = .ok (.ifCond .ne 40, 3) := by decide +kernel
theorem dX12_goOver_39 : decode cX12_goOver 39 = .ok (.iload 4, 2) := by decide +kernel
theorem dX12_goOver_41 : decode cX12_goOver 41 = .ok (.aload_n 0, 1) := by decide +kernel
theorem dX12_goOver_42 : decode cX12_goOver 42 = .ok (.iload 5, 2) := by decide +kernel
theorem dX12_goOver_44 : decode cX12_goOver 44 = .ok (.iload 6, 2) := by decide +kernel
theorem dX12_goOver_46 : decode cX12_goOver 46 = .ok (.iadd, 1) := by decide +kernel
theorem dX12_goOver_47 : decode cX12_goOver 47 = .ok (.aload_n 0, 1) := by decide +kernel
theorem dX12_goOver_48 : decode cX12_goOver 48 = .ok (.getfield 56, 3) := by decide +kernel
theorem dX12_goOver_51 : decode cX12_goOver 51 = .ok (.aload_n 0, 1) := by decide +kernel
theorem dX12_goOver_52 : decode cX12_goOver 52 = .ok (.iload_n 2, 1) := by decide +kernel
theorem dX12_goOver_53 : decode cX12_goOver 53 = .ok (.iconst 1, 1) := by decide +kernel
theorem dX12_goOver_54 : decode cX12_goOver 54 = .ok (.iadd, 1) := by decide +kernel
theorem dX12_goOver_55 : decode cX12_goOver 55 = .ok (.iload_n 3, 1) := by decide +kernel
theorem dX12_goOver_56 : decode cX12_goOver 56 = .ok (.invokevirtual 167, 3) := by decide +kernel
theorem dX12_goOver_59 : decode cX12_goOver 59 = .ok (.iload 6, 2) := by decide +kernel
theorem dX12_goOver_61 : decode cX12_goOver 61 = .ok (.iadd, 1) := by decide +kernel
theorem dX12_goOver_62 : decode cX12_goOver 62 = .ok (.iaload, 1) := by decide +kernel
theorem dX12_goOver_63 : decode cX12_goOver 63 = .ok (.aload_n 0, 1) := by decide +kernel
theorem dX12_goOver_64 : decode cX12_goOver 64 = .ok (.getfield 59, 3) := by decide +kernel
theorem dX12_goOver_67 : decode cX12_goOver 67 = .ok (.iconst 3, 1) := by decide +kernel
theorem dX12_goOver_68 : decode cX12_goOver 68 = .ok (.iaload, 1) := by decide +kernel
theorem dX12_goOver_69 : decode cX12_goOver 69 = .ok (.iadd, 1) := by decide +kernel
theorem dX12_goOver_70 : decode cX12_goOver 70 = .ok (.invokevirtual 174, 3) := by decide +kernel
theorem dX12_goOver_73 : decode cX12_goOver 73 = .ok (.ior, 1) := by decide +kernel
theorem dX12_goOver_74 : decode cX12_goOver 74 = .ok (.istore 4, 2) := by decide +kernel
theorem dX12_goOver_76 : decode cX12_goOver 76 = .ok (.aload_n 0, 1) := by decide +kernel
theorem dX12_goOver_77 : decode cX12_goOver 77 = .ok (.getfield 34, 3) := by decide +kernel
theorem dX12_goOver_80 : decode cX12_goOver 80 = .ok (.iload_n 1, 1) := by decide +kernel
theorem dX12_goOver_81 : decode cX12_goOver 81 = .ok (.iaload, 1) := by decide +kernel
theorem dX12_goOver_82 : decode cX12_goOver 82 = .ok (.iload_n 3, 1) := by decide +kernel
theorem dX12_goOver_83 : decode cX12_goOver 83 = .ok (.iconst 1, 1) := by decide +kernel
theorem dX12_goOver_84 : decode cX12_goOver 84 = .ok (.isub, 1) := by decide +kernel
theorem dX12_goOver_85 : decode cX12_goOver 85 = .ok (.invokestatic 143, 3) := by decide +kernel
theorem dX12_goOver_88 : decode cX12_goOver 88 = .ok (.ifCond .ne 40, 3) := by decide +kernel
theorem dX12_goOver_91 : decode cX12_goOver 91 = .ok (.iload 4, 2) := by decide +kernel
theorem dX12_goOver_93 : decode cX12_goOver 93 = .ok (.aload_n 0, 1) := by decide +kernel
theorem dX12_goOver_94 : decode cX12_goOver 94 = .ok (.iload 5, 2) := by decide +kernel
theorem dX12_goOver_96 : decode cX12_goOver 96 = .ok (.iload 6, 2) := by decide +kernel
theorem dX12_goOver_98 : decode cX12_goOver 98 = .ok (.iadd, 1) := by decide +kernel
theorem dX12_goOver_99 : decode cX12_goOver 99 = .ok (.aload_n 0, 1) := by decide +kernel
theorem dX12_goOver_100 : decode cX12_goOver 100 = .ok (.getfield 56, 3) := by decide +kernel
theorem dX12_goOver_103 : decode cX12_goOver 103 = .ok (.aload_n 0, 1) := by decide +kernel
theorem dX12_goOver_104 : decode cX12_goOver 104 = .ok (.iload_n 2, 1) := by decide +kernel
theorem dX12_goOver_105 : decode cX12_goOver 105 = .ok (.iload_n 3, 1) := by decide +kernel
theorem dX12_goOver_106 : decode cX12_goOver 106 = .ok (.iconst 1, 1) := by decide +kernel
theorem dX12_goOver_107 : decode cX12_goOver 107 = .ok (.isub, 1) := by decide +kernel
theorem dX12_goOver_108 : decode cX12_goOver 108 = .ok (.invokevirtual 167, 3) := by decide +kernel
theorem dX12_goOver_111 : decode cX12_goOver 111 = .ok (.iload 6, 2) := by decide +kernel
theorem dX12_goOver_113 : decode cX12_goOver 113 = .ok (.iadd, 1) := by decide +kernel
theorem dX12_goOver_114 : decode cX12_goOver 114 = .ok (.iaload, 1) := by decide +kernel
theorem dX12_goOver_115 : decode cX12_goOver 115 = .ok (.aload_n 0, 1) := by decide +kernel
theorem dX12_goOver_116 : decode cX12_goOver 116 = .ok (.getfield 59, 3) := by decide +kernel
theorem dX12_goOver_119 : decode cX12_goOver 119 = .ok (.iconst 3, 1) := by decide +kernel
theorem dX12_goOver_120 : decode cX12_goOver 120 = .ok (.iaload, 1) := by decide +kernel
theorem dX12_goOver_121 : decode cX12_goOver 121 = .ok (.iadd, 1) := by decide +kernel
theorem dX12_goOver_122 : decode cX12_goOver 122 = .ok (.invokevirtual 174, 3) := by decide +kernel
theorem dX12_goOver_125 : decode cX12_goOver 125 = .ok (.ior, 1) := by decide +kernel
theorem dX12_goOver_126 : decode cX12_goOver 126 = .ok (.istore 4, 2) := by decide +kernel
theorem dX12_goOver_128 : decode cX12_goOver 128 = .ok (.iinc 6 1, 3) := by decide +kernel
theorem dX12_goOver_131 : decode cX12_goOver 131 = .ok (.goto (-117), 3) := by decide +kernel
theorem dX12_goOver_134 : decode cX12_goOver 134 = .ok (.iload_n 2, 1) := by decide +kernel
theorem dX12_goOver_135 : decode cX12_goOver 135 = .ok (.istore 6, 2) := by decide +kernel
theorem dX12_goOver_137 : decode cX12_goOver 137 = .ok (.iload 6, 2) := by decide +kernel
theorem dX12_goOver_139 : decode cX12_goOver 139 = .ok (.iload_n 3, 1) := by decide +kernel
theorem dX12_goOver_140 : decode cX12_goOver 140 = .ok (.if_icmp .gt 192, 3) := by decide +kernel
theorem dX12_goOver_143 : decode cX12_goOver 143 = .ok (.iconst 0, 1) := by decide +kernel
theorem dX12_goOver_144 : decode cX12_goOver 144 = .ok (.istore 7, 2) := by decide +kernel
theorem dX12_goOver_146 : decode cX12_goOver 146 = .ok (.iload 7, 2) := by decide +kernel
theorem dX12_goOver_148 : decode cX12_goOver 148 = .ok (.aload_n 0, 1) := by decide +kernel
theorem dX12_goOver_149 : decode cX12_goOver 149 = .ok (.getfield 19, 3) := by decide +kernel
theorem dX12_goOver_152 : decode cX12_goOver 152 = .ok (.iconst 0, 1) := by decide +kernel
theorem dX12_goOver_153 : decode cX12_goOver 153 = .ok (.iaload, 1) := by decide +kernel
theorem dX12_goOver_154 : decode cX12_goOver 154 = .ok (.if_icmp .ge 172, 3) := by decide +kernel
theorem dX12_goOver_157 : decode cX12_goOver 157 = .ok (.aload_n 0, 1) := by decide +kernel
theorem dX12_goOver_158 : decode cX12_goOver 158 = .ok (.iload_n 2, 1) := by decide +kernel
theorem dX12_goOver_159 : decode cX12_goOver 159 = .ok (.iload 6, 2) := by decide +kernel
theorem dX12_goOver_161 : decode cX12_goOver 161 = .ok (.invokevirtual 167, 3) := by decide +kernel
theorem dX12_goOver_164 : decode cX12_goOver 164 = .ok (.iconst 4, 1) := by decide +kernel
theorem dX12_goOver_165 : decode cX12_goOver 165 = .ok (.aload_n 0, 1) := by decide +kernel
theorem dX12_goOver_166 : decode cX12_goOver 166 = .ok (.getfield 22, 3) := by decide +kernel
theorem dX12_goOver_169 : decode cX12_goOver 169 = .ok (.iconst 5, 1) := by decide +kernel
theorem dX12_goOver_170 : decode cX12_goOver 170 = .ok (.iload 7, 2) := by decide +kernel
theorem dX12_goOver_172 : decode cX12_goOver 172 = .ok (.imul, 1) := by decide +kernel
theorem dX12_goOver_173 : decode cX12_goOver 173 = .ok (.iconst 1, 1) := by decide +kernel
theorem dX12_goOver_174 : decode cX12_goOver 174 = .ok (.iadd, 1) := by decide +kernel
theorem dX12_goOver_175 : decode cX12_goOver 175 = .ok (.iaload, 1) := by decide +kernel
theorem dX12_goOver_176 : decode cX12_goOver 176 = .ok (.imul, 1) := by decide +kernel
theorem dX12_goOver_177 : decode cX12_goOver 177 = .ok (.iadd, 1) := by decide +kernel
theorem dX12_goOver_178 : decode cX12_goOver 178 = .ok (.istore 8, 2) := by decide +kernel
theorem dX12_goOver_180 : decode cX12_goOver 180 = .ok (.aload_n 0, 1) := by decide +kernel
theorem dX12_goOver_181 : decode cX12_goOver 181 = .ok (.iload 6, 2) := by decide +kernel
theorem dX12_goOver_183 : decode cX12_goOver 183 = .ok (.iload_n 3, 1) := by decide +kernel
theorem dX12_goOver_184 : decode cX12_goOver 184 = .ok (.invokevirtual 167, 3) := by decide +kernel
theorem dX12_goOver_187 : decode cX12_goOver 187 = .ok (.iconst 4, 1) := by decide +kernel
theorem dX12_goOver_188 : decode cX12_goOver 188 = .ok (.aload_n 0, 1) := by decide +kernel
theorem dX12_goOver_189 : decode cX12_goOver 189 = .ok (.getfield 22, 3) := by decide +kernel
theorem dX12_goOver_192 : decode cX12_goOver 192 = .ok (.iconst 5, 1) := by decide +kernel
theorem dX12_goOver_193 : decode cX12_goOver 193 = .ok (.iload 7, 2) := by decide +kernel
theorem dX12_goOver_195 : decode cX12_goOver 195 = .ok (.imul, 1) := by decide +kernel
theorem dX12_goOver_196 : decode cX12_goOver 196 = .ok (.iconst 2, 1) := by decide +kernel
theorem dX12_goOver_197 : decode cX12_goOver 197 = .ok (.iadd, 1) := by decide +kernel
theorem dX12_goOver_198 : decode cX12_goOver 198 = .ok (.iaload, 1) := by decide +kernel
theorem dX12_goOver_199 : decode cX12_goOver 199 = .ok (.imul, 1) := by decide +kernel
theorem dX12_goOver_200 : decode cX12_goOver 200 = .ok (.iadd, 1) := by decide +kernel
theorem dX12_goOver_201 : decode cX12_goOver 201 = .ok (.istore 9, 2) := by decide +kernel
theorem dX12_goOver_203 : decode cX12_goOver 203 = .ok (.iconst 0, 1) := by decide +kernel
theorem dX12_goOver_204 : decode cX12_goOver 204 = .ok (.istore 10, 2) := by decide +kernel
theorem dX12_goOver_206 : decode cX12_goOver 206 = .ok (.iload 10, 2) := by decide +kernel
theorem dX12_goOver_208 : decode cX12_goOver 208 = .ok (.iconst 4, 1) := by decide +kernel
theorem dX12_goOver_209 : decode cX12_goOver 209 = .ok (.if_icmp .ge 111, 3) := by decide +kernel
theorem dX12_goOver_212 : decode cX12_goOver 212 = .ok (.iconst 0, 1) := by decide +kernel
theorem dX12_goOver_213 : decode cX12_goOver 213 = .ok (.istore 11, 2) := by decide +kernel
theorem dX12_goOver_215 : decode cX12_goOver 215 = .ok (.iload 11, 2) := by decide +kernel
theorem dX12_goOver_217 : decode cX12_goOver 217 = .ok (.iconst 4, 1) := by decide +kernel
theorem dX12_goOver_218 : decode cX12_goOver 218 = .ok (.if_icmp .ge 96, 3) := by decide +kernel
theorem dX12_goOver_221 : decode cX12_goOver 221 = .ok (.aload_n 0, 1) := by decide +kernel
theorem dX12_goOver_222 : decode cX12_goOver 222 = .ok (.getfield 22, 3) := by decide +kernel
theorem dX12_goOver_225 : decode cX12_goOver 225 = .ok (.iconst 5, 1) := by decide +kernel
theorem dX12_goOver_226 : decode cX12_goOver 226 = .ok (.iload 7, 2) := by decide +kernel
theorem dX12_goOver_228 : decode cX12_goOver 228 = .ok (.imul, 1) := by decide +kernel
theorem dX12_goOver_229 : decode cX12_goOver 229 = .ok (.iconst 3, 1) := by decide +kernel
theorem dX12_goOver_230 : decode cX12_goOver 230 = .ok (.iadd, 1) := by decide +kernel
theorem dX12_goOver_231 : decode cX12_goOver 231 = .ok (.iaload, 1) := by decide +kernel
theorem dX12_goOver_232 : decode cX12_goOver 232 = .ok (.ifCond .eq 10, 3) := by decide +kernel
theorem dX12_goOver_235 : decode cX12_goOver 235 = .ok (.iload 10, 2) := by decide +kernel
theorem dX12_goOver_237 : decode cX12_goOver 237 = .ok (.iload 11, 2) := by decide +kernel
theorem dX12_goOver_239 : decode cX12_goOver 239 = .ok (.if_icmp .ne 69, 3) := by decide +kernel
theorem dX12_goOver_242 : decode cX12_goOver 242 = .ok (.iload 4, 2) := by decide +kernel
theorem dX12_goOver_244 : decode cX12_goOver 244 = .ok (.aload_n 0, 1) := by decide +kernel
theorem dX12_goOver_245 : decode cX12_goOver 245 = .ok (.iload 5, 2) := by decide +kernel
theorem dX12_goOver_247 : decode cX12_goOver 247 = .ok (.iconst 4, 1) := by decide +kernel
theorem dX12_goOver_248 : decode cX12_goOver 248 = .ok (.aload_n 0, 1) := by decide +kernel
theorem dX12_goOver_249 : decode cX12_goOver 249 = .ok (.getfield 22, 3) := by decide +kernel
theorem dX12_goOver_252 : decode cX12_goOver 252 = .ok (.iconst 5, 1) := by decide +kernel
theorem dX12_goOver_253 : decode cX12_goOver 253 = .ok (.iload 7, 2) := by decide +kernel
theorem dX12_goOver_255 : decode cX12_goOver 255 = .ok (.imul, 1) := by decide +kernel
theorem dX12_goOver_256 : decode cX12_goOver 256 = .ok (.iaload, 1) := by decide +kernel
theorem dX12_goOver_257 : decode cX12_goOver 257 = .ok (.imul, 1) := by decide +kernel
theorem dX12_goOver_258 : decode cX12_goOver 258 = .ok (.iadd, 1) := by decide +kernel
theorem dX12_goOver_259 : decode cX12_goOver 259 = .ok (.aload_n 0, 1) := by decide +kernel
theorem dX12_goOver_260 : decode cX12_goOver 260 = .ok (.getfield 22, 3) := by decide +kernel
theorem dX12_goOver_263 : decode cX12_goOver 263 = .ok (.iconst 5, 1) := by decide +kernel
theorem dX12_goOver_264 : decode cX12_goOver 264 = .ok (.iload 7, 2) := by decide +kernel
theorem dX12_goOver_266 : decode cX12_goOver 266 = .ok (.imul, 1) := by decide +kernel
theorem dX12_goOver_267 : decode cX12_goOver 267 = .ok (.iconst 4, 1) := by decide +kernel
theorem dX12_goOver_268 : decode cX12_goOver 268 = .ok (.iadd, 1) := by decide +kernel
theorem dX12_goOver_269 : decode cX12_goOver 269 = .ok (.iaload, 1) := by decide +kernel
theorem dX12_goOver_270 : decode cX12_goOver 270 = .ok (.ifCond .ne 8, 3) := by decide +kernel
theorem dX12_goOver_273 : decode cX12_goOver 273 = .ok (.iload 10, 2) := by decide +kernel
theorem dX12_goOver_275 : decode cX12_goOver 275 = .ok (.goto 5, 3) := by decide +kernel
theorem dX12_goOver_278 : decode cX12_goOver 278 = .ok (.iload 11, 2) := by decide +kernel
end
section
theorem dX12_goOver_280 : decode cX12_goOver 280 = .ok (.iadd, 1) := by decide +kernel
theorem dX12_goOver_281 : decode cX12_goOver 281 = .ok (.aload_n 0, 1) := by decide +kernel
theorem dX12_goOver_282 : decode cX12_goOver 282 = .ok (.getfield 56, 3) := by decide +kernel
theorem dX12_goOver_285 : decode cX12_goOver 285 = .ok (.iload 8, 2) := by decide +kernel
theorem dX12_goOver_287 : decode cX12_goOver 287 = .ok (.iload 10, 2) := by decide +kernel
theorem dX12_goOver_289 : decode cX12_goOver 289 = .ok (.iadd, 1) := by decide +kernel
theorem dX12_goOver_290 : decode cX12_goOver 290 = .ok (.iaload, 1) := by decide +kernel
theorem dX12_goOver_291 : decode cX12_goOver 291 = .ok (.aload_n 0, 1) := by decide +kernel
theorem dX12_goOver_292 : decode cX12_goOver 292 = .ok (.getfield 56, 3) := by decide +kernel
theorem dX12_goOver_295 : decode cX12_goOver 295 = .ok (.iload 9, 2) := by decide +kernel
theorem dX12_goOver_297 : decode cX12_goOver 297 = .ok (.iload 11, 2) := by decide +kernel
theorem dX12_goOver_299 : decode cX12_goOver 299 = .ok (.iadd, 1) := by decide +kernel
theorem dX12_goOver_300 : decode cX12_goOver 300 = .ok (.iaload, 1) := by decide +kernel
theorem dX12_goOver_301 : decode cX12_goOver 301 = .ok (.iadd, 1) := by decide +kernel
theorem dX12_goOver_302 : decode cX12_goOver 302 = .ok (.invokevirtual 174, 3) := by decide +kernel
theorem dX12_goOver_305 : decode cX12_goOver 305 = .ok (.ior, 1) := by decide +kernel
theorem dX12_goOver_306 : decode cX12_goOver 306 = .ok (.istore 4, 2) := by decide +kernel
theorem dX12_goOver_308 : decode cX12_goOver 308 = .ok (.iinc 11 1, 3) := by decide +kernel
theorem dX12_goOver_311 : decode cX12_goOver 311 = .ok (.goto (-96), 3) := by decide +kernel
theorem dX12_goOver_314 : decode cX12_goOver 314 = .ok (.iinc 10 1, 3) := by decide +kernel
theorem dX12_goOver_317 : decode cX12_goOver 317 = .ok (.goto (-111), 3) := by decide +kernel
theorem dX12_goOver_320 : decode cX12_goOver 320 = .ok (.iinc 7 1, 3) := by decide +kernel
theorem dX12_goOver_323 : decode cX12_goOver 323 = .ok (.goto (-177), 3) := by decide +kernel
theorem dX12_goOver_326 : decode cX12_goOver 326 = .ok (.iinc 6 1, 3) := by decide +kernel
theorem dX12_goOver_329 : decode cX12_goOver 329 = .ok (.goto (-192), 3) := by decide +kernel
theorem dX12_goOver_332 : decode cX12_goOver 332 = .ok (.iload 4, 2) := by decide +kernel
theorem dX12_goOver_334 : decode cX12_goOver 334 = .ok (.ireturn, 1) := by decide +kernel
theorem dX12_least_0 : decode cX12_least 0 = .ok (.iload_n 1, 1) := by decide +kernel
theorem dX12_least_1 : decode cX12_least 1 = .ok (.invokestatic 134, 3) := by decide +kernel
theorem dX12_least_4 : decode cX12_least 4 = .ok (.ifCond .ne 5, 3) := by decide +kernel
theorem dX12_least_7 : decode cX12_least 7 = .ok (.iconst (-1), 1) := by decide +kernel
theorem dX12_least_8 : decode cX12_least 8 = .ok (.ireturn, 1) := by decide +kernel
theorem dX12_least_9 : decode cX12_least 9 = .ok (.aload_n 0, 1) := by decide +kernel
theorem dX12_least_10 : decode cX12_least 10 = .ok (.getfield 28, 3) := by decide +kernel
theorem dX12_least_13 : decode cX12_least 13 = .ok (.iload_n 1, 1) := by decide +kernel
theorem dX12_least_14 : decode cX12_least 14 = .ok (.iaload, 1) := by decide +kernel
theorem dX12_least_15 : decode cX12_least 15 = .ok (.ifCond .ne 6, 3) := by decide +kernel
theorem dX12_least_18 : decode cX12_least 18 = .ok (.bipush (-2), 2) := by decide +kernel
theorem dX12_least_20 : decode cX12_least 20 = .ok (.ireturn, 1) := by decide +kernel
theorem dX12_least_21 : decode cX12_least 21 = .ok (.iconst 0, 1) := by decide +kernel
theorem dX12_least_22 : decode cX12_least 22 = .ok (.istore_n 3, 1) := by decide +kernel
theorem dX12_least_23 : decode cX12_least 23 = .ok (.iload_n 3, 1) := by decide +kernel
theorem dX12_least_24 : decode cX12_least 24 = .ok (.iconst 5, 1) := by decide +kernel
theorem dX12_least_25 : decode cX12_least 25 = .ok (.if_icmp .ge 33, 3) := by decide +kernel
theorem dX12_least_28 : decode cX12_least 28 = .ok (.aload_n 0, 1) := by decide +kernel
theorem dX12_least_29 : decode cX12_least 29 = .ok (.getfield 59, 3) := by decide +kernel
theorem dX12_least_32 : decode cX12_least 32 = .ok (.iload_n 3, 1) := by decide +kernel
theorem dX12_least_33 : decode cX12_least 33 = .ok (.iload_n 2, 1) := by decide +kernel
theorem dX12_least_34 : decode cX12_least 34 = .ok (.ifCond .eq 11, 3) := by decide +kernel
theorem dX12_least_37 : decode cX12_least 37 = .ok (.aload_n 0, 1) := by decide +kernel
theorem dX12_least_38 : decode cX12_least 38 = .ok (.iload_n 3, 1) := by decide +kernel
theorem dX12_least_39 : decode cX12_least 39 = .ok (.invokevirtual 128, 3) := by decide +kernel
theorem dX12_least_42 : decode cX12_least 42 = .ok (.goto 9, 3) := by decide +kernel
theorem dX12_least_45 : decode cX12_least 45 = .ok (.aload_n 0, 1) := by decide +kernel
theorem dX12_least_46 : decode cX12_least 46 = .ok (.getfield 25, 3) := by decide +kernel
theorem dX12_least_49 : decode cX12_least 49 = .ok (.iload_n 3, 1) := by decide +kernel
theorem dX12_least_50 : decode cX12_least 50 = .ok (.iaload, 1) := by decide +kernel
theorem dX12_least_51 : decode cX12_least 51 = .ok (.iastore, 1) := by decide +kernel
theorem dX12_least_52 : decode cX12_least 52 = .ok (.iinc 3 1, 3) := by decide +kernel
theorem dX12_least_55 : decode cX12_least 55 = .ok (.goto (-32), 3) := by decide +kernel
theorem dX12_least_58 : decode cX12_least 58 = .ok (.iconst 0, 1) := by decide +kernel
theorem dX12_least_59 : decode cX12_least 59 = .ok (.istore_n 3, 1) := by decide +kernel
theorem dX12_least_60 : decode cX12_least 60 = .ok (.iload_n 3, 1) := by decide +kernel
theorem dX12_least_61 : decode cX12_least 61 = .ok (.aload_n 0, 1) := by decide +kernel
theorem dX12_least_62 : decode cX12_least 62 = .ok (.getfield 28, 3) := by decide +kernel
theorem dX12_least_65 : decode cX12_least 65 = .ok (.iload_n 1, 1) := by decide +kernel
theorem dX12_least_66 : decode cX12_least 66 = .ok (.iaload, 1) := by decide +kernel
theorem dX12_least_67 : decode cX12_least 67 = .ok (.if_icmp .gt 66, 3) := by decide +kernel
theorem dX12_least_70 : decode cX12_least 70 = .ok (.iconst 0, 1) := by decide +kernel
theorem dX12_least_71 : decode cX12_least 71 = .ok (.istore 4, 2) := by decide +kernel
theorem dX12_least_73 : decode cX12_least 73 = .ok (.iload 4, 2) := by decide +kernel
theorem dX12_least_75 : decode cX12_least 75 = .ok (.iload_n 3, 1) := by decide +kernel
theorem dX12_least_76 : decode cX12_least 76 = .ok (.iadd, 1) := by decide +kernel
theorem dX12_least_77 : decode cX12_least 77 = .ok (.aload_n 0, 1) := by decide +kernel
theorem dX12_least_78 : decode cX12_least 78 = .ok (.getfield 28, 3) := by decide +kernel
theorem dX12_least_81 : decode cX12_least 81 = .ok (.iload_n 1, 1) := by decide +kernel
theorem dX12_least_82 : decode cX12_least 82 = .ok (.iaload, 1) := by decide +kernel
theorem dX12_least_83 : decode cX12_least 83 = .ok (.if_icmp .gt 44, 3) := by decide +kernel
theorem dX12_least_86 : decode cX12_least 86 = .ok (.aload_n 0, 1) := by decide +kernel
theorem dX12_least_87 : decode cX12_least 87 = .ok (.iload_n 1, 1) := by decide +kernel
theorem dX12_least_88 : decode cX12_least 88 = .ok (.iload 4, 2) := by decide +kernel
theorem dX12_least_90 : decode cX12_least 90 = .ok (.iload 4, 2) := by decide +kernel
theorem dX12_least_92 : decode cX12_least 92 = .ok (.iload_n 3, 1) := by decide +kernel
theorem dX12_least_93 : decode cX12_least 93 = .ok (.iadd, 1) := by decide +kernel
theorem dX12_least_94 : decode cX12_least 94 = .ok (.invokevirtual 177, 3) := by decide +kernel
theorem dX12_least_97 : decode cX12_least 97 = .ok (.iconst 1, 1) := by decide +kernel
theorem dX12_least_98 : decode cX12_least 98 = .ok (.istore 5, 2) := by decide +kernel
theorem dX12_least_100 : decode cX12_least 100 = .ok (.iload 5, 2) := by decide +kernel
theorem dX12_least_102 : decode cX12_least 102 = .ok (.ifCond .eq 19, 3) := by decide +kernel
theorem dX12_least_105 : decode cX12_least 105 = .ok (.aload_n 0, 1) := by decide +kernel
theorem dX12_least_106 : decode cX12_least 106 = .ok (.iload_n 1, 1) := by decide +kernel
theorem dX12_least_107 : decode cX12_least 107 = .ok (.iload 4, 2) := by decide +kernel
theorem dX12_least_109 : decode cX12_least 109 = .ok (.iload 4, 2) := by decide +kernel
theorem dX12_least_111 : decode cX12_least 111 = .ok (.iload_n 3, 1) := by decide +kernel
theorem dX12_least_112 : decode cX12_least 112 = .ok (.iadd, 1) := by decide +kernel
theorem dX12_least_113 : decode cX12_least 113 = .ok (.invokevirtual 181, 3) := by decide +kernel
theorem dX12_least_116 : decode cX12_least 116 = .ok (.istore 5, 2) := by decide +kernel
theorem dX12_least_118 : decode cX12_least 118 = .ok (.goto (-18), 3) := by decide +kernel
theorem dX12_least_121 : decode cX12_least 121 = .ok (.iinc 4 1, 3) := by decide +kernel
theorem dX12_least_124 : decode cX12_least 124 = .ok (.goto (-51), 3) := by decide +kernel
theorem dX12_least_127 : decode cX12_least 127 = .ok (.iinc 3 1, 3) := by decide +kernel
theorem dX12_least_130 : decode cX12_least 130 = .ok (.goto (-70), 3) := by decide +kernel
theorem dX12_least_133 : decode cX12_least 133 = .ok (.ldc 166, 2) := by decide +kernel
theorem dX12_least_135 : decode cX12_least 135 = .ok (.istore_n 3, 1) := by decide +kernel
theorem dX12_least_136 : decode cX12_least 136 = .ok (.iconst 0, 1) := by decide +kernel
theorem dX12_least_137 : decode cX12_least 137 = .ok (.istore 4, 2) := by decide +kernel
theorem dX12_least_139 : decode cX12_least 139 = .ok (.iload 4, 2) := by decide +kernel
theorem dX12_least_141 : decode cX12_least 141 = .ok (.iconst 4, 1) := by decide +kernel
theorem dX12_least_142 : decode cX12_least 142 = .ok (.if_icmp .ge 43, 3) := by decide +kernel
theorem dX12_least_145 : decode cX12_least 145 = .ok (.aload_n 0, 1) := by decide +kernel
theorem dX12_least_146 : decode cX12_least 146 = .ok (.getfield 56, 3) := by decide +kernel
theorem dX12_least_149 : decode cX12_least 149 = .ok (.aload_n 0, 1) := by decide +kernel
theorem dX12_least_150 : decode cX12_least 150 = .ok (.iconst 0, 1) := by decide +kernel
theorem dX12_least_151 : decode cX12_least 151 = .ok (.aload_n 0, 1) := by decide +kernel
theorem dX12_least_152 : decode cX12_least 152 = .ok (.getfield 28, 3) := by decide +kernel
theorem dX12_least_155 : decode cX12_least 155 = .ok (.iload_n 1, 1) := by decide +kernel
theorem dX12_least_156 : decode cX12_least 156 = .ok (.iaload, 1) := by decide +kernel
theorem dX12_least_157 : decode cX12_least 157 = .ok (.invokevirtual 167, 3) := by decide +kernel
theorem dX12_least_160 : decode cX12_least 160 = .ok (.iload 4, 2) := by decide +kernel
theorem dX12_least_162 : decode cX12_least 162 = .ok (.iadd, 1) := by decide +kernel
theorem dX12_least_163 : decode cX12_least 163 = .ok (.iaload, 1) := by decide +kernel
theorem dX12_least_164 : decode cX12_least 164 = .ok (.istore 5, 2) := by decide +kernel
theorem dX12_least_166 : decode cX12_least 166 = .ok (.iload 5, 2) := by decide +kernel
theorem dX12_least_168 : decode cX12_least 168 = .ok (.iload_n 3, 1) := by decide +kernel
theorem dX12_least_169 : decode cX12_least 169 = .ok (.if_icmp .ge 8, 3) := by decide +kernel
theorem dX12_least_172 : decode cX12_least 172 = .ok (.iload 5, 2) := by decide +kernel
theorem dX12_least_174 : decode cX12_least 174 = .ok (.goto 4, 3) := by decide +kernel
theorem dX12_least_177 : decode cX12_least 177 = .ok (.iload_n 3, 1) := by decide +kernel
theorem dX12_least_178 : decode cX12_least 178 = .ok (.istore_n 3, 1) := by decide +kernel
theorem dX12_least_179 : decode cX12_least 179 = .ok (.iinc 4 1, 3) := by decide +kernel
theorem dX12_least_182 : decode cX12_least 182 = .ok (.goto (-43), 3) := by decide +kernel
theorem dX12_least_185 : decode cX12_least 185 = .ok (.iload_n 3, 1) := by decide +kernel
theorem dX12_least_186 : decode cX12_least 186 = .ok (.bipush 99, 2) := by decide +kernel
theorem dX12_least_188 : decode cX12_least 188 = .ok (.if_icmp .gt 7, 3) := by decide +kernel
theorem dX12_least_191 : decode cX12_least 191 = .ok (.iload_n 3, 1) := by decide +kernel
theorem dX12_least_192 : decode cX12_least 192 = .ok (.goto 5, 3) := by decide +kernel
theorem dX12_least_195 : decode cX12_least 195 = .ok (.bipush (-4), 2) := by decide +kernel
theorem dX12_least_197 : decode cX12_least 197 = .ok (.ireturn, 1) := by decide +kernel
theorem dX12_order_0 : decode cX12_order 0 = .ok (.iload_n 1, 1) := by decide +kernel
theorem dX12_order_1 : decode cX12_order 1 = .ok (.aload_n 0, 1) := by decide +kernel
theorem dX12_order_2 : decode cX12_order 2 = .ok (.getfield 62, 3) := by decide +kernel
theorem dX12_order_5 : decode cX12_order 5 = .ok (.iload_n 2, 1) := by decide +kernel
theorem dX12_order_6 : decode cX12_order 6 = .ok (.iaload, 1) := by decide +kernel
theorem dX12_order_7 : decode cX12_order 7 = .ok (.if_icmp .eq 19, 3) := by decide +kernel
theorem dX12_order_10 : decode cX12_order 10 = .ok (.iload_n 1, 1) := by decide +kernel
theorem dX12_order_11 : decode cX12_order 11 = .ok (.aload_n 0, 1) := by decide +kernel
theorem dX12_order_12 : decode cX12_order 12 = .ok (.getfield 62, 3) := by decide +kernel
theorem dX12_order_15 : decode cX12_order 15 = .ok (.iload_n 2, 1) := by decide +kernel
theorem dX12_order_16 : decode cX12_order 16 = .ok (.iaload, 1) := by decide +kernel
theorem dX12_order_17 : decode cX12_order 17 = .ok (.if_icmp .ge 7, 3) := by decide +kernel
theorem dX12_order_20 : decode cX12_order 20 = .ok (.iconst 1, 1) := by decide +kernel
theorem dX12_order_21 : decode cX12_order 21 = .ok (.goto 4, 3) := by decide +kernel
theorem dX12_order_24 : decode cX12_order 24 = .ok (.iconst (-1), 1) := by decide +kernel
theorem dX12_order_25 : decode cX12_order 25 = .ok (.ireturn, 1) := by decide +kernel
theorem dX12_order_26 : decode cX12_order 26 = .ok (.aload_n 0, 1) := by decide +kernel
theorem dX12_order_27 : decode cX12_order 27 = .ok (.getfield 28, 3) := by decide +kernel
theorem dX12_order_30 : decode cX12_order 30 = .ok (.bipush 9, 2) := by decide +kernel
theorem dX12_order_32 : decode cX12_order 32 = .ok (.iaload, 1) := by decide +kernel
theorem dX12_order_33 : decode cX12_order 33 = .ok (.aload_n 0, 1) := by decide +kernel
theorem dX12_order_34 : decode cX12_order 34 = .ok (.getfield 65, 3) := by decide +kernel
theorem dX12_order_37 : decode cX12_order 37 = .ok (.iload_n 2, 1) := by decide +kernel
theorem dX12_order_38 : decode cX12_order 38 = .ok (.iaload, 1) := by decide +kernel
theorem dX12_order_39 : decode cX12_order 39 = .ok (.if_icmp .eq 25, 3) := by decide +kernel
theorem dX12_order_42 : decode cX12_order 42 = .ok (.aload_n 0, 1) := by decide +kernel
theorem dX12_order_43 : decode cX12_order 43 = .ok (.getfield 28, 3) := by decide +kernel
theorem dX12_order_46 : decode cX12_order 46 = .ok (.bipush 9, 2) := by decide +kernel
theorem dX12_order_48 : decode cX12_order 48 = .ok (.iaload, 1) := by decide +kernel
theorem dX12_order_49 : decode cX12_order 49 = .ok (.aload_n 0, 1) := by decide +kernel
theorem dX12_order_50 : decode cX12_order 50 = .ok (.getfield 65, 3) := by decide +kernel
theorem dX12_order_53 : decode cX12_order 53 = .ok (.iload_n 2, 1) := by decide +kernel
theorem dX12_order_54 : decode cX12_order 54 = .ok (.iaload, 1) := by decide +kernel
theorem dX12_order_55 : decode cX12_order 55 = .ok (.if_icmp .ge 7, 3) := by decide +kernel
theorem dX12_order_58 : decode cX12_order 58 = .ok (.iconst 1, 1) := by decide +kernel
theorem dX12_order_59 : decode cX12_order 59 = .ok (.goto 4, 3) := by decide +kernel
theorem dX12_order_62 : decode cX12_order 62 = .ok (.iconst (-1), 1) := by decide +kernel
theorem dX12_order_63 : decode cX12_order 63 = .ok (.ireturn, 1) := by decide +kernel
theorem dX12_order_64 : decode cX12_order 64 = .ok (.iconst 0, 1) := by decide +kernel
theorem dX12_order_65 : decode cX12_order 65 = .ok (.istore_n 3, 1) := by decide +kernel
theorem dX12_order_66 : decode cX12_order 66 = .ok (.iload_n 3, 1) := by decide +kernel
theorem dX12_order_67 : decode cX12_order 67 = .ok (.aload_n 0, 1) := by decide +kernel
theorem dX12_order_68 : decode cX12_order 68 = .ok (.getfield 28, 3) := by decide +kernel
theorem dX12_order_71 : decode cX12_order 71 = .ok (.bipush 9, 2) := by decide +kernel
theorem dX12_order_73 : decode cX12_order 73 = .ok (.iaload, 1) := by decide +kernel
theorem dX12_order_74 : decode cX12_order 74 = .ok (.if_icmp .ge 61, 3) := by decide +kernel
theorem dX12_order_77 : decode cX12_order 77 = .ok (.aload_n 0, 1) := by decide +kernel
theorem dX12_order_78 : decode cX12_order 78 = .ok (.getfield 31, 3) := by decide +kernel
theorem dX12_order_81 : decode cX12_order 81 = .ok (.bipush 90, 2) := by decide +kernel
theorem dX12_order_83 : decode cX12_order 83 = .ok (.iload_n 3, 1) := by decide +kernel
theorem dX12_order_84 : decode cX12_order 84 = .ok (.iadd, 1) := by decide +kernel
theorem dX12_order_85 : decode cX12_order 85 = .ok (.iaload, 1) := by decide +kernel
theorem dX12_order_86 : decode cX12_order 86 = .ok (.aload_n 0, 1) := by decide +kernel
theorem dX12_order_87 : decode cX12_order 87 = .ok (.getfield 68, 3) := by decide +kernel
theorem dX12_order_90 : decode cX12_order 90 = .ok (.bipush 8, 2) := by decide +kernel
theorem dX12_order_92 : decode cX12_order 92 = .ok (.iload_n 2, 1) := by decide +kernel
theorem dX12_order_93 : decode cX12_order 93 = .ok (.imul, 1) := by decide +kernel
theorem dX12_order_94 : decode cX12_order 94 = .ok (.iload_n 3, 1) := by decide +kernel
theorem dX12_order_95 : decode cX12_order 95 = .ok (.iadd, 1) := by decide +kernel
theorem dX12_order_96 : decode cX12_order 96 = .ok (.iaload, 1) := by decide +kernel
theorem dX12_order_97 : decode cX12_order 97 = .ok (.if_icmp .eq 32, 3) := by decide +kernel
theorem dX12_order_100 : decode cX12_order 100 = .ok (.aload_n 0, 1) := by decide +kernel
theorem dX12_order_101 : decode cX12_order 101 = .ok (.getfield 31, 3) := by decide +kernel
theorem dX12_order_104 : decode cX12_order 104 = .ok (.bipush 90, 2) := by decide +kernel
theorem dX12_order_106 : decode cX12_order 106 = .ok (.iload_n 3, 1) := by decide +kernel
theorem dX12_order_107 : decode cX12_order 107 = .ok (.iadd, 1) := by decide +kernel
theorem dX12_order_108 : decode cX12_order 108 = .ok (.iaload, 1) := by decide +kernel
theorem dX12_order_109 : decode cX12_order 109 = .ok (.aload_n 0, 1) := by decide +kernel
theorem dX12_order_110 : decode cX12_order 110 = .ok (.getfield 68, 3) := by decide +kernel
theorem dX12_order_113 : decode cX12_order 113 = .ok (.bipush 8, 2) := by decide +kernel
theorem dX12_order_115 : decode cX12_order 115 = .ok (.iload_n 2, 1) := by decide +kernel
theorem dX12_order_116 : decode cX12_order 116 = .ok (.imul, 1) := by decide +kernel
theorem dX12_order_117 : decode cX12_order 117 = .ok (.iload_n 3, 1) := by decide +kernel
theorem dX12_order_118 : decode cX12_order 118 = .ok (.iadd, 1) := by decide +kernel
theorem dX12_order_119 : decode cX12_order 119 = .ok (.iaload, 1) := by decide +kernel
theorem dX12_order_120 : decode cX12_order 120 = .ok (.if_icmp .ge 7, 3) := by decide +kernel
theorem dX12_order_123 : decode cX12_order 123 = .ok (.iconst 1, 1) := by decide +kernel
theorem dX12_order_124 : decode cX12_order 124 = .ok (.goto 4, 3) := by decide +kernel
theorem dX12_order_127 : decode cX12_order 127 = .ok (.iconst (-1), 1) := by decide +kernel
theorem dX12_order_128 : decode cX12_order 128 = .ok (.ireturn, 1) := by decide +kernel
theorem dX12_order_129 : decode cX12_order 129 = .ok (.iinc 3 1, 3) := by decide +kernel
theorem dX12_order_132 : decode cX12_order 132 = .ok (.goto (-66), 3) := by decide +kernel
theorem dX12_order_135 : decode cX12_order 135 = .ok (.iconst 0, 1) := by decide +kernel
theorem dX12_order_136 : decode cX12_order 136 = .ok (.ireturn, 1) := by decide +kernel
theorem dX12_tryRow_0 : decode cX12_tryRow 0 = .ok (.aload_n 0, 1) := by decide +kernel
theorem dX12_tryRow_1 : decode cX12_tryRow 1 = .ok (.getfield 28, 3) := by decide +kernel
theorem dX12_tryRow_4 : decode cX12_tryRow 4 = .ok (.bipush 9, 2) := by decide +kernel
theorem dX12_tryRow_6 : decode cX12_tryRow 6 = .ok (.iaload, 1) := by decide +kernel
theorem dX12_tryRow_7 : decode cX12_tryRow 7 = .ok (.i2l, 1) := by decide +kernel
theorem dX12_tryRow_8 : decode cX12_tryRow 8 = .ok (.lconst 1, 1) := by decide +kernel
theorem dX12_tryRow_9 : decode cX12_tryRow 9 = .ok (.ldc2_w 78, 3) := by decide +kernel
theorem dX12_tryRow_12 : decode cX12_tryRow 12 = .ok (.invokestatic 80, 3) := by decide +kernel
theorem dX12_tryRow_15 : decode cX12_tryRow 15 = .ok (.ifCond .eq 13, 3) := by decide +kernel
theorem dX12_tryRow_18 : decode cX12_tryRow 18 = .ok (.aload_n 0, 1) := by decide +kernel
theorem dX12_tryRow_19 : decode cX12_tryRow 19 = .ok (.bipush 9, 2) := by decide +kernel
theorem dX12_tryRow_21 : decode cX12_tryRow 21 = .ok (.iconst 0, 1) := by decide +kernel
theorem dX12_tryRow_22 : decode cX12_tryRow 22 = .ok (.invokevirtual 185, 3) := by decide +kernel
theorem dX12_tryRow_25 : decode cX12_tryRow 25 = .ok (.ifCond .ne 4, 3) := by decide +kernel
theorem dX12_tryRow_28 : decode cX12_tryRow 28 = .ok (.return_, 1) := by decide +kernel
theorem dX12_tryRow_29 : decode cX12_tryRow 29 = .ok (.iconst 0, 1) := by decide +kernel
theorem dX12_tryRow_30 : decode cX12_tryRow 30 = .ok (.istore_n 2, 1) := by decide +kernel
theorem dX12_tryRow_31 : decode cX12_tryRow 31 = .ok (.iload_n 2, 1) := by decide +kernel
theorem dX12_tryRow_32 : decode cX12_tryRow 32 = .ok (.aload_n 0, 1) := by decide +kernel
theorem dX12_tryRow_33 : decode cX12_tryRow 33 = .ok (.getfield 188, 3) := by decide +kernel
theorem dX12_tryRow_36 : decode cX12_tryRow 36 = .ok (.if_icmp .ge 18, 3) := by decide +kernel
theorem dX12_tryRow_39 : decode cX12_tryRow 39 = .ok (.aload_n 0, 1) := by decide +kernel
theorem dX12_tryRow_40 : decode cX12_tryRow 40 = .ok (.iload_n 1, 1) := by decide +kernel
theorem dX12_tryRow_41 : decode cX12_tryRow 41 = .ok (.iload_n 2, 1) := by decide +kernel
theorem dX12_tryRow_42 : decode cX12_tryRow 42 = .ok (.invokevirtual 191, 3) := by decide +kernel
theorem dX12_tryRow_45 : decode cX12_tryRow 45 = .ok (.ifCond .ge 9, 3) := by decide +kernel
theorem dX12_tryRow_48 : decode cX12_tryRow 48 = .ok (.iinc 2 1, 3) := by decide +kernel
theorem dX12_tryRow_51 : decode cX12_tryRow 51 = .ok (.goto (-20), 3) := by decide +kernel
theorem dX12_tryRow_54 : decode cX12_tryRow 54 = .ok (.iload_n 2, 1) := by decide +kernel
theorem dX12_tryRow_55 : decode cX12_tryRow 55 = .ok (.bipush 40, 2) := by decide +kernel
theorem dX12_tryRow_57 : decode cX12_tryRow 57 = .ok (.if_icmp .eq 20, 3) := by decide +kernel
theorem dX12_tryRow_60 : decode cX12_tryRow 60 = .ok (.iload_n 2, 1) := by decide +kernel
theorem dX12_tryRow_61 : decode cX12_tryRow 61 = .ok (.aload_n 0, 1) := by decide +kernel
theorem dX12_tryRow_62 : decode cX12_tryRow 62 = .ok (.getfield 188, 3) := by decide +kernel
theorem dX12_tryRow_65 : decode cX12_tryRow 65 = .ok (.if_icmp .ge 13, 3) := by decide +kernel
theorem dX12_tryRow_68 : decode cX12_tryRow 68 = .ok (.aload_n 0, 1) := by decide +kernel
theorem dX12_tryRow_69 : decode cX12_tryRow 69 = .ok (.iload_n 1, 1) := by decide +kernel
theorem dX12_tryRow_70 : decode cX12_tryRow 70 = .ok (.iload_n 2, 1) := by decide +kernel
theorem dX12_tryRow_71 : decode cX12_tryRow 71 = .ok (.invokevirtual 191, 3) := by decide +kernel
theorem dX12_tryRow_74 : decode cX12_tryRow 74 = .ok (.ifCond .ne 4, 3) := by decide +kernel
theorem dX12_tryRow_77 : decode cX12_tryRow 77 = .ok (.return_, 1) := by decide +kernel
theorem dX12_tryRow_78 : decode cX12_tryRow 78 = .ok (.aload_n 0, 1) := by decide +kernel
theorem dX12_tryRow_79 : decode cX12_tryRow 79 = .ok (.getfield 188, 3) := by decide +kernel
theorem dX12_tryRow_82 : decode cX12_tryRow 82 = .ok (.bipush 40, 2) := by decide +kernel
theorem dX12_tryRow_84 : decode cX12_tryRow 84 = .ok (.if_icmp .ge 10, 3) := by decide +kernel
theorem dX12_tryRow_87 : decode cX12_tryRow 87 = .ok (.aload_n 0, 1) := by decide +kernel
theorem dX12_tryRow_88 : decode cX12_tryRow 88 = .ok (.getfield 188, 3) := by decide +kernel
theorem dX12_tryRow_91 : decode cX12_tryRow 91 = .ok (.goto 5, 3) := by decide +kernel
theorem dX12_tryRow_94 : decode cX12_tryRow 94 = .ok (.bipush 39, 2) := by decide +kernel
theorem dX12_tryRow_96 : decode cX12_tryRow 96 = .ok (.istore_n 3, 1) := by decide +kernel
theorem dX12_tryRow_97 : decode cX12_tryRow 97 = .ok (.iload_n 3, 1) := by decide +kernel
theorem dX12_tryRow_98 : decode cX12_tryRow 98 = .ok (.istore 4, 2) := by decide +kernel
theorem dX12_tryRow_100 : decode cX12_tryRow 100 = .ok (.iload 4, 2) := by decide +kernel
theorem dX12_tryRow_102 : decode cX12_tryRow 102 = .ok (.iload_n 2, 1) := by decide +kernel
theorem dX12_tryRow_103 : decode cX12_tryRow 103 = .ok (.if_icmp .le 86, 3) := by decide +kernel
theorem dX12_tryRow_106 : decode cX12_tryRow 106 = .ok (.aload_n 0, 1) := by decide +kernel
theorem dX12_tryRow_107 : decode cX12_tryRow 107 = .ok (.getfield 62, 3) := by decide +kernel
theorem dX12_tryRow_110 : decode cX12_tryRow 110 = .ok (.iload 4, 2) := by decide +kernel
theorem dX12_tryRow_112 : decode cX12_tryRow 112 = .ok (.aload_n 0, 1) := by decide +kernel
theorem dX12_tryRow_113 : decode cX12_tryRow 113 = .ok (.getfield 62, 3) := by decide +kernel
theorem dX12_tryRow_116 : decode cX12_tryRow 116 = .ok (.iload 4, 2) := by decide +kernel
theorem dX12_tryRow_118 : decode cX12_tryRow 118 = .ok (.iconst 1, 1) := by decide +kernel
theorem dX12_tryRow_119 : decode cX12_tryRow 119 = .ok (.isub, 1) := by decide +kernel
theorem dX12_tryRow_120 : decode cX12_tryRow 120 = .ok (.iaload, 1) := by decide +kernel
theorem dX12_tryRow_121 : decode cX12_tryRow 121 = .ok (.iastore, 1) := by decide +kernel
theorem dX12_tryRow_122 : decode cX12_tryRow 122 = .ok (.aload_n 0, 1) := by decide +kernel
theorem dX12_tryRow_123 : decode cX12_tryRow 123 = .ok (.getfield 65, 3) := by decide +kernel
theorem dX12_tryRow_126 : decode cX12_tryRow 126 = .ok (.iload 4, 2) := by decide +kernel
theorem dX12_tryRow_128 : decode cX12_tryRow 128 = .ok (.aload_n 0, 1) := by decide +kernel
theorem dX12_tryRow_129 : decode cX12_tryRow 129 = .ok (.getfield 65, 3) := by decide +kernel
theorem dX12_tryRow_132 : decode cX12_tryRow 132 = .ok (.iload 4, 2) := by decide +kernel
theorem dX12_tryRow_134 : decode cX12_tryRow 134 = .ok (.iconst 1, 1) := by decide +kernel
theorem dX12_tryRow_135 : decode cX12_tryRow 135 = .ok (.isub, 1) := by decide +kernel
theorem dX12_tryRow_136 : decode cX12_tryRow 136 = .ok (.iaload, 1) := by decide +kernel
theorem dX12_tryRow_137 : decode cX12_tryRow 137 = .ok (.iastore, 1) := by decide +kernel
theorem dX12_tryRow_138 : decode cX12_tryRow 138 = .ok (.iconst 0, 1) := by decide +kernel
theorem dX12_tryRow_139 : decode cX12_tryRow 139 = .ok (.istore 5, 2) := by decide +kernel
theorem dX12_tryRow_141 : decode cX12_tryRow 141 = .ok (.iload 5, 2) := by decide +kernel
theorem dX12_tryRow_143 : decode cX12_tryRow 143 = .ok (.bipush 8, 2) := by decide +kernel
theorem dX12_tryRow_145 : decode cX12_tryRow 145 = .ok (.if_icmp .ge 38, 3) := by decide +kernel
theorem dX12_tryRow_148 : decode cX12_tryRow 148 = .ok (.aload_n 0, 1) := by decide +kernel
theorem dX12_tryRow_149 : decode cX12_tryRow 149 = .ok (.getfield 68, 3) := by decide +kernel
theorem dX12_tryRow_152 : decode cX12_tryRow 152 = .ok (.bipush 8, 2) := by decide +kernel
theorem dX12_tryRow_154 : decode cX12_tryRow 154 = .ok (.iload 4, 2) := by decide +kernel
theorem dX12_tryRow_156 : decode cX12_tryRow 156 = .ok (.imul, 1) := by decide +kernel
theorem dX12_tryRow_157 : decode cX12_tryRow 157 = .ok (.iload 5, 2) := by decide +kernel
theorem dX12_tryRow_159 : decode cX12_tryRow 159 = .ok (.iadd, 1) := by decide +kernel
theorem dX12_tryRow_160 : decode cX12_tryRow 160 = .ok (.aload_n 0, 1) := by decide +kernel
theorem dX12_tryRow_161 : decode cX12_tryRow 161 = .ok (.getfield 68, 3) := by decide +kernel
theorem dX12_tryRow_164 : decode cX12_tryRow 164 = .ok (.bipush 8, 2) := by decide +kernel
theorem dX12_tryRow_166 : decode cX12_tryRow 166 = .ok (.iload 4, 2) := by decide +kernel
theorem dX12_tryRow_168 : decode cX12_tryRow 168 = .ok (.imul, 1) := by decide +kernel
theorem dX12_tryRow_169 : decode cX12_tryRow 169 = .ok (.bipush 8, 2) := by decide +kernel
theorem dX12_tryRow_171 : decode cX12_tryRow 171 = .ok (.isub, 1) := by decide +kernel
theorem dX12_tryRow_172 : decode cX12_tryRow 172 = .ok (.iload 5, 2) := by decide +kernel
theorem dX12_tryRow_174 : decode cX12_tryRow 174 = .ok (.iadd, 1) := by decide +kernel
theorem dX12_tryRow_175 : decode cX12_tryRow 175 = .ok (.iaload, 1) := by decide +kernel
theorem dX12_tryRow_176 : decode cX12_tryRow 176 = .ok (.iastore, 1) := by decide +kernel
theorem dX12_tryRow_177 : decode cX12_tryRow 177 = .ok (.iinc 5 1, 3) := by decide +kernel
theorem dX12_tryRow_180 : decode cX12_tryRow 180 = .ok (.goto (-39), 3) := by decide +kernel
theorem dX12_tryRow_183 : decode cX12_tryRow 183 = .ok (.iinc 4 (-1), 3) := by decide +kernel
theorem dX12_tryRow_186 : decode cX12_tryRow 186 = .ok (.goto (-86), 3) := by decide +kernel
theorem dX12_tryRow_189 : decode cX12_tryRow 189 = .ok (.aload_n 0, 1) := by decide +kernel
theorem dX12_tryRow_190 : decode cX12_tryRow 190 = .ok (.getfield 62, 3) := by decide +kernel
theorem dX12_tryRow_193 : decode cX12_tryRow 193 = .ok (.iload_n 2, 1) := by decide +kernel
theorem dX12_tryRow_194 : decode cX12_tryRow 194 = .ok (.iload_n 1, 1) := by decide +kernel
theorem dX12_tryRow_195 : decode cX12_tryRow 195 = .ok (.iastore, 1) := by decide +kernel
theorem dX12_tryRow_196 : decode cX12_tryRow 196 = .ok (.aload_n 0, 1) := by decide +kernel
theorem dX12_tryRow_197 : decode cX12_tryRow 197 = .ok (.getfield 65, 3) := by decide +kernel
theorem dX12_tryRow_200 : decode cX12_tryRow 200 = .ok (.iload_n 2, 1) := by decide +kernel
theorem dX12_tryRow_201 : decode cX12_tryRow 201 = .ok (.aload_n 0, 1) := by decide +kernel
theorem dX12_tryRow_202 : decode cX12_tryRow 202 = .ok (.getfield 28, 3) := by decide +kernel
theorem dX12_tryRow_205 : decode cX12_tryRow 205 = .ok (.bipush 9, 2) := by decide +kernel
theorem dX12_tryRow_207 : decode cX12_tryRow 207 = .ok (.iaload, 1) := by decide +kernel
theorem dX12_tryRow_208 : decode cX12_tryRow 208 = .ok (.iastore, 1) := by decide +kernel
theorem dX12_tryRow_209 : decode cX12_tryRow 209 = .ok (.iconst 0, 1) := by decide +kernel
theorem dX12_tryRow_210 : decode cX12_tryRow 210 = .ok (.istore 4, 2) := by decide +kernel
theorem dX12_tryRow_212 : decode cX12_tryRow 212 = .ok (.iload 4, 2) := by decide +kernel
theorem dX12_tryRow_214 : decode cX12_tryRow 214 = .ok (.bipush 8, 2) := by decide +kernel
theorem dX12_tryRow_216 : decode cX12_tryRow 216 = .ok (.if_icmp .ge 48, 3) := by decide +kernel
theorem dX12_tryRow_219 : decode cX12_tryRow 219 = .ok (.aload_n 0, 1) := by decide +kernel
theorem dX12_tryRow_220 : decode cX12_tryRow 220 = .ok (.getfield 68, 3) := by decide +kernel
theorem dX12_tryRow_223 : decode cX12_tryRow 223 = .ok (.bipush 8, 2) := by decide +kernel
theorem dX12_tryRow_225 : decode cX12_tryRow 225 = .ok (.iload_n 2, 1) := by decide +kernel
theorem dX12_tryRow_226 : decode cX12_tryRow 226 = .ok (.imul, 1) := by decide +kernel
theorem dX12_tryRow_227 : decode cX12_tryRow 227 = .ok (.iload 4, 2) := by decide +kernel
theorem dX12_tryRow_229 : decode cX12_tryRow 229 = .ok (.iadd, 1) := by decide +kernel
theorem dX12_tryRow_230 : decode cX12_tryRow 230 = .ok (.iload 4, 2) := by decide +kernel
theorem dX12_tryRow_232 : decode cX12_tryRow 232 = .ok (.aload_n 0, 1) := by decide +kernel
theorem dX12_tryRow_233 : decode cX12_tryRow 233 = .ok (.getfield 28, 3) := by decide +kernel
theorem dX12_tryRow_236 : decode cX12_tryRow 236 = .ok (.bipush 9, 2) := by decide +kernel
theorem dX12_tryRow_238 : decode cX12_tryRow 238 = .ok (.iaload, 1) := by decide +kernel
theorem dX12_tryRow_239 : decode cX12_tryRow 239 = .ok (.if_icmp .ge 16, 3) := by decide +kernel
theorem dX12_tryRow_242 : decode cX12_tryRow 242 = .ok (.aload_n 0, 1) := by decide +kernel
theorem dX12_tryRow_243 : decode cX12_tryRow 243 = .ok (.getfield 31, 3) := by decide +kernel
theorem dX12_tryRow_246 : decode cX12_tryRow 246 = .ok (.bipush 90, 2) := by decide +kernel
theorem dX12_tryRow_248 : decode cX12_tryRow 248 = .ok (.iload 4, 2) := by decide +kernel
theorem dX12_tryRow_250 : decode cX12_tryRow 250 = .ok (.iadd, 1) := by decide +kernel
theorem dX12_tryRow_251 : decode cX12_tryRow 251 = .ok (.iaload, 1) := by decide +kernel
theorem dX12_tryRow_252 : decode cX12_tryRow 252 = .ok (.goto 5, 3) := by decide +kernel
theorem dX12_tryRow_255 : decode cX12_tryRow 255 = .ok (.bipush (-4), 2) := by decide +kernel
theorem dX12_tryRow_257 : decode cX12_tryRow 257 = .ok (.iastore, 1) := by decide +kernel
theorem dX12_tryRow_258 : decode cX12_tryRow 258 = .ok (.iinc 4 1, 3) := by decide +kernel
theorem dX12_tryRow_261 : decode cX12_tryRow 261 = .ok (.goto (-49), 3) := by decide +kernel
theorem dX12_tryRow_264 : decode cX12_tryRow 264 = .ok (.aload_n 0, 1) := by decide +kernel
theorem dX12_tryRow_265 : decode cX12_tryRow 265 = .ok (.iload_n 3, 1) := by decide +kernel
theorem dX12_tryRow_266 : decode cX12_tryRow 266 = .ok (.iconst 1, 1) := by decide +kernel
theorem dX12_tryRow_267 : decode cX12_tryRow 267 = .ok (.iadd, 1) := by decide +kernel
theorem dX12_tryRow_268 : decode cX12_tryRow 268 = .ok (.putfield 188, 3) := by decide +kernel
theorem dX12_tryRow_271 : decode cX12_tryRow 271 = .ok (.return_, 1) := by decide +kernel
theorem dX12_layTried_0 : decode cX12_layTried 0 = .ok (.aload_n 0, 1) := by decide +kernel
theorem dX12_layTried_1 : decode cX12_layTried 1 = .ok (.getfield 28, 3) := by decide +kernel
theorem dX12_layTried_4 : decode cX12_layTried 4 = .ok (.bipush 9, 2) := by decide +kernel
theorem dX12_layTried_6 : decode cX12_layTried 6 = .ok (.iconst 0, 1) := by decide +kernel
theorem dX12_layTried_7 : decode cX12_layTried 7 = .ok (.iastore, 1) := by decide +kernel
theorem dX12_layTried_8 : decode cX12_layTried 8 = .ok (.iconst 0, 1) := by decide +kernel
theorem dX12_layTried_9 : decode cX12_layTried 9 = .ok (.istore 5, 2) := by decide +kernel
theorem dX12_layTried_11 : decode cX12_layTried 11 = .ok (.iload 5, 2) := by decide +kernel
theorem dX12_layTried_13 : decode cX12_layTried 13 = .ok (.aload_n 0, 1) := by decide +kernel
theorem dX12_layTried_14 : decode cX12_layTried 14 = .ok (.getfield 28, 3) := by decide +kernel
theorem dX12_layTried_17 : decode cX12_layTried 17 = .ok (.iload_n 1, 1) := by decide +kernel
theorem dX12_layTried_18 : decode cX12_layTried 18 = .ok (.iaload, 1) := by decide +kernel
theorem dX12_layTried_19 : decode cX12_layTried 19 = .ok (.if_icmp .ge 95, 3) := by decide +kernel
theorem dX12_layTried_22 : decode cX12_layTried 22 = .ok (.iload 5, 2) := by decide +kernel
theorem dX12_layTried_24 : decode cX12_layTried 24 = .ok (.iload_n 2, 1) := by decide +kernel
theorem dX12_layTried_25 : decode cX12_layTried 25 = .ok (.if_icmp .ne 34, 3) := by decide +kernel
theorem dX12_layTried_28 : decode cX12_layTried 28 = .ok (.iload_n 3, 1) := by decide +kernel
theorem dX12_layTried_29 : decode cX12_layTried 29 = .ok (.ifCond .lt 30, 3) := by decide +kernel
theorem dX12_layTried_32 : decode cX12_layTried 32 = .ok (.aload_n 0, 1) := by decide +kernel
theorem dX12_layTried_33 : decode cX12_layTried 33 = .ok (.getfield 31, 3) := by decide +kernel
theorem dX12_layTried_36 : decode cX12_layTried 36 = .ok (.bipush 90, 2) := by decide +kernel
theorem dX12_layTried_38 : decode cX12_layTried 38 = .ok (.aload_n 0, 1) := by decide +kernel
theorem dX12_layTried_39 : decode cX12_layTried 39 = .ok (.getfield 28, 3) := by decide +kernel
theorem dX12_layTried_42 : decode cX12_layTried 42 = .ok (.bipush 9, 2) := by decide +kernel
theorem dX12_layTried_44 : decode cX12_layTried 44 = .ok (.iaload, 1) := by decide +kernel
theorem dX12_layTried_45 : decode cX12_layTried 45 = .ok (.iadd, 1) := by decide +kernel
theorem dX12_layTried_46 : decode cX12_layTried 46 = .ok (.iload_n 3, 1) := by decide +kernel
theorem dX12_layTried_47 : decode cX12_layTried 47 = .ok (.iastore, 1) := by decide +kernel
theorem dX12_layTried_48 : decode cX12_layTried 48 = .ok (.aload_n 0, 1) := by decide +kernel
theorem dX12_layTried_49 : decode cX12_layTried 49 = .ok (.getfield 28, 3) := by decide +kernel
theorem dX12_layTried_52 : decode cX12_layTried 52 = .ok (.bipush 9, 2) := by decide +kernel
theorem dX12_layTried_54 : decode cX12_layTried 54 = .ok (.dup2, 1) := by decide +kernel
theorem dX12_layTried_55 : decode cX12_layTried 55 = .ok (.iaload, 1) := by decide +kernel
theorem dX12_layTried_56 : decode cX12_layTried 56 = .ok (.iconst 1, 1) := by decide +kernel
theorem dX12_layTried_57 : decode cX12_layTried 57 = .ok (.iadd, 1) := by decide +kernel
theorem dX12_layTried_58 : decode cX12_layTried 58 = .ok (.iastore, 1) := by decide +kernel
theorem dX12_layTried_59 : decode cX12_layTried 59 = .ok (.iload 5, 2) := by decide +kernel
theorem dX12_layTried_61 : decode cX12_layTried 61 = .ok (.iload_n 2, 1) := by decide +kernel
theorem dX12_layTried_62 : decode cX12_layTried 62 = .ok (.if_icmp .ne 8, 3) := by decide +kernel
theorem dX12_layTried_65 : decode cX12_layTried 65 = .ok (.iload 4, 2) := by decide +kernel
theorem dX12_layTried_67 : decode cX12_layTried 67 = .ok (.ifCond .eq 41, 3) := by decide +kernel
theorem dX12_layTried_70 : decode cX12_layTried 70 = .ok (.aload_n 0, 1) := by decide +kernel
theorem dX12_layTried_71 : decode cX12_layTried 71 = .ok (.getfield 31, 3) := by decide +kernel
theorem dX12_layTried_74 : decode cX12_layTried 74 = .ok (.bipush 90, 2) := by decide +kernel
theorem dX12_layTried_76 : decode cX12_layTried 76 = .ok (.aload_n 0, 1) := by decide +kernel
theorem dX12_layTried_77 : decode cX12_layTried 77 = .ok (.getfield 28, 3) := by decide +kernel
theorem dX12_layTried_80 : decode cX12_layTried 80 = .ok (.bipush 9, 2) := by decide +kernel
theorem dX12_layTried_82 : decode cX12_layTried 82 = .ok (.iaload, 1) := by decide +kernel
theorem dX12_layTried_83 : decode cX12_layTried 83 = .ok (.iadd, 1) := by decide +kernel
theorem dX12_layTried_84 : decode cX12_layTried 84 = .ok (.aload_n 0, 1) := by decide +kernel
theorem dX12_layTried_85 : decode cX12_layTried 85 = .ok (.getfield 31, 3) := by decide +kernel
theorem dX12_layTried_88 : decode cX12_layTried 88 = .ok (.bipush 10, 2) := by decide +kernel
theorem dX12_layTried_90 : decode cX12_layTried 90 = .ok (.iload_n 1, 1) := by decide +kernel
theorem dX12_layTried_91 : decode cX12_layTried 91 = .ok (.imul, 1) := by decide +kernel
theorem dX12_layTried_92 : decode cX12_layTried 92 = .ok (.iload 5, 2) := by decide +kernel
theorem dX12_layTried_94 : decode cX12_layTried 94 = .ok (.iadd, 1) := by decide +kernel
theorem dX12_layTried_95 : decode cX12_layTried 95 = .ok (.iaload, 1) := by decide +kernel
theorem dX12_layTried_96 : decode cX12_layTried 96 = .ok (.iastore, 1) := by decide +kernel
theorem dX12_layTried_97 : decode cX12_layTried 97 = .ok (.aload_n 0, 1) := by decide +kernel
theorem dX12_layTried_98 : decode cX12_layTried 98 = .ok (.getfield 28, 3) := by decide +kernel
theorem dX12_layTried_101 : decode cX12_layTried 101 = .ok (.bipush 9, 2) := by decide +kernel
theorem dX12_layTried_103 : decode cX12_layTried 103 = .ok (.dup2, 1) := by decide +kernel
theorem dX12_layTried_104 : decode cX12_layTried 104 = .ok (.iaload, 1) := by decide +kernel
theorem dX12_layTried_105 : decode cX12_layTried 105 = .ok (.iconst 1, 1) := by decide +kernel
theorem dX12_layTried_106 : decode cX12_layTried 106 = .ok (.iadd, 1) := by decide +kernel
theorem dX12_layTried_107 : decode cX12_layTried 107 = .ok (.iastore, 1) := by decide +kernel
theorem dX12_layTried_108 : decode cX12_layTried 108 = .ok (.iinc 5 1, 3) := by decide +kernel
theorem dX12_layTried_111 : decode cX12_layTried 111 = .ok (.goto (-100), 3) := by decide +kernel
theorem dX12_layTried_114 : decode cX12_layTried 114 = .ok (.iload_n 2, 1) := by decide +kernel
theorem dX12_layTried_115 : decode cX12_layTried 115 = .ok (.aload_n 0, 1) := by decide +kernel
theorem dX12_layTried_116 : decode cX12_layTried 116 = .ok (.getfield 28, 3) := by decide +kernel
theorem dX12_layTried_119 : decode cX12_layTried 119 = .ok (.iload_n 1, 1) := by decide +kernel
theorem dX12_layTried_120 : decode cX12_layTried 120 = .ok (.iaload, 1) := by decide +kernel
theorem dX12_layTried_121 : decode cX12_layTried 121 = .ok (.if_icmp .ne 30, 3) := by decide +kernel
theorem dX12_layTried_124 : decode cX12_layTried 124 = .ok (.aload_n 0, 1) := by decide +kernel
theorem dX12_layTried_125 : decode cX12_layTried 125 = .ok (.getfield 31, 3) := by decide +kernel
theorem dX12_layTried_128 : decode cX12_layTried 128 = .ok (.bipush 90, 2) := by decide +kernel
theorem dX12_layTried_130 : decode cX12_layTried 130 = .ok (.aload_n 0, 1) := by decide +kernel
theorem dX12_layTried_131 : decode cX12_layTried 131 = .ok (.getfield 28, 3) := by decide +kernel
theorem dX12_layTried_134 : decode cX12_layTried 134 = .ok (.bipush 9, 2) := by decide +kernel
theorem dX12_layTried_136 : decode cX12_layTried 136 = .ok (.iaload, 1) := by decide +kernel
theorem dX12_layTried_137 : decode cX12_layTried 137 = .ok (.iadd, 1) := by decide +kernel
theorem dX12_layTried_138 : decode cX12_layTried 138 = .ok (.iload_n 3, 1) := by decide +kernel
theorem dX12_layTried_139 : decode cX12_layTried 139 = .ok (.iastore, 1) := by decide +kernel
theorem dX12_layTried_140 : decode cX12_layTried 140 = .ok (.aload_n 0, 1) := by decide +kernel
theorem dX12_layTried_141 : decode cX12_layTried 141 = .ok (.getfield 28, 3) := by decide +kernel
theorem dX12_layTried_144 : decode cX12_layTried 144 = .ok (.bipush 9, 2) := by decide +kernel
theorem dX12_layTried_146 : decode cX12_layTried 146 = .ok (.dup2, 1) := by decide +kernel
theorem dX12_layTried_147 : decode cX12_layTried 147 = .ok (.iaload, 1) := by decide +kernel
theorem dX12_layTried_148 : decode cX12_layTried 148 = .ok (.iconst 1, 1) := by decide +kernel
theorem dX12_layTried_149 : decode cX12_layTried 149 = .ok (.iadd, 1) := by decide +kernel
theorem dX12_layTried_150 : decode cX12_layTried 150 = .ok (.iastore, 1) := by decide +kernel
theorem dX12_layTried_151 : decode cX12_layTried 151 = .ok (.return_, 1) := by decide +kernel
theorem dX12_layMends_0 : decode cX12_layMends 0 = .ok (.aload_n 0, 1) := by decide +kernel
theorem dX12_layMends_1 : decode cX12_layMends 1 = .ok (.iconst 0, 1) := by decide +kernel
theorem dX12_layMends_2 : decode cX12_layMends 2 = .ok (.putfield 188, 3) := by decide +kernel
theorem dX12_layMends_5 : decode cX12_layMends 5 = .ok (.iconst 0, 1) := by decide +kernel
theorem dX12_layMends_6 : decode cX12_layMends 6 = .ok (.istore_n 2, 1) := by decide +kernel
theorem dX12_layMends_7 : decode cX12_layMends 7 = .ok (.iload_n 2, 1) := by decide +kernel
theorem dX12_layMends_8 : decode cX12_layMends 8 = .ok (.iconst 5, 1) := by decide +kernel
theorem dX12_layMends_9 : decode cX12_layMends 9 = .ok (.if_icmp .ge 21, 3) := by decide +kernel
theorem dX12_layMends_12 : decode cX12_layMends 12 = .ok (.aload_n 0, 1) := by decide +kernel
theorem dX12_layMends_13 : decode cX12_layMends 13 = .ok (.getfield 59, 3) := by decide +kernel
theorem dX12_layMends_16 : decode cX12_layMends 16 = .ok (.iload_n 2, 1) := by decide +kernel
theorem dX12_layMends_17 : decode cX12_layMends 17 = .ok (.aload_n 0, 1) := by decide +kernel
theorem dX12_layMends_18 : decode cX12_layMends 18 = .ok (.getfield 25, 3) := by decide +kernel
theorem dX12_layMends_21 : decode cX12_layMends 21 = .ok (.iload_n 2, 1) := by decide +kernel
theorem dX12_layMends_22 : decode cX12_layMends 22 = .ok (.iaload, 1) := by decide +kernel
theorem dX12_layMends_23 : decode cX12_layMends 23 = .ok (.iastore, 1) := by decide +kernel
theorem dX12_layMends_24 : decode cX12_layMends 24 = .ok (.iinc 2 1, 3) := by decide +kernel
theorem dX12_layMends_27 : decode cX12_layMends 27 = .ok (.goto (-20), 3) := by decide +kernel
theorem dX12_layMends_30 : decode cX12_layMends 30 = .ok (.iconst 0, 1) := by decide +kernel
theorem dX12_layMends_31 : decode cX12_layMends 31 = .ok (.istore_n 2, 1) := by decide +kernel
theorem dX12_layMends_32 : decode cX12_layMends 32 = .ok (.iload_n 2, 1) := by decide +kernel
theorem dX12_layMends_33 : decode cX12_layMends 33 = .ok (.aload_n 0, 1) := by decide +kernel
theorem dX12_layMends_34 : decode cX12_layMends 34 = .ok (.getfield 28, 3) := by decide +kernel
theorem dX12_layMends_37 : decode cX12_layMends 37 = .ok (.iload_n 1, 1) := by decide +kernel
theorem dX12_layMends_38 : decode cX12_layMends 38 = .ok (.iaload, 1) := by decide +kernel
theorem dX12_layMends_39 : decode cX12_layMends 39 = .ok (.if_icmp .gt 169, 3) := by decide +kernel
theorem dX12_layMends_42 : decode cX12_layMends 42 = .ok (.iload_n 2, 1) := by decide +kernel
theorem dX12_layMends_43 : decode cX12_layMends 43 = .ok (.aload_n 0, 1) := by decide +kernel
theorem dX12_layMends_44 : decode cX12_layMends 44 = .ok (.getfield 28, 3) := by decide +kernel
theorem dX12_layMends_47 : decode cX12_layMends 47 = .ok (.iload_n 1, 1) := by decide +kernel
theorem dX12_layMends_48 : decode cX12_layMends 48 = .ok (.iaload, 1) := by decide +kernel
theorem dX12_layMends_49 : decode cX12_layMends 49 = .ok (.if_icmp .ge 20, 3) := by decide +kernel
theorem dX12_layMends_52 : decode cX12_layMends 52 = .ok (.aload_n 0, 1) := by decide +kernel
theorem dX12_layMends_53 : decode cX12_layMends 53 = .ok (.getfield 34, 3) := by decide +kernel
theorem dX12_layMends_56 : decode cX12_layMends 56 = .ok (.iload_n 1, 1) := by decide +kernel
theorem dX12_layMends_57 : decode cX12_layMends 57 = .ok (.iaload, 1) := by decide +kernel
theorem dX12_layMends_58 : decode cX12_layMends 58 = .ok (.iload_n 2, 1) := by decide +kernel
theorem dX12_layMends_59 : decode cX12_layMends 59 = .ok (.invokestatic 143, 3) := by decide +kernel
theorem dX12_layMends_62 : decode cX12_layMends 62 = .ok (.ifCond .ne 7, 3) := by decide +kernel
theorem dX12_layMends_65 : decode cX12_layMends 65 = .ok (.iconst 1, 1) := by decide +kernel
theorem dX12_layMends_66 : decode cX12_layMends 66 = .ok (.goto 4, 3) := by decide +kernel
theorem dX12_layMends_69 : decode cX12_layMends 69 = .ok (.iconst 0, 1) := by decide +kernel
theorem dX12_layMends_70 : decode cX12_layMends 70 = .ok (.istore_n 3, 1) := by decide +kernel
theorem dX12_layMends_71 : decode cX12_layMends 71 = .ok (.iconst 0, 1) := by decide +kernel
theorem dX12_layMends_72 : decode cX12_layMends 72 = .ok (.istore 4, 2) := by decide +kernel
theorem dX12_layMends_74 : decode cX12_layMends 74 = .ok (.iload 4, 2) := by decide +kernel
theorem dX12_layMends_76 : decode cX12_layMends 76 = .ok (.aload_n 0, 1) := by decide +kernel
theorem dX12_layMends_77 : decode cX12_layMends 77 = .ok (.getfield 13, 3) := by decide +kernel
theorem dX12_layMends_80 : decode cX12_layMends 80 = .ok (.iconst 0, 1) := by decide +kernel
theorem dX12_layMends_81 : decode cX12_layMends 81 = .ok (.iaload, 1) := by decide +kernel
theorem dX12_layMends_82 : decode cX12_layMends 82 = .ok (.if_icmp .ge 97, 3) := by decide +kernel
theorem dX12_layMends_85 : decode cX12_layMends 85 = .ok (.aload_n 0, 1) := by decide +kernel
theorem dX12_layMends_86 : decode cX12_layMends 86 = .ok (.getfield 31, 3) := by decide +kernel
theorem dX12_layMends_89 : decode cX12_layMends 89 = .ok (.bipush 10, 2) := by decide +kernel
theorem dX12_layMends_91 : decode cX12_layMends 91 = .ok (.iload_n 1, 1) := by decide +kernel
theorem dX12_layMends_92 : decode cX12_layMends 92 = .ok (.imul, 1) := by decide +kernel
theorem dX12_layMends_93 : decode cX12_layMends 93 = .ok (.iload_n 2, 1) := by decide +kernel
theorem dX12_layMends_94 : decode cX12_layMends 94 = .ok (.iadd, 1) := by decide +kernel
theorem dX12_layMends_95 : decode cX12_layMends 95 = .ok (.iaload, 1) := by decide +kernel
theorem dX12_layMends_96 : decode cX12_layMends 96 = .ok (.istore 5, 2) := by decide +kernel
theorem dX12_layMends_98 : decode cX12_layMends 98 = .ok (.iload_n 3, 1) := by decide +kernel
theorem dX12_layMends_99 : decode cX12_layMends 99 = .ok (.ifCond .eq 44, 3) := by decide +kernel
theorem dX12_layMends_102 : decode cX12_layMends 102 = .ok (.iload 4, 2) := by decide +kernel
theorem dX12_layMends_104 : decode cX12_layMends 104 = .ok (.iload 5, 2) := by decide +kernel
theorem dX12_layMends_106 : decode cX12_layMends 106 = .ok (.if_icmp .eq 37, 3) := by decide +kernel
theorem dX12_layMends_109 : decode cX12_layMends 109 = .ok (.aload_n 0, 1) := by decide +kernel
theorem dX12_layMends_110 : decode cX12_layMends 110 = .ok (.iload 5, 2) := by decide +kernel
theorem dX12_layMends_112 : decode cX12_layMends 112 = .ok (.iload 4, 2) := by decide +kernel
theorem dX12_layMends_114 : decode cX12_layMends 114 = .ok (.invokevirtual 171, 3) := by decide +kernel
theorem dX12_layMends_117 : decode cX12_layMends 117 = .ok (.ldc 166, 2) := by decide +kernel
theorem dX12_layMends_119 : decode cX12_layMends 119 = .ok (.if_icmp .ge 24, 3) := by decide +kernel
theorem dX12_layMends_122 : decode cX12_layMends 122 = .ok (.aload_n 0, 1) := by decide +kernel
theorem dX12_layMends_123 : decode cX12_layMends 123 = .ok (.iload_n 1, 1) := by decide +kernel
theorem dX12_layMends_124 : decode cX12_layMends 124 = .ok (.iload_n 2, 1) := by decide +kernel
theorem dX12_layMends_125 : decode cX12_layMends 125 = .ok (.iload 4, 2) := by decide +kernel
theorem dX12_layMends_127 : decode cX12_layMends 127 = .ok (.iconst 0, 1) := by decide +kernel
theorem dX12_layMends_128 : decode cX12_layMends 128 = .ok (.invokevirtual 194, 3) := by decide +kernel
theorem dX12_layMends_131 : decode cX12_layMends 131 = .ok (.aload_n 0, 1) := by decide +kernel
theorem dX12_layMends_132 : decode cX12_layMends 132 = .ok (.aload_n 0, 1) := by decide +kernel
theorem dX12_layMends_133 : decode cX12_layMends 133 = .ok (.iload 5, 2) := by decide +kernel
theorem dX12_layMends_135 : decode cX12_layMends 135 = .ok (.iload 4, 2) := by decide +kernel
theorem dX12_layMends_137 : decode cX12_layMends 137 = .ok (.invokevirtual 171, 3) := by decide +kernel
theorem dX12_layMends_140 : decode cX12_layMends 140 = .ok (.invokevirtual 198, 3) := by decide +kernel
theorem dX12_layMends_143 : decode cX12_layMends 143 = .ok (.aload_n 0, 1) := by decide +kernel
theorem dX12_layMends_144 : decode cX12_layMends 144 = .ok (.getfield 28, 3) := by decide +kernel
theorem dX12_layMends_147 : decode cX12_layMends 147 = .ok (.iload_n 1, 1) := by decide +kernel
theorem dX12_layMends_148 : decode cX12_layMends 148 = .ok (.iaload, 1) := by decide +kernel
theorem dX12_layMends_149 : decode cX12_layMends 149 = .ok (.bipush 8, 2) := by decide +kernel
theorem dX12_layMends_151 : decode cX12_layMends 151 = .ok (.if_icmp .ge 22, 3) := by decide +kernel
theorem dX12_layMends_154 : decode cX12_layMends 154 = .ok (.aload_n 0, 1) := by decide +kernel
theorem dX12_layMends_155 : decode cX12_layMends 155 = .ok (.iload_n 1, 1) := by decide +kernel
theorem dX12_layMends_156 : decode cX12_layMends 156 = .ok (.iload_n 2, 1) := by decide +kernel
theorem dX12_layMends_157 : decode cX12_layMends 157 = .ok (.iload 4, 2) := by decide +kernel
theorem dX12_layMends_159 : decode cX12_layMends 159 = .ok (.iconst 1, 1) := by decide +kernel
theorem dX12_layMends_160 : decode cX12_layMends 160 = .ok (.invokevirtual 194, 3) := by decide +kernel
theorem dX12_layMends_163 : decode cX12_layMends 163 = .ok (.aload_n 0, 1) := by decide +kernel
theorem dX12_layMends_164 : decode cX12_layMends 164 = .ok (.aload_n 0, 1) := by decide +kernel
theorem dX12_layMends_165 : decode cX12_layMends 165 = .ok (.getfield 59, 3) := by decide +kernel
theorem dX12_layMends_168 : decode cX12_layMends 168 = .ok (.iconst 4, 1) := by decide +kernel
theorem dX12_layMends_169 : decode cX12_layMends 169 = .ok (.iaload, 1) := by decide +kernel
theorem dX12_layMends_170 : decode cX12_layMends 170 = .ok (.invokevirtual 198, 3) := by decide +kernel
theorem dX12_layMends_173 : decode cX12_layMends 173 = .ok (.iinc 4 1, 3) := by decide +kernel
theorem dX12_layMends_176 : decode cX12_layMends 176 = .ok (.goto (-102), 3) := by decide +kernel
theorem dX12_layMends_179 : decode cX12_layMends 179 = .ok (.iload_n 3, 1) := by decide +kernel
theorem dX12_layMends_180 : decode cX12_layMends 180 = .ok (.ifCond .eq 22, 3) := by decide +kernel
theorem dX12_layMends_183 : decode cX12_layMends 183 = .ok (.aload_n 0, 1) := by decide +kernel
theorem dX12_layMends_184 : decode cX12_layMends 184 = .ok (.iload_n 1, 1) := by decide +kernel
theorem dX12_layMends_185 : decode cX12_layMends 185 = .ok (.iload_n 2, 1) := by decide +kernel
theorem dX12_layMends_186 : decode cX12_layMends 186 = .ok (.bipush (-4), 2) := by decide +kernel
theorem dX12_layMends_188 : decode cX12_layMends 188 = .ok (.iconst 0, 1) := by decide +kernel
theorem dX12_layMends_189 : decode cX12_layMends 189 = .ok (.invokevirtual 194, 3) := by decide +kernel
theorem dX12_layMends_192 : decode cX12_layMends 192 = .ok (.aload_n 0, 1) := by decide +kernel
theorem dX12_layMends_193 : decode cX12_layMends 193 = .ok (.aload_n 0, 1) := by decide +kernel
theorem dX12_layMends_194 : decode cX12_layMends 194 = .ok (.getfield 59, 3) := by decide +kernel
theorem dX12_layMends_197 : decode cX12_layMends 197 = .ok (.iconst 3, 1) := by decide +kernel
theorem dX12_layMends_198 : decode cX12_layMends 198 = .ok (.iaload, 1) := by decide +kernel
theorem dX12_layMends_199 : decode cX12_layMends 199 = .ok (.invokevirtual 198, 3) := by decide +kernel
theorem dX12_layMends_202 : decode cX12_layMends 202 = .ok (.iinc 2 1, 3) := by decide +kernel
theorem dX12_layMends_205 : decode cX12_layMends 205 = .ok (.goto (-173), 3) := by decide +kernel
theorem dX12_layMends_208 : decode cX12_layMends 208 = .ok (.return_, 1) := by decide +kernel
theorem dX12_mend_0 : decode cX12_mend 0 = .ok (.iload_n 1, 1) := by decide +kernel
theorem dX12_mend_1 : decode cX12_mend 1 = .ok (.invokestatic 134, 3) := by decide +kernel
theorem dX12_mend_4 : decode cX12_mend 4 = .ok (.ifCond .eq 20, 3) := by decide +kernel
theorem dX12_mend_7 : decode cX12_mend 7 = .ok (.iload_n 2, 1) := by decide +kernel
theorem dX12_mend_8 : decode cX12_mend 8 = .ok (.iconst (-1), 1) := by decide +kernel
theorem dX12_mend_9 : decode cX12_mend 9 = .ok (.if_icmp .lt 15, 3) := by decide +kernel
theorem dX12_mend_12 : decode cX12_mend 12 = .ok (.iload_n 3, 1) := by decide +kernel
theorem dX12_mend_13 : decode cX12_mend 13 = .ok (.i2l, 1) := by decide +kernel
theorem dX12_mend_14 : decode cX12_mend 14 = .ok (.lconst 0, 1) := by decide +kernel
theorem dX12_mend_15 : decode cX12_mend 15 = .ok (.ldc2_w 164, 3) := by decide +kernel
theorem dX12_mend_18 : decode cX12_mend 18 = .ok (.invokestatic 80, 3) := by decide +kernel
theorem dX12_mend_21 : decode cX12_mend 21 = .ok (.ifCond .ne 5, 3) := by decide +kernel
theorem dX12_mend_24 : decode cX12_mend 24 = .ok (.iconst (-1), 1) := by decide +kernel
theorem dX12_mend_25 : decode cX12_mend 25 = .ok (.ireturn, 1) := by decide +kernel
theorem dX12_mend_26 : decode cX12_mend 26 = .ok (.aload_n 0, 1) := by decide +kernel
theorem dX12_mend_27 : decode cX12_mend 27 = .ok (.getfield 28, 3) := by decide +kernel
theorem dX12_mend_30 : decode cX12_mend 30 = .ok (.iload_n 1, 1) := by decide +kernel
theorem dX12_mend_31 : decode cX12_mend 31 = .ok (.iaload, 1) := by decide +kernel
theorem dX12_mend_32 : decode cX12_mend 32 = .ok (.ifCond .eq 12, 3) := by decide +kernel
theorem dX12_mend_35 : decode cX12_mend 35 = .ok (.aload_n 0, 1) := by decide +kernel
theorem dX12_mend_36 : decode cX12_mend 36 = .ok (.iload_n 1, 1) := by decide +kernel
theorem dX12_mend_37 : decode cX12_mend 37 = .ok (.iconst 0, 1) := by decide +kernel
theorem dX12_mend_38 : decode cX12_mend 38 = .ok (.invokevirtual 185, 3) := by decide +kernel
theorem dX12_mend_41 : decode cX12_mend 41 = .ok (.ifCond .eq 6, 3) := by decide +kernel
theorem dX12_mend_44 : decode cX12_mend 44 = .ok (.bipush (-2), 2) := by decide +kernel
theorem dX12_mend_46 : decode cX12_mend 46 = .ok (.ireturn, 1) := by decide +kernel
theorem dX12_mend_47 : decode cX12_mend 47 = .ok (.aload_n 0, 1) := by decide +kernel
theorem dX12_mend_48 : decode cX12_mend 48 = .ok (.iload_n 1, 1) := by decide +kernel
theorem dX12_mend_49 : decode cX12_mend 49 = .ok (.invokevirtual 201, 3) := by decide +kernel
theorem dX12_mend_52 : decode cX12_mend 52 = .ok (.iload_n 2, 1) := by decide +kernel
theorem dX12_mend_53 : decode cX12_mend 53 = .ok (.ifCond .lt 11, 3) := by decide +kernel
theorem dX12_mend_56 : decode cX12_mend 56 = .ok (.iload_n 2, 1) := by decide +kernel
theorem dX12_mend_57 : decode cX12_mend 57 = .ok (.aload_n 0, 1) := by decide +kernel
theorem dX12_mend_58 : decode cX12_mend 58 = .ok (.getfield 188, 3) := by decide +kernel
theorem dX12_mend_61 : decode cX12_mend 61 = .ok (.if_icmp .lt 17, 3) := by decide +kernel
theorem dX12_mend_64 : decode cX12_mend 64 = .ok (.iload_n 2, 1) := by decide +kernel
theorem dX12_mend_65 : decode cX12_mend 65 = .ok (.ifCond .ge 10, 3) := by decide +kernel
theorem dX12_mend_68 : decode cX12_mend 68 = .ok (.aload_n 0, 1) := by decide +kernel
theorem dX12_mend_69 : decode cX12_mend 69 = .ok (.getfield 188, 3) := by decide +kernel
theorem dX12_mend_72 : decode cX12_mend 72 = .ok (.goto 5, 3) := by decide +kernel
theorem dX12_mend_75 : decode cX12_mend 75 = .ok (.bipush (-4), 2) := by decide +kernel
theorem dX12_mend_77 : decode cX12_mend 77 = .ok (.ireturn, 1) := by decide +kernel
theorem dX12_mend_78 : decode cX12_mend 78 = .ok (.iload_n 3, 1) := by decide +kernel
theorem dX12_mend_79 : decode cX12_mend 79 = .ok (.ifCond .ne 12, 3) := by decide +kernel
theorem dX12_mend_82 : decode cX12_mend 82 = .ok (.aload_n 0, 1) := by decide +kernel
theorem dX12_mend_83 : decode cX12_mend 83 = .ok (.getfield 62, 3) := by decide +kernel
theorem dX12_mend_86 : decode cX12_mend 86 = .ok (.iload_n 2, 1) := by decide +kernel
theorem dX12_mend_87 : decode cX12_mend 87 = .ok (.iaload, 1) := by decide +kernel
theorem dX12_mend_88 : decode cX12_mend 88 = .ok (.goto 30, 3) := by decide +kernel
theorem dX12_mend_91 : decode cX12_mend 91 = .ok (.iload_n 3, 1) := by decide +kernel
theorem dX12_mend_92 : decode cX12_mend 92 = .ok (.iconst 1, 1) := by decide +kernel
theorem dX12_mend_93 : decode cX12_mend 93 = .ok (.if_icmp .ne 12, 3) := by decide +kernel
theorem dX12_mend_96 : decode cX12_mend 96 = .ok (.aload_n 0, 1) := by decide +kernel
theorem dX12_mend_97 : decode cX12_mend 97 = .ok (.getfield 65, 3) := by decide +kernel
theorem dX12_mend_100 : decode cX12_mend 100 = .ok (.iload_n 2, 1) := by decide +kernel
theorem dX12_mend_101 : decode cX12_mend 101 = .ok (.iaload, 1) := by decide +kernel
theorem dX12_mend_102 : decode cX12_mend 102 = .ok (.goto 16, 3) := by decide +kernel
theorem dX12_mend_105 : decode cX12_mend 105 = .ok (.aload_n 0, 1) := by decide +kernel
theorem dX12_mend_106 : decode cX12_mend 106 = .ok (.getfield 68, 3) := by decide +kernel
theorem dX12_mend_109 : decode cX12_mend 109 = .ok (.bipush 8, 2) := by decide +kernel
theorem dX12_mend_111 : decode cX12_mend 111 = .ok (.iload_n 2, 1) := by decide +kernel
theorem dX12_mend_112 : decode cX12_mend 112 = .ok (.imul, 1) := by decide +kernel
theorem dX12_mend_113 : decode cX12_mend 113 = .ok (.iload_n 3, 1) := by decide +kernel
theorem dX12_mend_114 : decode cX12_mend 114 = .ok (.iadd, 1) := by decide +kernel
theorem dX12_mend_115 : decode cX12_mend 115 = .ok (.iconst 2, 1) := by decide +kernel
theorem dX12_mend_116 : decode cX12_mend 116 = .ok (.isub, 1) := by decide +kernel
theorem dX12_mend_117 : decode cX12_mend 117 = .ok (.iaload, 1) := by decide +kernel
theorem dX12_mend_118 : decode cX12_mend 118 = .ok (.ireturn, 1) := by decide +kernel
theorem dX12_familyAt_0 : decode cX12_familyAt 0 = .ok (.aload_n 0, 1) := by decide +kernel
theorem dX12_familyAt_1 : decode cX12_familyAt 1 = .ok (.getfield 68, 3) := by decide +kernel
theorem dX12_familyAt_4 : decode cX12_familyAt 4 = .ok (.bipush 8, 2) := by decide +kernel
theorem dX12_familyAt_6 : decode cX12_familyAt 6 = .ok (.iload_n 1, 1) := by decide +kernel
theorem dX12_familyAt_7 : decode cX12_familyAt 7 = .ok (.imul, 1) := by decide +kernel
theorem dX12_familyAt_8 : decode cX12_familyAt 8 = .ok (.iload_n 2, 1) := by decide +kernel
theorem dX12_familyAt_9 : decode cX12_familyAt 9 = .ok (.iadd, 1) := by decide +kernel
theorem dX12_familyAt_10 : decode cX12_familyAt 10 = .ok (.iaload, 1) := by decide +kernel
theorem dX12_familyAt_11 : decode cX12_familyAt 11 = .ok (.istore_n 3, 1) := by decide +kernel
theorem dX12_familyAt_12 : decode cX12_familyAt 12 = .ok (.iload_n 3, 1) := by decide +kernel
theorem dX12_familyAt_13 : decode cX12_familyAt 13 = .ok (.ifCond .ge 8, 3) := by decide +kernel
theorem dX12_familyAt_16 : decode cX12_familyAt 16 = .ok (.bipush (-4), 2) := by decide +kernel
theorem dX12_familyAt_18 : decode cX12_familyAt 18 = .ok (.goto 13, 3) := by decide +kernel
theorem dX12_familyAt_21 : decode cX12_familyAt 21 = .ok (.aload_n 0, 1) := by decide +kernel
theorem dX12_familyAt_22 : decode cX12_familyAt 22 = .ok (.getfield 16, 3) := by decide +kernel
theorem dX12_familyAt_25 : decode cX12_familyAt 25 = .ok (.iconst 4, 1) := by decide +kernel
theorem dX12_familyAt_26 : decode cX12_familyAt 26 = .ok (.iload_n 3, 1) := by decide +kernel
theorem dX12_familyAt_27 : decode cX12_familyAt 27 = .ok (.imul, 1) := by decide +kernel
theorem dX12_familyAt_28 : decode cX12_familyAt 28 = .ok (.iconst 2, 1) := by decide +kernel
theorem dX12_familyAt_29 : decode cX12_familyAt 29 = .ok (.iadd, 1) := by decide +kernel
theorem dX12_familyAt_30 : decode cX12_familyAt 30 = .ok (.iaload, 1) := by decide +kernel
theorem dX12_familyAt_31 : decode cX12_familyAt 31 = .ok (.ireturn, 1) := by decide +kernel
theorem dX12_layHeaps_0 : decode cX12_layHeaps 0 = .ok (.aload_n 0, 1) := by decide +kernel
theorem dX12_layHeaps_1 : decode cX12_layHeaps 1 = .ok (.iconst 0, 1) := by decide +kernel
theorem dX12_layHeaps_2 : decode cX12_layHeaps 2 = .ok (.putfield 204, 3) := by decide +kernel
theorem dX12_layHeaps_5 : decode cX12_layHeaps 5 = .ok (.iconst 0, 1) := by decide +kernel
theorem dX12_layHeaps_6 : decode cX12_layHeaps 6 = .ok (.istore_n 1, 1) := by decide +kernel
theorem dX12_layHeaps_7 : decode cX12_layHeaps 7 = .ok (.iload_n 1, 1) := by decide +kernel
theorem dX12_layHeaps_8 : decode cX12_layHeaps 8 = .ok (.aload_n 0, 1) := by decide +kernel
theorem dX12_layHeaps_9 : decode cX12_layHeaps 9 = .ok (.getfield 188, 3) := by decide +kernel
theorem dX12_layHeaps_12 : decode cX12_layHeaps 12 = .ok (.if_icmp .ge 105, 3) := by decide +kernel
theorem dX12_layHeaps_15 : decode cX12_layHeaps 15 = .ok (.iconst 0, 1) := by decide +kernel
theorem dX12_layHeaps_16 : decode cX12_layHeaps 16 = .ok (.istore_n 2, 1) := by decide +kernel
theorem dX12_layHeaps_17 : decode cX12_layHeaps 17 = .ok (.iconst 0, 1) := by decide +kernel
theorem dX12_layHeaps_18 : decode cX12_layHeaps 18 = .ok (.istore_n 3, 1) := by decide +kernel
theorem dX12_layHeaps_19 : decode cX12_layHeaps 19 = .ok (.iload_n 3, 1) := by decide +kernel
theorem dX12_layHeaps_20 : decode cX12_layHeaps 20 = .ok (.aload_n 0, 1) := by decide +kernel
theorem dX12_layHeaps_21 : decode cX12_layHeaps 21 = .ok (.getfield 204, 3) := by decide +kernel
theorem dX12_layHeaps_24 : decode cX12_layHeaps 24 = .ok (.if_icmp .ge 63, 3) := by decide +kernel
theorem dX12_layHeaps_27 : decode cX12_layHeaps 27 = .ok (.iload_n 2, 1) := by decide +kernel
theorem dX12_layHeaps_28 : decode cX12_layHeaps 28 = .ok (.ifCond .ne 59, 3) := by decide +kernel
theorem dX12_layHeaps_31 : decode cX12_layHeaps 31 = .ok (.iconst 1, 1) := by decide +kernel
theorem dX12_layHeaps_32 : decode cX12_layHeaps 32 = .ok (.istore_n 2, 1) := by decide +kernel
theorem dX12_layHeaps_33 : decode cX12_layHeaps 33 = .ok (.iconst 0, 1) := by decide +kernel
theorem dX12_layHeaps_34 : decode cX12_layHeaps 34 = .ok (.istore 4, 2) := by decide +kernel
theorem dX12_layHeaps_36 : decode cX12_layHeaps 36 = .ok (.iload 4, 2) := by decide +kernel
theorem dX12_layHeaps_38 : decode cX12_layHeaps 38 = .ok (.bipush 8, 2) := by decide +kernel
theorem dX12_layHeaps_40 : decode cX12_layHeaps 40 = .ok (.if_icmp .ge 41, 3) := by decide +kernel
theorem dX12_layHeaps_43 : decode cX12_layHeaps 43 = .ok (.iload_n 2, 1) := by decide +kernel
theorem dX12_layHeaps_44 : decode cX12_layHeaps 44 = .ok (.ifCond .eq 29, 3) := by decide +kernel
theorem dX12_layHeaps_47 : decode cX12_layHeaps 47 = .ok (.aload_n 0, 1) := by decide +kernel
theorem dX12_layHeaps_48 : decode cX12_layHeaps 48 = .ok (.iload_n 1, 1) := by decide +kernel
theorem dX12_layHeaps_49 : decode cX12_layHeaps 49 = .ok (.iload 4, 2) := by decide +kernel
theorem dX12_layHeaps_51 : decode cX12_layHeaps 51 = .ok (.invokevirtual 207, 3) := by decide +kernel
theorem dX12_layHeaps_54 : decode cX12_layHeaps 54 = .ok (.aload_n 0, 1) := by decide +kernel
theorem dX12_layHeaps_55 : decode cX12_layHeaps 55 = .ok (.aload_n 0, 1) := by decide +kernel
theorem dX12_layHeaps_56 : decode cX12_layHeaps 56 = .ok (.getfield 71, 3) := by decide +kernel
theorem dX12_layHeaps_59 : decode cX12_layHeaps 59 = .ok (.iload_n 3, 1) := by decide +kernel
theorem dX12_layHeaps_60 : decode cX12_layHeaps 60 = .ok (.iaload, 1) := by decide +kernel
theorem dX12_layHeaps_61 : decode cX12_layHeaps 61 = .ok (.iload 4, 2) := by decide +kernel
theorem dX12_layHeaps_63 : decode cX12_layHeaps 63 = .ok (.invokevirtual 207, 3) := by decide +kernel
theorem dX12_layHeaps_66 : decode cX12_layHeaps 66 = .ok (.if_icmp .ne 7, 3) := by decide +kernel
theorem dX12_layHeaps_69 : decode cX12_layHeaps 69 = .ok (.iconst 1, 1) := by decide +kernel
theorem dX12_layHeaps_70 : decode cX12_layHeaps 70 = .ok (.goto 4, 3) := by decide +kernel
theorem dX12_layHeaps_73 : decode cX12_layHeaps 73 = .ok (.iconst 0, 1) := by decide +kernel
theorem dX12_layHeaps_74 : decode cX12_layHeaps 74 = .ok (.istore_n 2, 1) := by decide +kernel
theorem dX12_layHeaps_75 : decode cX12_layHeaps 75 = .ok (.iinc 4 1, 3) := by decide +kernel
theorem dX12_layHeaps_78 : decode cX12_layHeaps 78 = .ok (.goto (-42), 3) := by decide +kernel
theorem dX12_layHeaps_81 : decode cX12_layHeaps 81 = .ok (.iinc 3 1, 3) := by decide +kernel
theorem dX12_layHeaps_84 : decode cX12_layHeaps 84 = .ok (.goto (-65), 3) := by decide +kernel
theorem dX12_layHeaps_87 : decode cX12_layHeaps 87 = .ok (.iload_n 2, 1) := by decide +kernel
theorem dX12_layHeaps_88 : decode cX12_layHeaps 88 = .ok (.ifCond .ne 23, 3) := by decide +kernel
theorem dX12_layHeaps_91 : decode cX12_layHeaps 91 = .ok (.aload_n 0, 1) := by decide +kernel
theorem dX12_layHeaps_92 : decode cX12_layHeaps 92 = .ok (.getfield 71, 3) := by decide +kernel
theorem dX12_layHeaps_95 : decode cX12_layHeaps 95 = .ok (.aload_n 0, 1) := by decide +kernel
theorem dX12_layHeaps_96 : decode cX12_layHeaps 96 = .ok (.getfield 204, 3) := by decide +kernel
theorem dX12_layHeaps_99 : decode cX12_layHeaps 99 = .ok (.iload_n 1, 1) := by decide +kernel
theorem dX12_layHeaps_100 : decode cX12_layHeaps 100 = .ok (.iastore, 1) := by decide +kernel
theorem dX12_layHeaps_101 : decode cX12_layHeaps 101 = .ok (.aload_n 0, 1) := by decide +kernel
theorem dX12_layHeaps_102 : decode cX12_layHeaps 102 = .ok (.dup, 1) := by decide +kernel
theorem dX12_layHeaps_103 : decode cX12_layHeaps 103 = .ok (.getfield 204, 3) := by decide +kernel
theorem dX12_layHeaps_106 : decode cX12_layHeaps 106 = .ok (.iconst 1, 1) := by decide +kernel
theorem dX12_layHeaps_107 : decode cX12_layHeaps 107 = .ok (.iadd, 1) := by decide +kernel
theorem dX12_layHeaps_108 : decode cX12_layHeaps 108 = .ok (.putfield 204, 3) := by decide +kernel
theorem dX12_layHeaps_111 : decode cX12_layHeaps 111 = .ok (.iinc 1 1, 3) := by decide +kernel
theorem dX12_layHeaps_114 : decode cX12_layHeaps 114 = .ok (.goto (-107), 3) := by decide +kernel
theorem dX12_layHeaps_117 : decode cX12_layHeaps 117 = .ok (.return_, 1) := by decide +kernel
theorem dX12_asked_0 : decode cX12_asked 0 = .ok (.bipush (-4), 2) := by decide +kernel
theorem dX12_asked_2 : decode cX12_asked 2 = .ok (.istore_n 1, 1) := by decide +kernel
theorem dX12_asked_3 : decode cX12_asked 3 = .ok (.iconst 0, 1) := by decide +kernel
theorem dX12_asked_4 : decode cX12_asked 4 = .ok (.istore_n 2, 1) := by decide +kernel
theorem dX12_asked_5 : decode cX12_asked 5 = .ok (.iconst 0, 1) := by decide +kernel
theorem dX12_asked_6 : decode cX12_asked 6 = .ok (.istore_n 3, 1) := by decide +kernel
theorem dX12_asked_7 : decode cX12_asked 7 = .ok (.iload_n 3, 1) := by decide +kernel
theorem dX12_asked_8 : decode cX12_asked 8 = .ok (.bipush 8, 2) := by decide +kernel
theorem dX12_asked_10 : decode cX12_asked 10 = .ok (.if_icmp .ge 121, 3) := by decide +kernel
theorem dX12_asked_13 : decode cX12_asked 13 = .ok (.iconst 0, 1) := by decide +kernel
theorem dX12_asked_14 : decode cX12_asked 14 = .ok (.istore 4, 2) := by decide +kernel
theorem dX12_asked_16 : decode cX12_asked 16 = .ok (.iconst 0, 1) := by decide +kernel
theorem dX12_asked_17 : decode cX12_asked 17 = .ok (.istore 5, 2) := by decide +kernel
theorem dX12_asked_19 : decode cX12_asked 19 = .ok (.iload 5, 2) := by decide +kernel
theorem dX12_asked_21 : decode cX12_asked 21 = .ok (.aload_n 0, 1) := by decide +kernel
theorem dX12_asked_22 : decode cX12_asked 22 = .ok (.getfield 204, 3) := by decide +kernel
theorem dX12_asked_25 : decode cX12_asked 25 = .ok (.if_icmp .ge 83, 3) := by decide +kernel
theorem dX12_asked_28 : decode cX12_asked 28 = .ok (.iconst 0, 1) := by decide +kernel
theorem dX12_asked_29 : decode cX12_asked 29 = .ok (.istore 6, 2) := by decide +kernel
theorem dX12_asked_31 : decode cX12_asked 31 = .ok (.iconst 0, 1) := by decide +kernel
theorem dX12_asked_32 : decode cX12_asked 32 = .ok (.istore 7, 2) := by decide +kernel
theorem dX12_asked_34 : decode cX12_asked 34 = .ok (.iload 7, 2) := by decide +kernel
theorem dX12_asked_36 : decode cX12_asked 36 = .ok (.aload_n 0, 1) := by decide +kernel
theorem dX12_asked_37 : decode cX12_asked 37 = .ok (.getfield 204, 3) := by decide +kernel
theorem dX12_asked_40 : decode cX12_asked 40 = .ok (.if_icmp .ge 46, 3) := by decide +kernel
theorem dX12_asked_43 : decode cX12_asked 43 = .ok (.iload 6, 2) := by decide +kernel
theorem dX12_asked_45 : decode cX12_asked 45 = .ok (.aload_n 0, 1) := by decide +kernel
theorem dX12_asked_46 : decode cX12_asked 46 = .ok (.aload_n 0, 1) := by decide +kernel
theorem dX12_asked_47 : decode cX12_asked 47 = .ok (.getfield 71, 3) := by decide +kernel
theorem dX12_asked_50 : decode cX12_asked 50 = .ok (.iload 5, 2) := by decide +kernel
theorem dX12_asked_52 : decode cX12_asked 52 = .ok (.iaload, 1) := by decide +kernel
theorem dX12_asked_53 : decode cX12_asked 53 = .ok (.iload_n 3, 1) := by decide +kernel
theorem dX12_asked_54 : decode cX12_asked 54 = .ok (.invokevirtual 207, 3) := by decide +kernel
theorem dX12_asked_57 : decode cX12_asked 57 = .ok (.aload_n 0, 1) := by decide +kernel
theorem dX12_asked_58 : decode cX12_asked 58 = .ok (.aload_n 0, 1) := by decide +kernel
theorem dX12_asked_59 : decode cX12_asked 59 = .ok (.getfield 71, 3) := by decide +kernel
theorem dX12_asked_62 : decode cX12_asked 62 = .ok (.iload 7, 2) := by decide +kernel
theorem dX12_asked_64 : decode cX12_asked 64 = .ok (.iaload, 1) := by decide +kernel
theorem dX12_asked_65 : decode cX12_asked 65 = .ok (.iload_n 3, 1) := by decide +kernel
theorem dX12_asked_66 : decode cX12_asked 66 = .ok (.invokevirtual 207, 3) := by decide +kernel
theorem dX12_asked_69 : decode cX12_asked 69 = .ok (.if_icmp .ne 7, 3) := by decide +kernel
theorem dX12_asked_72 : decode cX12_asked 72 = .ok (.iconst 1, 1) := by decide +kernel
theorem dX12_asked_73 : decode cX12_asked 73 = .ok (.goto 4, 3) := by decide +kernel
theorem dX12_asked_76 : decode cX12_asked 76 = .ok (.iconst 0, 1) := by decide +kernel
theorem dX12_asked_77 : decode cX12_asked 77 = .ok (.iadd, 1) := by decide +kernel
theorem dX12_asked_78 : decode cX12_asked 78 = .ok (.istore 6, 2) := by decide +kernel
theorem dX12_asked_80 : decode cX12_asked 80 = .ok (.iinc 7 1, 3) := by decide +kernel
theorem dX12_asked_83 : decode cX12_asked 83 = .ok (.goto (-49), 3) := by decide +kernel
theorem dX12_asked_86 : decode cX12_asked 86 = .ok (.iload 6, 2) := by decide +kernel
theorem dX12_asked_88 : decode cX12_asked 88 = .ok (.iload 4, 2) := by decide +kernel
theorem dX12_asked_90 : decode cX12_asked 90 = .ok (.if_icmp .le 8, 3) := by decide +kernel
theorem dX12_asked_93 : decode cX12_asked 93 = .ok (.iload 6, 2) := by decide +kernel
theorem dX12_asked_95 : decode cX12_asked 95 = .ok (.goto 5, 3) := by decide +kernel
theorem dX12_asked_98 : decode cX12_asked 98 = .ok (.iload 4, 2) := by decide +kernel
theorem dX12_asked_100 : decode cX12_asked 100 = .ok (.istore 4, 2) := by decide +kernel
theorem dX12_asked_102 : decode cX12_asked 102 = .ok (.iinc 5 1, 3) := by decide +kernel
theorem dX12_asked_105 : decode cX12_asked 105 = .ok (.goto (-86), 3) := by decide +kernel
theorem dX12_asked_108 : decode cX12_asked 108 = .ok (.iload_n 1, 1) := by decide +kernel
theorem dX12_asked_109 : decode cX12_asked 109 = .ok (.bipush (-4), 2) := by decide +kernel
theorem dX12_asked_111 : decode cX12_asked 111 = .ok (.if_icmp .eq 9, 3) := by decide +kernel
theorem dX12_asked_114 : decode cX12_asked 114 = .ok (.iload 4, 2) := by decide +kernel
theorem dX12_asked_116 : decode cX12_asked 116 = .ok (.iload_n 2, 1) := by decide +kernel
theorem dX12_asked_117 : decode cX12_asked 117 = .ok (.if_icmp .ge 8, 3) := by decide +kernel
theorem dX12_asked_120 : decode cX12_asked 120 = .ok (.iload_n 3, 1) := by decide +kernel
theorem dX12_asked_121 : decode cX12_asked 121 = .ok (.istore_n 1, 1) := by decide +kernel
theorem dX12_asked_122 : decode cX12_asked 122 = .ok (.iload 4, 2) := by decide +kernel
theorem dX12_asked_124 : decode cX12_asked 124 = .ok (.istore_n 2, 1) := by decide +kernel
theorem dX12_asked_125 : decode cX12_asked 125 = .ok (.iinc 3 1, 3) := by decide +kernel
theorem dX12_asked_128 : decode cX12_asked 128 = .ok (.goto (-121), 3) := by decide +kernel
theorem dX12_asked_131 : decode cX12_asked 131 = .ok (.iload_n 1, 1) := by decide +kernel
theorem dX12_asked_132 : decode cX12_asked 132 = .ok (.ireturn, 1) := by decide +kernel
theorem dX12_heaps_0 : decode cX12_heaps 0 = .ok (.iload_n 1, 1) := by decide +kernel
theorem dX12_heaps_1 : decode cX12_heaps 1 = .ok (.invokestatic 134, 3) := by decide +kernel
theorem dX12_heaps_4 : decode cX12_heaps 4 = .ok (.ifCond .eq 27, 3) := by decide +kernel
theorem dX12_heaps_7 : decode cX12_heaps 7 = .ok (.iload_n 2, 1) := by decide +kernel
theorem dX12_heaps_8 : decode cX12_heaps 8 = .ok (.i2l, 1) := by decide +kernel
theorem dX12_heaps_9 : decode cX12_heaps 9 = .ok (.lconst 0, 1) := by decide +kernel
theorem dX12_heaps_10 : decode cX12_heaps 10 = .ok (.ldc2_w 210, 3) := by decide +kernel
theorem dX12_heaps_13 : decode cX12_heaps 13 = .ok (.invokestatic 80, 3) := by decide +kernel
theorem dX12_heaps_16 : decode cX12_heaps 16 = .ok (.ifCond .eq 15, 3) := by decide +kernel
theorem dX12_heaps_19 : decode cX12_heaps 19 = .ok (.iload_n 3, 1) := by decide +kernel
theorem dX12_heaps_20 : decode cX12_heaps 20 = .ok (.i2l, 1) := by decide +kernel
theorem dX12_heaps_21 : decode cX12_heaps 21 = .ok (.lconst 0, 1) := by decide +kernel
theorem dX12_heaps_22 : decode cX12_heaps 22 = .ok (.ldc2_w 97, 3) := by decide +kernel
theorem dX12_heaps_25 : decode cX12_heaps 25 = .ok (.invokestatic 80, 3) := by decide +kernel
theorem dX12_heaps_28 : decode cX12_heaps 28 = .ok (.ifCond .ne 5, 3) := by decide +kernel
theorem dX12_heaps_31 : decode cX12_heaps 31 = .ok (.iconst (-1), 1) := by decide +kernel
theorem dX12_heaps_32 : decode cX12_heaps 32 = .ok (.ireturn, 1) := by decide +kernel
theorem dX12_heaps_33 : decode cX12_heaps 33 = .ok (.aload_n 0, 1) := by decide +kernel
theorem dX12_heaps_34 : decode cX12_heaps 34 = .ok (.getfield 28, 3) := by decide +kernel
theorem dX12_heaps_37 : decode cX12_heaps 37 = .ok (.iload_n 1, 1) := by decide +kernel
theorem dX12_heaps_38 : decode cX12_heaps 38 = .ok (.iaload, 1) := by decide +kernel
theorem dX12_heaps_39 : decode cX12_heaps 39 = .ok (.ifCond .eq 12, 3) := by decide +kernel
theorem dX12_heaps_42 : decode cX12_heaps 42 = .ok (.aload_n 0, 1) := by decide +kernel
theorem dX12_heaps_43 : decode cX12_heaps 43 = .ok (.iload_n 1, 1) := by decide +kernel
theorem dX12_heaps_44 : decode cX12_heaps 44 = .ok (.iconst 0, 1) := by decide +kernel
theorem dX12_heaps_45 : decode cX12_heaps 45 = .ok (.invokevirtual 185, 3) := by decide +kernel
theorem dX12_heaps_48 : decode cX12_heaps 48 = .ok (.ifCond .eq 6, 3) := by decide +kernel
theorem dX12_heaps_51 : decode cX12_heaps 51 = .ok (.bipush (-2), 2) := by decide +kernel
theorem dX12_heaps_53 : decode cX12_heaps 53 = .ok (.ireturn, 1) := by decide +kernel
theorem dX12_heaps_54 : decode cX12_heaps 54 = .ok (.aload_n 0, 1) := by decide +kernel
theorem dX12_heaps_55 : decode cX12_heaps 55 = .ok (.iload_n 1, 1) := by decide +kernel
theorem dX12_heaps_56 : decode cX12_heaps 56 = .ok (.invokevirtual 201, 3) := by decide +kernel
theorem dX12_heaps_59 : decode cX12_heaps 59 = .ok (.aload_n 0, 1) := by decide +kernel
theorem dX12_heaps_60 : decode cX12_heaps 60 = .ok (.invokevirtual 212, 3) := by decide +kernel
theorem dX12_heaps_63 : decode cX12_heaps 63 = .ok (.iload_n 3, 1) := by decide +kernel
theorem dX12_heaps_64 : decode cX12_heaps 64 = .ok (.ifCond .ne 8, 3) := by decide +kernel
theorem dX12_heaps_67 : decode cX12_heaps 67 = .ok (.aload_n 0, 1) := by decide +kernel
theorem dX12_heaps_68 : decode cX12_heaps 68 = .ok (.getfield 204, 3) := by decide +kernel
theorem dX12_heaps_71 : decode cX12_heaps 71 = .ok (.ireturn, 1) := by decide +kernel
theorem dX12_heaps_72 : decode cX12_heaps 72 = .ok (.aload_n 0, 1) := by decide +kernel
theorem dX12_heaps_73 : decode cX12_heaps 73 = .ok (.getfield 204, 3) := by decide +kernel
theorem dX12_heaps_76 : decode cX12_heaps 76 = .ok (.ifCond .eq 16, 3) := by decide +kernel
theorem dX12_heaps_79 : decode cX12_heaps 79 = .ok (.iload_n 3, 1) := by decide +kernel
theorem dX12_heaps_80 : decode cX12_heaps 80 = .ok (.iconst 2, 1) := by decide +kernel
theorem dX12_heaps_81 : decode cX12_heaps 81 = .ok (.if_icmp .ne 14, 3) := by decide +kernel
theorem dX12_heaps_84 : decode cX12_heaps 84 = .ok (.aload_n 0, 1) := by decide +kernel
theorem dX12_heaps_85 : decode cX12_heaps 85 = .ok (.getfield 204, 3) := by decide +kernel
theorem dX12_heaps_88 : decode cX12_heaps 88 = .ok (.iconst 2, 1) := by decide +kernel
theorem dX12_heaps_89 : decode cX12_heaps 89 = .ok (.if_icmp .ge 6, 3) := by decide +kernel
theorem dX12_heaps_92 : decode cX12_heaps 92 = .ok (.bipush (-4), 2) := by decide +kernel
theorem dX12_heaps_94 : decode cX12_heaps 94 = .ok (.ireturn, 1) := by decide +kernel
theorem dX12_heaps_95 : decode cX12_heaps 95 = .ok (.iload_n 3, 1) := by decide +kernel
theorem dX12_heaps_96 : decode cX12_heaps 96 = .ok (.iconst 2, 1) := by decide +kernel
theorem dX12_heaps_97 : decode cX12_heaps 97 = .ok (.if_icmp .ne 8, 3) := by decide +kernel
theorem dX12_heaps_100 : decode cX12_heaps 100 = .ok (.aload_n 0, 1) := by decide +kernel
theorem dX12_heaps_101 : decode cX12_heaps 101 = .ok (.invokevirtual 215, 3) := by decide +kernel
theorem dX12_heaps_104 : decode cX12_heaps 104 = .ok (.ireturn, 1) := by decide +kernel
theorem dX12_heaps_105 : decode cX12_heaps 105 = .ok (.aload_n 0, 1) := by decide +kernel
theorem dX12_heaps_106 : decode cX12_heaps 106 = .ok (.getfield 204, 3) := by decide +kernel
theorem dX12_heaps_109 : decode cX12_heaps 109 = .ok (.iconst 1, 1) := by decide +kernel
theorem dX12_heaps_110 : decode cX12_heaps 110 = .ok (.if_icmp .eq 30, 3) := by decide +kernel
theorem dX12_heaps_113 : decode cX12_heaps 113 = .ok (.aload_n 0, 1) := by decide +kernel
theorem dX12_heaps_114 : decode cX12_heaps 114 = .ok (.getfield 62, 3) := by decide +kernel
theorem dX12_heaps_117 : decode cX12_heaps 117 = .ok (.aload_n 0, 1) := by decide +kernel
theorem dX12_heaps_118 : decode cX12_heaps 118 = .ok (.getfield 71, 3) := by decide +kernel
theorem dX12_heaps_121 : decode cX12_heaps 121 = .ok (.iconst 1, 1) := by decide +kernel
theorem dX12_heaps_122 : decode cX12_heaps 122 = .ok (.iaload, 1) := by decide +kernel
theorem dX12_heaps_123 : decode cX12_heaps 123 = .ok (.iaload, 1) := by decide +kernel
theorem dX12_heaps_124 : decode cX12_heaps 124 = .ok (.aload_n 0, 1) := by decide +kernel
theorem dX12_heaps_125 : decode cX12_heaps 125 = .ok (.getfield 62, 3) := by decide +kernel
theorem dX12_heaps_128 : decode cX12_heaps 128 = .ok (.aload_n 0, 1) := by decide +kernel
theorem dX12_heaps_129 : decode cX12_heaps 129 = .ok (.getfield 71, 3) := by decide +kernel
theorem dX12_heaps_132 : decode cX12_heaps 132 = .ok (.iconst 0, 1) := by decide +kernel
theorem dX12_heaps_133 : decode cX12_heaps 133 = .ok (.iaload, 1) := by decide +kernel
theorem dX12_heaps_134 : decode cX12_heaps 134 = .ok (.iaload, 1) := by decide +kernel
theorem dX12_heaps_135 : decode cX12_heaps 135 = .ok (.isub, 1) := by decide +kernel
theorem dX12_heaps_136 : decode cX12_heaps 136 = .ok (.iload_n 2, 1) := by decide +kernel
theorem dX12_heaps_137 : decode cX12_heaps 137 = .ok (.if_icmp .lt 7, 3) := by decide +kernel
theorem dX12_heaps_140 : decode cX12_heaps 140 = .ok (.iconst 1, 1) := by decide +kernel
theorem dX12_heaps_141 : decode cX12_heaps 141 = .ok (.goto 4, 3) := by decide +kernel
theorem dX12_heaps_144 : decode cX12_heaps 144 = .ok (.iconst 0, 1) := by decide +kernel
theorem dX12_heaps_145 : decode cX12_heaps 145 = .ok (.ireturn, 1) := by decide +kernel
theorem dX12_isAgreeing_0 : decode cX12_isAgreeing 0 = .ok (.iload_n 1, 1) := by decide +kernel
theorem dX12_isAgreeing_1 : decode cX12_isAgreeing 1 = .ok (.aload_n 0, 1) := by decide +kernel
theorem dX12_isAgreeing_2 : decode cX12_isAgreeing 2 = .ok (.getfield 19, 3) := by decide +kernel
theorem dX12_isAgreeing_5 : decode cX12_isAgreeing 5 = .ok (.iconst 0, 1) := by decide +kernel
theorem dX12_isAgreeing_6 : decode cX12_isAgreeing 6 = .ok (.iaload, 1) := by decide +kernel
theorem dX12_isAgreeing_7 : decode cX12_isAgreeing 7 = .ok (.if_icmp .ge 21, 3) := by decide +kernel
theorem dX12_isAgreeing_10 : decode cX12_isAgreeing 10 = .ok (.aload_n 0, 1) := by decide +kernel
theorem dX12_isAgreeing_11 : decode cX12_isAgreeing 11 = .ok (.getfield 22, 3) := by decide +kernel
theorem dX12_isAgreeing_14 : decode cX12_isAgreeing 14 = .ok (.iconst 5, 1) := by decide +kernel
theorem dX12_isAgreeing_15 : decode cX12_isAgreeing 15 = .ok (.iload_n 1, 1) := by decide +kernel
theorem dX12_isAgreeing_16 : decode cX12_isAgreeing 16 = .ok (.imul, 1) := by decide +kernel
theorem dX12_isAgreeing_17 : decode cX12_isAgreeing 17 = .ok (.iconst 3, 1) := by decide +kernel
theorem dX12_isAgreeing_18 : decode cX12_isAgreeing 18 = .ok (.iadd, 1) := by decide +kernel
theorem dX12_isAgreeing_19 : decode cX12_isAgreeing 19 = .ok (.iaload, 1) := by decide +kernel
theorem dX12_isAgreeing_20 : decode cX12_isAgreeing 20 = .ok (.iconst 1, 1) := by decide +kernel
theorem dX12_isAgreeing_21 : decode cX12_isAgreeing 21 = .ok (.if_icmp .ne 7, 3) := by decide +kernel
theorem dX12_isAgreeing_24 : decode cX12_isAgreeing 24 = .ok (.iconst 1, 1) := by decide +kernel
theorem dX12_isAgreeing_25 : decode cX12_isAgreeing 25 = .ok (.goto 4, 3) := by decide +kernel
theorem dX12_isAgreeing_28 : decode cX12_isAgreeing 28 = .ok (.iconst 0, 1) := by decide +kernel
theorem dX12_isAgreeing_29 : decode cX12_isAgreeing 29 = .ok (.ireturn, 1) := by decide +kernel
theorem dX12_lesser_0 : decode cX12_lesser 0 = .ok (.iload_n 1, 1) := by decide +kernel
theorem dX12_lesser_1 : decode cX12_lesser 1 = .ok (.bipush (-4), 2) := by decide +kernel
theorem dX12_lesser_3 : decode cX12_lesser 3 = .ok (.if_icmp .eq 8, 3) := by decide +kernel
theorem dX12_lesser_6 : decode cX12_lesser 6 = .ok (.iload_n 2, 1) := by decide +kernel
theorem dX12_lesser_7 : decode cX12_lesser 7 = .ok (.iload_n 1, 1) := by decide +kernel
theorem dX12_lesser_8 : decode cX12_lesser 8 = .ok (.if_icmp .ge 7, 3) := by decide +kernel
theorem dX12_lesser_11 : decode cX12_lesser 11 = .ok (.iconst 1, 1) := by decide +kernel
theorem dX12_lesser_12 : decode cX12_lesser 12 = .ok (.goto 4, 3) := by decide +kernel
theorem dX12_lesser_15 : decode cX12_lesser 15 = .ok (.iconst 0, 1) := by decide +kernel
theorem dX12_lesser_16 : decode cX12_lesser 16 = .ok (.istore 4, 2) := by decide +kernel
theorem dX12_lesser_18 : decode cX12_lesser 18 = .ok (.iload 4, 2) := by decide +kernel
theorem dX12_lesser_20 : decode cX12_lesser 20 = .ok (.ifCond .eq 16, 3) := by decide +kernel
theorem dX12_lesser_23 : decode cX12_lesser 23 = .ok (.aload_n 0, 1) := by decide +kernel
theorem dX12_lesser_24 : decode cX12_lesser 24 = .ok (.iload_n 3, 1) := by decide +kernel
theorem dX12_lesser_25 : decode cX12_lesser 25 = .ok (.iload_n 2, 1) := by decide +kernel
theorem dX12_lesser_26 : decode cX12_lesser 26 = .ok (.invokevirtual 185, 3) := by decide +kernel
theorem dX12_lesser_29 : decode cX12_lesser 29 = .ok (.ifCond .eq 7, 3) := by decide +kernel
theorem dX12_lesser_32 : decode cX12_lesser 32 = .ok (.iload_n 2, 1) := by decide +kernel
theorem dX12_lesser_33 : decode cX12_lesser 33 = .ok (.goto 4, 3) := by decide +kernel
theorem dX12_lesser_36 : decode cX12_lesser 36 = .ok (.iload_n 1, 1) := by decide +kernel
theorem dX12_lesser_37 : decode cX12_lesser 37 = .ok (.ireturn, 1) := by decide +kernel
theorem dX12_bars_0 : decode cX12_bars 0 = .ok (.iload_n 1, 1) := by decide +kernel
theorem dX12_bars_1 : decode cX12_bars 1 = .ok (.invokestatic 134, 3) := by decide +kernel
theorem dX12_bars_4 : decode cX12_bars 4 = .ok (.ifCond .ne 5, 3) := by decide +kernel
theorem dX12_bars_7 : decode cX12_bars 7 = .ok (.iconst (-1), 1) := by decide +kernel
theorem dX12_bars_8 : decode cX12_bars 8 = .ok (.ireturn, 1) := by decide +kernel
theorem dX12_bars_9 : decode cX12_bars 9 = .ok (.aload_n 0, 1) := by decide +kernel
theorem dX12_bars_10 : decode cX12_bars 10 = .ok (.getfield 28, 3) := by decide +kernel
theorem dX12_bars_13 : decode cX12_bars 13 = .ok (.iload_n 1, 1) := by decide +kernel
theorem dX12_bars_14 : decode cX12_bars 14 = .ok (.iaload, 1) := by decide +kernel
theorem dX12_bars_15 : decode cX12_bars 15 = .ok (.ifCond .ne 6, 3) := by decide +kernel
theorem dX12_bars_18 : decode cX12_bars 18 = .ok (.bipush (-2), 2) := by decide +kernel
theorem dX12_bars_20 : decode cX12_bars 20 = .ok (.ireturn, 1) := by decide +kernel
theorem dX12_bars_21 : decode cX12_bars 21 = .ok (.aload_n 0, 1) := by decide +kernel
theorem dX12_bars_22 : decode cX12_bars 22 = .ok (.iload_n 1, 1) := by decide +kernel
theorem dX12_bars_23 : decode cX12_bars 23 = .ok (.iconst 0, 1) := by decide +kernel
theorem dX12_bars_24 : decode cX12_bars 24 = .ok (.invokevirtual 185, 3) := by decide +kernel
theorem dX12_bars_27 : decode cX12_bars 27 = .ok (.ifCond .eq 5, 3) := by decide +kernel
theorem dX12_bars_30 : decode cX12_bars 30 = .ok (.iconst 0, 1) := by decide +kernel
theorem dX12_bars_31 : decode cX12_bars 31 = .ok (.ireturn, 1) := by decide +kernel
theorem dX12_bars_32 : decode cX12_bars 32 = .ok (.iconst 1, 1) := by decide +kernel
theorem dX12_bars_33 : decode cX12_bars 33 = .ok (.istore_n 2, 1) := by decide +kernel
theorem dX12_bars_34 : decode cX12_bars 34 = .ok (.iload_n 2, 1) := by decide +kernel
theorem dX12_bars_35 : decode cX12_bars 35 = .ok (.iconst 3, 1) := by decide +kernel
theorem dX12_bars_36 : decode cX12_bars 36 = .ok (.if_icmp .gt 190, 3) := by decide +kernel
theorem dX12_bars_39 : decode cX12_bars 39 = .ok (.bipush (-4), 2) := by decide +kernel
theorem dX12_bars_41 : decode cX12_bars 41 = .ok (.istore_n 3, 1) := by decide +kernel
theorem dX12_bars_42 : decode cX12_bars 42 = .ok (.iconst 0, 1) := by decide +kernel
theorem dX12_bars_43 : decode cX12_bars 43 = .ok (.istore 4, 2) := by decide +kernel
theorem dX12_bars_45 : decode cX12_bars 45 = .ok (.iload 4, 2) := by decide +kernel
theorem dX12_bars_47 : decode cX12_bars 47 = .ok (.bipush 24, 2) := by decide +kernel
theorem dX12_bars_49 : decode cX12_bars 49 = .ok (.if_icmp .ge 163, 3) := by decide +kernel
theorem dX12_bars_52 : decode cX12_bars 52 = .ok (.iload_n 2, 1) := by decide +kernel
theorem dX12_bars_53 : decode cX12_bars 53 = .ok (.iconst 1, 1) := by decide +kernel
theorem dX12_bars_54 : decode cX12_bars 54 = .ok (.if_icmp .le 10, 3) := by decide +kernel
theorem dX12_bars_57 : decode cX12_bars 57 = .ok (.iload 4, 2) := by decide +kernel
theorem dX12_bars_59 : decode cX12_bars 59 = .ok (.iconst 1, 1) := by decide +kernel
theorem dX12_bars_60 : decode cX12_bars 60 = .ok (.iadd, 1) := by decide +kernel
theorem dX12_bars_61 : decode cX12_bars 61 = .ok (.goto 5, 3) := by decide +kernel
theorem dX12_bars_64 : decode cX12_bars 64 = .ok (.bipush 23, 2) := by decide +kernel
theorem dX12_bars_66 : decode cX12_bars 66 = .ok (.istore 5, 2) := by decide +kernel
theorem dX12_bars_68 : decode cX12_bars 68 = .ok (.iload 5, 2) := by decide +kernel
theorem dX12_bars_70 : decode cX12_bars 70 = .ok (.bipush 24, 2) := by decide +kernel
theorem dX12_bars_72 : decode cX12_bars 72 = .ok (.if_icmp .ge 134, 3) := by decide +kernel
theorem dX12_bars_75 : decode cX12_bars 75 = .ok (.aload_n 0, 1) := by decide +kernel
theorem dX12_bars_76 : decode cX12_bars 76 = .ok (.iload 4, 2) := by decide +kernel
theorem dX12_bars_78 : decode cX12_bars 78 = .ok (.invokevirtual 218, 3) := by decide +kernel
theorem dX12_bars_81 : decode cX12_bars 81 = .ok (.ifCond .eq 125, 3) := by decide +kernel
theorem dX12_bars_84 : decode cX12_bars 84 = .ok (.iload_n 2, 1) := by decide +kernel
theorem dX12_bars_85 : decode cX12_bars 85 = .ok (.iconst 2, 1) := by decide +kernel
theorem dX12_bars_86 : decode cX12_bars 86 = .ok (.if_icmp .le 10, 3) := by decide +kernel
theorem dX12_bars_89 : decode cX12_bars 89 = .ok (.iload 5, 2) := by decide +kernel
theorem dX12_bars_91 : decode cX12_bars 91 = .ok (.iconst 1, 1) := by decide +kernel
theorem dX12_bars_92 : decode cX12_bars 92 = .ok (.iadd, 1) := by decide +kernel
theorem dX12_bars_93 : decode cX12_bars 93 = .ok (.goto 5, 3) := by decide +kernel
theorem dX12_bars_96 : decode cX12_bars 96 = .ok (.bipush 23, 2) := by decide +kernel
theorem dX12_bars_98 : decode cX12_bars 98 = .ok (.istore 6, 2) := by decide +kernel
theorem dX12_bars_100 : decode cX12_bars 100 = .ok (.iload 6, 2) := by decide +kernel
theorem dX12_bars_102 : decode cX12_bars 102 = .ok (.bipush 24, 2) := by decide +kernel
theorem dX12_bars_104 : decode cX12_bars 104 = .ok (.if_icmp .ge 96, 3) := by decide +kernel
theorem dX12_bars_107 : decode cX12_bars 107 = .ok (.iload_n 2, 1) := by decide +kernel
theorem dX12_bars_108 : decode cX12_bars 108 = .ok (.iconst 2, 1) := by decide +kernel
theorem dX12_bars_109 : decode cX12_bars 109 = .ok (.if_icmp .lt 12, 3) := by decide +kernel
theorem dX12_bars_112 : decode cX12_bars 112 = .ok (.aload_n 0, 1) := by decide +kernel
theorem dX12_bars_113 : decode cX12_bars 113 = .ok (.iload 5, 2) := by decide +kernel
theorem dX12_bars_115 : decode cX12_bars 115 = .ok (.invokevirtual 218, 3) := by decide +kernel
theorem dX12_bars_118 : decode cX12_bars 118 = .ok (.ifCond .eq 21, 3) := by decide +kernel
theorem dX12_bars_121 : decode cX12_bars 121 = .ok (.iload_n 2, 1) := by decide +kernel
theorem dX12_bars_122 : decode cX12_bars 122 = .ok (.iconst 3, 1) := by decide +kernel
theorem dX12_bars_123 : decode cX12_bars 123 = .ok (.if_icmp .lt 12, 3) := by decide +kernel
theorem dX12_bars_126 : decode cX12_bars 126 = .ok (.aload_n 0, 1) := by decide +kernel
theorem dX12_bars_127 : decode cX12_bars 127 = .ok (.iload 6, 2) := by decide +kernel
theorem dX12_bars_129 : decode cX12_bars 129 = .ok (.invokevirtual 218, 3) := by decide +kernel
theorem dX12_bars_132 : decode cX12_bars 132 = .ok (.ifCond .eq 7, 3) := by decide +kernel
theorem dX12_bars_135 : decode cX12_bars 135 = .ok (.iconst 1, 1) := by decide +kernel
theorem dX12_bars_136 : decode cX12_bars 136 = .ok (.goto 4, 3) := by decide +kernel
theorem dX12_bars_139 : decode cX12_bars 139 = .ok (.iconst 0, 1) := by decide +kernel
theorem dX12_bars_140 : decode cX12_bars 140 = .ok (.istore 7, 2) := by decide +kernel
theorem dX12_bars_142 : decode cX12_bars 142 = .ok (.iconst 1, 1) := by decide +kernel
theorem dX12_bars_143 : decode cX12_bars 143 = .ok (.iload 4, 2) := by decide +kernel
theorem dX12_bars_145 : decode cX12_bars 145 = .ok (.ishl, 1) := by decide +kernel
theorem dX12_bars_146 : decode cX12_bars 146 = .ok (.iload_n 2, 1) := by decide +kernel
theorem dX12_bars_147 : decode cX12_bars 147 = .ok (.iconst 1, 1) := by decide +kernel
theorem dX12_bars_148 : decode cX12_bars 148 = .ok (.if_icmp .le 10, 3) := by decide +kernel
theorem dX12_bars_151 : decode cX12_bars 151 = .ok (.iconst 1, 1) := by decide +kernel
theorem dX12_bars_152 : decode cX12_bars 152 = .ok (.iload 5, 2) := by decide +kernel
theorem dX12_bars_154 : decode cX12_bars 154 = .ok (.ishl, 1) := by decide +kernel
theorem dX12_bars_155 : decode cX12_bars 155 = .ok (.goto 4, 3) := by decide +kernel
theorem dX12_bars_158 : decode cX12_bars 158 = .ok (.iconst 0, 1) := by decide +kernel
theorem dX12_bars_159 : decode cX12_bars 159 = .ok (.ior, 1) := by decide +kernel
theorem dX12_bars_160 : decode cX12_bars 160 = .ok (.iload_n 2, 1) := by decide +kernel
theorem dX12_bars_161 : decode cX12_bars 161 = .ok (.iconst 2, 1) := by decide +kernel
theorem dX12_bars_162 : decode cX12_bars 162 = .ok (.if_icmp .le 10, 3) := by decide +kernel
theorem dX12_bars_165 : decode cX12_bars 165 = .ok (.iconst 1, 1) := by decide +kernel
theorem dX12_bars_166 : decode cX12_bars 166 = .ok (.iload 6, 2) := by decide +kernel
theorem dX12_bars_168 : decode cX12_bars 168 = .ok (.ishl, 1) := by decide +kernel
theorem dX12_bars_169 : decode cX12_bars 169 = .ok (.goto 4, 3) := by decide +kernel
theorem dX12_bars_172 : decode cX12_bars 172 = .ok (.iconst 0, 1) := by decide +kernel
theorem dX12_bars_173 : decode cX12_bars 173 = .ok (.ior, 1) := by decide +kernel
theorem dX12_bars_174 : decode cX12_bars 174 = .ok (.istore 8, 2) := by decide +kernel
theorem dX12_bars_176 : decode cX12_bars 176 = .ok (.iload 7, 2) := by decide +kernel
theorem dX12_bars_178 : decode cX12_bars 178 = .ok (.ifCond .eq 14, 3) := by decide +kernel
theorem dX12_bars_181 : decode cX12_bars 181 = .ok (.aload_n 0, 1) := by decide +kernel
theorem dX12_bars_182 : decode cX12_bars 182 = .ok (.iload_n 3, 1) := by decide +kernel
theorem dX12_bars_183 : decode cX12_bars 183 = .ok (.iload 8, 2) := by decide +kernel
theorem dX12_bars_185 : decode cX12_bars 185 = .ok (.iload_n 1, 1) := by decide +kernel
theorem dX12_bars_186 : decode cX12_bars 186 = .ok (.invokevirtual 221, 3) := by decide +kernel
theorem dX12_bars_189 : decode cX12_bars 189 = .ok (.goto 4, 3) := by decide +kernel
theorem dX12_bars_192 : decode cX12_bars 192 = .ok (.iload_n 3, 1) := by decide +kernel
theorem dX12_bars_193 : decode cX12_bars 193 = .ok (.istore_n 3, 1) := by decide +kernel
theorem dX12_bars_194 : decode cX12_bars 194 = .ok (.iinc 6 1, 3) := by decide +kernel
theorem dX12_bars_197 : decode cX12_bars 197 = .ok (.goto (-97), 3) := by decide +kernel
theorem dX12_bars_200 : decode cX12_bars 200 = .ok (.iinc 5 1, 3) := by decide +kernel
theorem dX12_bars_203 : decode cX12_bars 203 = .ok (.goto (-135), 3) := by decide +kernel
theorem dX12_bars_206 : decode cX12_bars 206 = .ok (.iinc 4 1, 3) := by decide +kernel
theorem dX12_bars_209 : decode cX12_bars 209 = .ok (.goto (-164), 3) := by decide +kernel
theorem dX12_bars_212 : decode cX12_bars 212 = .ok (.iload_n 3, 1) := by decide +kernel
theorem dX12_bars_213 : decode cX12_bars 213 = .ok (.bipush (-4), 2) := by decide +kernel
theorem dX12_bars_215 : decode cX12_bars 215 = .ok (.if_icmp .eq 5, 3) := by decide +kernel
theorem dX12_bars_218 : decode cX12_bars 218 = .ok (.iload_n 3, 1) := by decide +kernel
theorem dX12_bars_219 : decode cX12_bars 219 = .ok (.ireturn, 1) := by decide +kernel
theorem dX12_bars_220 : decode cX12_bars 220 = .ok (.iinc 2 1, 3) := by decide +kernel
theorem dX12_bars_223 : decode cX12_bars 223 = .ok (.goto (-189), 3) := by decide +kernel
theorem dX12_bars_226 : decode cX12_bars 226 = .ok (.bipush (-4), 2) := by decide +kernel
theorem dX12_bars_228 : decode cX12_bars 228 = .ok (.ireturn, 1) := by decide +kernel
theorem dX12_keep_0 : decode cX12_keep 0 = .ok (.iload_n 1, 1) := by decide +kernel
theorem dX12_keep_1 : decode cX12_keep 1 = .ok (.invokestatic 134, 3) := by decide +kernel
theorem dX12_keep_4 : decode cX12_keep 4 = .ok (.ifCond .eq 10, 3) := by decide +kernel
theorem dX12_keep_7 : decode cX12_keep 7 = .ok (.iload_n 2, 1) := by decide +kernel
theorem dX12_keep_8 : decode cX12_keep 8 = .ok (.invokestatic 134, 3) := by decide +kernel
theorem dX12_keep_11 : decode cX12_keep 11 = .ok (.ifCond .ne 5, 3) := by decide +kernel
theorem dX12_keep_14 : decode cX12_keep 14 = .ok (.iconst (-1), 1) := by decide +kernel
theorem dX12_keep_15 : decode cX12_keep 15 = .ok (.ireturn, 1) := by decide +kernel
theorem dX12_keep_16 : decode cX12_keep 16 = .ok (.aload_n 0, 1) := by decide +kernel
theorem dX12_keep_17 : decode cX12_keep 17 = .ok (.getfield 28, 3) := by decide +kernel
theorem dX12_keep_20 : decode cX12_keep 20 = .ok (.iload_n 1, 1) := by decide +kernel
theorem dX12_keep_21 : decode cX12_keep 21 = .ok (.iaload, 1) := by decide +kernel
theorem dX12_keep_22 : decode cX12_keep 22 = .ok (.ifCond .eq 12, 3) := by decide +kernel
theorem dX12_keep_25 : decode cX12_keep 25 = .ok (.aload_n 0, 1) := by decide +kernel
theorem dX12_keep_26 : decode cX12_keep 26 = .ok (.getfield 28, 3) := by decide +kernel
theorem dX12_keep_29 : decode cX12_keep 29 = .ok (.iload_n 2, 1) := by decide +kernel
theorem dX12_keep_30 : decode cX12_keep 30 = .ok (.iaload, 1) := by decide +kernel
theorem dX12_keep_31 : decode cX12_keep 31 = .ok (.ifCond .ne 6, 3) := by decide +kernel
theorem dX12_keep_34 : decode cX12_keep 34 = .ok (.bipush (-2), 2) := by decide +kernel
theorem dX12_keep_36 : decode cX12_keep 36 = .ok (.ireturn, 1) := by decide +kernel
theorem dX12_keep_37 : decode cX12_keep 37 = .ok (.aload_n 0, 1) := by decide +kernel
theorem dX12_keep_38 : decode cX12_keep 38 = .ok (.getfield 117, 3) := by decide +kernel
theorem dX12_keep_41 : decode cX12_keep 41 = .ok (.bipush 12, 2) := by decide +kernel
theorem dX12_keep_43 : decode cX12_keep 43 = .ok (.if_icmp .ne 6, 3) := by decide +kernel
theorem dX12_keep_46 : decode cX12_keep 46 = .ok (.bipush (-3), 2) := by decide +kernel
theorem dX12_keep_48 : decode cX12_keep 48 = .ok (.ireturn, 1) := by decide +kernel
theorem dX12_keep_49 : decode cX12_keep 49 = .ok (.aload_n 0, 1) := by decide +kernel
theorem dX12_keep_50 : decode cX12_keep 50 = .ok (.getfield 37, 3) := by decide +kernel
theorem dX12_keep_53 : decode cX12_keep 53 = .ok (.iconst 2, 1) := by decide +kernel
theorem dX12_keep_54 : decode cX12_keep 54 = .ok (.aload_n 0, 1) := by decide +kernel
theorem dX12_keep_55 : decode cX12_keep 55 = .ok (.getfield 117, 3) := by decide +kernel
theorem dX12_keep_58 : decode cX12_keep 58 = .ok (.imul, 1) := by decide +kernel
theorem dX12_keep_59 : decode cX12_keep 59 = .ok (.aload_n 0, 1) := by decide +kernel
theorem dX12_keep_60 : decode cX12_keep 60 = .ok (.getfield 28, 3) := by decide +kernel
theorem dX12_keep_63 : decode cX12_keep 63 = .ok (.iload_n 1, 1) := by decide +kernel
theorem dX12_keep_64 : decode cX12_keep 64 = .ok (.iaload, 1) := by decide +kernel
theorem dX12_keep_65 : decode cX12_keep 65 = .ok (.iastore, 1) := by decide +kernel
theorem dX12_keep_66 : decode cX12_keep 66 = .ok (.aload_n 0, 1) := by decide +kernel
theorem dX12_keep_67 : decode cX12_keep 67 = .ok (.getfield 37, 3) := by decide +kernel
theorem dX12_keep_70 : decode cX12_keep 70 = .ok (.iconst 2, 1) := by decide +kernel
theorem dX12_keep_71 : decode cX12_keep 71 = .ok (.aload_n 0, 1) := by decide +kernel
theorem dX12_keep_72 : decode cX12_keep 72 = .ok (.getfield 117, 3) := by decide +kernel
theorem dX12_keep_75 : decode cX12_keep 75 = .ok (.imul, 1) := by decide +kernel
theorem dX12_keep_76 : decode cX12_keep 76 = .ok (.iconst 1, 1) := by decide +kernel
theorem dX12_keep_77 : decode cX12_keep 77 = .ok (.iadd, 1) := by decide +kernel
theorem dX12_keep_78 : decode cX12_keep 78 = .ok (.aload_n 0, 1) := by decide +kernel
theorem dX12_keep_79 : decode cX12_keep 79 = .ok (.getfield 28, 3) := by decide +kernel
theorem dX12_keep_82 : decode cX12_keep 82 = .ok (.iload_n 2, 1) := by decide +kernel
theorem dX12_keep_83 : decode cX12_keep 83 = .ok (.iaload, 1) := by decide +kernel
theorem dX12_keep_84 : decode cX12_keep 84 = .ok (.iastore, 1) := by decide +kernel
theorem dX12_keep_85 : decode cX12_keep 85 = .ok (.iconst 0, 1) := by decide +kernel
theorem dX12_keep_86 : decode cX12_keep 86 = .ok (.istore_n 3, 1) := by decide +kernel
theorem dX12_keep_87 : decode cX12_keep 87 = .ok (.iload_n 3, 1) := by decide +kernel
theorem dX12_keep_88 : decode cX12_keep 88 = .ok (.bipush 8, 2) := by decide +kernel
theorem dX12_keep_90 : decode cX12_keep 90 = .ok (.if_icmp .ge 62, 3) := by decide +kernel
theorem dX12_keep_93 : decode cX12_keep 93 = .ok (.aload_n 0, 1) := by decide +kernel
theorem dX12_keep_94 : decode cX12_keep 94 = .ok (.getfield 40, 3) := by decide +kernel
theorem dX12_keep_97 : decode cX12_keep 97 = .ok (.bipush 16, 2) := by decide +kernel
theorem dX12_keep_99 : decode cX12_keep 99 = .ok (.aload_n 0, 1) := by decide +kernel
theorem dX12_keep_100 : decode cX12_keep 100 = .ok (.getfield 117, 3) := by decide +kernel
theorem dX12_keep_103 : decode cX12_keep 103 = .ok (.imul, 1) := by decide +kernel
theorem dX12_keep_104 : decode cX12_keep 104 = .ok (.iload_n 3, 1) := by decide +kernel
theorem dX12_keep_105 : decode cX12_keep 105 = .ok (.iadd, 1) := by decide +kernel
theorem dX12_keep_106 : decode cX12_keep 106 = .ok (.aload_n 0, 1) := by decide +kernel
theorem dX12_keep_107 : decode cX12_keep 107 = .ok (.getfield 31, 3) := by decide +kernel
theorem dX12_keep_110 : decode cX12_keep 110 = .ok (.bipush 10, 2) := by decide +kernel
theorem dX12_keep_112 : decode cX12_keep 112 = .ok (.iload_n 1, 1) := by decide +kernel
theorem dX12_keep_113 : decode cX12_keep 113 = .ok (.imul, 1) := by decide +kernel
theorem dX12_keep_114 : decode cX12_keep 114 = .ok (.iload_n 3, 1) := by decide +kernel
theorem dX12_keep_115 : decode cX12_keep 115 = .ok (.iadd, 1) := by decide +kernel
theorem dX12_keep_116 : decode cX12_keep 116 = .ok (.iaload, 1) := by decide +kernel
theorem dX12_keep_117 : decode cX12_keep 117 = .ok (.iastore, 1) := by decide +kernel
theorem dX12_keep_118 : decode cX12_keep 118 = .ok (.aload_n 0, 1) := by decide +kernel
theorem dX12_keep_119 : decode cX12_keep 119 = .ok (.getfield 40, 3) := by decide +kernel
theorem dX12_keep_122 : decode cX12_keep 122 = .ok (.bipush 16, 2) := by decide +kernel
theorem dX12_keep_124 : decode cX12_keep 124 = .ok (.aload_n 0, 1) := by decide +kernel
theorem dX12_keep_125 : decode cX12_keep 125 = .ok (.getfield 117, 3) := by decide +kernel
theorem dX12_keep_128 : decode cX12_keep 128 = .ok (.imul, 1) := by decide +kernel
theorem dX12_keep_129 : decode cX12_keep 129 = .ok (.bipush 8, 2) := by decide +kernel
theorem dX12_keep_131 : decode cX12_keep 131 = .ok (.iadd, 1) := by decide +kernel
theorem dX12_keep_132 : decode cX12_keep 132 = .ok (.iload_n 3, 1) := by decide +kernel
theorem dX12_keep_133 : decode cX12_keep 133 = .ok (.iadd, 1) := by decide +kernel
theorem dX12_keep_134 : decode cX12_keep 134 = .ok (.aload_n 0, 1) := by decide +kernel
theorem dX12_keep_135 : decode cX12_keep 135 = .ok (.getfield 31, 3) := by decide +kernel
theorem dX12_keep_138 : decode cX12_keep 138 = .ok (.bipush 10, 2) := by decide +kernel
theorem dX12_keep_140 : decode cX12_keep 140 = .ok (.iload_n 2, 1) := by decide +kernel
theorem dX12_keep_141 : decode cX12_keep 141 = .ok (.imul, 1) := by decide +kernel
theorem dX12_keep_142 : decode cX12_keep 142 = .ok (.iload_n 3, 1) := by decide +kernel
theorem dX12_keep_143 : decode cX12_keep 143 = .ok (.iadd, 1) := by decide +kernel
theorem dX12_keep_144 : decode cX12_keep 144 = .ok (.iaload, 1) := by decide +kernel
theorem dX12_keep_145 : decode cX12_keep 145 = .ok (.iastore, 1) := by decide +kernel
theorem dX12_keep_146 : decode cX12_keep 146 = .ok (.iinc 3 1, 3) := by decide +kernel
theorem dX12_keep_149 : decode cX12_keep 149 = .ok (.goto (-62), 3) := by decide +kernel
theorem dX12_keep_152 : decode cX12_keep 152 = .ok (.aload_n 0, 1) := by decide +kernel
theorem dX12_keep_153 : decode cX12_keep 153 = .ok (.dup, 1) := by decide +kernel
theorem dX12_keep_154 : decode cX12_keep 154 = .ok (.getfield 117, 3) := by decide +kernel
theorem dX12_keep_157 : decode cX12_keep 157 = .ok (.iconst 1, 1) := by decide +kernel
theorem dX12_keep_158 : decode cX12_keep 158 = .ok (.iadd, 1) := by decide +kernel
theorem dX12_keep_159 : decode cX12_keep 159 = .ok (.putfield 117, 3) := by decide +kernel
theorem dX12_keep_162 : decode cX12_keep 162 = .ok (.aload_n 0, 1) := by decide +kernel
theorem dX12_keep_163 : decode cX12_keep 163 = .ok (.getfield 117, 3) := by decide +kernel
theorem dX12_keep_166 : decode cX12_keep 166 = .ok (.iconst 1, 1) := by decide +kernel
theorem dX12_keep_167 : decode cX12_keep 167 = .ok (.isub, 1) := by decide +kernel
theorem dX12_keep_168 : decode cX12_keep 168 = .ok (.ireturn, 1) := by decide +kernel
theorem dX12_look_0 : decode cX12_look 0 = .ok (.aload_n 0, 1) := by decide +kernel
theorem dX12_look_1 : decode cX12_look 1 = .ok (.getfield 28, 3) := by decide +kernel
theorem dX12_look_4 : decode cX12_look 4 = .ok (.bipush 8, 2) := by decide +kernel
theorem dX12_look_6 : decode cX12_look 6 = .ok (.aload_n 0, 1) := by decide +kernel
theorem dX12_look_7 : decode cX12_look 7 = .ok (.getfield 37, 3) := by decide +kernel
theorem dX12_look_10 : decode cX12_look 10 = .ok (.iconst 2, 1) := by decide +kernel
theorem dX12_look_11 : decode cX12_look 11 = .ok (.iload_n 1, 1) := by decide +kernel
theorem dX12_look_12 : decode cX12_look 12 = .ok (.imul, 1) := by decide +kernel
theorem dX12_look_13 : decode cX12_look 13 = .ok (.iaload, 1) := by decide +kernel
theorem dX12_look_14 : decode cX12_look 14 = .ok (.iastore, 1) := by decide +kernel
theorem dX12_look_15 : decode cX12_look 15 = .ok (.aload_n 0, 1) := by decide +kernel
theorem dX12_look_16 : decode cX12_look 16 = .ok (.getfield 34, 3) := by decide +kernel
theorem dX12_look_19 : decode cX12_look 19 = .ok (.bipush 8, 2) := by decide +kernel
theorem dX12_look_21 : decode cX12_look 21 = .ok (.iconst 0, 1) := by decide +kernel
theorem dX12_look_22 : decode cX12_look 22 = .ok (.iastore, 1) := by decide +kernel
theorem dX12_look_23 : decode cX12_look 23 = .ok (.iconst 0, 1) := by decide +kernel
theorem dX12_look_24 : decode cX12_look 24 = .ok (.istore_n 2, 1) := by decide +kernel
theorem dX12_look_25 : decode cX12_look 25 = .ok (.iload_n 2, 1) := by decide +kernel
theorem dX12_look_26 : decode cX12_look 26 = .ok (.bipush 8, 2) := by decide +kernel
theorem dX12_look_28 : decode cX12_look 28 = .ok (.if_icmp .ge 29, 3) := by decide +kernel
theorem dX12_look_31 : decode cX12_look 31 = .ok (.aload_n 0, 1) := by decide +kernel
theorem dX12_look_32 : decode cX12_look 32 = .ok (.getfield 31, 3) := by decide +kernel
theorem dX12_look_35 : decode cX12_look 35 = .ok (.bipush 80, 2) := by decide +kernel
theorem dX12_look_37 : decode cX12_look 37 = .ok (.iload_n 2, 1) := by decide +kernel
theorem dX12_look_38 : decode cX12_look 38 = .ok (.iadd, 1) := by decide +kernel
theorem dX12_look_39 : decode cX12_look 39 = .ok (.aload_n 0, 1) := by decide +kernel
theorem dX12_look_40 : decode cX12_look 40 = .ok (.getfield 40, 3) := by decide +kernel
theorem dX12_look_43 : decode cX12_look 43 = .ok (.bipush 16, 2) := by decide +kernel
theorem dX12_look_45 : decode cX12_look 45 = .ok (.iload_n 1, 1) := by decide +kernel
theorem dX12_look_46 : decode cX12_look 46 = .ok (.imul, 1) := by decide +kernel
theorem dX12_look_47 : decode cX12_look 47 = .ok (.iload_n 2, 1) := by decide +kernel
theorem dX12_look_48 : decode cX12_look 48 = .ok (.iadd, 1) := by decide +kernel
theorem dX12_look_49 : decode cX12_look 49 = .ok (.iaload, 1) := by decide +kernel
theorem dX12_look_50 : decode cX12_look 50 = .ok (.iastore, 1) := by decide +kernel
theorem dX12_look_51 : decode cX12_look 51 = .ok (.iinc 2 1, 3) := by decide +kernel
theorem dX12_look_54 : decode cX12_look 54 = .ok (.goto (-29), 3) := by decide +kernel
theorem dX12_look_57 : decode cX12_look 57 = .ok (.return_, 1) := by decide +kernel
theorem dX12_isRight_0 : decode cX12_isRight 0 = .ok (.aload_n 0, 1) := by decide +kernel
theorem dX12_isRight_1 : decode cX12_isRight 1 = .ok (.getfield 37, 3) := by decide +kernel
theorem dX12_isRight_4 : decode cX12_isRight 4 = .ok (.iconst 2, 1) := by decide +kernel
theorem dX12_isRight_5 : decode cX12_isRight 5 = .ok (.iload_n 1, 1) := by decide +kernel
theorem dX12_isRight_6 : decode cX12_isRight 6 = .ok (.imul, 1) := by decide +kernel
theorem dX12_isRight_7 : decode cX12_isRight 7 = .ok (.iaload, 1) := by decide +kernel
theorem dX12_isRight_8 : decode cX12_isRight 8 = .ok (.aload_n 0, 1) := by decide +kernel
theorem dX12_isRight_9 : decode cX12_isRight 9 = .ok (.getfield 37, 3) := by decide +kernel
theorem dX12_isRight_12 : decode cX12_isRight 12 = .ok (.iconst 2, 1) := by decide +kernel
theorem dX12_isRight_13 : decode cX12_isRight 13 = .ok (.iload_n 1, 1) := by decide +kernel
theorem dX12_isRight_14 : decode cX12_isRight 14 = .ok (.imul, 1) := by decide +kernel
theorem dX12_isRight_15 : decode cX12_isRight 15 = .ok (.iconst 1, 1) := by decide +kernel
theorem dX12_isRight_16 : decode cX12_isRight 16 = .ok (.iadd, 1) := by decide +kernel
theorem dX12_isRight_17 : decode cX12_isRight 17 = .ok (.iaload, 1) := by decide +kernel
theorem dX12_isRight_18 : decode cX12_isRight 18 = .ok (.if_icmp .ne 7, 3) := by decide +kernel
theorem dX12_isRight_21 : decode cX12_isRight 21 = .ok (.iconst 1, 1) := by decide +kernel
theorem dX12_isRight_22 : decode cX12_isRight 22 = .ok (.goto 4, 3) := by decide +kernel
theorem dX12_isRight_25 : decode cX12_isRight 25 = .ok (.iconst 0, 1) := by decide +kernel
theorem dX12_isRight_26 : decode cX12_isRight 26 = .ok (.istore_n 2, 1) := by decide +kernel
theorem dX12_isRight_27 : decode cX12_isRight 27 = .ok (.iconst 0, 1) := by decide +kernel
theorem dX12_isRight_28 : decode cX12_isRight 28 = .ok (.istore_n 3, 1) := by decide +kernel
theorem dX12_isRight_29 : decode cX12_isRight 29 = .ok (.iload_n 3, 1) := by decide +kernel
theorem dX12_isRight_30 : decode cX12_isRight 30 = .ok (.aload_n 0, 1) := by decide +kernel
theorem dX12_isRight_31 : decode cX12_isRight 31 = .ok (.getfield 37, 3) := by decide +kernel
theorem dX12_isRight_34 : decode cX12_isRight 34 = .ok (.iconst 2, 1) := by decide +kernel
theorem dX12_isRight_35 : decode cX12_isRight 35 = .ok (.iload_n 1, 1) := by decide +kernel
theorem dX12_isRight_36 : decode cX12_isRight 36 = .ok (.imul, 1) := by decide +kernel
theorem dX12_isRight_37 : decode cX12_isRight 37 = .ok (.iaload, 1) := by decide +kernel
theorem dX12_isRight_38 : decode cX12_isRight 38 = .ok (.if_icmp .ge 47, 3) := by decide +kernel
theorem dX12_isRight_41 : decode cX12_isRight 41 = .ok (.iload_n 2, 1) := by decide +kernel
theorem dX12_isRight_42 : decode cX12_isRight 42 = .ok (.ifCond .eq 43, 3) := by decide +kernel
theorem dX12_isRight_45 : decode cX12_isRight 45 = .ok (.aload_n 0, 1) := by decide +kernel
theorem dX12_isRight_46 : decode cX12_isRight 46 = .ok (.getfield 40, 3) := by decide +kernel
theorem dX12_isRight_49 : decode cX12_isRight 49 = .ok (.bipush 16, 2) := by decide +kernel
theorem dX12_isRight_51 : decode cX12_isRight 51 = .ok (.iload_n 1, 1) := by decide +kernel
theorem dX12_isRight_52 : decode cX12_isRight 52 = .ok (.imul, 1) := by decide +kernel
theorem dX12_isRight_53 : decode cX12_isRight 53 = .ok (.iload_n 3, 1) := by decide +kernel
theorem dX12_isRight_54 : decode cX12_isRight 54 = .ok (.iadd, 1) := by decide +kernel
theorem dX12_isRight_55 : decode cX12_isRight 55 = .ok (.iaload, 1) := by decide +kernel
theorem dX12_isRight_56 : decode cX12_isRight 56 = .ok (.aload_n 0, 1) := by decide +kernel
theorem dX12_isRight_57 : decode cX12_isRight 57 = .ok (.getfield 40, 3) := by decide +kernel
theorem dX12_isRight_60 : decode cX12_isRight 60 = .ok (.bipush 16, 2) := by decide +kernel
theorem dX12_isRight_62 : decode cX12_isRight 62 = .ok (.iload_n 1, 1) := by decide +kernel
theorem dX12_isRight_63 : decode cX12_isRight 63 = .ok (.imul, 1) := by decide +kernel
theorem dX12_isRight_64 : decode cX12_isRight 64 = .ok (.bipush 8, 2) := by decide +kernel
theorem dX12_isRight_66 : decode cX12_isRight 66 = .ok (.iadd, 1) := by decide +kernel
theorem dX12_isRight_67 : decode cX12_isRight 67 = .ok (.iload_n 3, 1) := by decide +kernel
theorem dX12_isRight_68 : decode cX12_isRight 68 = .ok (.iadd, 1) := by decide +kernel
theorem dX12_isRight_69 : decode cX12_isRight 69 = .ok (.iaload, 1) := by decide +kernel
theorem dX12_isRight_70 : decode cX12_isRight 70 = .ok (.if_icmp .ne 7, 3) := by decide +kernel
theorem dX12_isRight_73 : decode cX12_isRight 73 = .ok (.iconst 1, 1) := by decide +kernel
theorem dX12_isRight_74 : decode cX12_isRight 74 = .ok (.goto 4, 3) := by decide +kernel
theorem dX12_isRight_77 : decode cX12_isRight 77 = .ok (.iconst 0, 1) := by decide +kernel
theorem dX12_isRight_78 : decode cX12_isRight 78 = .ok (.istore_n 2, 1) := by decide +kernel
theorem dX12_isRight_79 : decode cX12_isRight 79 = .ok (.iinc 3 1, 3) := by decide +kernel
theorem dX12_isRight_82 : decode cX12_isRight 82 = .ok (.goto (-53), 3) := by decide +kernel
theorem dX12_isRight_85 : decode cX12_isRight 85 = .ok (.iload_n 2, 1) := by decide +kernel
theorem dX12_isRight_86 : decode cX12_isRight 86 = .ok (.ireturn, 1) := by decide +kernel
theorem dX12_placeOf_0 : decode cX12_placeOf 0 = .ok (.iconst 0, 1) := by decide +kernel
theorem dX12_placeOf_1 : decode cX12_placeOf 1 = .ok (.istore_n 2, 1) := by decide +kernel
theorem dX12_placeOf_2 : decode cX12_placeOf 2 = .ok (.iload_n 2, 1) := by decide +kernel
theorem dX12_placeOf_3 : decode cX12_placeOf 3 = .ok (.aload_n 0, 1) := by decide +kernel
theorem dX12_placeOf_4 : decode cX12_placeOf 4 = .ok (.getfield 188, 3) := by decide +kernel
theorem dX12_placeOf_7 : decode cX12_placeOf 7 = .ok (.if_icmp .ge 100, 3) := by decide +kernel
theorem dX12_placeOf_10 : decode cX12_placeOf 10 = .ok (.aload_n 0, 1) := by decide +kernel
theorem dX12_placeOf_11 : decode cX12_placeOf 11 = .ok (.getfield 65, 3) := by decide +kernel
theorem dX12_placeOf_14 : decode cX12_placeOf 14 = .ok (.iload_n 2, 1) := by decide +kernel
theorem dX12_placeOf_15 : decode cX12_placeOf 15 = .ok (.iaload, 1) := by decide +kernel
theorem dX12_placeOf_16 : decode cX12_placeOf 16 = .ok (.aload_n 0, 1) := by decide +kernel
theorem dX12_placeOf_17 : decode cX12_placeOf 17 = .ok (.getfield 37, 3) := by decide +kernel
theorem dX12_placeOf_20 : decode cX12_placeOf 20 = .ok (.iconst 2, 1) := by decide +kernel
theorem dX12_placeOf_21 : decode cX12_placeOf 21 = .ok (.iload_n 1, 1) := by decide +kernel
theorem dX12_placeOf_22 : decode cX12_placeOf 22 = .ok (.imul, 1) := by decide +kernel
theorem dX12_placeOf_23 : decode cX12_placeOf 23 = .ok (.iconst 1, 1) := by decide +kernel
theorem dX12_placeOf_24 : decode cX12_placeOf 24 = .ok (.iadd, 1) := by decide +kernel
theorem dX12_placeOf_25 : decode cX12_placeOf 25 = .ok (.iaload, 1) := by decide +kernel
theorem dX12_placeOf_26 : decode cX12_placeOf 26 = .ok (.if_icmp .ne 7, 3) := by decide +kernel
theorem dX12_placeOf_29 : decode cX12_placeOf 29 = .ok (.iconst 1, 1) := by decide +kernel
theorem dX12_placeOf_30 : decode cX12_placeOf 30 = .ok (.goto 4, 3) := by decide +kernel
theorem dX12_placeOf_33 : decode cX12_placeOf 33 = .ok (.iconst 0, 1) := by decide +kernel
theorem dX12_placeOf_34 : decode cX12_placeOf 34 = .ok (.istore_n 3, 1) := by decide +kernel
theorem dX12_placeOf_35 : decode cX12_placeOf 35 = .ok (.iconst 0, 1) := by decide +kernel
theorem dX12_placeOf_36 : decode cX12_placeOf 36 = .ok (.istore 4, 2) := by decide +kernel
theorem dX12_placeOf_38 : decode cX12_placeOf 38 = .ok (.iload 4, 2) := by decide +kernel
theorem dX12_placeOf_40 : decode cX12_placeOf 40 = .ok (.aload_n 0, 1) := by decide +kernel
theorem dX12_placeOf_41 : decode cX12_placeOf 41 = .ok (.getfield 65, 3) := by decide +kernel
theorem dX12_placeOf_44 : decode cX12_placeOf 44 = .ok (.iload_n 2, 1) := by decide +kernel
theorem dX12_placeOf_45 : decode cX12_placeOf 45 = .ok (.iaload, 1) := by decide +kernel
theorem dX12_placeOf_46 : decode cX12_placeOf 46 = .ok (.if_icmp .ge 49, 3) := by decide +kernel
theorem dX12_placeOf_49 : decode cX12_placeOf 49 = .ok (.iload_n 3, 1) := by decide +kernel
theorem dX12_placeOf_50 : decode cX12_placeOf 50 = .ok (.ifCond .eq 45, 3) := by decide +kernel
theorem dX12_placeOf_53 : decode cX12_placeOf 53 = .ok (.aload_n 0, 1) := by decide +kernel
theorem dX12_placeOf_54 : decode cX12_placeOf 54 = .ok (.getfield 68, 3) := by decide +kernel
theorem dX12_placeOf_57 : decode cX12_placeOf 57 = .ok (.bipush 8, 2) := by decide +kernel
theorem dX12_placeOf_59 : decode cX12_placeOf 59 = .ok (.iload_n 2, 1) := by decide +kernel
theorem dX12_placeOf_60 : decode cX12_placeOf 60 = .ok (.imul, 1) := by decide +kernel
theorem dX12_placeOf_61 : decode cX12_placeOf 61 = .ok (.iload 4, 2) := by decide +kernel
theorem dX12_placeOf_63 : decode cX12_placeOf 63 = .ok (.iadd, 1) := by decide +kernel
theorem dX12_placeOf_64 : decode cX12_placeOf 64 = .ok (.iaload, 1) := by decide +kernel
theorem dX12_placeOf_65 : decode cX12_placeOf 65 = .ok (.aload_n 0, 1) := by decide +kernel
theorem dX12_placeOf_66 : decode cX12_placeOf 66 = .ok (.getfield 40, 3) := by decide +kernel
theorem dX12_placeOf_69 : decode cX12_placeOf 69 = .ok (.bipush 16, 2) := by decide +kernel
theorem dX12_placeOf_71 : decode cX12_placeOf 71 = .ok (.iload_n 1, 1) := by decide +kernel
theorem dX12_placeOf_72 : decode cX12_placeOf 72 = .ok (.imul, 1) := by decide +kernel
theorem dX12_placeOf_73 : decode cX12_placeOf 73 = .ok (.bipush 8, 2) := by decide +kernel
theorem dX12_placeOf_75 : decode cX12_placeOf 75 = .ok (.iadd, 1) := by decide +kernel
theorem dX12_placeOf_76 : decode cX12_placeOf 76 = .ok (.iload 4, 2) := by decide +kernel
theorem dX12_placeOf_78 : decode cX12_placeOf 78 = .ok (.iadd, 1) := by decide +kernel
theorem dX12_placeOf_79 : decode cX12_placeOf 79 = .ok (.iaload, 1) := by decide +kernel
theorem dX12_placeOf_80 : decode cX12_placeOf 80 = .ok (.if_icmp .ne 7, 3) := by decide +kernel
theorem dX12_placeOf_83 : decode cX12_placeOf 83 = .ok (.iconst 1, 1) := by decide +kernel
theorem dX12_placeOf_84 : decode cX12_placeOf 84 = .ok (.goto 4, 3) := by decide +kernel
theorem dX12_placeOf_87 : decode cX12_placeOf 87 = .ok (.iconst 0, 1) := by decide +kernel
theorem dX12_placeOf_88 : decode cX12_placeOf 88 = .ok (.istore_n 3, 1) := by decide +kernel
theorem dX12_placeOf_89 : decode cX12_placeOf 89 = .ok (.iinc 4 1, 3) := by decide +kernel
theorem dX12_placeOf_92 : decode cX12_placeOf 92 = .ok (.goto (-54), 3) := by decide +kernel
theorem dX12_placeOf_95 : decode cX12_placeOf 95 = .ok (.iload_n 3, 1) := by decide +kernel
theorem dX12_placeOf_96 : decode cX12_placeOf 96 = .ok (.ifCond .eq 5, 3) := by decide +kernel
theorem dX12_placeOf_99 : decode cX12_placeOf 99 = .ok (.iload_n 2, 1) := by decide +kernel
theorem dX12_placeOf_100 : decode cX12_placeOf 100 = .ok (.ireturn, 1) := by decide +kernel
theorem dX12_placeOf_101 : decode cX12_placeOf 101 = .ok (.iinc 2 1, 3) := by decide +kernel
theorem dX12_placeOf_104 : decode cX12_placeOf 104 = .ok (.goto (-102), 3) := by decide +kernel
theorem dX12_placeOf_107 : decode cX12_placeOf 107 = .ok (.bipush (-4), 2) := by decide +kernel
theorem dX12_placeOf_109 : decode cX12_placeOf 109 = .ok (.ireturn, 1) := by decide +kernel
theorem dX12_kept_0 : decode cX12_kept 0 = .ok (.iload_n 1, 1) := by decide +kernel
theorem dX12_kept_1 : decode cX12_kept 1 = .ok (.i2l, 1) := by decide +kernel
theorem dX12_kept_2 : decode cX12_kept 2 = .ok (.lconst 0, 1) := by decide +kernel
theorem dX12_kept_3 : decode cX12_kept 3 = .ok (.ldc2_w 97, 3) := by decide +kernel
theorem dX12_kept_6 : decode cX12_kept 6 = .ok (.invokestatic 80, 3) := by decide +kernel
theorem dX12_kept_9 : decode cX12_kept 9 = .ok (.ifCond .ne 5, 3) := by decide +kernel
theorem dX12_kept_12 : decode cX12_kept 12 = .ok (.iconst (-1), 1) := by decide +kernel
theorem dX12_kept_13 : decode cX12_kept 13 = .ok (.ireturn, 1) := by decide +kernel
theorem dX12_kept_14 : decode cX12_kept 14 = .ok (.iconst 0, 1) := by decide +kernel
theorem dX12_kept_15 : decode cX12_kept 15 = .ok (.istore_n 2, 1) := by decide +kernel
theorem dX12_kept_16 : decode cX12_kept 16 = .ok (.iconst 0, 1) := by decide +kernel
theorem dX12_kept_17 : decode cX12_kept 17 = .ok (.istore_n 3, 1) := by decide +kernel
theorem dX12_kept_18 : decode cX12_kept 18 = .ok (.iload_n 3, 1) := by decide +kernel
theorem dX12_kept_19 : decode cX12_kept 19 = .ok (.aload_n 0, 1) := by decide +kernel
theorem dX12_kept_20 : decode cX12_kept 20 = .ok (.getfield 117, 3) := by decide +kernel
theorem dX12_kept_23 : decode cX12_kept 23 = .ok (.if_icmp .ge 85, 3) := by decide +kernel
theorem dX12_kept_26 : decode cX12_kept 26 = .ok (.aload_n 0, 1) := by decide +kernel
theorem dX12_kept_27 : decode cX12_kept 27 = .ok (.iload_n 3, 1) := by decide +kernel
theorem dX12_kept_28 : decode cX12_kept 28 = .ok (.invokevirtual 224, 3) := by decide +kernel
theorem dX12_kept_31 : decode cX12_kept 31 = .ok (.aload_n 0, 1) := by decide +kernel
theorem dX12_kept_32 : decode cX12_kept 32 = .ok (.bipush 8, 2) := by decide +kernel
theorem dX12_kept_34 : decode cX12_kept 34 = .ok (.iconst 0, 1) := by decide +kernel
theorem dX12_kept_35 : decode cX12_kept 35 = .ok (.invokevirtual 185, 3) := by decide +kernel
theorem dX12_kept_38 : decode cX12_kept 38 = .ok (.ifCond .ne 64, 3) := by decide +kernel
theorem dX12_kept_41 : decode cX12_kept 41 = .ok (.aload_n 0, 1) := by decide +kernel
theorem dX12_kept_42 : decode cX12_kept 42 = .ok (.iload_n 3, 1) := by decide +kernel
theorem dX12_kept_43 : decode cX12_kept 43 = .ok (.invokevirtual 227, 3) := by decide +kernel
theorem dX12_kept_46 : decode cX12_kept 46 = .ok (.ifCond .eq 19, 3) := by decide +kernel
theorem dX12_kept_49 : decode cX12_kept 49 = .ok (.iload_n 2, 1) := by decide +kernel
theorem dX12_kept_50 : decode cX12_kept 50 = .ok (.iload_n 1, 1) := by decide +kernel
theorem dX12_kept_51 : decode cX12_kept 51 = .ok (.iconst 2, 1) := by decide +kernel
theorem dX12_kept_52 : decode cX12_kept 52 = .ok (.if_icmp .ne 7, 3) := by decide +kernel
theorem dX12_kept_55 : decode cX12_kept 55 = .ok (.iconst 1, 1) := by decide +kernel
theorem dX12_kept_56 : decode cX12_kept 56 = .ok (.goto 4, 3) := by decide +kernel
theorem dX12_kept_59 : decode cX12_kept 59 = .ok (.iconst 0, 1) := by decide +kernel
theorem dX12_kept_60 : decode cX12_kept 60 = .ok (.iadd, 1) := by decide +kernel
theorem dX12_kept_61 : decode cX12_kept 61 = .ok (.istore_n 2, 1) := by decide +kernel
theorem dX12_kept_62 : decode cX12_kept 62 = .ok (.goto 40, 3) := by decide +kernel
theorem dX12_kept_65 : decode cX12_kept 65 = .ok (.iload_n 1, 1) := by decide +kernel
theorem dX12_kept_66 : decode cX12_kept 66 = .ok (.iconst 1, 1) := by decide +kernel
theorem dX12_kept_67 : decode cX12_kept 67 = .ok (.if_icmp .ne 9, 3) := by decide +kernel
theorem dX12_kept_70 : decode cX12_kept 70 = .ok (.iinc 2 1, 3) := by decide +kernel
theorem dX12_kept_73 : decode cX12_kept 73 = .ok (.goto 29, 3) := by decide +kernel
theorem dX12_kept_76 : decode cX12_kept 76 = .ok (.iload_n 1, 1) := by decide +kernel
theorem dX12_kept_77 : decode cX12_kept 77 = .ok (.ifCond .ne 25, 3) := by decide +kernel
theorem dX12_kept_80 : decode cX12_kept 80 = .ok (.aload_n 0, 1) := by decide +kernel
theorem dX12_kept_81 : decode cX12_kept 81 = .ok (.bipush 8, 2) := by decide +kernel
theorem dX12_kept_83 : decode cX12_kept 83 = .ok (.invokevirtual 201, 3) := by decide +kernel
theorem dX12_kept_86 : decode cX12_kept 86 = .ok (.iload_n 2, 1) := by decide +kernel
theorem dX12_kept_87 : decode cX12_kept 87 = .ok (.aload_n 0, 1) := by decide +kernel
theorem dX12_kept_88 : decode cX12_kept 88 = .ok (.iload_n 3, 1) := by decide +kernel
theorem dX12_kept_89 : decode cX12_kept 89 = .ok (.invokevirtual 230, 3) := by decide +kernel
theorem dX12_kept_92 : decode cX12_kept 92 = .ok (.ifCond .ne 7, 3) := by decide +kernel
theorem dX12_kept_95 : decode cX12_kept 95 = .ok (.iconst 1, 1) := by decide +kernel
theorem dX12_kept_96 : decode cX12_kept 96 = .ok (.goto 4, 3) := by decide +kernel
theorem dX12_kept_99 : decode cX12_kept 99 = .ok (.iconst 0, 1) := by decide +kernel
theorem dX12_kept_100 : decode cX12_kept 100 = .ok (.iadd, 1) := by decide +kernel
theorem dX12_kept_101 : decode cX12_kept 101 = .ok (.istore_n 2, 1) := by decide +kernel
theorem dX12_kept_102 : decode cX12_kept 102 = .ok (.iinc 3 1, 3) := by decide +kernel
theorem dX12_kept_105 : decode cX12_kept 105 = .ok (.goto (-87), 3) := by decide +kernel
theorem dX12_kept_108 : decode cX12_kept 108 = .ok (.iload_n 2, 1) := by decide +kernel
theorem dX12_kept_109 : decode cX12_kept 109 = .ok (.ireturn, 1) := by decide +kernel
theorem dX12_byRule_0 : decode cX12_byRule 0 = .ok (.iload_n 1, 1) := by decide +kernel
theorem dX12_byRule_1 : decode cX12_byRule 1 = .ok (.i2l, 1) := by decide +kernel
theorem dX12_byRule_2 : decode cX12_byRule 2 = .ok (.lconst 0, 1) := by decide +kernel
theorem dX12_byRule_3 : decode cX12_byRule 3 = .ok (.aload_n 0, 1) := by decide +kernel
theorem dX12_byRule_4 : decode cX12_byRule 4 = .ok (.getfield 19, 3) := by decide +kernel
theorem dX12_byRule_7 : decode cX12_byRule 7 = .ok (.iconst 0, 1) := by decide +kernel
theorem dX12_byRule_8 : decode cX12_byRule 8 = .ok (.iaload, 1) := by decide +kernel
theorem dX12_byRule_9 : decode cX12_byRule 9 = .ok (.iconst 1, 1) := by decide +kernel
theorem dX12_byRule_10 : decode cX12_byRule 10 = .ok (.isub, 1) := by decide +kernel
theorem dX12_byRule_11 : decode cX12_byRule 11 = .ok (.i2l, 1) := by decide +kernel
theorem dX12_byRule_12 : decode cX12_byRule 12 = .ok (.invokestatic 80, 3) := by decide +kernel
theorem dX12_byRule_15 : decode cX12_byRule 15 = .ok (.ifCond .ne 5, 3) := by decide +kernel
theorem dX12_byRule_18 : decode cX12_byRule 18 = .ok (.iconst (-1), 1) := by decide +kernel
theorem dX12_byRule_19 : decode cX12_byRule 19 = .ok (.ireturn, 1) := by decide +kernel
theorem dX12_byRule_20 : decode cX12_byRule 20 = .ok (.iconst 0, 1) := by decide +kernel
theorem dX12_byRule_21 : decode cX12_byRule 21 = .ok (.istore_n 2, 1) := by decide +kernel
theorem dX12_byRule_22 : decode cX12_byRule 22 = .ok (.iconst 0, 1) := by decide +kernel
theorem dX12_byRule_23 : decode cX12_byRule 23 = .ok (.istore_n 3, 1) := by decide +kernel
theorem dX12_byRule_24 : decode cX12_byRule 24 = .ok (.iload_n 3, 1) := by decide +kernel
theorem dX12_byRule_25 : decode cX12_byRule 25 = .ok (.aload_n 0, 1) := by decide +kernel
theorem dX12_byRule_26 : decode cX12_byRule 26 = .ok (.getfield 117, 3) := by decide +kernel
theorem dX12_byRule_29 : decode cX12_byRule 29 = .ok (.if_icmp .ge 52, 3) := by decide +kernel
theorem dX12_byRule_32 : decode cX12_byRule 32 = .ok (.aload_n 0, 1) := by decide +kernel
theorem dX12_byRule_33 : decode cX12_byRule 33 = .ok (.iload_n 3, 1) := by decide +kernel
theorem dX12_byRule_34 : decode cX12_byRule 34 = .ok (.invokevirtual 224, 3) := by decide +kernel
theorem dX12_byRule_37 : decode cX12_byRule 37 = .ok (.iload_n 2, 1) := by decide +kernel
theorem dX12_byRule_38 : decode cX12_byRule 38 = .ok (.aload_n 0, 1) := by decide +kernel
theorem dX12_byRule_39 : decode cX12_byRule 39 = .ok (.iload_n 3, 1) := by decide +kernel
theorem dX12_byRule_40 : decode cX12_byRule 40 = .ok (.invokevirtual 227, 3) := by decide +kernel
theorem dX12_byRule_43 : decode cX12_byRule 43 = .ok (.ifCond .eq 29, 3) := by decide +kernel
theorem dX12_byRule_46 : decode cX12_byRule 46 = .ok (.aload_n 0, 1) := by decide +kernel
theorem dX12_byRule_47 : decode cX12_byRule 47 = .ok (.bipush 8, 2) := by decide +kernel
theorem dX12_byRule_49 : decode cX12_byRule 49 = .ok (.iconst 0, 1) := by decide +kernel
theorem dX12_byRule_50 : decode cX12_byRule 50 = .ok (.invokevirtual 185, 3) := by decide +kernel
theorem dX12_byRule_53 : decode cX12_byRule 53 = .ok (.ifCond .ne 19, 3) := by decide +kernel
theorem dX12_byRule_56 : decode cX12_byRule 56 = .ok (.aload_n 0, 1) := by decide +kernel
theorem dX12_byRule_57 : decode cX12_byRule 57 = .ok (.bipush 8, 2) := by decide +kernel
theorem dX12_byRule_59 : decode cX12_byRule 59 = .ok (.iconst 1, 1) := by decide +kernel
theorem dX12_byRule_60 : decode cX12_byRule 60 = .ok (.iload_n 1, 1) := by decide +kernel
theorem dX12_byRule_61 : decode cX12_byRule 61 = .ok (.ishl, 1) := by decide +kernel
theorem dX12_byRule_62 : decode cX12_byRule 62 = .ok (.invokevirtual 185, 3) := by decide +kernel
theorem dX12_byRule_65 : decode cX12_byRule 65 = .ok (.ifCond .eq 7, 3) := by decide +kernel
theorem dX12_byRule_68 : decode cX12_byRule 68 = .ok (.iconst 1, 1) := by decide +kernel
theorem dX12_byRule_69 : decode cX12_byRule 69 = .ok (.goto 4, 3) := by decide +kernel
theorem dX12_byRule_72 : decode cX12_byRule 72 = .ok (.iconst 0, 1) := by decide +kernel
theorem dX12_byRule_73 : decode cX12_byRule 73 = .ok (.iadd, 1) := by decide +kernel
theorem dX12_byRule_74 : decode cX12_byRule 74 = .ok (.istore_n 2, 1) := by decide +kernel
theorem dX12_byRule_75 : decode cX12_byRule 75 = .ok (.iinc 3 1, 3) := by decide +kernel
theorem dX12_byRule_78 : decode cX12_byRule 78 = .ok (.goto (-54), 3) := by decide +kernel
theorem dX12_byRule_81 : decode cX12_byRule 81 = .ok (.iload_n 2, 1) := by decide +kernel
theorem dX12_byRule_82 : decode cX12_byRule 82 = .ok (.ireturn, 1) := by decide +kernel
theorem dX12_theirs_0 : decode cX12_theirs 0 = .ok (.iload_n 1, 1) := by decide +kernel
theorem dX12_theirs_1 : decode cX12_theirs 1 = .ok (.i2l, 1) := by decide +kernel
theorem dX12_theirs_2 : decode cX12_theirs 2 = .ok (.lconst 0, 1) := by decide +kernel
theorem dX12_theirs_3 : decode cX12_theirs 3 = .ok (.aload_n 0, 1) := by decide +kernel
theorem dX12_theirs_4 : decode cX12_theirs 4 = .ok (.getfield 117, 3) := by decide +kernel
theorem dX12_theirs_7 : decode cX12_theirs 7 = .ok (.iconst 1, 1) := by decide +kernel
theorem dX12_theirs_8 : decode cX12_theirs 8 = .ok (.isub, 1) := by decide +kernel
theorem dX12_theirs_9 : decode cX12_theirs 9 = .ok (.i2l, 1) := by decide +kernel
theorem dX12_theirs_10 : decode cX12_theirs 10 = .ok (.invokestatic 80, 3) := by decide +kernel
theorem dX12_theirs_13 : decode cX12_theirs 13 = .ok (.ifCond .ne 5, 3) := by decide +kernel
theorem dX12_theirs_16 : decode cX12_theirs 16 = .ok (.iconst (-1), 1) := by decide +kernel
theorem dX12_theirs_17 : decode cX12_theirs 17 = .ok (.ireturn, 1) := by decide +kernel
theorem dX12_theirs_18 : decode cX12_theirs 18 = .ok (.aload_n 0, 1) := by decide +kernel
theorem dX12_theirs_19 : decode cX12_theirs 19 = .ok (.iload_n 1, 1) := by decide +kernel
theorem dX12_theirs_20 : decode cX12_theirs 20 = .ok (.invokevirtual 224, 3) := by decide +kernel
theorem dX12_theirs_23 : decode cX12_theirs 23 = .ok (.aload_n 0, 1) := by decide +kernel
theorem dX12_theirs_24 : decode cX12_theirs 24 = .ok (.iload_n 1, 1) := by decide +kernel
theorem dX12_theirs_25 : decode cX12_theirs 25 = .ok (.invokevirtual 227, 3) := by decide +kernel
theorem dX12_theirs_28 : decode cX12_theirs 28 = .ok (.ifCond .ne 13, 3) := by decide +kernel
theorem dX12_theirs_31 : decode cX12_theirs 31 = .ok (.aload_n 0, 1) := by decide +kernel
theorem dX12_theirs_32 : decode cX12_theirs 32 = .ok (.bipush 8, 2) := by decide +kernel
theorem dX12_theirs_34 : decode cX12_theirs 34 = .ok (.iconst 0, 1) := by decide +kernel
theorem dX12_theirs_35 : decode cX12_theirs 35 = .ok (.invokevirtual 185, 3) := by decide +kernel
theorem dX12_theirs_38 : decode cX12_theirs 38 = .ok (.ifCond .eq 6, 3) := by decide +kernel
theorem dX12_theirs_41 : decode cX12_theirs 41 = .ok (.bipush (-2), 2) := by decide +kernel
theorem dX12_theirs_43 : decode cX12_theirs 43 = .ok (.ireturn, 1) := by decide +kernel
theorem dX12_theirs_44 : decode cX12_theirs 44 = .ok (.aload_n 0, 1) := by decide +kernel
theorem dX12_theirs_45 : decode cX12_theirs 45 = .ok (.bipush 8, 2) := by decide +kernel
theorem dX12_theirs_47 : decode cX12_theirs 47 = .ok (.invokevirtual 201, 3) := by decide +kernel
theorem dX12_theirs_50 : decode cX12_theirs 50 = .ok (.aload_n 0, 1) := by decide +kernel
theorem dX12_theirs_51 : decode cX12_theirs 51 = .ok (.iload_n 1, 1) := by decide +kernel
theorem dX12_theirs_52 : decode cX12_theirs 52 = .ok (.invokevirtual 230, 3) := by decide +kernel
theorem dX12_theirs_55 : decode cX12_theirs 55 = .ok (.ireturn, 1) := by decide +kernel
theorem dX12_err_0 : decode cX12_err 0 = .ok (.iload_n 1, 1) := by decide +kernel
theorem dX12_err_1 : decode cX12_err 1 = .ok (.invokestatic 125, 3) := by decide +kernel
theorem dX12_err_4 : decode cX12_err 4 = .ok (.ifCond .ne 5, 3) := by decide +kernel
theorem dX12_err_7 : decode cX12_err 7 = .ok (.iconst (-1), 1) := by decide +kernel
theorem dX12_err_8 : decode cX12_err 8 = .ok (.ireturn, 1) := by decide +kernel
theorem dX12_err_9 : decode cX12_err 9 = .ok (.aload_n 0, 1) := by decide +kernel
theorem dX12_err_10 : decode cX12_err 10 = .ok (.getfield 120, 3) := by decide +kernel
theorem dX12_err_13 : decode cX12_err 13 = .ok (.bipush 60, 2) := by decide +kernel
theorem dX12_err_15 : decode cX12_err 15 = .ok (.if_icmp .ne 6, 3) := by decide +kernel
theorem dX12_err_18 : decode cX12_err 18 = .ok (.bipush (-3), 2) := by decide +kernel
theorem dX12_err_20 : decode cX12_err 20 = .ok (.ireturn, 1) := by decide +kernel
theorem dX12_err_21 : decode cX12_err 21 = .ok (.aload_n 0, 1) := by decide +kernel
theorem dX12_err_22 : decode cX12_err 22 = .ok (.getfield 43, 3) := by decide +kernel
theorem dX12_err_25 : decode cX12_err 25 = .ok (.aload_n 0, 1) := by decide +kernel
theorem dX12_err_26 : decode cX12_err 26 = .ok (.getfield 120, 3) := by decide +kernel
theorem dX12_err_29 : decode cX12_err 29 = .ok (.iload_n 1, 1) := by decide +kernel
theorem dX12_err_30 : decode cX12_err 30 = .ok (.iastore, 1) := by decide +kernel
theorem dX12_err_31 : decode cX12_err 31 = .ok (.aload_n 0, 1) := by decide +kernel
theorem dX12_err_32 : decode cX12_err 32 = .ok (.dup, 1) := by decide +kernel
theorem dX12_err_33 : decode cX12_err 33 = .ok (.getfield 120, 3) := by decide +kernel
theorem dX12_err_36 : decode cX12_err 36 = .ok (.iconst 1, 1) := by decide +kernel
theorem dX12_err_37 : decode cX12_err 37 = .ok (.iadd, 1) := by decide +kernel
theorem dX12_err_38 : decode cX12_err 38 = .ok (.putfield 120, 3) := by decide +kernel
theorem dX12_err_41 : decode cX12_err 41 = .ok (.aload_n 0, 1) := by decide +kernel
theorem dX12_err_42 : decode cX12_err 42 = .ok (.getfield 120, 3) := by decide +kernel
theorem dX12_err_45 : decode cX12_err 45 = .ok (.ireturn, 1) := by decide +kernel
theorem dX12_gone_0 : decode cX12_gone 0 = .ok (.iload_n 1, 1) := by decide +kernel
theorem dX12_gone_1 : decode cX12_gone 1 = .ok (.invokestatic 125, 3) := by decide +kernel
theorem dX12_gone_4 : decode cX12_gone 4 = .ok (.ifCond .eq 15, 3) := by decide +kernel
theorem dX12_gone_7 : decode cX12_gone 7 = .ok (.iload_n 2, 1) := by decide +kernel
theorem dX12_gone_8 : decode cX12_gone 8 = .ok (.i2l, 1) := by decide +kernel
theorem dX12_gone_9 : decode cX12_gone 9 = .ok (.lconst 1, 1) := by decide +kernel
theorem dX12_gone_10 : decode cX12_gone 10 = .ok (.ldc2_w 233, 3) := by decide +kernel
theorem dX12_gone_13 : decode cX12_gone 13 = .ok (.invokestatic 80, 3) := by decide +kernel
theorem dX12_gone_16 : decode cX12_gone 16 = .ok (.ifCond .ne 5, 3) := by decide +kernel
theorem dX12_gone_19 : decode cX12_gone 19 = .ok (.iconst (-1), 1) := by decide +kernel
theorem dX12_gone_20 : decode cX12_gone 20 = .ok (.ireturn, 1) := by decide +kernel
theorem dX12_gone_21 : decode cX12_gone 21 = .ok (.iconst 0, 1) := by decide +kernel
theorem dX12_gone_22 : decode cX12_gone 22 = .ok (.istore_n 3, 1) := by decide +kernel
theorem dX12_gone_23 : decode cX12_gone 23 = .ok (.iconst 0, 1) := by decide +kernel
theorem dX12_gone_24 : decode cX12_gone 24 = .ok (.istore 4, 2) := by decide +kernel
theorem dX12_gone_26 : decode cX12_gone 26 = .ok (.iconst 0, 1) := by decide +kernel
theorem dX12_gone_27 : decode cX12_gone 27 = .ok (.istore 5, 2) := by decide +kernel
theorem dX12_gone_29 : decode cX12_gone 29 = .ok (.iload 5, 2) := by decide +kernel
theorem dX12_gone_31 : decode cX12_gone 31 = .ok (.aload_n 0, 1) := by decide +kernel
theorem dX12_gone_32 : decode cX12_gone 32 = .ok (.getfield 120, 3) := by decide +kernel
theorem dX12_gone_35 : decode cX12_gone 35 = .ok (.if_icmp .ge 64, 3) := by decide +kernel
theorem dX12_gone_38 : decode cX12_gone 38 = .ok (.iload_n 3, 1) := by decide +kernel
theorem dX12_gone_39 : decode cX12_gone 39 = .ok (.ifCond .ne 14, 3) := by decide +kernel
theorem dX12_gone_42 : decode cX12_gone 42 = .ok (.aload_n 0, 1) := by decide +kernel
theorem dX12_gone_43 : decode cX12_gone 43 = .ok (.getfield 43, 3) := by decide +kernel
theorem dX12_gone_46 : decode cX12_gone 46 = .ok (.iload 5, 2) := by decide +kernel
theorem dX12_gone_48 : decode cX12_gone 48 = .ok (.iaload, 1) := by decide +kernel
theorem dX12_gone_49 : decode cX12_gone 49 = .ok (.iload_n 1, 1) := by decide +kernel
theorem dX12_gone_50 : decode cX12_gone 50 = .ok (.if_icmp .ne 7, 3) := by decide +kernel
theorem dX12_gone_53 : decode cX12_gone 53 = .ok (.iconst 1, 1) := by decide +kernel
theorem dX12_gone_54 : decode cX12_gone 54 = .ok (.goto 4, 3) := by decide +kernel
theorem dX12_gone_57 : decode cX12_gone 57 = .ok (.iconst 0, 1) := by decide +kernel
theorem dX12_gone_58 : decode cX12_gone 58 = .ok (.istore_n 3, 1) := by decide +kernel
theorem dX12_gone_59 : decode cX12_gone 59 = .ok (.iload 4, 2) := by decide +kernel
theorem dX12_gone_61 : decode cX12_gone 61 = .ok (.ifCond .ne 25, 3) := by decide +kernel
theorem dX12_gone_64 : decode cX12_gone 64 = .ok (.aload_n 0, 1) := by decide +kernel
theorem dX12_gone_65 : decode cX12_gone 65 = .ok (.getfield 43, 3) := by decide +kernel
theorem dX12_gone_68 : decode cX12_gone 68 = .ok (.iload 5, 2) := by decide +kernel
theorem dX12_gone_70 : decode cX12_gone 70 = .ok (.iaload, 1) := by decide +kernel
theorem dX12_gone_71 : decode cX12_gone 71 = .ok (.iload_n 1, 1) := by decide +kernel
theorem dX12_gone_72 : decode cX12_gone 72 = .ok (.if_icmp .ne 18, 3) := by decide +kernel
theorem dX12_gone_75 : decode cX12_gone 75 = .ok (.iload 5, 2) := by decide +kernel
theorem dX12_gone_77 : decode cX12_gone 77 = .ok (.aload_n 0, 1) := by decide +kernel
theorem dX12_gone_78 : decode cX12_gone 78 = .ok (.getfield 120, 3) := by decide +kernel
theorem dX12_gone_81 : decode cX12_gone 81 = .ok (.iload_n 2, 1) := by decide +kernel
theorem dX12_gone_82 : decode cX12_gone 82 = .ok (.isub, 1) := by decide +kernel
theorem dX12_gone_83 : decode cX12_gone 83 = .ok (.if_icmp .lt 7, 3) := by decide +kernel
theorem dX12_gone_86 : decode cX12_gone 86 = .ok (.iconst 1, 1) := by decide +kernel
theorem dX12_gone_87 : decode cX12_gone 87 = .ok (.goto 4, 3) := by decide +kernel
theorem dX12_gone_90 : decode cX12_gone 90 = .ok (.iconst 0, 1) := by decide +kernel
theorem dX12_gone_91 : decode cX12_gone 91 = .ok (.istore 4, 2) := by decide +kernel
theorem dX12_gone_93 : decode cX12_gone 93 = .ok (.iinc 5 1, 3) := by decide +kernel
theorem dX12_gone_96 : decode cX12_gone 96 = .ok (.goto (-67), 3) := by decide +kernel
theorem dX12_gone_99 : decode cX12_gone 99 = .ok (.iload_n 3, 1) := by decide +kernel
theorem dX12_gone_100 : decode cX12_gone 100 = .ok (.ifCond .eq 12, 3) := by decide +kernel
theorem dX12_gone_103 : decode cX12_gone 103 = .ok (.iload 4, 2) := by decide +kernel
theorem dX12_gone_105 : decode cX12_gone 105 = .ok (.ifCond .ne 7, 3) := by decide +kernel
theorem dX12_gone_108 : decode cX12_gone 108 = .ok (.iconst 1, 1) := by decide +kernel
theorem dX12_gone_109 : decode cX12_gone 109 = .ok (.goto 4, 3) := by decide +kernel
theorem dX12_gone_112 : decode cX12_gone 112 = .ok (.iconst 0, 1) := by decide +kernel
theorem dX12_gone_113 : decode cX12_gone 113 = .ok (.ireturn, 1) := by decide +kernel
theorem dX12_count_0 : decode cX12_count 0 = .ok (.iconst 0, 1) := by decide +kernel
theorem dX12_count_1 : decode cX12_count 1 = .ok (.istore_n 2, 1) := by decide +kernel
theorem dX12_count_2 : decode cX12_count 2 = .ok (.iload_n 1, 1) := by decide +kernel
theorem dX12_count_3 : decode cX12_count 3 = .ok (.tableswitch 91 0 5 #[37, 44, 51, 56, 61, 66], 37) := by decide +kernel
theorem dX12_count_40 : decode cX12_count 40 = .ok (.aload_n 0, 1) := by decide +kernel
theorem dX12_count_41 : decode cX12_count 41 = .ok (.getfield 13, 3) := by decide +kernel
theorem dX12_count_44 : decode cX12_count 44 = .ok (.iconst 0, 1) := by decide +kernel
theorem dX12_count_45 : decode cX12_count 45 = .ok (.iaload, 1) := by decide +kernel
theorem dX12_count_46 : decode cX12_count 46 = .ok (.ireturn, 1) := by decide +kernel
theorem dX12_count_47 : decode cX12_count 47 = .ok (.aload_n 0, 1) := by decide +kernel
theorem dX12_count_48 : decode cX12_count 48 = .ok (.getfield 19, 3) := by decide +kernel
theorem dX12_count_51 : decode cX12_count 51 = .ok (.iconst 0, 1) := by decide +kernel
theorem dX12_count_52 : decode cX12_count 52 = .ok (.iaload, 1) := by decide +kernel
theorem dX12_count_53 : decode cX12_count 53 = .ok (.ireturn, 1) := by decide +kernel
theorem dX12_count_54 : decode cX12_count 54 = .ok (.aload_n 0, 1) := by decide +kernel
theorem dX12_count_55 : decode cX12_count 55 = .ok (.getfield 84, 3) := by decide +kernel
theorem dX12_count_58 : decode cX12_count 58 = .ok (.ireturn, 1) := by decide +kernel
theorem dX12_count_59 : decode cX12_count 59 = .ok (.aload_n 0, 1) := by decide +kernel
theorem dX12_count_60 : decode cX12_count 60 = .ok (.getfield 117, 3) := by decide +kernel
theorem dX12_count_63 : decode cX12_count 63 = .ok (.ireturn, 1) := by decide +kernel
theorem dX12_count_64 : decode cX12_count 64 = .ok (.aload_n 0, 1) := by decide +kernel
theorem dX12_count_65 : decode cX12_count 65 = .ok (.getfield 120, 3) := by decide +kernel
theorem dX12_count_68 : decode cX12_count 68 = .ok (.ireturn, 1) := by decide +kernel
theorem dX12_count_69 : decode cX12_count 69 = .ok (.iconst 0, 1) := by decide +kernel
theorem dX12_count_70 : decode cX12_count 70 = .ok (.istore_n 3, 1) := by decide +kernel
theorem dX12_count_71 : decode cX12_count 71 = .ok (.iload_n 3, 1) := by decide +kernel
theorem dX12_count_72 : decode cX12_count 72 = .ok (.bipush 8, 2) := by decide +kernel
theorem dX12_count_74 : decode cX12_count 74 = .ok (.if_icmp .ge 18, 3) := by decide +kernel
theorem dX12_count_77 : decode cX12_count 77 = .ok (.iload_n 2, 1) := by decide +kernel
theorem dX12_count_78 : decode cX12_count 78 = .ok (.aload_n 0, 1) := by decide +kernel
theorem dX12_count_79 : decode cX12_count 79 = .ok (.getfield 28, 3) := by decide +kernel
theorem dX12_count_82 : decode cX12_count 82 = .ok (.iload_n 3, 1) := by decide +kernel
theorem dX12_count_83 : decode cX12_count 83 = .ok (.iaload, 1) := by decide +kernel
theorem dX12_count_84 : decode cX12_count 84 = .ok (.iadd, 1) := by decide +kernel
theorem dX12_count_85 : decode cX12_count 85 = .ok (.istore_n 2, 1) := by decide +kernel
theorem dX12_count_86 : decode cX12_count 86 = .ok (.iinc 3 1, 3) := by decide +kernel
theorem dX12_count_89 : decode cX12_count 89 = .ok (.goto (-18), 3) := by decide +kernel
theorem dX12_count_92 : decode cX12_count 92 = .ok (.iload_n 2, 1) := by decide +kernel
theorem dX12_count_93 : decode cX12_count 93 = .ok (.ireturn, 1) := by decide +kernel
theorem dX12_count_94 : decode cX12_count 94 = .ok (.iconst (-1), 1) := by decide +kernel
theorem dX12_count_95 : decode cX12_count 95 = .ok (.ireturn, 1) := by decide +kernel
end
section
theorem dL_law_0 : decode cL_law 0 = .ok (.new 7, 3) := by decide +kernel
theorem dL_law_3 : decode cL_law 3 = .ok (.dup, 1) := by decide +kernel
theorem dL_law_4 : decode cL_law 4 = .ok (.invokespecial 9, 3) := by decide +kernel
theorem dL_law_7 : decode cL_law 7 = .ok (.astore_n 1, 1) := by decide +kernel
theorem dL_law_8 : decode cL_law 8 = .ok (.new 10, 3) := by decide +kernel
theorem dL_law_11 : decode cL_law 11 = .ok (.dup, 1) := by decide +kernel
theorem dL_law_12 : decode cL_law 12 = .ok (.invokespecial 12, 3) := by decide +kernel
theorem dL_law_15 : decode cL_law 15 = .ok (.astore_n 2, 1) := by decide +kernel
theorem dL_law_16 : decode cL_law 16 = .ok (.iconst 0, 1) := by decide +kernel
theorem dL_law_17 : decode cL_law 17 = .ok (.istore_n 3, 1) := by decide +kernel
theorem dL_law_18 : decode cL_law 18 = .ok (.iload_n 3, 1) := by decide +kernel
theorem dL_law_19 : decode cL_law 19 = .ok (.aload_n 0, 1) := by decide +kernel
theorem dL_law_20 : decode cL_law 20 = .ok (.arraylength, 1) := by decide +kernel
theorem dL_law_21 : decode cL_law 21 = .ok (.bipush 6, 2) := by decide +kernel
theorem dL_law_23 : decode cL_law 23 = .ok (.isub, 1) := by decide +kernel
theorem dL_law_24 : decode cL_law 24 = .ok (.if_icmp .gt 790, 3) := by decide +kernel
theorem dL_law_27 : decode cL_law 27 = .ok (.aload_n 0, 1) := by decide +kernel
theorem dL_law_28 : decode cL_law 28 = .ok (.iload_n 3, 1) := by decide +kernel
theorem dL_law_29 : decode cL_law 29 = .ok (.iaload, 1) := by decide +kernel
theorem dL_law_30 : decode cL_law 30 = .ok (.bipush 31, 2) := by decide +kernel
theorem dL_law_32 : decode cL_law 32 = .ok (.iand, 1) := by decide +kernel
theorem dL_law_33 : decode cL_law 33 = .ok (.tableswitch 775 0 20 #[99, 162, 175, 188, 201, 250, 283, 306, 339, 373, 436, 485, 528, 571, 594, 627, 650, 673, 696, 719, 752], 99) := by decide +kernel
theorem dL_law_132 : decode cL_law 132 = .ok (.aload_n 1, 1) := by decide +kernel
theorem dL_law_133 : decode cL_law 133 = .ok (.aload_n 0, 1) := by decide +kernel
theorem dL_law_134 : decode cL_law 134 = .ok (.iload_n 3, 1) := by decide +kernel
theorem dL_law_135 : decode cL_law 135 = .ok (.iconst 1, 1) := by decide +kernel
theorem dL_law_136 : decode cL_law 136 = .ok (.iadd, 1) := by decide +kernel
theorem dL_law_137 : decode cL_law 137 = .ok (.iaload, 1) := by decide +kernel
theorem dL_law_138 : decode cL_law 138 = .ok (.aload_n 0, 1) := by decide +kernel
theorem dL_law_139 : decode cL_law 139 = .ok (.iload_n 3, 1) := by decide +kernel
theorem dL_law_140 : decode cL_law 140 = .ok (.iconst 2, 1) := by decide +kernel
theorem dL_law_141 : decode cL_law 141 = .ok (.iadd, 1) := by decide +kernel
theorem dL_law_142 : decode cL_law 142 = .ok (.iaload, 1) := by decide +kernel
theorem dL_law_143 : decode cL_law 143 = .ok (.i2l, 1) := by decide +kernel
theorem dL_law_144 : decode cL_law 144 = .ok (.bipush 32, 2) := by decide +kernel
theorem dL_law_146 : decode cL_law 146 = .ok (.lshl, 1) := by decide +kernel
theorem dL_law_147 : decode cL_law 147 = .ok (.aload_n 0, 1) := by decide +kernel
theorem dL_law_148 : decode cL_law 148 = .ok (.iload_n 3, 1) := by decide +kernel
theorem dL_law_149 : decode cL_law 149 = .ok (.iconst 3, 1) := by decide +kernel
theorem dL_law_150 : decode cL_law 150 = .ok (.iadd, 1) := by decide +kernel
theorem dL_law_151 : decode cL_law 151 = .ok (.iaload, 1) := by decide +kernel
theorem dL_law_152 : decode cL_law 152 = .ok (.i2l, 1) := by decide +kernel
theorem dL_law_153 : decode cL_law 153 = .ok (.ldc2_w 13, 3) := by decide +kernel
theorem dL_law_156 : decode cL_law 156 = .ok (.land, 1) := by decide +kernel
theorem dL_law_157 : decode cL_law 157 = .ok (.lor, 1) := by decide +kernel
theorem dL_law_158 : decode cL_law 158 = .ok (.invokevirtual 15, 3) := by decide +kernel
theorem dL_law_161 : decode cL_law 161 = .ok (.aload_n 2, 1) := by decide +kernel
theorem dL_law_162 : decode cL_law 162 = .ok (.aload_n 0, 1) := by decide +kernel
theorem dL_law_163 : decode cL_law 163 = .ok (.iload_n 3, 1) := by decide +kernel
theorem dL_law_164 : decode cL_law 164 = .ok (.iconst 1, 1) := by decide +kernel
theorem dL_law_165 : decode cL_law 165 = .ok (.iadd, 1) := by decide +kernel
theorem dL_law_166 : decode cL_law 166 = .ok (.iaload, 1) := by decide +kernel
theorem dL_law_167 : decode cL_law 167 = .ok (.aload_n 0, 1) := by decide +kernel
theorem dL_law_168 : decode cL_law 168 = .ok (.iload_n 3, 1) := by decide +kernel
theorem dL_law_169 : decode cL_law 169 = .ok (.iconst 2, 1) := by decide +kernel
theorem dL_law_170 : decode cL_law 170 = .ok (.iadd, 1) := by decide +kernel
theorem dL_law_171 : decode cL_law 171 = .ok (.iaload, 1) := by decide +kernel
theorem dL_law_172 : decode cL_law 172 = .ok (.i2l, 1) := by decide +kernel
theorem dL_law_173 : decode cL_law 173 = .ok (.bipush 32, 2) := by decide +kernel
theorem dL_law_175 : decode cL_law 175 = .ok (.lshl, 1) := by decide +kernel
theorem dL_law_176 : decode cL_law 176 = .ok (.aload_n 0, 1) := by decide +kernel
theorem dL_law_177 : decode cL_law 177 = .ok (.iload_n 3, 1) := by decide +kernel
theorem dL_law_178 : decode cL_law 178 = .ok (.iconst 3, 1) := by decide +kernel
theorem dL_law_179 : decode cL_law 179 = .ok (.iadd, 1) := by decide +kernel
theorem dL_law_180 : decode cL_law 180 = .ok (.iaload, 1) := by decide +kernel
theorem dL_law_181 : decode cL_law 181 = .ok (.i2l, 1) := by decide +kernel
theorem dL_law_182 : decode cL_law 182 = .ok (.ldc2_w 13, 3) := by decide +kernel
theorem dL_law_185 : decode cL_law 185 = .ok (.land, 1) := by decide +kernel
theorem dL_law_186 : decode cL_law 186 = .ok (.lor, 1) := by decide +kernel
theorem dL_law_187 : decode cL_law 187 = .ok (.invokevirtual 19, 3) := by decide +kernel
theorem dL_law_190 : decode cL_law 190 = .ok (.if_icmp .eq 618, 3) := by decide +kernel
theorem dL_law_193 : decode cL_law 193 = .ok (.iconst 0, 1) := by decide +kernel
theorem dL_law_194 : decode cL_law 194 = .ok (.ireturn, 1) := by decide +kernel
theorem dL_law_195 : decode cL_law 195 = .ok (.aload_n 1, 1) := by decide +kernel
theorem dL_law_196 : decode cL_law 196 = .ok (.invokevirtual 20, 3) := by decide +kernel
theorem dL_law_199 : decode cL_law 199 = .ok (.aload_n 2, 1) := by decide +kernel
theorem dL_law_200 : decode cL_law 200 = .ok (.invokevirtual 24, 3) := by decide +kernel
theorem dL_law_203 : decode cL_law 203 = .ok (.if_icmp .eq 605, 3) := by decide +kernel
theorem dL_law_206 : decode cL_law 206 = .ok (.iconst 0, 1) := by decide +kernel
theorem dL_law_207 : decode cL_law 207 = .ok (.ireturn, 1) := by decide +kernel
theorem dL_law_208 : decode cL_law 208 = .ok (.aload_n 1, 1) := by decide +kernel
theorem dL_law_209 : decode cL_law 209 = .ok (.invokevirtual 25, 3) := by decide +kernel
theorem dL_law_212 : decode cL_law 212 = .ok (.aload_n 2, 1) := by decide +kernel
theorem dL_law_213 : decode cL_law 213 = .ok (.invokevirtual 28, 3) := by decide +kernel
theorem dL_law_216 : decode cL_law 216 = .ok (.if_icmp .eq 592, 3) := by decide +kernel
theorem dL_law_219 : decode cL_law 219 = .ok (.iconst 0, 1) := by decide +kernel
theorem dL_law_220 : decode cL_law 220 = .ok (.ireturn, 1) := by decide +kernel
theorem dL_law_221 : decode cL_law 221 = .ok (.aload_n 1, 1) := by decide +kernel
theorem dL_law_222 : decode cL_law 222 = .ok (.invokevirtual 29, 3) := by decide +kernel
theorem dL_law_225 : decode cL_law 225 = .ok (.aload_n 2, 1) := by decide +kernel
theorem dL_law_226 : decode cL_law 226 = .ok (.invokevirtual 32, 3) := by decide +kernel
theorem dL_law_229 : decode cL_law 229 = .ok (.if_icmp .eq 579, 3) := by decide +kernel
theorem dL_law_232 : decode cL_law 232 = .ok (.iconst 0, 1) := by decide +kernel
theorem dL_law_233 : decode cL_law 233 = .ok (.ireturn, 1) := by decide +kernel
theorem dL_law_234 : decode cL_law 234 = .ok (.aload_n 1, 1) := by decide +kernel
theorem dL_law_235 : decode cL_law 235 = .ok (.aload_n 0, 1) := by decide +kernel
theorem dL_law_236 : decode cL_law 236 = .ok (.iload_n 3, 1) := by decide +kernel
theorem dL_law_237 : decode cL_law 237 = .ok (.iconst 1, 1) := by decide +kernel
theorem dL_law_238 : decode cL_law 238 = .ok (.iadd, 1) := by decide +kernel
theorem dL_law_239 : decode cL_law 239 = .ok (.iaload, 1) := by decide +kernel
theorem dL_law_240 : decode cL_law 240 = .ok (.aload_n 0, 1) := by decide +kernel
theorem dL_law_241 : decode cL_law 241 = .ok (.iload_n 3, 1) := by decide +kernel
theorem dL_law_242 : decode cL_law 242 = .ok (.iconst 2, 1) := by decide +kernel
theorem dL_law_243 : decode cL_law 243 = .ok (.iadd, 1) := by decide +kernel
theorem dL_law_244 : decode cL_law 244 = .ok (.iaload, 1) := by decide +kernel
theorem dL_law_245 : decode cL_law 245 = .ok (.ifCond .eq 7, 3) := by decide +kernel
theorem dL_law_248 : decode cL_law 248 = .ok (.iconst 1, 1) := by decide +kernel
theorem dL_law_249 : decode cL_law 249 = .ok (.goto 4, 3) := by decide +kernel
theorem dL_law_252 : decode cL_law 252 = .ok (.iconst 0, 1) := by decide +kernel
theorem dL_law_253 : decode cL_law 253 = .ok (.invokevirtual 33, 3) := by decide +kernel
theorem dL_law_256 : decode cL_law 256 = .ok (.aload_n 2, 1) := by decide +kernel
theorem dL_law_257 : decode cL_law 257 = .ok (.aload_n 0, 1) := by decide +kernel
theorem dL_law_258 : decode cL_law 258 = .ok (.iload_n 3, 1) := by decide +kernel
theorem dL_law_259 : decode cL_law 259 = .ok (.iconst 1, 1) := by decide +kernel
theorem dL_law_260 : decode cL_law 260 = .ok (.iadd, 1) := by decide +kernel
theorem dL_law_261 : decode cL_law 261 = .ok (.iaload, 1) := by decide +kernel
theorem dL_law_262 : decode cL_law 262 = .ok (.aload_n 0, 1) := by decide +kernel
theorem dL_law_263 : decode cL_law 263 = .ok (.iload_n 3, 1) := by decide +kernel
theorem dL_law_264 : decode cL_law 264 = .ok (.iconst 2, 1) := by decide +kernel
theorem dL_law_265 : decode cL_law 265 = .ok (.iadd, 1) := by decide +kernel
theorem dL_law_266 : decode cL_law 266 = .ok (.iaload, 1) := by decide +kernel
theorem dL_law_267 : decode cL_law 267 = .ok (.ifCond .eq 7, 3) := by decide +kernel
theorem dL_law_270 : decode cL_law 270 = .ok (.iconst 1, 1) := by decide +kernel
theorem dL_law_271 : decode cL_law 271 = .ok (.goto 4, 3) := by decide +kernel
theorem dL_law_274 : decode cL_law 274 = .ok (.iconst 0, 1) := by decide +kernel
theorem dL_law_275 : decode cL_law 275 = .ok (.invokevirtual 37, 3) := by decide +kernel
theorem dL_law_278 : decode cL_law 278 = .ok (.if_icmp .eq 530, 3) := by decide +kernel
theorem dL_law_281 : decode cL_law 281 = .ok (.iconst 0, 1) := by decide +kernel
theorem dL_law_282 : decode cL_law 282 = .ok (.ireturn, 1) := by decide +kernel
theorem dL_law_283 : decode cL_law 283 = .ok (.aload_n 1, 1) := by decide +kernel
theorem dL_law_284 : decode cL_law 284 = .ok (.aload_n 0, 1) := by decide +kernel
theorem dL_law_285 : decode cL_law 285 = .ok (.iload_n 3, 1) := by decide +kernel
theorem dL_law_286 : decode cL_law 286 = .ok (.iconst 1, 1) := by decide +kernel
theorem dL_law_287 : decode cL_law 287 = .ok (.iadd, 1) := by decide +kernel
theorem dL_law_288 : decode cL_law 288 = .ok (.iaload, 1) := by decide +kernel
theorem dL_law_289 : decode cL_law 289 = .ok (.aload_n 0, 1) := by decide +kernel
theorem dL_law_290 : decode cL_law 290 = .ok (.iload_n 3, 1) := by decide +kernel
theorem dL_law_291 : decode cL_law 291 = .ok (.iconst 2, 1) := by decide +kernel
theorem dL_law_292 : decode cL_law 292 = .ok (.iadd, 1) := by decide +kernel
theorem dL_law_293 : decode cL_law 293 = .ok (.iaload, 1) := by decide +kernel
theorem dL_law_294 : decode cL_law 294 = .ok (.invokevirtual 38, 3) := by decide +kernel
theorem dL_law_297 : decode cL_law 297 = .ok (.aload_n 2, 1) := by decide +kernel
theorem dL_law_298 : decode cL_law 298 = .ok (.aload_n 0, 1) := by decide +kernel
theorem dL_law_299 : decode cL_law 299 = .ok (.iload_n 3, 1) := by decide +kernel
theorem dL_law_300 : decode cL_law 300 = .ok (.iconst 1, 1) := by decide +kernel
theorem dL_law_301 : decode cL_law 301 = .ok (.iadd, 1) := by decide +kernel
theorem dL_law_302 : decode cL_law 302 = .ok (.iaload, 1) := by decide +kernel
theorem dL_law_303 : decode cL_law 303 = .ok (.aload_n 0, 1) := by decide +kernel
theorem dL_law_304 : decode cL_law 304 = .ok (.iload_n 3, 1) := by decide +kernel
theorem dL_law_305 : decode cL_law 305 = .ok (.iconst 2, 1) := by decide +kernel
theorem dL_law_306 : decode cL_law 306 = .ok (.iadd, 1) := by decide +kernel
theorem dL_law_307 : decode cL_law 307 = .ok (.iaload, 1) := by decide +kernel
theorem dL_law_308 : decode cL_law 308 = .ok (.invokevirtual 42, 3) := by decide +kernel
theorem dL_law_311 : decode cL_law 311 = .ok (.if_icmp .eq 497, 3) := by decide +kernel
theorem dL_law_314 : decode cL_law 314 = .ok (.iconst 0, 1) := by decide +kernel
theorem dL_law_315 : decode cL_law 315 = .ok (.ireturn, 1) := by decide +kernel
theorem dL_law_316 : decode cL_law 316 = .ok (.aload_n 1, 1) := by decide +kernel
theorem dL_law_317 : decode cL_law 317 = .ok (.aload_n 0, 1) := by decide +kernel
theorem dL_law_318 : decode cL_law 318 = .ok (.iload_n 3, 1) := by decide +kernel
theorem dL_law_319 : decode cL_law 319 = .ok (.iconst 1, 1) := by decide +kernel
theorem dL_law_320 : decode cL_law 320 = .ok (.iadd, 1) := by decide +kernel
theorem dL_law_321 : decode cL_law 321 = .ok (.iaload, 1) := by decide +kernel
theorem dL_law_322 : decode cL_law 322 = .ok (.invokevirtual 43, 3) := by decide +kernel
theorem dL_law_325 : decode cL_law 325 = .ok (.aload_n 2, 1) := by decide +kernel
theorem dL_law_326 : decode cL_law 326 = .ok (.aload_n 0, 1) := by decide +kernel
theorem dL_law_327 : decode cL_law 327 = .ok (.iload_n 3, 1) := by decide +kernel
theorem dL_law_328 : decode cL_law 328 = .ok (.iconst 1, 1) := by decide +kernel
theorem dL_law_329 : decode cL_law 329 = .ok (.iadd, 1) := by decide +kernel
theorem dL_law_330 : decode cL_law 330 = .ok (.iaload, 1) := by decide +kernel
theorem dL_law_331 : decode cL_law 331 = .ok (.invokevirtual 47, 3) := by decide +kernel
theorem dL_law_334 : decode cL_law 334 = .ok (.if_icmp .eq 474, 3) := by decide +kernel
theorem dL_law_337 : decode cL_law 337 = .ok (.iconst 0, 1) := by decide +kernel
theorem dL_law_338 : decode cL_law 338 = .ok (.ireturn, 1) := by decide +kernel
theorem dL_law_339 : decode cL_law 339 = .ok (.aload_n 1, 1) := by decide +kernel
theorem dL_law_340 : decode cL_law 340 = .ok (.aload_n 0, 1) := by decide +kernel
theorem dL_law_341 : decode cL_law 341 = .ok (.iload_n 3, 1) := by decide +kernel
theorem dL_law_342 : decode cL_law 342 = .ok (.iconst 1, 1) := by decide +kernel
theorem dL_law_343 : decode cL_law 343 = .ok (.iadd, 1) := by decide +kernel
theorem dL_law_344 : decode cL_law 344 = .ok (.iaload, 1) := by decide +kernel
theorem dL_law_345 : decode cL_law 345 = .ok (.aload_n 0, 1) := by decide +kernel
theorem dL_law_346 : decode cL_law 346 = .ok (.iload_n 3, 1) := by decide +kernel
theorem dL_law_347 : decode cL_law 347 = .ok (.iconst 2, 1) := by decide +kernel
theorem dL_law_348 : decode cL_law 348 = .ok (.iadd, 1) := by decide +kernel
theorem dL_law_349 : decode cL_law 349 = .ok (.iaload, 1) := by decide +kernel
theorem dL_law_350 : decode cL_law 350 = .ok (.invokevirtual 48, 3) := by decide +kernel
theorem dL_law_353 : decode cL_law 353 = .ok (.aload_n 2, 1) := by decide +kernel
theorem dL_law_354 : decode cL_law 354 = .ok (.aload_n 0, 1) := by decide +kernel
theorem dL_law_355 : decode cL_law 355 = .ok (.iload_n 3, 1) := by decide +kernel
theorem dL_law_356 : decode cL_law 356 = .ok (.iconst 1, 1) := by decide +kernel
theorem dL_law_357 : decode cL_law 357 = .ok (.iadd, 1) := by decide +kernel
theorem dL_law_358 : decode cL_law 358 = .ok (.iaload, 1) := by decide +kernel
theorem dL_law_359 : decode cL_law 359 = .ok (.aload_n 0, 1) := by decide +kernel
theorem dL_law_360 : decode cL_law 360 = .ok (.iload_n 3, 1) := by decide +kernel
theorem dL_law_361 : decode cL_law 361 = .ok (.iconst 2, 1) := by decide +kernel
theorem dL_law_362 : decode cL_law 362 = .ok (.iadd, 1) := by decide +kernel
theorem dL_law_363 : decode cL_law 363 = .ok (.iaload, 1) := by decide +kernel
theorem dL_law_364 : decode cL_law 364 = .ok (.invokevirtual 51, 3) := by decide +kernel
theorem dL_law_367 : decode cL_law 367 = .ok (.if_icmp .eq 441, 3) := by decide +kernel
theorem dL_law_370 : decode cL_law 370 = .ok (.iconst 0, 1) := by decide +kernel
theorem dL_law_371 : decode cL_law 371 = .ok (.ireturn, 1) := by decide +kernel
theorem dL_law_372 : decode cL_law 372 = .ok (.aload_n 1, 1) := by decide +kernel
theorem dL_law_373 : decode cL_law 373 = .ok (.aload_n 0, 1) := by decide +kernel
theorem dL_law_374 : decode cL_law 374 = .ok (.iload_n 3, 1) := by decide +kernel
theorem dL_law_375 : decode cL_law 375 = .ok (.iconst 1, 1) := by decide +kernel
theorem dL_law_376 : decode cL_law 376 = .ok (.iadd, 1) := by decide +kernel
theorem dL_law_377 : decode cL_law 377 = .ok (.iaload, 1) := by decide +kernel
theorem dL_law_378 : decode cL_law 378 = .ok (.aload_n 0, 1) := by decide +kernel
theorem dL_law_379 : decode cL_law 379 = .ok (.iload_n 3, 1) := by decide +kernel
theorem dL_law_380 : decode cL_law 380 = .ok (.iconst 2, 1) := by decide +kernel
theorem dL_law_381 : decode cL_law 381 = .ok (.iadd, 1) := by decide +kernel
theorem dL_law_382 : decode cL_law 382 = .ok (.iaload, 1) := by decide +kernel
theorem dL_law_383 : decode cL_law 383 = .ok (.invokevirtual 52, 3) := by decide +kernel
theorem dL_law_386 : decode cL_law 386 = .ok (.aload_n 2, 1) := by decide +kernel
theorem dL_law_387 : decode cL_law 387 = .ok (.aload_n 0, 1) := by decide +kernel
theorem dL_law_388 : decode cL_law 388 = .ok (.iload_n 3, 1) := by decide +kernel
theorem dL_law_389 : decode cL_law 389 = .ok (.iconst 1, 1) := by decide +kernel
theorem dL_law_390 : decode cL_law 390 = .ok (.iadd, 1) := by decide +kernel
theorem dL_law_391 : decode cL_law 391 = .ok (.iaload, 1) := by decide +kernel
theorem dL_law_392 : decode cL_law 392 = .ok (.aload_n 0, 1) := by decide +kernel
theorem dL_law_393 : decode cL_law 393 = .ok (.iload_n 3, 1) := by decide +kernel
theorem dL_law_394 : decode cL_law 394 = .ok (.iconst 2, 1) := by decide +kernel
theorem dL_law_395 : decode cL_law 395 = .ok (.iadd, 1) := by decide +kernel
theorem dL_law_396 : decode cL_law 396 = .ok (.iaload, 1) := by decide +kernel
theorem dL_law_397 : decode cL_law 397 = .ok (.invokevirtual 56, 3) := by decide +kernel
theorem dL_law_400 : decode cL_law 400 = .ok (.lcmp, 1) := by decide +kernel
theorem dL_law_401 : decode cL_law 401 = .ok (.ifCond .eq 407, 3) := by decide +kernel
theorem dL_law_404 : decode cL_law 404 = .ok (.iconst 0, 1) := by decide +kernel
theorem dL_law_405 : decode cL_law 405 = .ok (.ireturn, 1) := by decide +kernel
theorem dL_law_406 : decode cL_law 406 = .ok (.aload_n 1, 1) := by decide +kernel
theorem dL_law_407 : decode cL_law 407 = .ok (.aload_n 0, 1) := by decide +kernel
theorem dL_law_408 : decode cL_law 408 = .ok (.iload_n 3, 1) := by decide +kernel
theorem dL_law_409 : decode cL_law 409 = .ok (.iconst 1, 1) := by decide +kernel
theorem dL_law_410 : decode cL_law 410 = .ok (.iadd, 1) := by decide +kernel
theorem dL_law_411 : decode cL_law 411 = .ok (.iaload, 1) := by decide +kernel
theorem dL_law_412 : decode cL_law 412 = .ok (.aload_n 0, 1) := by decide +kernel
theorem dL_law_413 : decode cL_law 413 = .ok (.iload_n 3, 1) := by decide +kernel
theorem dL_law_414 : decode cL_law 414 = .ok (.iconst 2, 1) := by decide +kernel
theorem dL_law_415 : decode cL_law 415 = .ok (.iadd, 1) := by decide +kernel
theorem dL_law_416 : decode cL_law 416 = .ok (.iaload, 1) := by decide +kernel
theorem dL_law_417 : decode cL_law 417 = .ok (.aload_n 0, 1) := by decide +kernel
theorem dL_law_418 : decode cL_law 418 = .ok (.iload_n 3, 1) := by decide +kernel
theorem dL_law_419 : decode cL_law 419 = .ok (.iconst 3, 1) := by decide +kernel
theorem dL_law_420 : decode cL_law 420 = .ok (.iadd, 1) := by decide +kernel
theorem dL_law_421 : decode cL_law 421 = .ok (.iaload, 1) := by decide +kernel
theorem dL_law_422 : decode cL_law 422 = .ok (.aload_n 0, 1) := by decide +kernel
theorem dL_law_423 : decode cL_law 423 = .ok (.iload_n 3, 1) := by decide +kernel
theorem dL_law_424 : decode cL_law 424 = .ok (.iconst 4, 1) := by decide +kernel
theorem dL_law_425 : decode cL_law 425 = .ok (.iadd, 1) := by decide +kernel
theorem dL_law_426 : decode cL_law 426 = .ok (.iaload, 1) := by decide +kernel
theorem dL_law_427 : decode cL_law 427 = .ok (.aload_n 0, 1) := by decide +kernel
theorem dL_law_428 : decode cL_law 428 = .ok (.iload_n 3, 1) := by decide +kernel
theorem dL_law_429 : decode cL_law 429 = .ok (.iconst 5, 1) := by decide +kernel
theorem dL_law_430 : decode cL_law 430 = .ok (.iadd, 1) := by decide +kernel
theorem dL_law_431 : decode cL_law 431 = .ok (.iaload, 1) := by decide +kernel
theorem dL_law_432 : decode cL_law 432 = .ok (.invokevirtual 57, 3) := by decide +kernel
theorem dL_law_435 : decode cL_law 435 = .ok (.aload_n 2, 1) := by decide +kernel
theorem dL_law_436 : decode cL_law 436 = .ok (.aload_n 0, 1) := by decide +kernel
theorem dL_law_437 : decode cL_law 437 = .ok (.iload_n 3, 1) := by decide +kernel
theorem dL_law_438 : decode cL_law 438 = .ok (.iconst 1, 1) := by decide +kernel
theorem dL_law_439 : decode cL_law 439 = .ok (.iadd, 1) := by decide +kernel
theorem dL_law_440 : decode cL_law 440 = .ok (.iaload, 1) := by decide +kernel
theorem dL_law_441 : decode cL_law 441 = .ok (.aload_n 0, 1) := by decide +kernel
theorem dL_law_442 : decode cL_law 442 = .ok (.iload_n 3, 1) := by decide +kernel
theorem dL_law_443 : decode cL_law 443 = .ok (.iconst 2, 1) := by decide +kernel
theorem dL_law_444 : decode cL_law 444 = .ok (.iadd, 1) := by decide +kernel
theorem dL_law_445 : decode cL_law 445 = .ok (.iaload, 1) := by decide +kernel
theorem dL_law_446 : decode cL_law 446 = .ok (.aload_n 0, 1) := by decide +kernel
theorem dL_law_447 : decode cL_law 447 = .ok (.iload_n 3, 1) := by decide +kernel
theorem dL_law_448 : decode cL_law 448 = .ok (.iconst 3, 1) := by decide +kernel
theorem dL_law_449 : decode cL_law 449 = .ok (.iadd, 1) := by decide +kernel
theorem dL_law_450 : decode cL_law 450 = .ok (.iaload, 1) := by decide +kernel
theorem dL_law_451 : decode cL_law 451 = .ok (.aload_n 0, 1) := by decide +kernel
theorem dL_law_452 : decode cL_law 452 = .ok (.iload_n 3, 1) := by decide +kernel
theorem dL_law_453 : decode cL_law 453 = .ok (.iconst 4, 1) := by decide +kernel
theorem dL_law_454 : decode cL_law 454 = .ok (.iadd, 1) := by decide +kernel
theorem dL_law_455 : decode cL_law 455 = .ok (.iaload, 1) := by decide +kernel
theorem dL_law_456 : decode cL_law 456 = .ok (.aload_n 0, 1) := by decide +kernel
theorem dL_law_457 : decode cL_law 457 = .ok (.iload_n 3, 1) := by decide +kernel
theorem dL_law_458 : decode cL_law 458 = .ok (.iconst 5, 1) := by decide +kernel
theorem dL_law_459 : decode cL_law 459 = .ok (.iadd, 1) := by decide +kernel
theorem dL_law_460 : decode cL_law 460 = .ok (.iaload, 1) := by decide +kernel
theorem dL_law_461 : decode cL_law 461 = .ok (.invokevirtual 61, 3) := by decide +kernel
theorem dL_law_464 : decode cL_law 464 = .ok (.if_icmp .eq 344, 3) := by decide +kernel
theorem dL_law_467 : decode cL_law 467 = .ok (.iconst 0, 1) := by decide +kernel
theorem dL_law_468 : decode cL_law 468 = .ok (.ireturn, 1) := by decide +kernel
theorem dL_law_469 : decode cL_law 469 = .ok (.aload_n 1, 1) := by decide +kernel
theorem dL_law_470 : decode cL_law 470 = .ok (.aload_n 0, 1) := by decide +kernel
theorem dL_law_471 : decode cL_law 471 = .ok (.iload_n 3, 1) := by decide +kernel
theorem dL_law_472 : decode cL_law 472 = .ok (.iconst 1, 1) := by decide +kernel
theorem dL_law_473 : decode cL_law 473 = .ok (.iadd, 1) := by decide +kernel
theorem dL_law_474 : decode cL_law 474 = .ok (.iaload, 1) := by decide +kernel
theorem dL_law_475 : decode cL_law 475 = .ok (.aload_n 0, 1) := by decide +kernel
theorem dL_law_476 : decode cL_law 476 = .ok (.iload_n 3, 1) := by decide +kernel
theorem dL_law_477 : decode cL_law 477 = .ok (.iconst 2, 1) := by decide +kernel
theorem dL_law_478 : decode cL_law 478 = .ok (.iadd, 1) := by decide +kernel
theorem dL_law_479 : decode cL_law 479 = .ok (.iaload, 1) := by decide +kernel
theorem dL_law_480 : decode cL_law 480 = .ok (.ifCond .eq 7, 3) := by decide +kernel
theorem dL_law_483 : decode cL_law 483 = .ok (.iconst 1, 1) := by decide +kernel
theorem dL_law_484 : decode cL_law 484 = .ok (.goto 4, 3) := by decide +kernel
theorem dL_law_487 : decode cL_law 487 = .ok (.iconst 0, 1) := by decide +kernel
theorem dL_law_488 : decode cL_law 488 = .ok (.invokevirtual 62, 3) := by decide +kernel
theorem dL_law_491 : decode cL_law 491 = .ok (.aload_n 2, 1) := by decide +kernel
theorem dL_law_492 : decode cL_law 492 = .ok (.aload_n 0, 1) := by decide +kernel
theorem dL_law_493 : decode cL_law 493 = .ok (.iload_n 3, 1) := by decide +kernel
theorem dL_law_494 : decode cL_law 494 = .ok (.iconst 1, 1) := by decide +kernel
theorem dL_law_495 : decode cL_law 495 = .ok (.iadd, 1) := by decide +kernel
theorem dL_law_496 : decode cL_law 496 = .ok (.iaload, 1) := by decide +kernel
theorem dL_law_497 : decode cL_law 497 = .ok (.aload_n 0, 1) := by decide +kernel
theorem dL_law_498 : decode cL_law 498 = .ok (.iload_n 3, 1) := by decide +kernel
theorem dL_law_499 : decode cL_law 499 = .ok (.iconst 2, 1) := by decide +kernel
theorem dL_law_500 : decode cL_law 500 = .ok (.iadd, 1) := by decide +kernel
theorem dL_law_501 : decode cL_law 501 = .ok (.iaload, 1) := by decide +kernel
theorem dL_law_502 : decode cL_law 502 = .ok (.ifCond .eq 7, 3) := by decide +kernel
theorem dL_law_505 : decode cL_law 505 = .ok (.iconst 1, 1) := by decide +kernel
theorem dL_law_506 : decode cL_law 506 = .ok (.goto 4, 3) := by decide +kernel
theorem dL_law_509 : decode cL_law 509 = .ok (.iconst 0, 1) := by decide +kernel
theorem dL_law_510 : decode cL_law 510 = .ok (.invokevirtual 65, 3) := by decide +kernel
theorem dL_law_513 : decode cL_law 513 = .ok (.if_icmp .eq 295, 3) := by decide +kernel
theorem dL_law_516 : decode cL_law 516 = .ok (.iconst 0, 1) := by decide +kernel
theorem dL_law_517 : decode cL_law 517 = .ok (.ireturn, 1) := by decide +kernel
theorem dL_law_518 : decode cL_law 518 = .ok (.aload_n 1, 1) := by decide +kernel
theorem dL_law_519 : decode cL_law 519 = .ok (.aload_n 0, 1) := by decide +kernel
theorem dL_law_520 : decode cL_law 520 = .ok (.iload_n 3, 1) := by decide +kernel
theorem dL_law_521 : decode cL_law 521 = .ok (.iconst 1, 1) := by decide +kernel
theorem dL_law_522 : decode cL_law 522 = .ok (.iadd, 1) := by decide +kernel
theorem dL_law_523 : decode cL_law 523 = .ok (.iaload, 1) := by decide +kernel
theorem dL_law_524 : decode cL_law 524 = .ok (.aload_n 0, 1) := by decide +kernel
theorem dL_law_525 : decode cL_law 525 = .ok (.iload_n 3, 1) := by decide +kernel
theorem dL_law_526 : decode cL_law 526 = .ok (.iconst 2, 1) := by decide +kernel
theorem dL_law_527 : decode cL_law 527 = .ok (.iadd, 1) := by decide +kernel
theorem dL_law_528 : decode cL_law 528 = .ok (.iaload, 1) := by decide +kernel
theorem dL_law_529 : decode cL_law 529 = .ok (.aload_n 0, 1) := by decide +kernel
theorem dL_law_530 : decode cL_law 530 = .ok (.iload_n 3, 1) := by decide +kernel
theorem dL_law_531 : decode cL_law 531 = .ok (.iconst 3, 1) := by decide +kernel
theorem dL_law_532 : decode cL_law 532 = .ok (.iadd, 1) := by decide +kernel
theorem dL_law_533 : decode cL_law 533 = .ok (.iaload, 1) := by decide +kernel
theorem dL_law_534 : decode cL_law 534 = .ok (.invokevirtual 66, 3) := by decide +kernel
theorem dL_law_537 : decode cL_law 537 = .ok (.aload_n 2, 1) := by decide +kernel
theorem dL_law_538 : decode cL_law 538 = .ok (.aload_n 0, 1) := by decide +kernel
theorem dL_law_539 : decode cL_law 539 = .ok (.iload_n 3, 1) := by decide +kernel
theorem dL_law_540 : decode cL_law 540 = .ok (.iconst 1, 1) := by decide +kernel
theorem dL_law_541 : decode cL_law 541 = .ok (.iadd, 1) := by decide +kernel
theorem dL_law_542 : decode cL_law 542 = .ok (.iaload, 1) := by decide +kernel
theorem dL_law_543 : decode cL_law 543 = .ok (.aload_n 0, 1) := by decide +kernel
theorem dL_law_544 : decode cL_law 544 = .ok (.iload_n 3, 1) := by decide +kernel
theorem dL_law_545 : decode cL_law 545 = .ok (.iconst 2, 1) := by decide +kernel
theorem dL_law_546 : decode cL_law 546 = .ok (.iadd, 1) := by decide +kernel
theorem dL_law_547 : decode cL_law 547 = .ok (.iaload, 1) := by decide +kernel
theorem dL_law_548 : decode cL_law 548 = .ok (.aload_n 0, 1) := by decide +kernel
theorem dL_law_549 : decode cL_law 549 = .ok (.iload_n 3, 1) := by decide +kernel
theorem dL_law_550 : decode cL_law 550 = .ok (.iconst 3, 1) := by decide +kernel
theorem dL_law_551 : decode cL_law 551 = .ok (.iadd, 1) := by decide +kernel
theorem dL_law_552 : decode cL_law 552 = .ok (.iaload, 1) := by decide +kernel
theorem dL_law_553 : decode cL_law 553 = .ok (.invokevirtual 70, 3) := by decide +kernel
theorem dL_law_556 : decode cL_law 556 = .ok (.if_icmp .eq 252, 3) := by decide +kernel
theorem dL_law_559 : decode cL_law 559 = .ok (.iconst 0, 1) := by decide +kernel
theorem dL_law_560 : decode cL_law 560 = .ok (.ireturn, 1) := by decide +kernel
theorem dL_law_561 : decode cL_law 561 = .ok (.aload_n 1, 1) := by decide +kernel
theorem dL_law_562 : decode cL_law 562 = .ok (.aload_n 0, 1) := by decide +kernel
theorem dL_law_563 : decode cL_law 563 = .ok (.iload_n 3, 1) := by decide +kernel
theorem dL_law_564 : decode cL_law 564 = .ok (.iconst 1, 1) := by decide +kernel
theorem dL_law_565 : decode cL_law 565 = .ok (.iadd, 1) := by decide +kernel
theorem dL_law_566 : decode cL_law 566 = .ok (.iaload, 1) := by decide +kernel
theorem dL_law_567 : decode cL_law 567 = .ok (.aload_n 0, 1) := by decide +kernel
theorem dL_law_568 : decode cL_law 568 = .ok (.iload_n 3, 1) := by decide +kernel
theorem dL_law_569 : decode cL_law 569 = .ok (.iconst 2, 1) := by decide +kernel
theorem dL_law_570 : decode cL_law 570 = .ok (.iadd, 1) := by decide +kernel
theorem dL_law_571 : decode cL_law 571 = .ok (.iaload, 1) := by decide +kernel
theorem dL_law_572 : decode cL_law 572 = .ok (.aload_n 0, 1) := by decide +kernel
theorem dL_law_573 : decode cL_law 573 = .ok (.iload_n 3, 1) := by decide +kernel
theorem dL_law_574 : decode cL_law 574 = .ok (.iconst 3, 1) := by decide +kernel
theorem dL_law_575 : decode cL_law 575 = .ok (.iadd, 1) := by decide +kernel
theorem dL_law_576 : decode cL_law 576 = .ok (.iaload, 1) := by decide +kernel
theorem dL_law_577 : decode cL_law 577 = .ok (.invokevirtual 71, 3) := by decide +kernel
theorem dL_law_580 : decode cL_law 580 = .ok (.aload_n 2, 1) := by decide +kernel
theorem dL_law_581 : decode cL_law 581 = .ok (.aload_n 0, 1) := by decide +kernel
theorem dL_law_582 : decode cL_law 582 = .ok (.iload_n 3, 1) := by decide +kernel
theorem dL_law_583 : decode cL_law 583 = .ok (.iconst 1, 1) := by decide +kernel
theorem dL_law_584 : decode cL_law 584 = .ok (.iadd, 1) := by decide +kernel
theorem dL_law_585 : decode cL_law 585 = .ok (.iaload, 1) := by decide +kernel
theorem dL_law_586 : decode cL_law 586 = .ok (.aload_n 0, 1) := by decide +kernel
theorem dL_law_587 : decode cL_law 587 = .ok (.iload_n 3, 1) := by decide +kernel
theorem dL_law_588 : decode cL_law 588 = .ok (.iconst 2, 1) := by decide +kernel
theorem dL_law_589 : decode cL_law 589 = .ok (.iadd, 1) := by decide +kernel
theorem dL_law_590 : decode cL_law 590 = .ok (.iaload, 1) := by decide +kernel
theorem dL_law_591 : decode cL_law 591 = .ok (.aload_n 0, 1) := by decide +kernel
theorem dL_law_592 : decode cL_law 592 = .ok (.iload_n 3, 1) := by decide +kernel
theorem dL_law_593 : decode cL_law 593 = .ok (.iconst 3, 1) := by decide +kernel
theorem dL_law_594 : decode cL_law 594 = .ok (.iadd, 1) := by decide +kernel
theorem dL_law_595 : decode cL_law 595 = .ok (.iaload, 1) := by decide +kernel
theorem dL_law_596 : decode cL_law 596 = .ok (.invokevirtual 74, 3) := by decide +kernel
theorem dL_law_599 : decode cL_law 599 = .ok (.if_icmp .eq 209, 3) := by decide +kernel
theorem dL_law_602 : decode cL_law 602 = .ok (.iconst 0, 1) := by decide +kernel
theorem dL_law_603 : decode cL_law 603 = .ok (.ireturn, 1) := by decide +kernel
theorem dL_law_604 : decode cL_law 604 = .ok (.aload_n 1, 1) := by decide +kernel
theorem dL_law_605 : decode cL_law 605 = .ok (.aload_n 0, 1) := by decide +kernel
theorem dL_law_606 : decode cL_law 606 = .ok (.iload_n 3, 1) := by decide +kernel
theorem dL_law_607 : decode cL_law 607 = .ok (.iconst 1, 1) := by decide +kernel
theorem dL_law_608 : decode cL_law 608 = .ok (.iadd, 1) := by decide +kernel
theorem dL_law_609 : decode cL_law 609 = .ok (.iaload, 1) := by decide +kernel
theorem dL_law_610 : decode cL_law 610 = .ok (.invokevirtual 75, 3) := by decide +kernel
theorem dL_law_613 : decode cL_law 613 = .ok (.aload_n 2, 1) := by decide +kernel
theorem dL_law_614 : decode cL_law 614 = .ok (.aload_n 0, 1) := by decide +kernel
theorem dL_law_615 : decode cL_law 615 = .ok (.iload_n 3, 1) := by decide +kernel
theorem dL_law_616 : decode cL_law 616 = .ok (.iconst 1, 1) := by decide +kernel
theorem dL_law_617 : decode cL_law 617 = .ok (.iadd, 1) := by decide +kernel
theorem dL_law_618 : decode cL_law 618 = .ok (.iaload, 1) := by decide +kernel
theorem dL_law_619 : decode cL_law 619 = .ok (.invokevirtual 78, 3) := by decide +kernel
theorem dL_law_622 : decode cL_law 622 = .ok (.if_icmp .eq 186, 3) := by decide +kernel
theorem dL_law_625 : decode cL_law 625 = .ok (.iconst 0, 1) := by decide +kernel
theorem dL_law_626 : decode cL_law 626 = .ok (.ireturn, 1) := by decide +kernel
theorem dL_law_627 : decode cL_law 627 = .ok (.aload_n 1, 1) := by decide +kernel
theorem dL_law_628 : decode cL_law 628 = .ok (.aload_n 0, 1) := by decide +kernel
theorem dL_law_629 : decode cL_law 629 = .ok (.iload_n 3, 1) := by decide +kernel
theorem dL_law_630 : decode cL_law 630 = .ok (.iconst 1, 1) := by decide +kernel
theorem dL_law_631 : decode cL_law 631 = .ok (.iadd, 1) := by decide +kernel
theorem dL_law_632 : decode cL_law 632 = .ok (.iaload, 1) := by decide +kernel
theorem dL_law_633 : decode cL_law 633 = .ok (.aload_n 0, 1) := by decide +kernel
theorem dL_law_634 : decode cL_law 634 = .ok (.iload_n 3, 1) := by decide +kernel
theorem dL_law_635 : decode cL_law 635 = .ok (.iconst 2, 1) := by decide +kernel
theorem dL_law_636 : decode cL_law 636 = .ok (.iadd, 1) := by decide +kernel
theorem dL_law_637 : decode cL_law 637 = .ok (.iaload, 1) := by decide +kernel
theorem dL_law_638 : decode cL_law 638 = .ok (.invokevirtual 79, 3) := by decide +kernel
theorem dL_law_641 : decode cL_law 641 = .ok (.aload_n 2, 1) := by decide +kernel
theorem dL_law_642 : decode cL_law 642 = .ok (.aload_n 0, 1) := by decide +kernel
theorem dL_law_643 : decode cL_law 643 = .ok (.iload_n 3, 1) := by decide +kernel
theorem dL_law_644 : decode cL_law 644 = .ok (.iconst 1, 1) := by decide +kernel
theorem dL_law_645 : decode cL_law 645 = .ok (.iadd, 1) := by decide +kernel
theorem dL_law_646 : decode cL_law 646 = .ok (.iaload, 1) := by decide +kernel
theorem dL_law_647 : decode cL_law 647 = .ok (.aload_n 0, 1) := by decide +kernel
theorem dL_law_648 : decode cL_law 648 = .ok (.iload_n 3, 1) := by decide +kernel
theorem dL_law_649 : decode cL_law 649 = .ok (.iconst 2, 1) := by decide +kernel
theorem dL_law_650 : decode cL_law 650 = .ok (.iadd, 1) := by decide +kernel
theorem dL_law_651 : decode cL_law 651 = .ok (.iaload, 1) := by decide +kernel
theorem dL_law_652 : decode cL_law 652 = .ok (.invokevirtual 82, 3) := by decide +kernel
theorem dL_law_655 : decode cL_law 655 = .ok (.if_icmp .eq 153, 3) := by decide +kernel
theorem dL_law_658 : decode cL_law 658 = .ok (.iconst 0, 1) := by decide +kernel
theorem dL_law_659 : decode cL_law 659 = .ok (.ireturn, 1) := by decide +kernel
theorem dL_law_660 : decode cL_law 660 = .ok (.aload_n 1, 1) := by decide +kernel
theorem dL_law_661 : decode cL_law 661 = .ok (.aload_n 0, 1) := by decide +kernel
theorem dL_law_662 : decode cL_law 662 = .ok (.iload_n 3, 1) := by decide +kernel
theorem dL_law_663 : decode cL_law 663 = .ok (.iconst 1, 1) := by decide +kernel
theorem dL_law_664 : decode cL_law 664 = .ok (.iadd, 1) := by decide +kernel
theorem dL_law_665 : decode cL_law 665 = .ok (.iaload, 1) := by decide +kernel
theorem dL_law_666 : decode cL_law 666 = .ok (.invokevirtual 83, 3) := by decide +kernel
theorem dL_law_669 : decode cL_law 669 = .ok (.aload_n 2, 1) := by decide +kernel
theorem dL_law_670 : decode cL_law 670 = .ok (.aload_n 0, 1) := by decide +kernel
theorem dL_law_671 : decode cL_law 671 = .ok (.iload_n 3, 1) := by decide +kernel
theorem dL_law_672 : decode cL_law 672 = .ok (.iconst 1, 1) := by decide +kernel
theorem dL_law_673 : decode cL_law 673 = .ok (.iadd, 1) := by decide +kernel
theorem dL_law_674 : decode cL_law 674 = .ok (.iaload, 1) := by decide +kernel
theorem dL_law_675 : decode cL_law 675 = .ok (.invokevirtual 86, 3) := by decide +kernel
theorem dL_law_678 : decode cL_law 678 = .ok (.if_icmp .eq 130, 3) := by decide +kernel
theorem dL_law_681 : decode cL_law 681 = .ok (.iconst 0, 1) := by decide +kernel
theorem dL_law_682 : decode cL_law 682 = .ok (.ireturn, 1) := by decide +kernel
theorem dL_law_683 : decode cL_law 683 = .ok (.aload_n 1, 1) := by decide +kernel
theorem dL_law_684 : decode cL_law 684 = .ok (.aload_n 0, 1) := by decide +kernel
theorem dL_law_685 : decode cL_law 685 = .ok (.iload_n 3, 1) := by decide +kernel
theorem dL_law_686 : decode cL_law 686 = .ok (.iconst 1, 1) := by decide +kernel
theorem dL_law_687 : decode cL_law 687 = .ok (.iadd, 1) := by decide +kernel
theorem dL_law_688 : decode cL_law 688 = .ok (.iaload, 1) := by decide +kernel
theorem dL_law_689 : decode cL_law 689 = .ok (.invokevirtual 87, 3) := by decide +kernel
theorem dL_law_692 : decode cL_law 692 = .ok (.aload_n 2, 1) := by decide +kernel
theorem dL_law_693 : decode cL_law 693 = .ok (.aload_n 0, 1) := by decide +kernel
theorem dL_law_694 : decode cL_law 694 = .ok (.iload_n 3, 1) := by decide +kernel
theorem dL_law_695 : decode cL_law 695 = .ok (.iconst 1, 1) := by decide +kernel
theorem dL_law_696 : decode cL_law 696 = .ok (.iadd, 1) := by decide +kernel
theorem dL_law_697 : decode cL_law 697 = .ok (.iaload, 1) := by decide +kernel
theorem dL_law_698 : decode cL_law 698 = .ok (.invokevirtual 90, 3) := by decide +kernel
theorem dL_law_701 : decode cL_law 701 = .ok (.if_icmp .eq 107, 3) := by decide +kernel
theorem dL_law_704 : decode cL_law 704 = .ok (.iconst 0, 1) := by decide +kernel
theorem dL_law_705 : decode cL_law 705 = .ok (.ireturn, 1) := by decide +kernel
theorem dL_law_706 : decode cL_law 706 = .ok (.aload_n 1, 1) := by decide +kernel
theorem dL_law_707 : decode cL_law 707 = .ok (.aload_n 0, 1) := by decide +kernel
theorem dL_law_708 : decode cL_law 708 = .ok (.iload_n 3, 1) := by decide +kernel
theorem dL_law_709 : decode cL_law 709 = .ok (.iconst 1, 1) := by decide +kernel
theorem dL_law_710 : decode cL_law 710 = .ok (.iadd, 1) := by decide +kernel
theorem dL_law_711 : decode cL_law 711 = .ok (.iaload, 1) := by decide +kernel
theorem dL_law_712 : decode cL_law 712 = .ok (.invokevirtual 91, 3) := by decide +kernel
theorem dL_law_715 : decode cL_law 715 = .ok (.aload_n 2, 1) := by decide +kernel
theorem dL_law_716 : decode cL_law 716 = .ok (.aload_n 0, 1) := by decide +kernel
theorem dL_law_717 : decode cL_law 717 = .ok (.iload_n 3, 1) := by decide +kernel
theorem dL_law_718 : decode cL_law 718 = .ok (.iconst 1, 1) := by decide +kernel
theorem dL_law_719 : decode cL_law 719 = .ok (.iadd, 1) := by decide +kernel
theorem dL_law_720 : decode cL_law 720 = .ok (.iaload, 1) := by decide +kernel
theorem dL_law_721 : decode cL_law 721 = .ok (.invokevirtual 94, 3) := by decide +kernel
theorem dL_law_724 : decode cL_law 724 = .ok (.if_icmp .eq 84, 3) := by decide +kernel
theorem dL_law_727 : decode cL_law 727 = .ok (.iconst 0, 1) := by decide +kernel
theorem dL_law_728 : decode cL_law 728 = .ok (.ireturn, 1) := by decide +kernel
theorem dL_law_729 : decode cL_law 729 = .ok (.aload_n 1, 1) := by decide +kernel
theorem dL_law_730 : decode cL_law 730 = .ok (.aload_n 0, 1) := by decide +kernel
theorem dL_law_731 : decode cL_law 731 = .ok (.iload_n 3, 1) := by decide +kernel
theorem dL_law_732 : decode cL_law 732 = .ok (.iconst 1, 1) := by decide +kernel
theorem dL_law_733 : decode cL_law 733 = .ok (.iadd, 1) := by decide +kernel
theorem dL_law_734 : decode cL_law 734 = .ok (.iaload, 1) := by decide +kernel
theorem dL_law_735 : decode cL_law 735 = .ok (.invokevirtual 95, 3) := by decide +kernel
theorem dL_law_738 : decode cL_law 738 = .ok (.aload_n 2, 1) := by decide +kernel
theorem dL_law_739 : decode cL_law 739 = .ok (.aload_n 0, 1) := by decide +kernel
theorem dL_law_740 : decode cL_law 740 = .ok (.iload_n 3, 1) := by decide +kernel
theorem dL_law_741 : decode cL_law 741 = .ok (.iconst 1, 1) := by decide +kernel
theorem dL_law_742 : decode cL_law 742 = .ok (.iadd, 1) := by decide +kernel
theorem dL_law_743 : decode cL_law 743 = .ok (.iaload, 1) := by decide +kernel
theorem dL_law_744 : decode cL_law 744 = .ok (.invokevirtual 98, 3) := by decide +kernel
theorem dL_law_747 : decode cL_law 747 = .ok (.if_icmp .eq 61, 3) := by decide +kernel
theorem dL_law_750 : decode cL_law 750 = .ok (.iconst 0, 1) := by decide +kernel
theorem dL_law_751 : decode cL_law 751 = .ok (.ireturn, 1) := by decide +kernel
theorem dL_law_752 : decode cL_law 752 = .ok (.aload_n 1, 1) := by decide +kernel
theorem dL_law_753 : decode cL_law 753 = .ok (.aload_n 0, 1) := by decide +kernel
theorem dL_law_754 : decode cL_law 754 = .ok (.iload_n 3, 1) := by decide +kernel
theorem dL_law_755 : decode cL_law 755 = .ok (.iconst 1, 1) := by decide +kernel
theorem dL_law_756 : decode cL_law 756 = .ok (.iadd, 1) := by decide +kernel
theorem dL_law_757 : decode cL_law 757 = .ok (.iaload, 1) := by decide +kernel
theorem dL_law_758 : decode cL_law 758 = .ok (.aload_n 0, 1) := by decide +kernel
theorem dL_law_759 : decode cL_law 759 = .ok (.iload_n 3, 1) := by decide +kernel
theorem dL_law_760 : decode cL_law 760 = .ok (.iconst 2, 1) := by decide +kernel
theorem dL_law_761 : decode cL_law 761 = .ok (.iadd, 1) := by decide +kernel
theorem dL_law_762 : decode cL_law 762 = .ok (.iaload, 1) := by decide +kernel
theorem dL_law_763 : decode cL_law 763 = .ok (.invokevirtual 99, 3) := by decide +kernel
theorem dL_law_766 : decode cL_law 766 = .ok (.aload_n 2, 1) := by decide +kernel
theorem dL_law_767 : decode cL_law 767 = .ok (.aload_n 0, 1) := by decide +kernel
theorem dL_law_768 : decode cL_law 768 = .ok (.iload_n 3, 1) := by decide +kernel
theorem dL_law_769 : decode cL_law 769 = .ok (.iconst 1, 1) := by decide +kernel
theorem dL_law_770 : decode cL_law 770 = .ok (.iadd, 1) := by decide +kernel
theorem dL_law_771 : decode cL_law 771 = .ok (.iaload, 1) := by decide +kernel
theorem dL_law_772 : decode cL_law 772 = .ok (.aload_n 0, 1) := by decide +kernel
theorem dL_law_773 : decode cL_law 773 = .ok (.iload_n 3, 1) := by decide +kernel
theorem dL_law_774 : decode cL_law 774 = .ok (.iconst 2, 1) := by decide +kernel
theorem dL_law_775 : decode cL_law 775 = .ok (.iadd, 1) := by decide +kernel
theorem dL_law_776 : decode cL_law 776 = .ok (.iaload, 1) := by decide +kernel
theorem dL_law_777 : decode cL_law 777 = .ok (.invokevirtual 102, 3) := by decide +kernel
theorem dL_law_780 : decode cL_law 780 = .ok (.if_icmp .eq 28, 3) := by decide +kernel
theorem dL_law_783 : decode cL_law 783 = .ok (.iconst 0, 1) := by decide +kernel
theorem dL_law_784 : decode cL_law 784 = .ok (.ireturn, 1) := by decide +kernel
theorem dL_law_785 : decode cL_law 785 = .ok (.aload_n 1, 1) := by decide +kernel
theorem dL_law_786 : decode cL_law 786 = .ok (.aload_n 0, 1) := by decide +kernel
theorem dL_law_787 : decode cL_law 787 = .ok (.iload_n 3, 1) := by decide +kernel
theorem dL_law_788 : decode cL_law 788 = .ok (.iconst 1, 1) := by decide +kernel
theorem dL_law_789 : decode cL_law 789 = .ok (.iadd, 1) := by decide +kernel
theorem dL_law_790 : decode cL_law 790 = .ok (.iaload, 1) := by decide +kernel
theorem dL_law_791 : decode cL_law 791 = .ok (.invokevirtual 103, 3) := by decide +kernel
theorem dL_law_794 : decode cL_law 794 = .ok (.aload_n 2, 1) := by decide +kernel
theorem dL_law_795 : decode cL_law 795 = .ok (.aload_n 0, 1) := by decide +kernel
theorem dL_law_796 : decode cL_law 796 = .ok (.iload_n 3, 1) := by decide +kernel
theorem dL_law_797 : decode cL_law 797 = .ok (.iconst 1, 1) := by decide +kernel
theorem dL_law_798 : decode cL_law 798 = .ok (.iadd, 1) := by decide +kernel
theorem dL_law_799 : decode cL_law 799 = .ok (.iaload, 1) := by decide +kernel
theorem dL_law_800 : decode cL_law 800 = .ok (.invokevirtual 106, 3) := by decide +kernel
theorem dL_law_803 : decode cL_law 803 = .ok (.if_icmp .eq 5, 3) := by decide +kernel
theorem dL_law_806 : decode cL_law 806 = .ok (.iconst 0, 1) := by decide +kernel
theorem dL_law_807 : decode cL_law 807 = .ok (.ireturn, 1) := by decide +kernel
theorem dL_law_808 : decode cL_law 808 = .ok (.iinc 3 6, 3) := by decide +kernel
theorem dL_law_811 : decode cL_law 811 = .ok (.goto (-793), 3) := by decide +kernel
theorem dL_law_814 : decode cL_law 814 = .ok (.iconst 1, 1) := by decide +kernel
theorem dL_law_815 : decode cL_law 815 = .ok (.ireturn, 1) := by decide +kernel
end
section
/-! THE PICTURE OF ALL OBJECTS: numbers instead of addresses, whole numbers instead of words of 32 bits -/
section HEAP
abbrev AH : Type := (Nat → Int → Int) × (Nat → Int → Int64) × (Nat → Int → Nat)
def vI (z : Int) : Value := .int (Int32.ofInt z)
/-- a value of the picture, its reference's number turned into an address -/
def cv (ad : Nat → Nat) (v : Value) : Value := match v with
  | .ref k => .ref (ad k)
  | w => w
def sw {α : Type} (f : Nat → Int → α) (k : Nat) (z : Int) (v : α) : Nat → Int → α := fun q => if q = k then (fun j => if j = z then v else f k j) else f q
def hwi (h : AH) (k : Nat) (z : Int) (v : Int) : AH := (sw h.1 k z v, h.2)
def hwl (h : AH) (k : Nat) (z : Int) (v : Int64) : AH := (h.1, sw h.2.1 k z v, h.2.2)
def hwr (h : AH) (k : Nat) (z : Int) (v : Nat) : AH := (h.1, h.2.1, sw h.2.2 k z v)
def ir (z : Int) : Prop := -2147483648 ≤ z ∧ z ≤ 2147483647
/-- kinds: a class's number plus one; 20 ints, 21 booleans, 22 longs, 23 Rows, 24 KeptOnes, 25 a static table of ints -/
def obT : List (Nat × Nat) := [(0, 0), (11, 0), (9, 0), (20, 400), (20, 5), (23, 8), (24, 12), (3, 0), (20, 60), (20, 5), (10, 0), (22, 2560), (7, 0), (20, 3240), (5, 0), (22, 2560), (22, 24), (1, 0), (20, 64), (0, 0),
  (2, 0), (20, 16), (20, 16), (20, 16), (20, 16), (20, 24), (20, 24), (20, 24), (21, 24), (21, 24), (20, 5), (0, 0), (0, 0), (0, 0), (0, 0), (0, 0), (0, 0), (0, 0), (0, 0), (0, 0),
  (2, 0), (20, 16), (20, 16), (20, 16), (20, 16), (20, 24), (20, 24), (20, 24), (21, 24), (21, 24), (20, 5), (0, 0), (0, 0), (0, 0), (0, 0), (0, 0), (0, 0), (0, 0), (0, 0), (0, 0),
  (6, 0), (23, 40), (20, 40), (23, 64), (20, 64), (20, 40), (20, 17)]
def obM : List (Nat × Nat) := [(12, 0), (0, 0), (20, 400), (20, 2), (20, 128), (20, 2), (20, 240), (20, 10), (20, 10), (20, 100), (20, 10), (0, 0), (20, 24), (20, 192), (0, 0), (20, 60), (0, 0), (20, 5), (22, 72), (22, 2880), (20, 4050), (20, 5), (0, 0), (20, 40), (20, 40), (20, 320), (0, 0), (20, 40)]
def obS : List (Nat × Nat) := [(25, 5), (25, 4), (25, 5), (25, 2)]
def ob (k : Nat) : Nat × Nat :=
  if k < 67 then obT.getD k (0, 0) else if 80 ≤ k ∧ k < 92 then (4, 0) else if 100 ≤ k ∧ k < 212 then (8, 0) else if 300 ≤ k ∧ k < 412 then (20, 8) else if 500 ≤ k ∧ k < 528 then obM.getD (k - 500) (0, 0) else if 600 ≤ k ∧ k < 604 then obS.getD (k - 600) (0, 0) else (0, 0)
def obk (k : Nat) : Nat := (ob k).1
def obn (k : Nat) : Nat := (ob k).2
theorem obk_row {r : Nat} (h : 100 ≤ r ∧ r < 212) : obk r = 8 := by
  unfold obk ob; rw [if_neg (by omega), if_neg (by omega), if_pos h]
theorem obk_rw {r : Nat} (h : 100 ≤ r ∧ r < 212) : obk (r + 200) = 20 := by
  unfold obk ob; rw [if_neg (by omega), if_neg (by omega), if_neg (by omega), if_pos (by omega)]
theorem obn_rw {r : Nat} (h : 100 ≤ r ∧ r < 212) : obn (r + 200) = 8 := by
  unfold obn ob; rw [if_neg (by omega), if_neg (by omega), if_neg (by omega), if_pos (by omega)]
theorem obk_kept {r : Nat} (h : 80 ≤ r ∧ r < 92) : obk r = 4 := by
  unfold obk ob; rw [if_neg (by omega), if_pos h]
/-- what a field holds: (0, _) a whole number, (1, n) always the object n, (2, n) always the n-th behind its own, (3, _) an object that may change -/
def fcT : List (List (Nat × Nat)) := [[(1, 18), (0, 0)],
  [(2, 1), (2, 2), (2, 3), (2, 4), (0, 0), (2, 5), (2, 6), (2, 7), (2, 8), (2, 9), (0, 0), (2, 10)],
  [(1, 8), (0, 0)], [(0, 0), (0, 0), (0, 0), (0, 0)], [(1, 15), (1, 16)],
  [(1, 61), (1, 62), (0, 0), (1, 63), (1, 64), (0, 0), (1, 65), (0, 0), (1, 66)],
  [(1, 13)], [(2, 200), (0, 0), (0, 0)], [(1, 3), (0, 0), (1, 4), (0, 0)], [(1, 11)],
  [(1, 2), (3, 0), (3, 0), (1, 5), (1, 6), (0, 0), (1, 7), (1, 9), (1, 10), (1, 12), (1, 14), (1, 17), (1, 60), (0, 0)],
  [(0, 0), (1, 502), (1, 503), (1, 504), (1, 505), (1, 506), (1, 507), (1, 508), (1, 509), (1, 510), (0, 0), (1, 512), (1, 513), (0, 0), (1, 515), (0, 0), (1, 517), (1, 518), (1, 519), (1, 520), (1, 521), (0, 0), (1, 523), (1, 524), (1, 525), (0, 0), (1, 527)]]
def fcode (c j : Nat) : Nat × Nat := (fcT.getD c []).getD j (0, 0)
def frn (r : Int → Nat) (k c j : Nat) : Nat := if (fcode c j).1 = 1 then (fcode c j).2 else if (fcode c j).1 = 2 then k + (fcode c j).2 else r j
def fvv (ad : Nat → Nat) (f : Int → Int) (r : Int → Nat) (k c j : Nat) : Value := if (fcode c j).1 = 0 then vI (f j) else .ref (ad (frn r k c j))
abbrev cls : List vw_C := [(RX0, TX0, 2), (RX1, TX1, 12), (RX2, TX2, 2), (RX3, TX3, 4), (RX4, TX4, 2), (RX5, TX5, 9), (RX6, TX6, 1), (RX7, TX7, 3), (RX9, TX9, 4), (RX10, TX10, 1), (RX11, TX11, 14), (RX12, TX12, 27)]
def ctys (cA : Nat → ClassId) : List (ClassId × FieldType) := [(cA 0, .int), (cA 1, .boolean), (cA 2, .long), (cA 3, .object "OneWordWrong$Row"), (cA 4, .object "OneWordWrong$KeptOne")]
/-- one object of the picture and its cell -/
def relk (D : va_G) (cA : Nat → ClassId) (ad : Nat → Nat) (k : Nat) (f : Int → Int) (g : Int → Int64) (r : Int → Nat) (co : Option Cell) : Prop :=
  (obk k = 20 → co = some (arrV (cA 0) (obn k) (fun j => vI (f j)))) ∧
  (obk k = 21 → co = some (arrV (cA 1) (obn k) (fun j => vI (f j)))) ∧
  (obk k = 22 → co = some (arrV (cA 2) (obn k) (fun j => .long (g j)))) ∧
  (obk k = 23 → co = some (arrV (cA 3) (obn k) (fun j => .ref (ad (r j))))) ∧
  (obk k = 24 → co = some (arrV (cA 4) (obn k) (fun j => .ref (ad (r j))))) ∧
  (∀ c : Nat, c < 12 → obk k = c + 1 → ∃ (q : vw_C) (cell : Cell), cls[c]? = some q ∧ co = some cell ∧ cell.cls = D.1 c ∧ cell.vm = .none ∧ ∀ j, j < q.2.2 → cell.slots[D.2 c j]? = some (fvv ad f r k c j))
def Rel (D : va_G) (cA : Nat → ClassId) (ad : Nat → Nat) (h : AH) (H : Heap) : Prop :=
  (∀ (k : Nat) (j : Int), ir (h.1 k j)) ∧ ∀ k : Nat, relk D cA ad k (h.1 k) (h.2.1 k) (h.2.2 k) (H[ad k]?)
/-- the numbers' addresses are apart, and of the kind that may be written -/
def Apart (ad : Nat → Nat) (A : Nat → Prop) : Prop := (∀ k q : Nat, obk k ≠ 0 → obk q ≠ 0 → obk k ≠ 25 → obk q ≠ 25 → ad k = ad q → k = q) ∧ ∀ k : Nat, obk k ≠ 0 → obk k ≠ 25 → A (ad k)
def tbS : List (List Int) := [[3, 4, 6, 5, 5], [9, 3, 15, 15], [9, 9, 9, 1, 1], [4, 99]]
def tb (k : Nat) (j : Int) : Int := (tbS.getD (k - 600) []).getD j.toNat 0
def nmS : List String := ["FIRST_PRICES", "WORD_TOPS", "RULE_TOPS", "PRICE_TOPS"]
def Stat (ad : Nat → Nat) (A : Nat → Prop) (U : State) (H : Heap) : Prop := ∀ k : Nat, obk k = 25 → va_Z RX11 (nmS.getD (k - 600) "") "[I" (.ref (ad k)) A U H ∧ va_T .int (ad k) (obn k) (fun j => vI (tb k j)) A U H
def isNest : Cond → Bool
  | .fieldLinkNest _ _ _ _ _ _ => true
  | .methodLinkNest _ _ _ _ => true
  | .declares _ => true
  | _ => false
def wsAll : List Cond := lw_tbl.filter goodWord
def nestAll : List Cond := lw_tbl.filter isNest
def Nest (U : State) : Prop := ∀ w ∈ nestAll, va_Nw w U
def Wst (D : va_G) (cA : Nat → ClassId) (ad : Nat → Nat) (A : Nat → Prop) (U : State) (H : Heap) : Prop := va_K D cls (ctys cA) U ∧ Apart ad A ∧ Stat ad A U H ∧ Nest U
def World (D : va_G) (cA : Nat → ClassId) (ad : Nat → Nat) (A : Nat → Prop) (h : AH) (U : State) : Prop := Rel D cA ad h U.heap ∧ Wst D cA ad A U U.heap
theorem memw {w : Cond} (i : Nat) (h : lw_tbl[i]? = some w) (g : goodWord w = true) : w ∈ wsAll := List.mem_filter.mpr ⟨List.mem_of_getElem? h, g⟩
theorem memn {w : Cond} (i : Nat) (h : lw_tbl[i]? = some w) (g : isNest w = true) : w ∈ nestAll := List.mem_filter.mpr ⟨List.mem_of_getElem? h, g⟩
theorem wsAll_good : ∀ w ∈ wsAll, goodWord w = true := fun _ h => (List.mem_filter.mp h).2
theorem Nest.moved {u U : State} (hvm : u.vm = U.vm) (h : Nest u) : Nest U := fun w hw => va_Nw.same (by
  have := (List.mem_filter.mp hw).2
  cases w <;> first | rfl | (simp [isNest] at this)) hvm (h w hw)
theorem Nest.warm {s U : State} (hW : s.WarmedH U.vm) (h : Nest s) : Nest U := fun w hw => by
  have hn := (List.mem_filter.mp hw).2
  have h0 := h w hw
  cases w <;> first | (simp [isNest] at hn; done) | exact va_Nw.warmF hW h0 | exact va_Nw.warmM hW h0 | exact va_tabs rfl (rfl : (s.setVm U.vm).vm = U.vm) ((Cond.declares_setVm (args := #[]) hW.alike _).trans h0)
end HEAP
end
section
/-! WALKS OVER THE PICTURE: 'G pc L st h' says: from there the method comes to its end as it should -/
section CTX
theorem Stat.moved {ad : Nat → Nat} {A : Nat → Prop} {u U : State} {H : Heap} (hvm : u.vm.Alike U.vm) (h : Stat ad A u H) : Stat ad A U H := fun k hk => ⟨va_Z.moved hvm (h k hk).1, va_T.moved hvm (h k hk).2⟩
theorem Stat.kept {ad : Nat → Nat} {A : Nat → Prop} {U : State} {H H1 : Heap} (h : Stat ad A U H) (hq : ∀ a : Nat, a < H.size → ¬ A a → H1[a]? = H[a]?) : Stat ad A U H1 := fun k hk => ⟨(h k hk).1.kept hq, (h k hk).2.kept hq⟩
theorem Wst.warm {D : va_G} {cA : Nat → ClassId} {ad : Nat → Nat} {A : Nat → Prop} {s U : State} {H : Heap} (hW : s.WarmedH U.vm) (h : Wst D cA ad A s H) : Wst D cA ad A U H := ⟨va_K.moved hW.alike h.1, h.2.1, h.2.2.1.moved hW.alike, h.2.2.2.warm hW⟩
theorem Wst.kept {D : va_G} {cA : Nat → ClassId} {ad : Nat → Nat} {A : Nat → Prop} {s : State} {H H1 : Heap} (h : Wst D cA ad A s H) (hq : ∀ a : Nat, a < H.size → ¬ A a → H1[a]? = H[a]?) : Wst D cA ad A s H1 := ⟨h.1, h.2.1, h.2.2.1.kept hq, h.2.2.2⟩
theorem World.blind {D : va_G} {cA : Nat → ClassId} {ad : Nat → Nat} {A : Nat → Prop} {h : AH} {av : List Value} : FrameBlind (va_Pc av (World D cA ad A h)) := fun a U g mk q => by
  obtain ⟨q0, qR, qK, qA, qS, qN⟩ := q
  exact ⟨q0, qR, va_K.moved (u := U) (U := U.calling g mk a) (Vm.Alike.refl U.vm) qK, qA, Stat.moved (u := U) (U := U.calling g mk a) (Vm.Alike.refl U.vm) qS, Nest.moved (u := U) (U := U.calling g mk a) rfl qN⟩
/-- a contract over the picture: with these arguments and this picture the method returns, with an answer and a picture of which Q holds; it makes no cell -/
def AMet (y : MethodName) (cc : ByteArray) (nL : Nat) (ret : Option FieldType) (fr lo : Nat) (as : List Value) (h : AH) (Q : Option Value → AH → Prop) : Prop :=
  ∀ (l : Launch) (D : va_G) (cA : Nat → ClassId) (ad : Nat → Nat) (A : Nat → Prop), Met l y (.code y cc nL ret :: wsAll) { frames := fr, cells := 0, slots := 0, locals := lo } (va_Pc (as.map (cv ad)) (World D cA ad A h))
    (fun _ st oc t => (∃ (v : Option Value) (h' : AH), oc = .returned (v.map (cv ad)) ∧ Q v h' ∧ World D cA ad A h' t) ∧ va_F A st t) 0 0 A
/-- what a walk rests on -/
def Fx (p : Program) (R : Room) (s : State) (m : MethodId) (args : Array Value) (c : Code) (cc : ByteArray) (own : String) (nL fr lo : Nat) (D : va_G) (cA : Nat → ClassId) (ad : Nat → Nat) (A : Nat → Prop) (cells slots : Nat) : Prop :=
  p.tables.exec = Jvm.exec ∧ c.code = cc ∧ c.maxLocals = nL ∧ s.vm.findClass own = some m.cls ∧ (∀ w ∈ wsAll, w.before args s = true) ∧ Wst D cA ad A s s.heap ∧ fr ≤ R.frames ∧ lo ≤ R.locals ∧ cells ≤ R.cells ∧ slots ≤ R.slots
def AW (p : Program) (l : Launch) (e : Env) (R : Room) (s : State) (m : MethodId) (args : Array Value) (below : List Frame) (meth : Method) (c : Code) (nL : Nat) (D : va_G) (cA : Nat → ClassId) (ad : Nat → Nat) (A : Nat → Prop) (cells slots : Nat) (Q : State → Prop) (pc : Nat) (L : List (Nat × Value)) (st : List Value) (h : AH) : Prop :=
  ∀ (H : Heap) (locs : List Loc) (ls : Array Slot), Rel D cA ad h H → va_S A s.heap H locs → lv_has ls nL (L.map (fun q => (q.1, cv ad q.2))) → W p l e R s m args below meth c H locs cells slots Q (F0 m pc ls (st.map (cv ad)))
abbrev GT : Type := Nat → List (Nat × Value) → List Value → AH → Prop
def Cx (cc : ByteArray) (own : String) (nL fr lo : Nat) (G : GT) : Prop :=
  ∃ (p : Program) (l : Launch) (e : Env) (R : Room) (s : State) (m : MethodId) (args : Array Value) (below : List Frame) (meth : Method) (c : Code) (D : va_G) (cA : Nat → ClassId) (ad : Nat → Nat) (A : Nat → Prop) (cells slots : Nat) (Q : State → Prop),
    Fx p R s m args c cc own nL fr lo D cA ad A cells slots ∧ G = AW p l e R s m args below meth c nL D cA ad A cells slots Q
def Qm (D : va_G) (cA : Nat → ClassId) (ad : Nat → Nat) (A : Nat → Prop) (QR : Option Value → AH → Prop) : Array Value → State → Outcome → State → Prop := fun _ st oc t => (∃ (v : Option Value) (h' : AH), oc = .returned (v.map (cv ad)) ∧ QR v h' ∧ World D cA ad A h' t) ∧ va_F A st t
def CxM (cc : ByteArray) (own : String) (nL fr lo : Nat) (ret : Option FieldType) (QR : Option Value → AH → Prop) (G : GT) : Prop :=
  ∃ (p : Program) (l : Launch) (e : Env) (R : Room) (s : State) (m : MethodId) (args : Array Value) (below : List Frame) (meth : Method) (c : Code) (D : va_G) (cA : Nat → ClassId) (ad : Nat → Nat) (A : Nat → Prop),
    Fx p R s m args c cc own nL fr lo D cA ad A 0 0 ∧ meth.sig.returnType = ret ∧ meth.locks = false ∧ G = AW p l e R s m args below meth c nL D cA ad A 0 0 (MQ below (Qm D cA ad A QR) args s 0 0 A)
theorem CxM.cx {cc : ByteArray} {own : String} {nL fr lo : Nat} {ret : Option FieldType} {QR : Option Value → AH → Prop} {G : GT} (h : CxM cc own nL fr lo ret QR G) : Cx cc own nL fr lo G := by
  obtain ⟨p, l, e, R, s, m, args, below, meth, c, D, cA, ad, A, F, -, -, rfl⟩ := h
  exact ⟨p, l, e, R, s, m, args, below, meth, c, D, cA, ad, A, 0, 0, _, F, rfl⟩
theorem cv_cat (ad : Nat → Nat) (v : Value) : (cv ad v).category = v.category := by cases v <;> rfl
theorem lgsl_cv (ad : Nat → Nat) (as : List Value) : (lg_sl (as.map (cv ad))).length = (lg_sl as).length := by
  induction as with
  | nil => rfl
  | cons v vs ih =>
    simp only [lg_sl, List.map_cons, List.flatMap_cons, List.length_append] at ih ⊢
    rw [cv_cat, ih]
    by_cases hv : v.category = 2 <;> simp [hv]
theorem lvargs_cv (ad : Nat → Nat) : ∀ (as : List Value) (i : Nat), lv_args i (as.map (cv ad)) = (lv_args i as).map (fun q => (q.1, cv ad q.2))
  | [], _ => rfl
  | v :: vs, i => by
    simp only [List.map_cons, lv_args, cv_cat]
    rw [lvargs_cv ad vs]
/-- a contract out of a walk -/
theorem AMet.of {y : MethodName} {cc : ByteArray} {nL : Nat} {ret : Option FieldType} {fr lo : Nat} {as : List Value} {h : AH} {QR : Option Value → AH → Prop} (hy : plainName y.cls = true) (hn : (lg_sl as).length ≤ nL)
    (hb : ∀ G : GT, CxM cc y.cls nL fr lo ret QR G → G 0 (lv_args 0 as) [] h) : AMet y cc nL ret fr lo as h QR := by
  intro l D cA ad A
  refine Met.ofW (cc := cc) (maxL := nL) (ret := ret) hy rfl ?_
  intro p e s m args below meth c s₁ B hml hv
  obtain ⟨rfl, hR, hW⟩ := hv
  have hts := atoms_spec (ws := .code y cc nL ret :: wsAll) B.pre
  have hown : s.vm.findClass y.cls = some m.cls := findClass_of_methodNamed B.named
  have hF : Fx p (headSpec (.code y cc nL ret :: wsAll) { frames := fr, cells := 0, slots := 0, locals := lo }).room s m (as.map (cv ad)).toArray c cc y.cls nL fr lo D cA ad A 0 0 := ⟨B.exec, B.bytes, hml, hown, fun w hw => hts w (List.mem_cons_of_mem _ hw), hW, Nat.le_refl _, Nat.le_refl _, Nat.zero_le _, Nat.zero_le _⟩
  have K := hb _ ⟨p, l, e, _, s, m, _, below, meth, c, D, cA, ad, A, hF, B.returns, B.notSynchronized, rfl⟩
  have hl := lv_entry (as.map (cv ad)) (n := nL) (by rw [lgsl_cv]; exact hn)
  rw [lg_entry_eq]
  rw [lvargs_cv] at hl
  exact K s.heap [] _ hR va_S.rf hl
end CTX
end
section
/-! ROWS OF A WALK OVER THE PICTURE, an instruction each (printed by gen/rules.py) -/
section RULES
variable {cc : ByteArray} {own : String} {nL fr lo : Nat} {G : GT} {pc : Nat} {L L' : List (Nat × Value)} {st : List Value} {h : AH}
theorem tI {z : Int} (h : ir z) : (Int32.ofInt z).toInt = z := by
  obtain ⟨h1, h2⟩ := h
  exact Int32.toInt_ofInt_of_le h1 (by omega)
theorem oI (x : Int32) : Int32.ofInt x.toInt = x := Int32.ofInt_toInt x
theorem irT (x : Int32) : ir x.toInt := ⟨Int32.le_toInt x, by have := Int32.toInt_lt x; omega⟩
theorem clI {z : Int} (h0 : 0 ≤ z) (h : z ≤ 2147483647) : (Int32.ofInt z).toNatClampNeg = z.toNat := by
  show (Int32.ofInt z).toInt.toNat = z.toNat
  rw [tI ⟨by omega, h⟩]
theorem inI {z : Int} {N : Nat} (h : 0 ≤ z ∧ z < N) (hN : N ≤ 2147483647) : ¬ (Int32.ofInt z < 0 ∨ N ≤ (Int32.ofInt z).toNatClampNeg) := by
  rw [clI h.1 (by omega)]
  intro q
  rcases q with q | q
  · have := Int32.lt_iff_toInt_lt.mp q
    rw [tI ⟨by omega, by omega⟩] at this
    simp at this
    omega
  · omega
theorem ltI {a b : Int} (ha : ir a) (hb : ir b) : Int32.ofInt a < Int32.ofInt b ↔ a < b := by rw [Int32.lt_iff_toInt_lt, tI ha, tI hb]
theorem leI {a b : Int} (ha : ir a) (hb : ir b) : Int32.ofInt a ≤ Int32.ofInt b ↔ a ≤ b := by rw [Int32.le_iff_toInt_le, tI ha, tI hb]
theorem eqI {a b : Int} (ha : ir a) (hb : ir b) : Int32.ofInt a = Int32.ofInt b ↔ a = b := ⟨fun e => by rw [← tI ha, ← tI hb, e], fun e => by rw [e]⟩
theorem zI : (0 : Int32) = Int32.ofInt 0 := rfl
theorem lvq {ad : Nat → Nat} {ls : Array Slot} (hl : lv_has ls nL (L.map (fun q => (q.1, cv ad q.2)))) {q i : Nat} {v : Value} (hq : L[q]? = some (i, v)) : ls[i]? = some (.val (cv ad v)) := lv_at hl q (by rw [List.getElem?_map, hq]; rfl)
theorem flt {ad : Nat → Nat} (i : Nat) (L : List (Nat × Value)) : (L.map (fun q => (q.1, cv ad q.2))).filter (fun q => !(q.1 == i) && !(q.1 + 1 == i && q.2.category == 2)) = (L.filter (fun q => !(q.1 == i) && !(q.1 + 1 == i && q.2.category == 2))).map (fun q => (q.1, cv ad q.2)) := by
  rw [List.filter_map]
  congr 2
  funext q
  simp only [Function.comp, cv_cat]
theorem flt2 {ad : Nat → Nat} (i : Nat) (L : List (Nat × Value)) : (L.map (fun q => (q.1, cv ad q.2))).filter (fun q => !(q.1 == i) && (!(q.1 == i + 1) && !(q.1 + 1 == i && q.2.category == 2))) = (L.filter (fun q => !(q.1 == i) && (!(q.1 == i + 1) && !(q.1 + 1 == i && q.2.category == 2)))).map (fun q => (q.1, cv ad q.2)) := by
  rw [List.filter_map]
  congr 2
  funext q
  simp only [Function.comp, cv_cat]

theorem A_rng (hG : Cx cc own nL fr lo G) (k : (∀ (q : Nat) (j : Int), ir (h.1 q j)) → G (pc) L (st) h) : G (pc) L (st) h := by
  obtain ⟨p, l, e, R, s, m, args, below, meth, c, D, cA, ad, A, cells, slots, Q, F, rfl⟩ := hG
  intro H locs ls hR hS hl
  exact k hR.1 H locs ls hR hS hl

theorem A_sub (hG : Cx cc own nL fr lo G) (ks : List Nat) (hk : lv_pick L ks = L') (k : G (pc) L' (st) h) : G (pc) L (st) h := by
  obtain ⟨p, l, e, R, s, m, args, below, meth, c, D, cA, ad, A, cells, slots, Q, F, rfl⟩ := hG
  intro H locs ls hR hS hl
  refine k H locs ls hR hS (lv_sub hl ks ?_)
  clear k
  subst hk
  simp only [lv_pick, List.getElem?_map]
  induction ks with
  | nil => rfl
  | cons x xs ih =>
    simp only [List.filterMap_cons]
    cases L[x]? with
    | none => simpa using ih
    | some q => simpa using ih

theorem A_iconst (hG : Cx cc own nL fr lo G) {n : Int} (d : decode cc pc = .ok (.iconst n, 1)) (k : G (pc + 1) L (vI n :: st) h) : G (pc) L (st) h := by
  obtain ⟨p, l, e, R, s, m, args, below, meth, c, D, cA, ad, A, cells, slots, Q, F, rfl⟩ := hG
  intro H locs ls hR hS hl
  exact lv_iconst F.1 F.2.1 d rfl (k H locs ls hR hS hl)

theorem A_bipush (hG : Cx cc own nL fr lo G) {n : Int} (d : decode cc pc = .ok (.bipush n, 2)) (hv : (Int8.ofInt n).toInt32 = Int32.ofInt n) (k : G (pc + 2) L (vI n :: st) h) : G (pc) L (st) h := by
  obtain ⟨p, l, e, R, s, m, args, below, meth, c, D, cA, ad, A, cells, slots, Q, F, rfl⟩ := hG
  intro H locs ls hR hS hl
  exact lv_bipush F.1 F.2.1 d hv (k H locs ls hR hS hl)

theorem A_sipush (hG : Cx cc own nL fr lo G) {n : Int} (d : decode cc pc = .ok (.sipush n, 3)) (hv : (Int16.ofInt n).toInt32 = Int32.ofInt n) (k : G (pc + 3) L (vI n :: st) h) : G (pc) L (st) h := by
  obtain ⟨p, l, e, R, s, m, args, below, meth, c, D, cA, ad, A, cells, slots, Q, F, rfl⟩ := hG
  intro H locs ls hR hS hl
  exact lv_sipush F.1 F.2.1 d hv (k H locs ls hR hS hl)

theorem A_lconst (hG : Cx cc own nL fr lo G) {n : Fin 2} {v : Int64} (d : decode cc pc = .ok (.lconst n, 1)) (hv : Int64.ofNat (n : Nat) = v) (k : G (pc + 1) L (.long v :: st) h) : G (pc) L (st) h := by
  obtain ⟨p, l, e, R, s, m, args, below, meth, c, D, cA, ad, A, cells, slots, Q, F, rfl⟩ := hG
  intro H locs ls hR hS hl
  exact lv_lconst F.1 F.2.1 d hv (k H locs ls hR hS hl)

theorem A_ldc (hG : Cx cc own nL fr lo G) {i : Nat} {n : Int} (d : decode cc pc = .ok (.ldc i, 2)) (hc : Cond.constant own i (Int32.ofInt n) ∈ wsAll) (k : G (pc + 2) L (vI n :: st) h) : G (pc) L (st) h := by
  obtain ⟨p, l, e, R, s, m, args, below, meth, c, D, cA, ad, A, cells, slots, Q, F, rfl⟩ := hG
  intro H locs ls hR hS hl
  exact lv_ldc F.1 F.2.1 F.2.2.2.1 (F.2.2.2.2.1 _ hc) d (k H locs ls hR hS hl)

theorem A_ldcw (hG : Cx cc own nL fr lo G) {i : Nat} {n : Int} (d : decode cc pc = .ok (.ldc_w i, 3)) (hc : Cond.constant own i (Int32.ofInt n) ∈ wsAll) (k : G (pc + 3) L (vI n :: st) h) : G (pc) L (st) h := by
  obtain ⟨p, l, e, R, s, m, args, below, meth, c, D, cA, ad, A, cells, slots, Q, F, rfl⟩ := hG
  intro H locs ls hR hS hl
  exact lv_ldcw F.1 F.2.1 F.2.2.2.1 (F.2.2.2.2.1 _ hc) d (k H locs ls hR hS hl)

theorem A_ldc2 (hG : Cx cc own nL fr lo G) {i : Nat} {v : Int64} (d : decode cc pc = .ok (.ldc2_w i, 3)) (hc : Cond.constantLong own i v ∈ wsAll) (k : G (pc + 3) L (.long v :: st) h) : G (pc) L (st) h := by
  obtain ⟨p, l, e, R, s, m, args, below, meth, c, D, cA, ad, A, cells, slots, Q, F, rfl⟩ := hG
  intro H locs ls hR hS hl
  exact lv_ldc2 F.1 F.2.1 F.2.2.2.1 (F.2.2.2.2.1 _ hc) d (k H locs ls hR hS hl)

theorem A_iload_n (hG : Cx cc own nL fr lo G) {kf : Fin 4} {i : Nat} (q : Nat) {z : Int} (d : decode cc pc = .ok (.iload_n kf, 1)) (hi : (kf : Nat) = i) (hq : L[q]? = some (i, vI z)) (k : G (pc + 1) L (vI z :: st) h) : G (pc) L (st) h := by
  obtain ⟨p, l, e, R, s, m, args, below, meth, c, D, cA, ad, A, cells, slots, Q, F, rfl⟩ := hG
  intro H locs ls hR hS hl
  exact lv_iload_n F.1 F.2.1 d hi (lvq hl hq) (k H locs ls hR hS hl)

theorem A_iload (hG : Cx cc own nL fr lo G) {i : Nat} (q : Nat) {z : Int} (d : decode cc pc = .ok (.iload i, 2)) (hq : L[q]? = some (i, vI z)) (k : G (pc + 2) L (vI z :: st) h) : G (pc) L (st) h := by
  obtain ⟨p, l, e, R, s, m, args, below, meth, c, D, cA, ad, A, cells, slots, Q, F, rfl⟩ := hG
  intro H locs ls hR hS hl
  exact lv_iload F.1 F.2.1 d (lvq hl hq) (k H locs ls hR hS hl)

theorem A_istore_n (hG : Cx cc own nL fr lo G) {kf : Fin 4} {i : Nat} {z : Int} (d : decode cc pc = .ok (.istore_n kf, 1)) (hi : (kf : Nat) = i) (hn : i < nL) (hL : (i, vI z) :: L.filter (fun q => !(q.1 == i) && !(q.1 + 1 == i && q.2.category == 2)) = L') (k : G (pc + 1) L' (st) h) : G (pc) L (vI z :: st) h := by
  obtain ⟨p, l, e, R, s, m, args, below, meth, c, D, cA, ad, A, cells, slots, Q, F, rfl⟩ := hG
  intro H locs ls hR hS hl
  subst hL
  exact lv_istore_n F.1 F.2.1 d hi hl hn rfl (fun ls' hl' => k H locs ls' hR hS (by rw [flt] at hl'; exact hl'))

theorem A_istore (hG : Cx cc own nL fr lo G) {i : Nat} {z : Int} (d : decode cc pc = .ok (.istore i, 2)) (hn : i < nL) (hL : (i, vI z) :: L.filter (fun q => !(q.1 == i) && !(q.1 + 1 == i && q.2.category == 2)) = L') (k : G (pc + 2) L' (st) h) : G (pc) L (vI z :: st) h := by
  obtain ⟨p, l, e, R, s, m, args, below, meth, c, D, cA, ad, A, cells, slots, Q, F, rfl⟩ := hG
  intro H locs ls hR hS hl
  subst hL
  exact lv_istore F.1 F.2.1 d hl hn rfl (fun ls' hl' => k H locs ls' hR hS (by rw [flt] at hl'; exact hl'))

theorem A_aload_n (hG : Cx cc own nL fr lo G) {kf : Fin 4} {i : Nat} (q : Nat) {z : Nat} (d : decode cc pc = .ok (.aload_n kf, 1)) (hi : (kf : Nat) = i) (hq : L[q]? = some (i, .ref z)) (k : G (pc + 1) L (.ref z :: st) h) : G (pc) L (st) h := by
  obtain ⟨p, l, e, R, s, m, args, below, meth, c, D, cA, ad, A, cells, slots, Q, F, rfl⟩ := hG
  intro H locs ls hR hS hl
  exact lv_aload_n F.1 F.2.1 d hi (lvq hl hq) (k H locs ls hR hS hl)

theorem A_aload (hG : Cx cc own nL fr lo G) {i : Nat} (q : Nat) {z : Nat} (d : decode cc pc = .ok (.aload i, 2)) (hq : L[q]? = some (i, .ref z)) (k : G (pc + 2) L (.ref z :: st) h) : G (pc) L (st) h := by
  obtain ⟨p, l, e, R, s, m, args, below, meth, c, D, cA, ad, A, cells, slots, Q, F, rfl⟩ := hG
  intro H locs ls hR hS hl
  exact lv_aload F.1 F.2.1 d (lvq hl hq) (k H locs ls hR hS hl)

theorem A_astore_n (hG : Cx cc own nL fr lo G) {kf : Fin 4} {i : Nat} {z : Nat} (d : decode cc pc = .ok (.astore_n kf, 1)) (hi : (kf : Nat) = i) (hn : i < nL) (hL : (i, .ref z) :: L.filter (fun q => !(q.1 == i) && !(q.1 + 1 == i && q.2.category == 2)) = L') (k : G (pc + 1) L' (st) h) : G (pc) L (.ref z :: st) h := by
  obtain ⟨p, l, e, R, s, m, args, below, meth, c, D, cA, ad, A, cells, slots, Q, F, rfl⟩ := hG
  intro H locs ls hR hS hl
  subst hL
  exact lv_astore_n F.1 F.2.1 d hi hl hn rfl (fun ls' hl' => k H locs ls' hR hS (by rw [flt] at hl'; exact hl'))

theorem A_astore (hG : Cx cc own nL fr lo G) {i : Nat} {z : Nat} (d : decode cc pc = .ok (.astore i, 2)) (hn : i < nL) (hL : (i, .ref z) :: L.filter (fun q => !(q.1 == i) && !(q.1 + 1 == i && q.2.category == 2)) = L') (k : G (pc + 2) L' (st) h) : G (pc) L (.ref z :: st) h := by
  obtain ⟨p, l, e, R, s, m, args, below, meth, c, D, cA, ad, A, cells, slots, Q, F, rfl⟩ := hG
  intro H locs ls hR hS hl
  subst hL
  exact lv_astore F.1 F.2.1 d hl hn rfl (fun ls' hl' => k H locs ls' hR hS (by rw [flt] at hl'; exact hl'))

theorem A_lload_n (hG : Cx cc own nL fr lo G) {kf : Fin 4} {i : Nat} (q : Nat) {z : Int64} (d : decode cc pc = .ok (.lload_n kf, 1)) (hi : (kf : Nat) = i) (hq : L[q]? = some (i, .long z)) (k : G (pc + 1) L (.long z :: st) h) : G (pc) L (st) h := by
  obtain ⟨p, l, e, R, s, m, args, below, meth, c, D, cA, ad, A, cells, slots, Q, F, rfl⟩ := hG
  intro H locs ls hR hS hl
  exact lv_lload_n F.1 F.2.1 d hi (lvq hl hq) (k H locs ls hR hS hl)

theorem A_lload (hG : Cx cc own nL fr lo G) {i : Nat} (q : Nat) {z : Int64} (d : decode cc pc = .ok (.lload i, 2)) (hq : L[q]? = some (i, .long z)) (k : G (pc + 2) L (.long z :: st) h) : G (pc) L (st) h := by
  obtain ⟨p, l, e, R, s, m, args, below, meth, c, D, cA, ad, A, cells, slots, Q, F, rfl⟩ := hG
  intro H locs ls hR hS hl
  exact lv_lload F.1 F.2.1 d (lvq hl hq) (k H locs ls hR hS hl)

theorem A_lstore_n (hG : Cx cc own nL fr lo G) {kf : Fin 4} {i : Nat} {z : Int64} (d : decode cc pc = .ok (.lstore_n kf, 1)) (hi : (kf : Nat) = i) (hn : i + 1 < nL) (hL : (i, .long z) :: L.filter (fun q => !(q.1 == i) && (!(q.1 == i + 1) && !(q.1 + 1 == i && q.2.category == 2))) = L') (k : G (pc + 1) L' (st) h) : G (pc) L (.long z :: st) h := by
  obtain ⟨p, l, e, R, s, m, args, below, meth, c, D, cA, ad, A, cells, slots, Q, F, rfl⟩ := hG
  intro H locs ls hR hS hl
  subst hL
  exact lv_lstore_n F.1 F.2.1 d hi hl hn rfl (fun ls' hl' => k H locs ls' hR hS (by rw [flt2] at hl'; exact hl'))

theorem A_lstore (hG : Cx cc own nL fr lo G) {i : Nat} {z : Int64} (d : decode cc pc = .ok (.lstore i, 2)) (hn : i + 1 < nL) (hL : (i, .long z) :: L.filter (fun q => !(q.1 == i) && (!(q.1 == i + 1) && !(q.1 + 1 == i && q.2.category == 2))) = L') (k : G (pc + 2) L' (st) h) : G (pc) L (.long z :: st) h := by
  obtain ⟨p, l, e, R, s, m, args, below, meth, c, D, cA, ad, A, cells, slots, Q, F, rfl⟩ := hG
  intro H locs ls hR hS hl
  subst hL
  exact lv_lstore F.1 F.2.1 d hl hn rfl (fun ls' hl' => k H locs ls' hR hS (by rw [flt2] at hl'; exact hl'))

theorem A_iinc (hG : Cx cc own nL fr lo G) {i : Nat} {n z : Int} (q : Nat) (d : decode cc pc = .ok (.iinc i n, 3)) (hq : L[q]? = some (i, vI z)) (hn : i < nL) (hL : (i, vI (z + n)) :: L.filter (fun q => !(q.1 == i) && !(q.1 + 1 == i && q.2.category == 2)) = L') (k : G (pc + 3) L' (st) h) : G (pc) L (st) h := by
  obtain ⟨p, l, e, R, s, m, args, below, meth, c, D, cA, ad, A, cells, slots, Q, F, rfl⟩ := hG
  intro H locs ls hR hS hl
  subst hL
  exact lv_iinc (v := Int32.ofInt (z + n)) F.1 F.2.1 d hl (k := q) (by rw [List.getElem?_map, hq]; rfl) (Int32.ofInt_add _ _).symm hn rfl (fun ls' hl' => k H locs ls' hR hS (by rw [flt] at hl'; exact hl'))

theorem A_iadd (hG : Cx cc own nL fr lo G) {a b : Int} (d : decode cc pc = .ok (.iadd, 1)) (k : G (pc + 1) L (vI (a + b) :: st) h) : G (pc) L (vI b :: vI a :: st) h := by
  obtain ⟨p, l, e, R, s, m, args, below, meth, c, D, cA, ad, A, cells, slots, Q, F, rfl⟩ := hG
  intro H locs ls hR hS hl
  refine lv_iadd F.1 F.2.1 d ?_
  rw [← Int32.ofInt_add]
  exact k H locs ls hR hS hl

theorem A_isub (hG : Cx cc own nL fr lo G) {a b : Int} (d : decode cc pc = .ok (.isub, 1)) (k : G (pc + 1) L (vI (a - b) :: st) h) : G (pc) L (vI b :: vI a :: st) h := by
  obtain ⟨p, l, e, R, s, m, args, below, meth, c, D, cA, ad, A, cells, slots, Q, F, rfl⟩ := hG
  intro H locs ls hR hS hl
  refine lv_isub F.1 F.2.1 d ?_
  rw [← Int32.ofInt_sub]
  exact k H locs ls hR hS hl

theorem A_imul (hG : Cx cc own nL fr lo G) {a b : Int} (d : decode cc pc = .ok (.imul, 1)) (k : G (pc + 1) L (vI (a * b) :: st) h) : G (pc) L (vI b :: vI a :: st) h := by
  obtain ⟨p, l, e, R, s, m, args, below, meth, c, D, cA, ad, A, cells, slots, Q, F, rfl⟩ := hG
  intro H locs ls hR hS hl
  refine lv_imul F.1 F.2.1 d ?_
  rw [← Int32.ofInt_mul]
  exact k H locs ls hR hS hl

theorem A_ineg (hG : Cx cc own nL fr lo G) {a : Int} (d : decode cc pc = .ok (.ineg, 1)) (k : G (pc + 1) L (vI (-a) :: st) h) : G (pc) L (vI a :: st) h := by
  obtain ⟨p, l, e, R, s, m, args, below, meth, c, D, cA, ad, A, cells, slots, Q, F, rfl⟩ := hG
  intro H locs ls hR hS hl
  refine lv_ineg F.1 F.2.1 d ?_
  rw [← Int32.ofInt_neg]
  exact k H locs ls hR hS hl

def iand (a b : Int) : Int := (Int32.ofInt a &&& Int32.ofInt b).toInt
def ior (a b : Int) : Int := (Int32.ofInt a ||| Int32.ofInt b).toInt
def ixor (a b : Int) : Int := (Int32.ofInt a ^^^ Int32.ofInt b).toInt
def ishl (a b : Int) : Int := (Int32.ofInt a <<< (Int32.ofInt b &&& 31)).toInt
def ishr (a b : Int) : Int := (Int32.ofInt a >>> (Int32.ofInt b &&& 31)).toInt
def iushr (a b : Int) : Int := ((Int32.ofInt a).toUInt32 >>> ((Int32.ofInt b).toUInt32 &&& Int32.toUInt32 31)).toInt32.toInt
def idiv (a b : Int) : Int := (Int32.ofInt a / Int32.ofInt b).toInt
def i2l (a : Int) : Int64 := (Int32.ofInt a).toInt64
def l2i (x : Int64) : Int := x.toInt32.toInt
def lcmpI (x y : Int64) : Int := if y < x then 1 else if x = y then 0 else -1

theorem A_iand (hG : Cx cc own nL fr lo G) {a b : Int} (d : decode cc pc = .ok (.iand, 1)) (k : G (pc + 1) L (vI (iand a b) :: st) h) : G (pc) L (vI b :: vI a :: st) h := by
  obtain ⟨p, l, e, R, s, m, args, below, meth, c, D, cA, ad, A, cells, slots, Q, F, rfl⟩ := hG
  intro H locs ls hR hS hl
  refine lv_iand F.1 F.2.1 d ?_
  have k1 := k H locs ls hR hS hl
  simp only [List.map_cons, vI, iand, oI] at k1
  exact k1

theorem A_ior (hG : Cx cc own nL fr lo G) {a b : Int} (d : decode cc pc = .ok (.ior, 1)) (k : G (pc + 1) L (vI (ior a b) :: st) h) : G (pc) L (vI b :: vI a :: st) h := by
  obtain ⟨p, l, e, R, s, m, args, below, meth, c, D, cA, ad, A, cells, slots, Q, F, rfl⟩ := hG
  intro H locs ls hR hS hl
  refine lv_ior F.1 F.2.1 d ?_
  have k1 := k H locs ls hR hS hl
  simp only [List.map_cons, vI, ior, oI] at k1
  exact k1

theorem A_ixor (hG : Cx cc own nL fr lo G) {a b : Int} (d : decode cc pc = .ok (.ixor, 1)) (k : G (pc + 1) L (vI (ixor a b) :: st) h) : G (pc) L (vI b :: vI a :: st) h := by
  obtain ⟨p, l, e, R, s, m, args, below, meth, c, D, cA, ad, A, cells, slots, Q, F, rfl⟩ := hG
  intro H locs ls hR hS hl
  refine lv_ixor F.1 F.2.1 d ?_
  have k1 := k H locs ls hR hS hl
  simp only [List.map_cons, vI, ixor, oI] at k1
  exact k1

theorem A_ishl (hG : Cx cc own nL fr lo G) {a b : Int} (d : decode cc pc = .ok (.ishl, 1)) (k : G (pc + 1) L (vI (ishl a b) :: st) h) : G (pc) L (vI b :: vI a :: st) h := by
  obtain ⟨p, l, e, R, s, m, args, below, meth, c, D, cA, ad, A, cells, slots, Q, F, rfl⟩ := hG
  intro H locs ls hR hS hl
  refine lv_ishl F.1 F.2.1 d ?_
  have k1 := k H locs ls hR hS hl
  simp only [List.map_cons, vI, ishl, oI] at k1
  exact k1

theorem A_ishr (hG : Cx cc own nL fr lo G) {a b : Int} (d : decode cc pc = .ok (.ishr, 1)) (k : G (pc + 1) L (vI (ishr a b) :: st) h) : G (pc) L (vI b :: vI a :: st) h := by
  obtain ⟨p, l, e, R, s, m, args, below, meth, c, D, cA, ad, A, cells, slots, Q, F, rfl⟩ := hG
  intro H locs ls hR hS hl
  refine lv_ishr F.1 F.2.1 d ?_
  have k1 := k H locs ls hR hS hl
  simp only [List.map_cons, vI, ishr, oI] at k1
  exact k1

theorem A_iushr (hG : Cx cc own nL fr lo G) {a b : Int} (d : decode cc pc = .ok (.iushr, 1)) (k : G (pc + 1) L (vI (iushr a b) :: st) h) : G (pc) L (vI b :: vI a :: st) h := by
  obtain ⟨p, l, e, R, s, m, args, below, meth, c, D, cA, ad, A, cells, slots, Q, F, rfl⟩ := hG
  intro H locs ls hR hS hl
  refine lv_iushr F.1 F.2.1 d rfl ?_
  have k1 := k H locs ls hR hS hl
  simp only [List.map_cons, vI, iushr, oI] at k1
  exact k1

theorem A_idiv (hG : Cx cc own nL fr lo G) {a b : Int} (d : decode cc pc = .ok (.idiv, 1)) (hb : ir b) (h0 : b ≠ 0) (k : G (pc + 1) L (vI (idiv a b) :: st) h) : G (pc) L (vI b :: vI a :: st) h := by
  obtain ⟨p, l, e, R, s, m, args, below, meth, c, D, cA, ad, A, cells, slots, Q, F, rfl⟩ := hG
  intro H locs ls hR hS hl
  refine lv_idiv F.1 F.2.1 d (fun e => h0 (by rw [zI] at e; exact (eqI hb (by constructor <;> decide)).mp e)) ?_
  have k1 := k H locs ls hR hS hl
  simp only [List.map_cons, vI, idiv, oI] at k1
  exact k1

theorem A_ladd (hG : Cx cc own nL fr lo G) {a b : Int64} (d : decode cc pc = .ok (.ladd, 1)) (k : G (pc + 1) L (.long (a + b) :: st) h) : G (pc) L (.long b :: .long a :: st) h := by
  obtain ⟨p, l, e, R, s, m, args, below, meth, c, D, cA, ad, A, cells, slots, Q, F, rfl⟩ := hG
  intro H locs ls hR hS hl
  exact lv_ladd F.1 F.2.1 d (k H locs ls hR hS hl)

theorem A_lsub (hG : Cx cc own nL fr lo G) {a b : Int64} (d : decode cc pc = .ok (.lsub, 1)) (k : G (pc + 1) L (.long (a - b) :: st) h) : G (pc) L (.long b :: .long a :: st) h := by
  obtain ⟨p, l, e, R, s, m, args, below, meth, c, D, cA, ad, A, cells, slots, Q, F, rfl⟩ := hG
  intro H locs ls hR hS hl
  exact lv_lsub F.1 F.2.1 d (k H locs ls hR hS hl)

theorem A_lmul (hG : Cx cc own nL fr lo G) {a b : Int64} (d : decode cc pc = .ok (.lmul, 1)) (k : G (pc + 1) L (.long (a * b) :: st) h) : G (pc) L (.long b :: .long a :: st) h := by
  obtain ⟨p, l, e, R, s, m, args, below, meth, c, D, cA, ad, A, cells, slots, Q, F, rfl⟩ := hG
  intro H locs ls hR hS hl
  exact lv_lmul F.1 F.2.1 d (k H locs ls hR hS hl)

theorem A_land (hG : Cx cc own nL fr lo G) {a b : Int64} (d : decode cc pc = .ok (.land, 1)) (k : G (pc + 1) L (.long (a &&& b) :: st) h) : G (pc) L (.long b :: .long a :: st) h := by
  obtain ⟨p, l, e, R, s, m, args, below, meth, c, D, cA, ad, A, cells, slots, Q, F, rfl⟩ := hG
  intro H locs ls hR hS hl
  exact lv_land F.1 F.2.1 d (k H locs ls hR hS hl)

theorem A_lor (hG : Cx cc own nL fr lo G) {a b : Int64} (d : decode cc pc = .ok (.lor, 1)) (k : G (pc + 1) L (.long (a ||| b) :: st) h) : G (pc) L (.long b :: .long a :: st) h := by
  obtain ⟨p, l, e, R, s, m, args, below, meth, c, D, cA, ad, A, cells, slots, Q, F, rfl⟩ := hG
  intro H locs ls hR hS hl
  exact lv_lor F.1 F.2.1 d (k H locs ls hR hS hl)

theorem A_lxor (hG : Cx cc own nL fr lo G) {a b : Int64} (d : decode cc pc = .ok (.lxor, 1)) (k : G (pc + 1) L (.long (a ^^^ b) :: st) h) : G (pc) L (.long b :: .long a :: st) h := by
  obtain ⟨p, l, e, R, s, m, args, below, meth, c, D, cA, ad, A, cells, slots, Q, F, rfl⟩ := hG
  intro H locs ls hR hS hl
  exact lv_lxor F.1 F.2.1 d (k H locs ls hR hS hl)

theorem A_lneg (hG : Cx cc own nL fr lo G) {a : Int64} (d : decode cc pc = .ok (.lneg, 1)) (k : G (pc + 1) L (.long (-a) :: st) h) : G (pc) L (.long a :: st) h := by
  obtain ⟨p, l, e, R, s, m, args, below, meth, c, D, cA, ad, A, cells, slots, Q, F, rfl⟩ := hG
  intro H locs ls hR hS hl
  exact lv_lneg F.1 F.2.1 d (k H locs ls hR hS hl)

def lshl (x : Int64) (b : Int) : Int64 := x <<< ((Int32.ofInt b).toInt64 &&& 63)
def lshr (x : Int64) (b : Int) : Int64 := x >>> ((Int32.ofInt b).toInt64 &&& 63)
def lushr (x : Int64) (b : Int) : Int64 := (x.toUInt64 >>> ((Int32.ofInt b).toInt64.toUInt64 &&& Int64.toUInt64 63)).toInt64

theorem A_lshl (hG : Cx cc own nL fr lo G) {a : Int64} {b : Int} (d : decode cc pc = .ok (.lshl, 1)) (k : G (pc + 1) L (.long (lshl a b) :: st) h) : G (pc) L (vI b :: .long a :: st) h := by
  obtain ⟨p, l, e, R, s, m, args, below, meth, c, D, cA, ad, A, cells, slots, Q, F, rfl⟩ := hG
  intro H locs ls hR hS hl
  exact lv_lshl F.1 F.2.1 d rfl (k H locs ls hR hS hl)

theorem A_lshr (hG : Cx cc own nL fr lo G) {a : Int64} {b : Int} (d : decode cc pc = .ok (.lshr, 1)) (k : G (pc + 1) L (.long (lshr a b) :: st) h) : G (pc) L (vI b :: .long a :: st) h := by
  obtain ⟨p, l, e, R, s, m, args, below, meth, c, D, cA, ad, A, cells, slots, Q, F, rfl⟩ := hG
  intro H locs ls hR hS hl
  exact lv_lshr F.1 F.2.1 d rfl (k H locs ls hR hS hl)

theorem A_lushr (hG : Cx cc own nL fr lo G) {a : Int64} {b : Int} (d : decode cc pc = .ok (.lushr, 1)) (k : G (pc + 1) L (.long (lushr a b) :: st) h) : G (pc) L (vI b :: .long a :: st) h := by
  obtain ⟨p, l, e, R, s, m, args, below, meth, c, D, cA, ad, A, cells, slots, Q, F, rfl⟩ := hG
  intro H locs ls hR hS hl
  exact lv_lushr F.1 F.2.1 d rfl (k H locs ls hR hS hl)

theorem A_lcmp (hG : Cx cc own nL fr lo G) {a b : Int64} (d : decode cc pc = .ok (.lcmp, 1)) (k : G (pc + 1) L (vI (lcmpI a b) :: st) h) : G (pc) L (.long b :: .long a :: st) h := by
  obtain ⟨p, l, e, R, s, m, args, below, meth, c, D, cA, ad, A, cells, slots, Q, F, rfl⟩ := hG
  intro H locs ls hR hS hl
  refine W.lcmp F.1 F.2.1 d ?_
  have e1 : lg_cmp a b = Int32.ofInt (lcmpI a b) := by
    unfold lg_cmp lcmpI
    by_cases h1 : a > b
    · rw [if_pos h1, if_pos h1]; rfl
    · rw [if_neg h1, if_neg h1]
      by_cases h2 : a = b
      · rw [if_pos h2, if_pos h2]; rfl
      · rw [if_neg h2, if_neg h2]; rfl
  rw [e1]
  exact k H locs ls hR hS hl

theorem A_i2l (hG : Cx cc own nL fr lo G) {a : Int} (d : decode cc pc = .ok (.i2l, 1)) (k : G (pc + 1) L (.long (i2l a) :: st) h) : G (pc) L (vI a :: st) h := by
  obtain ⟨p, l, e, R, s, m, args, below, meth, c, D, cA, ad, A, cells, slots, Q, F, rfl⟩ := hG
  intro H locs ls hR hS hl
  exact lv_i2l F.1 F.2.1 d rfl (k H locs ls hR hS hl)

theorem A_l2i (hG : Cx cc own nL fr lo G) {x : Int64} (d : decode cc pc = .ok (.l2i, 1)) (k : G (pc + 1) L (vI (l2i x) :: st) h) : G (pc) L (.long x :: st) h := by
  obtain ⟨p, l, e, R, s, m, args, below, meth, c, D, cA, ad, A, cells, slots, Q, F, rfl⟩ := hG
  intro H locs ls hR hS hl
  refine lv_l2i F.1 F.2.1 d rfl ?_
  have k1 := k H locs ls hR hS hl
  simp only [List.map_cons, vI, l2i, oI] at k1
  exact k1

theorem A_dup (hG : Cx cc own nL fr lo G) {v : Value} (d : decode cc pc = .ok (.dup, 1)) (hv : v.category = 1) (k : G (pc + 1) L (v :: v :: st) h) : G (pc) L (v :: st) h := by
  obtain ⟨p, l, e, R, s, m, args, below, meth, c, D, cA, ad, A, cells, slots, Q, F, rfl⟩ := hG
  intro H locs ls hR hS hl
  exact lv_dup F.1 F.2.1 d ((cv_cat ad v).trans hv) (k H locs ls hR hS hl)

theorem A_pop (hG : Cx cc own nL fr lo G) {v : Value} (d : decode cc pc = .ok (.pop, 1)) (hv : v.category = 1) (k : G (pc + 1) L (st) h) : G (pc) L (v :: st) h := by
  obtain ⟨p, l, e, R, s, m, args, below, meth, c, D, cA, ad, A, cells, slots, Q, F, rfl⟩ := hG
  intro H locs ls hR hS hl
  exact lv_pop F.1 F.2.1 d ((cv_cat ad v).trans hv) (k H locs ls hR hS hl)

theorem A_dup2 (hG : Cx cc own nL fr lo G) {v w : Value} (d : decode cc pc = .ok (.dup2, 1)) (hv : v.category = 1) (hw : w.category = 1) (k : G (pc + 1) L (v :: w :: v :: w :: st) h) : G (pc) L (v :: w :: st) h := by
  obtain ⟨p, l, e, R, s, m, args, below, meth, c, D, cA, ad, A, cells, slots, Q, F, rfl⟩ := hG
  intro H locs ls hR hS hl
  exact lv_dup2_11 F.1 F.2.1 d ((cv_cat ad v).trans hv) ((cv_cat ad w).trans hw) (k H locs ls hR hS hl)

theorem A_dup2L (hG : Cx cc own nL fr lo G) {v : Value} (d : decode cc pc = .ok (.dup2, 1)) (hv : v.category = 2) (k : G (pc + 1) L (v :: v :: st) h) : G (pc) L (v :: st) h := by
  obtain ⟨p, l, e, R, s, m, args, below, meth, c, D, cA, ad, A, cells, slots, Q, F, rfl⟩ := hG
  intro H locs ls hR hS hl
  exact lv_dup2_2 F.1 F.2.1 d ((cv_cat ad v).trans hv) (k H locs ls hR hS hl)

theorem A_goto (hG : Cx cc own nL fr lo G) {off : Int} (tgt : Nat) (d : decode cc pc = .ok (.goto off, 3)) (ht : (pc : Int) + off = (tgt : Int)) (k : G (tgt) L (st) h) : G (pc) L (st) h := by
  obtain ⟨p, l, e, R, s, m, args, below, meth, c, D, cA, ad, A, cells, slots, Q, F, rfl⟩ := hG
  intro H locs ls hR hS hl
  exact lv_goto F.1 F.2.1 d ht (k H locs ls hR hS hl)

theorem A_icmp_eq (hG : Cx cc own nL fr lo G) {a b off : Int} (tgt : Nat) (d : decode cc pc = .ok (.if_icmp .eq off, 3)) (ht : (pc : Int) + off = (tgt : Int)) (ha : ir a) (hb : ir b) (kt : a = b → G (tgt) L (st) h) (kf : ¬ a = b → G (pc + 3) L (st) h) : G (pc) L (vI b :: vI a :: st) h := by
  obtain ⟨p, l, e, R, s, m, args, below, meth, c, D, cA, ad, A, cells, slots, Q, F, rfl⟩ := hG
  intro H locs ls hR hS hl
  have ee : Int32.ofInt a = Int32.ofInt b ↔ a = b := eqI ha hb
  have el : Int32.ofInt a < Int32.ofInt b ↔ a < b := ltI ha hb
  have eg : Int32.ofInt b < Int32.ofInt a ↔ b < a := ltI hb ha
  have fl : Int32.ofInt a ≤ Int32.ofInt b ↔ a ≤ b := leI ha hb
  have fg : Int32.ofInt b ≤ Int32.ofInt a ↔ b ≤ a := leI hb ha
  refine lv_icmp_eq F.1 F.2.1 d ht (fun q => kt ?_ H locs ls hR hS hl) (fun q => kf ?_ H locs ls hR hS hl) <;> simp only [ge_iff_le, gt_iff_lt, ne_eq, ee, el, eg, fl, fg] at q <;> omega

theorem A_if_eq (hG : Cx cc own nL fr lo G) {a off : Int} (tgt : Nat) (d : decode cc pc = .ok (.ifCond .eq off, 3)) (ht : (pc : Int) + off = (tgt : Int)) (ha : ir a) (kt : a = 0 → G (tgt) L (st) h) (kf : ¬ a = 0 → G (pc + 3) L (st) h) : G (pc) L (vI a :: st) h := by
  obtain ⟨p, l, e, R, s, m, args, below, meth, c, D, cA, ad, A, cells, slots, Q, F, rfl⟩ := hG
  intro H locs ls hR hS hl
  have hb : ir 0 := by constructor <;> decide
  have ee : Int32.ofInt a = 0 ↔ a = 0 := eqI ha hb
  have el : Int32.ofInt a < 0 ↔ a < 0 := ltI ha hb
  have eg : 0 < Int32.ofInt a ↔ 0 < a := ltI hb ha
  have fl : Int32.ofInt a ≤ 0 ↔ a ≤ 0 := leI ha hb
  have fg : 0 ≤ Int32.ofInt a ↔ 0 ≤ a := leI hb ha
  refine lv_if_eq F.1 F.2.1 d ht (fun q => kt ?_ H locs ls hR hS hl) (fun q => kf ?_ H locs ls hR hS hl) <;> simp only [ge_iff_le, gt_iff_lt, ne_eq, ee, el, eg, fl, fg] at q <;> omega

theorem A_icmp_ne (hG : Cx cc own nL fr lo G) {a b off : Int} (tgt : Nat) (d : decode cc pc = .ok (.if_icmp .ne off, 3)) (ht : (pc : Int) + off = (tgt : Int)) (ha : ir a) (hb : ir b) (kt : ¬ a = b → G (tgt) L (st) h) (kf : a = b → G (pc + 3) L (st) h) : G (pc) L (vI b :: vI a :: st) h := by
  obtain ⟨p, l, e, R, s, m, args, below, meth, c, D, cA, ad, A, cells, slots, Q, F, rfl⟩ := hG
  intro H locs ls hR hS hl
  have ee : Int32.ofInt a = Int32.ofInt b ↔ a = b := eqI ha hb
  have el : Int32.ofInt a < Int32.ofInt b ↔ a < b := ltI ha hb
  have eg : Int32.ofInt b < Int32.ofInt a ↔ b < a := ltI hb ha
  have fl : Int32.ofInt a ≤ Int32.ofInt b ↔ a ≤ b := leI ha hb
  have fg : Int32.ofInt b ≤ Int32.ofInt a ↔ b ≤ a := leI hb ha
  refine lv_icmp_ne F.1 F.2.1 d ht (fun q => kt ?_ H locs ls hR hS hl) (fun q => kf ?_ H locs ls hR hS hl) <;> simp only [ge_iff_le, gt_iff_lt, ne_eq, ee, el, eg, fl, fg] at q <;> omega

theorem A_if_ne (hG : Cx cc own nL fr lo G) {a off : Int} (tgt : Nat) (d : decode cc pc = .ok (.ifCond .ne off, 3)) (ht : (pc : Int) + off = (tgt : Int)) (ha : ir a) (kt : ¬ a = 0 → G (tgt) L (st) h) (kf : a = 0 → G (pc + 3) L (st) h) : G (pc) L (vI a :: st) h := by
  obtain ⟨p, l, e, R, s, m, args, below, meth, c, D, cA, ad, A, cells, slots, Q, F, rfl⟩ := hG
  intro H locs ls hR hS hl
  have hb : ir 0 := by constructor <;> decide
  have ee : Int32.ofInt a = 0 ↔ a = 0 := eqI ha hb
  have el : Int32.ofInt a < 0 ↔ a < 0 := ltI ha hb
  have eg : 0 < Int32.ofInt a ↔ 0 < a := ltI hb ha
  have fl : Int32.ofInt a ≤ 0 ↔ a ≤ 0 := leI ha hb
  have fg : 0 ≤ Int32.ofInt a ↔ 0 ≤ a := leI hb ha
  refine lv_if_ne F.1 F.2.1 d ht (fun q => kt ?_ H locs ls hR hS hl) (fun q => kf ?_ H locs ls hR hS hl) <;> simp only [ge_iff_le, gt_iff_lt, ne_eq, ee, el, eg, fl, fg] at q <;> omega

theorem A_icmp_lt (hG : Cx cc own nL fr lo G) {a b off : Int} (tgt : Nat) (d : decode cc pc = .ok (.if_icmp .lt off, 3)) (ht : (pc : Int) + off = (tgt : Int)) (ha : ir a) (hb : ir b) (kt : a < b → G (tgt) L (st) h) (kf : b ≤ a → G (pc + 3) L (st) h) : G (pc) L (vI b :: vI a :: st) h := by
  obtain ⟨p, l, e, R, s, m, args, below, meth, c, D, cA, ad, A, cells, slots, Q, F, rfl⟩ := hG
  intro H locs ls hR hS hl
  have ee : Int32.ofInt a = Int32.ofInt b ↔ a = b := eqI ha hb
  have el : Int32.ofInt a < Int32.ofInt b ↔ a < b := ltI ha hb
  have eg : Int32.ofInt b < Int32.ofInt a ↔ b < a := ltI hb ha
  have fl : Int32.ofInt a ≤ Int32.ofInt b ↔ a ≤ b := leI ha hb
  have fg : Int32.ofInt b ≤ Int32.ofInt a ↔ b ≤ a := leI hb ha
  refine lv_icmp_lt F.1 F.2.1 d ht (fun q => kt ?_ H locs ls hR hS hl) (fun q => kf ?_ H locs ls hR hS hl) <;> simp only [ge_iff_le, gt_iff_lt, ne_eq, ee, el, eg, fl, fg] at q <;> omega

theorem A_if_lt (hG : Cx cc own nL fr lo G) {a off : Int} (tgt : Nat) (d : decode cc pc = .ok (.ifCond .lt off, 3)) (ht : (pc : Int) + off = (tgt : Int)) (ha : ir a) (kt : a < 0 → G (tgt) L (st) h) (kf : 0 ≤ a → G (pc + 3) L (st) h) : G (pc) L (vI a :: st) h := by
  obtain ⟨p, l, e, R, s, m, args, below, meth, c, D, cA, ad, A, cells, slots, Q, F, rfl⟩ := hG
  intro H locs ls hR hS hl
  have hb : ir 0 := by constructor <;> decide
  have ee : Int32.ofInt a = 0 ↔ a = 0 := eqI ha hb
  have el : Int32.ofInt a < 0 ↔ a < 0 := ltI ha hb
  have eg : 0 < Int32.ofInt a ↔ 0 < a := ltI hb ha
  have fl : Int32.ofInt a ≤ 0 ↔ a ≤ 0 := leI ha hb
  have fg : 0 ≤ Int32.ofInt a ↔ 0 ≤ a := leI hb ha
  refine lv_if_lt F.1 F.2.1 d ht (fun q => kt ?_ H locs ls hR hS hl) (fun q => kf ?_ H locs ls hR hS hl) <;> simp only [ge_iff_le, gt_iff_lt, ne_eq, ee, el, eg, fl, fg] at q <;> omega

theorem A_icmp_ge (hG : Cx cc own nL fr lo G) {a b off : Int} (tgt : Nat) (d : decode cc pc = .ok (.if_icmp .ge off, 3)) (ht : (pc : Int) + off = (tgt : Int)) (ha : ir a) (hb : ir b) (kt : b ≤ a → G (tgt) L (st) h) (kf : a < b → G (pc + 3) L (st) h) : G (pc) L (vI b :: vI a :: st) h := by
  obtain ⟨p, l, e, R, s, m, args, below, meth, c, D, cA, ad, A, cells, slots, Q, F, rfl⟩ := hG
  intro H locs ls hR hS hl
  have ee : Int32.ofInt a = Int32.ofInt b ↔ a = b := eqI ha hb
  have el : Int32.ofInt a < Int32.ofInt b ↔ a < b := ltI ha hb
  have eg : Int32.ofInt b < Int32.ofInt a ↔ b < a := ltI hb ha
  have fl : Int32.ofInt a ≤ Int32.ofInt b ↔ a ≤ b := leI ha hb
  have fg : Int32.ofInt b ≤ Int32.ofInt a ↔ b ≤ a := leI hb ha
  refine lv_icmp_ge F.1 F.2.1 d ht (fun q => kt ?_ H locs ls hR hS hl) (fun q => kf ?_ H locs ls hR hS hl) <;> simp only [ge_iff_le, gt_iff_lt, ne_eq, ee, el, eg, fl, fg] at q <;> omega

theorem A_if_ge (hG : Cx cc own nL fr lo G) {a off : Int} (tgt : Nat) (d : decode cc pc = .ok (.ifCond .ge off, 3)) (ht : (pc : Int) + off = (tgt : Int)) (ha : ir a) (kt : 0 ≤ a → G (tgt) L (st) h) (kf : a < 0 → G (pc + 3) L (st) h) : G (pc) L (vI a :: st) h := by
  obtain ⟨p, l, e, R, s, m, args, below, meth, c, D, cA, ad, A, cells, slots, Q, F, rfl⟩ := hG
  intro H locs ls hR hS hl
  have hb : ir 0 := by constructor <;> decide
  have ee : Int32.ofInt a = 0 ↔ a = 0 := eqI ha hb
  have el : Int32.ofInt a < 0 ↔ a < 0 := ltI ha hb
  have eg : 0 < Int32.ofInt a ↔ 0 < a := ltI hb ha
  have fl : Int32.ofInt a ≤ 0 ↔ a ≤ 0 := leI ha hb
  have fg : 0 ≤ Int32.ofInt a ↔ 0 ≤ a := leI hb ha
  refine lv_if_ge F.1 F.2.1 d ht (fun q => kt ?_ H locs ls hR hS hl) (fun q => kf ?_ H locs ls hR hS hl) <;> simp only [ge_iff_le, gt_iff_lt, ne_eq, ee, el, eg, fl, fg] at q <;> omega

theorem A_icmp_gt (hG : Cx cc own nL fr lo G) {a b off : Int} (tgt : Nat) (d : decode cc pc = .ok (.if_icmp .gt off, 3)) (ht : (pc : Int) + off = (tgt : Int)) (ha : ir a) (hb : ir b) (kt : b < a → G (tgt) L (st) h) (kf : a ≤ b → G (pc + 3) L (st) h) : G (pc) L (vI b :: vI a :: st) h := by
  obtain ⟨p, l, e, R, s, m, args, below, meth, c, D, cA, ad, A, cells, slots, Q, F, rfl⟩ := hG
  intro H locs ls hR hS hl
  have ee : Int32.ofInt a = Int32.ofInt b ↔ a = b := eqI ha hb
  have el : Int32.ofInt a < Int32.ofInt b ↔ a < b := ltI ha hb
  have eg : Int32.ofInt b < Int32.ofInt a ↔ b < a := ltI hb ha
  have fl : Int32.ofInt a ≤ Int32.ofInt b ↔ a ≤ b := leI ha hb
  have fg : Int32.ofInt b ≤ Int32.ofInt a ↔ b ≤ a := leI hb ha
  refine lv_icmp_gt F.1 F.2.1 d ht (fun q => kt ?_ H locs ls hR hS hl) (fun q => kf ?_ H locs ls hR hS hl) <;> simp only [ge_iff_le, gt_iff_lt, ne_eq, ee, el, eg, fl, fg] at q <;> omega

theorem A_if_gt (hG : Cx cc own nL fr lo G) {a off : Int} (tgt : Nat) (d : decode cc pc = .ok (.ifCond .gt off, 3)) (ht : (pc : Int) + off = (tgt : Int)) (ha : ir a) (kt : 0 < a → G (tgt) L (st) h) (kf : a ≤ 0 → G (pc + 3) L (st) h) : G (pc) L (vI a :: st) h := by
  obtain ⟨p, l, e, R, s, m, args, below, meth, c, D, cA, ad, A, cells, slots, Q, F, rfl⟩ := hG
  intro H locs ls hR hS hl
  have hb : ir 0 := by constructor <;> decide
  have ee : Int32.ofInt a = 0 ↔ a = 0 := eqI ha hb
  have el : Int32.ofInt a < 0 ↔ a < 0 := ltI ha hb
  have eg : 0 < Int32.ofInt a ↔ 0 < a := ltI hb ha
  have fl : Int32.ofInt a ≤ 0 ↔ a ≤ 0 := leI ha hb
  have fg : 0 ≤ Int32.ofInt a ↔ 0 ≤ a := leI hb ha
  refine lv_if_gt F.1 F.2.1 d ht (fun q => kt ?_ H locs ls hR hS hl) (fun q => kf ?_ H locs ls hR hS hl) <;> simp only [ge_iff_le, gt_iff_lt, ne_eq, ee, el, eg, fl, fg] at q <;> omega

theorem A_icmp_le (hG : Cx cc own nL fr lo G) {a b off : Int} (tgt : Nat) (d : decode cc pc = .ok (.if_icmp .le off, 3)) (ht : (pc : Int) + off = (tgt : Int)) (ha : ir a) (hb : ir b) (kt : a ≤ b → G (tgt) L (st) h) (kf : b < a → G (pc + 3) L (st) h) : G (pc) L (vI b :: vI a :: st) h := by
  obtain ⟨p, l, e, R, s, m, args, below, meth, c, D, cA, ad, A, cells, slots, Q, F, rfl⟩ := hG
  intro H locs ls hR hS hl
  have ee : Int32.ofInt a = Int32.ofInt b ↔ a = b := eqI ha hb
  have el : Int32.ofInt a < Int32.ofInt b ↔ a < b := ltI ha hb
  have eg : Int32.ofInt b < Int32.ofInt a ↔ b < a := ltI hb ha
  have fl : Int32.ofInt a ≤ Int32.ofInt b ↔ a ≤ b := leI ha hb
  have fg : Int32.ofInt b ≤ Int32.ofInt a ↔ b ≤ a := leI hb ha
  refine lv_icmp_le F.1 F.2.1 d ht (fun q => kt ?_ H locs ls hR hS hl) (fun q => kf ?_ H locs ls hR hS hl) <;> simp only [ge_iff_le, gt_iff_lt, ne_eq, ee, el, eg, fl, fg] at q <;> omega

theorem A_if_le (hG : Cx cc own nL fr lo G) {a off : Int} (tgt : Nat) (d : decode cc pc = .ok (.ifCond .le off, 3)) (ht : (pc : Int) + off = (tgt : Int)) (ha : ir a) (kt : a ≤ 0 → G (tgt) L (st) h) (kf : 0 < a → G (pc + 3) L (st) h) : G (pc) L (vI a :: st) h := by
  obtain ⟨p, l, e, R, s, m, args, below, meth, c, D, cA, ad, A, cells, slots, Q, F, rfl⟩ := hG
  intro H locs ls hR hS hl
  have hb : ir 0 := by constructor <;> decide
  have ee : Int32.ofInt a = 0 ↔ a = 0 := eqI ha hb
  have el : Int32.ofInt a < 0 ↔ a < 0 := ltI ha hb
  have eg : 0 < Int32.ofInt a ↔ 0 < a := ltI hb ha
  have fl : Int32.ofInt a ≤ 0 ↔ a ≤ 0 := leI ha hb
  have fg : 0 ≤ Int32.ofInt a ↔ 0 ≤ a := leI hb ha
  refine lv_if_le F.1 F.2.1 d ht (fun q => kt ?_ H locs ls hR hS hl) (fun q => kf ?_ H locs ls hR hS hl) <;> simp only [ge_iff_le, gt_iff_lt, ne_eq, ee, el, eg, fl, fg] at q <;> omega

theorem A_tabIn (hG : Cx cc own nL fr lo G) {a dflt lo0 hi0 off : Int} {offs : Array Int} {len : Nat} (tgt : Nat) (d : decode cc pc = .ok (.tableswitch dflt lo0 hi0 offs, len)) (ha : ir a) (h1 : lo0 ≤ a ∧ a ≤ hi0) (ho : offs[(a - lo0).toNat]? = some off) (ht : (pc : Int) + off = (tgt : Int)) (k : G (tgt) L (st) h) : G (pc) L (vI a :: st) h := by
  obtain ⟨p, l, e, R, s, m, args, below, meth, c, D, cA, ad, A, cells, slots, Q, F, rfl⟩ := hG
  intro H locs ls hR hS hl
  exact lv_tableIn F.1 F.2.1 d (by rw [tI ha]; omega) (by rw [tI ha]; omega) (by rw [tI ha]; exact ho) ht (k H locs ls hR hS hl)

theorem A_tabOut (hG : Cx cc own nL fr lo G) {a dflt lo0 hi0 : Int} {offs : Array Int} {len : Nat} (tgt : Nat) (d : decode cc pc = .ok (.tableswitch dflt lo0 hi0 offs, len)) (ha : ir a) (h1 : a < lo0 ∨ hi0 < a) (ht : (pc : Int) + dflt = (tgt : Int)) (k : G (tgt) L (st) h) : G (pc) L (vI a :: st) h := by
  obtain ⟨p, l, e, R, s, m, args, below, meth, c, D, cA, ad, A, cells, slots, Q, F, rfl⟩ := hG
  intro H locs ls hR hS hl
  exact lv_tableOut F.1 F.2.1 d (by rw [tI ha]; omega) ht (k H locs ls hR hS hl)

theorem A_lookup (hG : Cx cc own nL fr lo G) {a dflt off : Int} {ps : Array (Int × Int)} {len : Nat} (tgt : Nat) (d : decode cc pc = .ok (.lookupswitch dflt ps, len)) (hp : (ps.toList.zip (ps.toList.drop 1)).all (fun (a, next) => a.1 < next.1) = true) (ha : ir a) (ho : Op.lookupswitch.offset ps.toList dflt a = off) (ht : (pc : Int) + off = (tgt : Int)) (k : G (tgt) L (st) h) : G (pc) L (vI a :: st) h := by
  obtain ⟨p, l, e, R, s, m, args, below, meth, c, D, cA, ad, A, cells, slots, Q, F, rfl⟩ := hG
  intro H locs ls hR hS hl
  exact lv_lookup F.1 F.2.1 d hp (by rw [tI ha]; exact ho) ht (k H locs ls hR hS hl)

end RULES
end
section
/-! ROWS OF A WALK OVER THE PICTURE: arrays, fields, ends -/
section MEM
variable {cc : ByteArray} {own : String} {nL fr lo : Nat} {G : GT} {pc : Nat} {L L' : List (Nat × Value)} {st : List Value} {h : AH}
theorem ob_le (k : Nat) : obn k ≤ 5000 := by
  have key : ∀ (l : List (Nat × Nat)) (i : Nat), (∀ q ∈ l, q.2 ≤ 5000) → (l.getD i (0, 0)).2 ≤ 5000 := by
    intro l i hl
    rw [List.getD_eq_getElem?_getD]
    cases hi : l[i]? with
    | none => decide
    | some q => exact hl q (List.mem_of_getElem? hi)
  unfold obn ob
  split
  · exact key _ _ (by decide)
  · split
    · decide
    · split
      · decide
      · split
        · decide
        · split
          · exact key _ _ (by decide)
          · split
            · exact key _ _ (by decide)
            · decide
theorem sw_eq {α : Type} (f : Nat → Int → α) (k : Nat) (z : Int) (v : α) : sw f k z v k = fun j => if j = z then v else f k j := by simp [sw]
theorem sw_ne {α : Type} (f : Nat → Int → α) {k q : Nat} (z : Int) (v : α) (hq : q ≠ k) : sw f k z v q = f q := by simp [sw, hq]
theorem toNat_eq {z : Int} {j : Nat} (h : 0 ≤ z) : ((j : Int) = z) ↔ j = z.toNat := by omega
/-- a picture with one object changed, and its heap -/
theorem Rel.set {D : va_G} {cA : Nat → ClassId} {ad : Nat → Nat} {A : Nat → Prop} {h h' : AH} {H H1 : Heap} {k : Nat} (hR : Rel D cA ad h H) (hA : Apart ad A) (hk : obk k ≠ 0 ∧ obk k ≠ 25) (hr : ∀ (q : Nat) (j : Int), ir (h'.1 q j))
    (h1 : ∀ q, q ≠ k → h'.1 q = h.1 q) (h2 : ∀ q, q ≠ k → h'.2.1 q = h.2.1 q) (h3 : ∀ q, q ≠ k → h'.2.2 q = h.2.2 q) (oq : ∀ q : Nat, q ≠ ad k → H1[q]? = H[q]?) (hn : relk D cA ad k (h'.1 k) (h'.2.1 k) (h'.2.2 k) (H1[ad k]?)) : Rel D cA ad h' H1 := by
  refine ⟨hr, fun q => ?_⟩
  by_cases hq : q = k
  · subst hq; exact hn
  · rw [h1 q hq, h2 q hq, h3 q hq]
    by_cases h0 : obk q ≠ 0 ∧ obk q ≠ 25
    · rw [oq (ad q) (fun e => hq (hA.1 q k h0.1 hk.1 h0.2 hk.2 e))]
      exact hR.2 q
    · refine ⟨fun e => ?_, fun e => ?_, fun e => ?_, fun e => ?_, fun e => ?_, fun c hc e => ?_⟩ <;> exact absurd ⟨by omega, by omega⟩ h0
theorem ir_sw {f : Nat → Int → Int} (hf : ∀ q j, ir (f q j)) (k : Nat) (z v : Int) (hv : ir v) : ∀ q j, ir (sw f k z v q j) := by
  intro q j
  by_cases hq : q = k
  · subst hq
    rw [sw_eq]
    show ir (if j = z then v else f q j)
    by_cases hj : j = z
    · rw [if_pos hj]; exact hv
    · rw [if_neg hj]; exact hf q j
  · rw [sw_ne _ _ _ hq]; exact hf q j
theorem arrV_sw {α : Type} (mk : α → Value) (c : ClassId) (N : Nat) (f : Int → α) {z : Int} (v : α) (hz : 0 ≤ z) : (arrV c N (fun j => mk (f j))).setSlot z.toNat (mk v) = arrV c N (fun j => mk (if (j : Int) = z then v else f j)) := by
  rw [arrV_store]
  congr 1
  funext j
  by_cases hj : j = z.toNat
  · rw [if_pos ((toNat_eq hz).mpr hj)]; simp [updV, hj]
  · rw [if_neg (fun e => hj ((toNat_eq hz).mp e))]; simp [updV, hj]
theorem A_iald (hG : Cx cc own nL fr lo G) (d : decode cc pc = .ok (.iaload, 1)) {k : Nat} {z : Int} {N : Nat} (hk : obk k = 20) (hn : obn k = N) (hin : 0 ≤ z ∧ z < N) (kk : G (pc + 1) L (vI (h.1 k z) :: st) h) : G pc L (vI z :: .ref k :: st) h := by
  obtain ⟨p, l, e, R, s, m, args, below, meth, c, D, cA, ad, A, cells, slots, Q, F, rfl⟩ := hG
  intro H locs ls hR hS hl
  have hb := ob_le k
  have hc := (hR.2 k).1 hk
  rw [hn] at hc hb
  refine W.iald (v := vI (h.1 k z)) F.1 F.2.1 hc ((F.2.2.2.2.2.1.1.2 0 _ rfl).1 _ _) (fun q => by cases q) ?_ ?_ rfl rfl d (kk H locs ls hR hS hl)
  · rw [arrV_size]; exact inI hin (by omega)
  · rw [clI hin.1 (by omega), arrV_read _ _ (by omega)]
    rw [Int.toNat_of_nonneg hin.1]
theorem A_zald (hG : Cx cc own nL fr lo G) (d : decode cc pc = .ok (.baload, 1)) {k : Nat} {z : Int} {N : Nat} (hk : obk k = 21) (hn : obn k = N) (hin : 0 ≤ z ∧ z < N) (kk : G (pc + 1) L (vI (h.1 k z) :: st) h) : G pc L (vI z :: .ref k :: st) h := by
  obtain ⟨p, l, e, R, s, m, args, below, meth, c, D, cA, ad, A, cells, slots, Q, F, rfl⟩ := hG
  intro H locs ls hR hS hl
  have hb := ob_le k
  have hc := (hR.2 k).2.1 hk
  rw [hn] at hc hb
  refine W.zald (v := vI (h.1 k z)) F.1 F.2.1 hc ((F.2.2.2.2.2.1.1.2 1 _ rfl).1 _ _) (fun q => by cases q) ?_ ?_ rfl rfl d (kk H locs ls hR hS hl)
  · rw [arrV_size]; exact inI hin (by omega)
  · rw [clI hin.1 (by omega), arrV_read _ _ (by omega)]
    rw [Int.toNat_of_nonneg hin.1]
theorem A_lald (hG : Cx cc own nL fr lo G) (d : decode cc pc = .ok (.laload, 1)) {k : Nat} {z : Int} {N : Nat} (hk : obk k = 22) (hn : obn k = N) (hin : 0 ≤ z ∧ z < N) (kk : G (pc + 1) L (.long (h.2.1 k z) :: st) h) : G pc L (vI z :: .ref k :: st) h := by
  obtain ⟨p, l, e, R, s, m, args, below, meth, c, D, cA, ad, A, cells, slots, Q, F, rfl⟩ := hG
  intro H locs ls hR hS hl
  have hb := ob_le k
  have hc := (hR.2 k).2.2.1 hk
  rw [hn] at hc hb
  refine W.lald (v := .long (h.2.1 k z)) F.1 F.2.1 hc ((F.2.2.2.2.2.1.1.2 2 _ rfl).1 _ _) (fun q => by cases q) ?_ ?_ rfl rfl d (kk H locs ls hR hS hl)
  · rw [arrV_size]; exact inI hin (by omega)
  · rw [clI hin.1 (by omega), arrV_read _ _ (by omega)]
    rw [Int.toNat_of_nonneg hin.1]
theorem A_aald (hG : Cx cc own nL fr lo G) (d : decode cc pc = .ok (.aaload, 1)) {k : Nat} {z : Int} {N : Nat} (hk : obk k = 23 ∨ obk k = 24) (hn : obn k = N) (hin : 0 ≤ z ∧ z < N) (kk : G (pc + 1) L (.ref (h.2.2 k z) :: st) h) : G pc L (vI z :: .ref k :: st) h := by
  obtain ⟨p, l, e, R, s, m, args, below, meth, c, D, cA, ad, A, cells, slots, Q, F, rfl⟩ := hG
  intro H locs ls hR hS hl
  have hb := ob_le k
  rw [hn] at hb
  rcases hk with hk | hk
  · have hc := (hR.2 k).2.2.2.1 hk
    rw [hn] at hc
    refine W.aald (v := .ref (ad (h.2.2 k z))) (ty := .object "OneWordWrong$Row") F.1 F.2.1 hc ((F.2.2.2.2.2.1.1.2 3 _ rfl).1 _ _) rfl (fun q => by cases q) ?_ ?_ rfl rfl d (kk H locs ls hR hS hl)
    · rw [arrV_size]; exact inI hin (by omega)
    · rw [clI hin.1 (by omega), arrV_read _ _ (by omega)]
      rw [Int.toNat_of_nonneg hin.1]
  · have hc := (hR.2 k).2.2.2.2.1 hk
    rw [hn] at hc
    refine W.aald (v := .ref (ad (h.2.2 k z))) (ty := .object "OneWordWrong$KeptOne") F.1 F.2.1 hc ((F.2.2.2.2.2.1.1.2 4 _ rfl).1 _ _) rfl (fun q => by cases q) ?_ ?_ rfl rfl d (kk H locs ls hR hS hl)
    · rw [arrV_size]; exact inI hin (by omega)
    · rw [clI hin.1 (by omega), arrV_read _ _ (by omega)]
      rw [Int.toNat_of_nonneg hin.1]
/-- a static table -/
theorem A_tald (hG : Cx cc own nL fr lo G) (d : decode cc pc = .ok (.iaload, 1)) {k : Nat} {z : Int} {N : Nat} (hk : obk k = 25) (hn : obn k = N) (hin : 0 ≤ z ∧ z < N) (kk : G (pc + 1) L (vI (tb k z) :: st) h) : G pc L (vI z :: .ref k :: st) h := by
  obtain ⟨p, l, e, R, s, m, args, below, meth, c, D, cA, ad, A, cells, slots, Q, F, rfl⟩ := hG
  intro H locs ls hR hS hl
  have hb := ob_le k
  have hT := (F.2.2.2.2.2.1.2.2.1 k hk).2
  rw [hn] at hT hb
  refine va_ti F.1 F.2.1 hT hS (v := vI (tb k z)) (inI hin (by omega)) ?_ d (kk H locs ls hR hS hl)
  rw [clI hin.1 (by omega)]
  show vI (tb k z.toNat) = _
  rw [Int.toNat_of_nonneg hin.1]
theorem A_tlen (hG : Cx cc own nL fr lo G) (d : decode cc pc = .ok (.arraylength, 1)) {k : Nat} {N : Nat} (hk : obk k = 25) (hn : obn k = N) (kk : G (pc + 1) L (vI N :: st) h) : G pc L (.ref k :: st) h := by
  obtain ⟨p, l, e, R, s, m, args, below, meth, c, D, cA, ad, A, cells, slots, Q, F, rfl⟩ := hG
  intro H locs ls hR hS hl
  have hT := (F.2.2.2.2.2.1.2.2.1 k hk).2
  rw [hn] at hT
  exact va_tlen F.1 F.2.1 hT hS (v := Int32.ofInt N) rfl d (kk H locs ls hR hS hl)
theorem A_alen (hG : Cx cc own nL fr lo G) (d : decode cc pc = .ok (.arraylength, 1)) {k : Nat} {N : Nat} (hk : obk k = 20 ∨ obk k = 22) (hn : obn k = N) (kk : G (pc + 1) L (vI N :: st) h) : G pc L (.ref k :: st) h := by
  obtain ⟨p, l, e, R, s, m, args, below, meth, c, D, cA, ad, A, cells, slots, Q, F, rfl⟩ := hG
  intro H locs ls hR hS hl
  rcases hk with hk | hk
  · have hc := (hR.2 k).1 hk
    rw [hn] at hc
    exact W.alen (n := Int32.ofInt N) F.1 F.2.1 hc ((F.2.2.2.2.2.1.1.2 0 _ rfl).1 _ _) (by rw [arrV_size]; rfl) rfl rfl d (kk H locs ls hR hS hl)
  · have hc := (hR.2 k).2.2.1 hk
    rw [hn] at hc
    exact W.alen (n := Int32.ofInt N) F.1 F.2.1 hc ((F.2.2.2.2.2.1.1.2 2 _ rfl).1 _ _) (by rw [arrV_size]; rfl) rfl rfl d (kk H locs ls hR hS hl)
theorem A_iast (hG : Cx cc own nL fr lo G) (d : decode cc pc = .ok (.iastore, 1)) {k : Nat} {z v : Int} {N : Nat} (hk : obk k = 20) (hn : obn k = N) (hin : 0 ≤ z ∧ z < N) (hv : ir v) (kk : G (pc + 1) L st (hwi h k z v)) : G pc L (vI v :: vI z :: .ref k :: st) h := by
  obtain ⟨p, l, e, R, s, m, args, below, meth, c, D, cA, ad, A, cells, slots, Q, F, rfl⟩ := hG
  intro H locs ls hR hS hl
  have hb := ob_le k
  have hc := (hR.2 k).1 hk
  rw [hn] at hb
  have hA := F.2.2.2.2.2.1.2.1
  refine W.iast F.1 F.2.1 hc ((F.2.2.2.2.2.1.1.2 0 _ rfl).1 _ _) (fun q => by cases q) (by rw [arrV_size, hn]; exact inI hin (by omega)) rfl rfl d fun H1 e1 z1 oq => ?_
  refine kk H1 _ ls ?_ (hS.put z1 oq (hA.2 k (by omega) (by omega))) hl
  rw [clI hin.1 (by omega)] at e1
  refine Rel.set (k := k) hR hA ⟨by omega, by omega⟩ (ir_sw hR.1 k z v hv) (fun q hq => sw_ne _ _ _ hq) (fun q _ => rfl) (fun q _ => rfl) oq ?_
  refine ⟨fun _ => ?_, fun q => by omega, fun q => by omega, fun q => by omega, fun q => by omega, fun c' h1 h2 => by omega⟩
  rw [e1]
  show some ((arrV (cA 0) (obn k) (fun j => vI (h.1 k j))).setSlot z.toNat (vI v)) = some (arrV (cA 0) (obn k) (fun j => vI (sw h.1 k z v k j)))
  rw [sw_eq, arrV_sw vI _ _ _ _ hin.1]
theorem A_zast (hG : Cx cc own nL fr lo G) (d : decode cc pc = .ok (.bastore, 1)) {k : Nat} {z v : Int} {N : Nat} (hk : obk k = 21) (hn : obn k = N) (hin : 0 ≤ z ∧ z < N) (hv : v = 0 ∨ v = 1) (kk : G (pc + 1) L st (hwi h k z v)) : G pc L (vI v :: vI z :: .ref k :: st) h := by
  obtain ⟨p, l, e, R, s, m, args, below, meth, c, D, cA, ad, A, cells, slots, Q, F, rfl⟩ := hG
  intro H locs ls hR hS hl
  have hb := ob_le k
  have hc := (hR.2 k).2.1 hk
  rw [hn] at hb
  have hA := F.2.2.2.2.2.1.2.1
  refine W.zast F.1 F.2.1 hc ((F.2.2.2.2.2.1.1.2 1 _ rfl).1 _ _) (fun q => by cases q) (by rw [arrV_size, hn]; exact inI hin (by omega)) rfl rfl d fun H1 e1 z1 oq => ?_
  refine kk H1 _ ls ?_ (hS.put z1 oq (hA.2 k (by omega) (by omega))) hl
  rw [clI hin.1 (by omega)] at e1
  refine Rel.set (k := k) hR hA ⟨by omega, by omega⟩ (ir_sw hR.1 k z v (by rcases hv with rfl | rfl <;> constructor <;> decide)) (fun q hq => sw_ne _ _ _ hq) (fun q _ => rfl) (fun q _ => rfl) oq ?_
  refine ⟨fun q => by omega, fun _ => ?_, fun q => by omega, fun q => by omega, fun q => by omega, fun c' h1 h2 => by omega⟩
  rw [e1]
  have e2 : narrow .boolean (.int (Int32.ofInt v)) = vI v := by rcases hv with rfl | rfl <;> rfl
  show some ((arrV (cA 1) (obn k) (fun j => vI (h.1 k j))).setSlot z.toNat (narrow .boolean (.int (Int32.ofInt v)))) = some (arrV (cA 1) (obn k) (fun j => vI (sw h.1 k z v k j)))
  rw [e2, sw_eq, arrV_sw vI _ _ _ _ hin.1]
theorem A_last (hG : Cx cc own nL fr lo G) (d : decode cc pc = .ok (.lastore, 1)) {k : Nat} {z : Int} {v : Int64} {N : Nat} (hk : obk k = 22) (hn : obn k = N) (hin : 0 ≤ z ∧ z < N) (kk : G (pc + 1) L st (hwl h k z v)) : G pc L (.long v :: vI z :: .ref k :: st) h := by
  obtain ⟨p, l, e, R, s, m, args, below, meth, c, D, cA, ad, A, cells, slots, Q, F, rfl⟩ := hG
  intro H locs ls hR hS hl
  have hb := ob_le k
  have hc := (hR.2 k).2.2.1 hk
  rw [hn] at hb
  have hA := F.2.2.2.2.2.1.2.1
  refine W.last F.1 F.2.1 hc ((F.2.2.2.2.2.1.1.2 2 _ rfl).1 _ _) (fun q => by cases q) (by rw [arrV_size, hn]; exact inI hin (by omega)) rfl rfl d fun H1 e1 z1 oq => ?_
  refine kk H1 _ ls ?_ (hS.put z1 oq (hA.2 k (by omega) (by omega))) hl
  rw [clI hin.1 (by omega)] at e1
  refine Rel.set (k := k) hR hA ⟨by omega, by omega⟩ hR.1 (fun q _ => rfl) (fun q hq => sw_ne _ _ _ hq) (fun q _ => rfl) oq ?_
  refine ⟨fun q => by omega, fun q => by omega, fun _ => ?_, fun q => by omega, fun q => by omega, fun c' h1 h2 => by omega⟩
  rw [e1]
  show some ((arrV (cA 2) (obn k) (fun j => .long (h.2.1 k j))).setSlot z.toNat (.long v)) = some (arrV (cA 2) (obn k) (fun j => .long (sw h.2.1 k z v k j)))
  rw [sw_eq, arrV_sw .long _ _ _ _ hin.1]
/-- a Row into an array of Rows -/
theorem A_aast (hG : Cx cc own nL fr lo G) (d : decode cc pc = .ok (.aastore, 1)) {k r : Nat} {z : Int} {N : Nat} (hk : obk k = 23) (hn : obn k = N) (hr : obk r = 8) (hin : 0 ≤ z ∧ z < N) (kk : G (pc + 1) L st (hwr h k z r)) : G pc L (.ref r :: vI z :: .ref k :: st) h := by
  obtain ⟨p, l, e, R, s, m, args, below, meth, c, D, cA, ad, A, cells, slots, Q, F, rfl⟩ := hG
  intro H locs ls hR hS hl
  have hb := ob_le k
  have hc := (hR.2 k).2.2.2.1 hk
  rw [hn] at hb
  have hA := F.2.2.2.2.2.1.2.1
  have hK := F.2.2.2.2.2.1.1
  obtain ⟨q8, cellV, g0, g1, g2, g3, -⟩ := (hR.2 r).2.2.2.2.2 7 (by decide) hr
  have hcls := (hK.1 7 _ rfl).2
  obtain ⟨kA, comp, k1, k2, k3, -⟩ := (hK.2 3 _ rfl).2
  have hcomp : comp = D.1 7 := Option.some.inj (k3.symm.trans hcls.1)
  subst hcomp
  obtain ⟨kC, hkC, -⟩ := hcls.2
  refine W.aast F.1 F.2.1 hc (fun q h => by cases h) (fun h => by cases h) k1 k2 rfl hkC ⟨fun q => (inI hin (by omega)) (Or.inl q), by show _ < (arrV _ _ _).slots.size; rw [arrV_size, clI hin.1 (by omega), hn]; omega⟩ g1 (fun q h => by rw [g3] at h; cases h) (by rw [g2]; exact hkC) (by rw [g2]; exact va_assign hcls) rfl rfl d fun H1 e1 z1 oq => ?_
  refine kk H1 _ ls ?_ (hS.put z1 oq (hA.2 k (by omega) (by omega))) hl
  rw [clI hin.1 (by omega)] at e1
  refine Rel.set (k := k) hR hA ⟨by omega, by omega⟩ hR.1 (fun q _ => rfl) (fun q _ => rfl) (fun q hq => sw_ne _ _ _ hq) oq ?_
  refine ⟨fun q => by omega, fun q => by omega, fun q => by omega, fun _ => ?_, fun q => by omega, fun c' h1 h2 => by omega⟩
  rw [e1]
  show some ((arrV (cA 3) (obn k) (fun j => .ref (ad (h.2.2 k j)))).setSlot z.toNat (.ref (ad r))) = some (arrV (cA 3) (obn k) (fun j => .ref (ad (sw h.2.2 k z r k j))))
  rw [sw_eq, arrV_sw (fun x => Value.ref (ad x)) _ _ _ _ hin.1]
end MEM
end
section
/-! ROWS OF A WALK OVER THE PICTURE: fields, calls, ends -/
section CALL
variable {cc : ByteArray} {own : String} {nL fr lo : Nat} {G : GT} {pc : Nat} {L L' : List (Nat × Value)} {st : List Value} {h : AH}
theorem ckX0 : (u_ws RX0 TX0 2).all (fun w => decide (w ∈ wsAll)) = true := by decide +kernel
theorem ckX1 : (u_ws RX1 TX1 12).all (fun w => decide (w ∈ wsAll)) = true := by decide +kernel
theorem ckX2 : (u_ws RX2 TX2 2).all (fun w => decide (w ∈ wsAll)) = true := by decide +kernel
theorem ckX3 : (u_ws RX3 TX3 4).all (fun w => decide (w ∈ wsAll)) = true := by decide +kernel
theorem ckX4 : (u_ws RX4 TX4 2).all (fun w => decide (w ∈ wsAll)) = true := by decide +kernel
theorem ckX5 : (u_ws RX5 TX5 9).all (fun w => decide (w ∈ wsAll)) = true := by decide +kernel
theorem ckX6 : (u_ws RX6 TX6 1).all (fun w => decide (w ∈ wsAll)) = true := by decide +kernel
theorem ckX7 : (u_ws RX7 TX7 3).all (fun w => decide (w ∈ wsAll)) = true := by decide +kernel
theorem ckX9 : (u_ws RX9 TX9 4).all (fun w => decide (w ∈ wsAll)) = true := by decide +kernel
theorem ckX10 : (u_ws RX10 TX10 1).all (fun w => decide (w ∈ wsAll)) = true := by decide +kernel
theorem ckX11 : (u_ws RX11 TX11 14).all (fun w => decide (w ∈ wsAll)) = true := by decide +kernel
theorem ckX12 : (u_ws RX12 TX12 27).all (fun w => decide (w ∈ wsAll)) = true := by decide +kernel
theorem ck_of {ws : List Cond} (h : ws.all (fun w => decide (w ∈ wsAll)) = true) : ∀ w ∈ ws, w ∈ wsAll := fun w hw => of_decide_eq_true (List.all_eq_true.mp h w hw)
/-- of every class: its words are among the tables', its fields' types and names -/
theorem clsok (c : Nat) (q : vw_C) (hq : cls[c]? = some q) : (∀ w ∈ u_ws q.1 q.2.1 q.2.2, w ∈ wsAll) ∧ (∃ ty0 : Nat → FieldType, ∀ k, k < q.2.2 → parseFieldDescriptor (q.2.1 k).2.2.1 = some (ty0 k)) ∧ (∀ a, a < q.2.2 → ∀ b, b < q.2.2 → a ≠ b → (q.2.1 a).2.1 ≠ (q.2.1 b).2.1) := by
  match c, hq with
  | 0, hq => cases hq; exact ⟨ck_of ckX0, ⟨tyX0, tyX0_ok⟩, nmX0⟩
  | 1, hq => cases hq; exact ⟨ck_of ckX1, ⟨tyX1, tyX1_ok⟩, nmX1⟩
  | 2, hq => cases hq; exact ⟨ck_of ckX2, ⟨tyX2, tyX2_ok⟩, nmX2⟩
  | 3, hq => cases hq; exact ⟨ck_of ckX3, ⟨tyX3, tyX3_ok⟩, nmX3⟩
  | 4, hq => cases hq; exact ⟨ck_of ckX4, ⟨tyX4, tyX4_ok⟩, nmX4⟩
  | 5, hq => cases hq; exact ⟨ck_of ckX5, ⟨tyX5, tyX5_ok⟩, nmX5⟩
  | 6, hq => cases hq; exact ⟨ck_of ckX6, ⟨tyX6, tyX6_ok⟩, nmX6⟩
  | 7, hq => cases hq; exact ⟨ck_of ckX7, ⟨tyX7, tyX7_ok⟩, nmX7⟩
  | 8, hq => cases hq; exact ⟨ck_of ckX9, ⟨tyX9, tyX9_ok⟩, nmX9⟩
  | 9, hq => cases hq; exact ⟨ck_of ckX10, ⟨tyX10, tyX10_ok⟩, nmX10⟩
  | 10, hq => cases hq; exact ⟨ck_of ckX11, ⟨tyX11, tyX11_ok⟩, nmX11⟩
  | 11, hq => cases hq; exact ⟨ck_of ckX12, ⟨tyX12, tyX12_ok⟩, nmX12⟩
  | c + 12, hq => simp [cls] at hq
/-- the field that a getfield or putfield of the class 'own' with this index names: the j-th of class c -/
def FLk (own : String) (idx c j : Nat) : Prop := ∃ (ref : String) (q : vw_C), cls[c]? = some q ∧ j < q.2.2 ∧ (Cond.fieldLink own idx ref (q.2.1 j).2.1 (q.2.1 j).2.2.1 ∈ wsAll ∨ ∃ host, Cond.fieldLinkNest own idx ref (q.2.1 j).2.1 (q.2.1 j).2.2.1 host ∈ nestAll) ∧ (ref = (q.2.1 j).1 ∨ Cond.sameField ref (q.2.1 j).1 (q.2.1 j).2.1 (q.2.1 j).2.2.1 ∈ wsAll)
theorem A_get (hG : Cx cc own nL fr lo G) {idx k c j : Nat} {v : Value} (d : decode cc pc = .ok (.getfield idx, 3)) (hf : FLk own idx c j) (hc : c < 12) (hk : obk k = c + 1) (hv : ∀ ad : Nat → Nat, fvv ad (h.1 k) (h.2.2 k) k c j = cv ad v) (kk : G (pc + 3) L (v :: st) h) : G pc L (.ref k :: st) h := by
  obtain ⟨p, l, e, R, s, m, args, below, meth, c0, D, cA, ad, A, cells, slots, Q, F, rfl⟩ := hG
  intro H locs ls hR hS hl
  obtain ⟨ref, q, hq, hj, hlink, hsame⟩ := hf
  obtain ⟨q', cell, hq', hcell, hcl, hvm, hsl⟩ := (hR.2 k).2.2.2.2.2 c hc hk
  cases hq.symm.trans hq'
  have hK := F.2.2.2.2.2.1.1
  have hts := F.2.2.2.2.1
  obtain ⟨hS0, hfc, kC, hkC, hkind⟩ := hK.1 c _ hq
  obtain ⟨cf, kf, fi, f, hi, hfs⟩ := hS0 j hj
  have hst := (u_facts hfc hkC (u_lays hts (clsok c q hq).1 hj) hi).1
  have hi2 : s.fieldFound? ref (q.2.1 j).2.1 (q.2.1 j).2.2.1 = some (cf, kf, fi, f) := by
    rcases hsame with e1 | e1
    · rw [e1]; exact hi
    · exact u_same (hts _ e1) _ hi
  have hslot : cell.slots[f.slot]? = some (cv ad v) := by rw [hfs, hsl j hj, hv]
  rcases hlink with e1 | ⟨host, e1⟩
  · exact W.getf F.1 F.2.1 F.2.2.2.1 (hts _ e1) hi2 hst hcell (by rw [hvm]; exact fun h => by cases h) hslot rfl rfl d (kk H locs ls hR hS hl)
  · exact va_Wgetf F.1 F.2.1 F.2.2.2.1 (va_Nw.use rfl (F.2.2.2.2.2.1.2.2.2 _ e1)) hi2 hst hcell (by rw [hvm]; exact fun h => by cases h) hslot rfl rfl d (kk H locs ls hR hS hl)
theorem A_getI (hG : Cx cc own nL fr lo G) {idx k c j : Nat} {z : Int} (d : decode cc pc = .ok (.getfield idx, 3)) (hf : FLk own idx c j) (hc : c < 12) (hk : obk k = c + 1) (ht : (fcode c j).1 = 0) (hz : (j : Int) = z) (kk : G (pc + 3) L (vI (h.1 k z) :: st) h) : G pc L (.ref k :: st) h := by
  subst hz
  exact A_get hG d hf hc hk (fun ad => by rw [fvv, if_pos ht]; rfl) kk
theorem A_getR (hG : Cx cc own nL fr lo G) {idx k c j r : Nat} (d : decode cc pc = .ok (.getfield idx, 3)) (hf : FLk own idx c j) (hc : c < 12) (hk : obk k = c + 1) (ht : ¬ (fcode c j).1 = 0) (hr : frn (h.2.2 k) k c j = r) (kk : G (pc + 3) L (.ref r :: st) h) : G pc L (.ref k :: st) h := by
  subst hr
  exact A_get hG d hf hc hk (fun ad => by rw [fvv, if_neg ht]; rfl) kk
theorem A_put (hG : Cx cc own nL fr lo G) {idx k c j : Nat} {v : Value} {ty : FieldType} {h' : AH} (d : decode cc pc = .ok (.putfield idx, 3)) (hf : FLk own idx c j) (hc : c < 12) (hk : obk k = c + 1)
    (hnf : ∀ q, cls[c]? = some q → (q.2.1 j).2.2.2 = false ∧ parseFieldDescriptor (q.2.1 j).2.2.1 = some ty) (hnr : ∀ ad : Nat → Nat, narrow ty (cv ad v) = cv ad v ∧ fits ty (cv ad v) = true) (hi' : ∀ q z, ir (h.1 q z) → ir (h'.1 q z))
    (h1 : ∀ q, q ≠ k → h'.1 q = h.1 q) (h2 : ∀ q, q ≠ k → h'.2.1 q = h.2.1 q) (h3 : ∀ q, q ≠ k → h'.2.2 q = h.2.2 q) (hn : ∀ (ad : Nat → Nat) (i : Nat), fvv ad (h'.1 k) (h'.2.2 k) k c i = if i = j then cv ad v else fvv ad (h.1 k) (h.2.2 k) k c i)
    (kk : G (pc + 3) L st h') : G pc L (v :: .ref k :: st) h := by
  obtain ⟨p, l, e, R, s, m, args, below, meth, c0, D, cA, ad, A, cells, slots, Q, F, rfl⟩ := hG
  intro H locs ls hR hS hl
  obtain ⟨ref, q, hq, hj, hlink, hsame⟩ := hf
  obtain ⟨q', cell, hq', hcell, hcl, hvm, hsl⟩ := (hR.2 k).2.2.2.2.2 c hc hk
  cases hq.symm.trans hq'
  have hK := F.2.2.2.2.2.1.1
  have hA := F.2.2.2.2.2.1.2.1
  have hts := F.2.2.2.2.1
  obtain ⟨hnf1, hnf2⟩ := hnf q hq
  obtain ⟨cw1, ⟨ty0, cw2⟩, cw3⟩ := clsok c q hq
  have hap := va_apart (own := own) (tys := ctys cA) hts cw1 ty0 cw2 cw3 hK hq
  obtain ⟨hS0, hfc, kC, hkC, hkind⟩ := hK.1 c _ hq
  obtain ⟨cf, kf, fi, f, hi, hfs⟩ := hS0 j hj
  have hlay := hts _ (cw1 _ (u_in_lay hj))
  unfold u_lay at hlay
  rw [if_neg (by rw [hnf1]; decide)] at hlay
  have hst := (u_facts hfc hkC (u_lays hts cw1 hj) hi).1
  have hi2 : s.fieldFound? ref (q.2.1 j).2.1 (q.2.1 j).2.2.1 = some (cf, kf, fi, f) := by
    rcases hsame with e1 | e1
    · rw [e1]; exact hi
    · exact u_same (hts _ e1) _ hi
  have h6 := u_store hfc hkC hkind hlay hi hnf2 (hnr ad).1 (hnr ad).2
  have hlt : f.slot < cell.slots.size := by rw [hfs]; exact k2_hasslot (hsl j hj)
  have fin : ∀ H1 : Heap, H1[ad k]? = some (cell.setSlot f.slot (cv ad v)) → H1.size = H.size → (∀ q, q ≠ ad k → H1[q]? = H[q]?) → W p l e R s m args below meth c0 H1 (locs ++ [⟨ad k, f.slot⟩]) cells slots Q (F0 m (pc + 3) ls (st.map (cv ad))) := by
    intro H1 e1 e2 e3
    refine kk H1 _ ls ?_ (hS.put e2 e3 (hA.2 k (by omega) (by omega))) hl
    refine Rel.set (k := k) hR hA ⟨by omega, by omega⟩ (fun q z => hi' q z (hR.1 q z)) h1 h2 h3 e3 ?_
    refine ⟨fun q => by omega, fun q => by omega, fun q => by omega, fun q => by omega, fun q => by omega, fun c' g1 g2 => ?_⟩
    have hcc : c' = c := by omega
    subst hcc
    refine ⟨q, _, hq, e1, hcl, hvm, fun i hi3 => ?_⟩
    rw [hfs, t_set hsl hap hj (cv ad v) i hi3, hn]
    simp only [updV]
  rcases hlink with e1 | ⟨host, e1⟩
  · exact W.putK F.1 F.2.1 (f := f) ⟨F.2.2.2.1, hts _ e1, ⟨_, _, _, hi2⟩, hst⟩ (by rw [hcl]; exact h6) hcell hvm hlt rfl rfl d fin
  · exact va_WputK F.1 F.2.1 F.2.2.2.1 (va_Nw.use rfl (F.2.2.2.2.2.1.2.2.2 _ e1)) hi2 hst (by rw [hcl]; exact h6) hcell hvm hlt rfl rfl d fin
theorem A_putI (hG : Cx cc own nL fr lo G) {idx k c j : Nat} {z v : Int} {ty : FieldType} (d : decode cc pc = .ok (.putfield idx, 3)) (hf : FLk own idx c j) (hc : c < 12) (hk : obk k = c + 1) (hnf : ∀ q, cls[c]? = some q → (q.2.1 j).2.2.2 = false ∧ parseFieldDescriptor (q.2.1 j).2.2.1 = some ty) (ht : (fcode c j).1 = 0) (hz : (j : Int) = z) (hv : ir v) (hty : ty = .int ∨ ty = .boolean ∧ (v = 0 ∨ v = 1))
    (kk : G (pc + 3) L st (hwi h k z v)) : G pc L (vI v :: .ref k :: st) h := by
  subst hz
  refine A_put (h' := hwi h k j v) hG d hf hc hk hnf (fun ad => ?_) (fun q z hq => ?_) (fun q hq => sw_ne _ _ _ hq) (fun q _ => rfl) (fun q _ => rfl) (fun ad i => ?_) kk
  · rcases hty with rfl | ⟨rfl, rfl | rfl⟩ <;> exact ⟨rfl, rfl⟩
  · by_cases hqk : q = k
    · subst hqk
      show ir (sw h.1 q j v q z)
      rw [sw_eq]
      show ir (if z = j then v else h.1 q z)
      by_cases hj : z = (j : Int)
      · rw [if_pos hj]; exact hv
      · rw [if_neg hj]; exact hq
    · show ir (sw h.1 k j v q z)
      rw [sw_ne _ _ _ hqk]; exact hq
  · show fvv ad (sw h.1 k j v k) (h.2.2 k) k c i = _
    rw [sw_eq]
    by_cases hi : i = j
    · subst hi
      rw [if_pos rfl, fvv, if_pos ht, if_pos rfl]; rfl
    · rw [if_neg hi, fvv, fvv, if_neg (show ¬ (i : Int) = (j : Int) by omega)]
theorem A_putR (hG : Cx cc own nL fr lo G) {idx k c j r : Nat} {z : Int} {ty : FieldType} (d : decode cc pc = .ok (.putfield idx, 3)) (hf : FLk own idx c j) (hc : c < 12) (hk : obk k = c + 1) (hnf : ∀ q, cls[c]? = some q → (q.2.1 j).2.2.2 = false ∧ parseFieldDescriptor (q.2.1 j).2.2.1 = some ty) (ht : (fcode c j).1 = 3) (hz : (j : Int) = z) (hty : ∃ n, ty = .object n)
    (kk : G (pc + 3) L st (hwr h k z r)) : G pc L (.ref r :: .ref k :: st) h := by
  subst hz
  refine A_put (h' := hwr h k j r) hG d hf hc hk hnf (fun ad => ?_) (fun q z hq => hq) (fun q _ => rfl) (fun q _ => rfl) (fun q hq => sw_ne _ _ _ hq) (fun ad i => ?_) kk
  · obtain ⟨n, rfl⟩ := hty; exact ⟨rfl, rfl⟩
  · show fvv ad (h.1 k) (sw h.2.2 k j r k) k c i = _
    rw [sw_eq]
    by_cases hi : i = j
    · subst hi
      rw [if_pos rfl, fvv, if_neg (by omega), frn, if_neg (by omega), if_neg (by omega), if_pos rfl]; rfl
    · rw [if_neg hi, fvv, fvv, frn, frn, if_neg (show ¬ (i : Int) = (j : Int) by omega)]
theorem A_gets (hG : Cx cc own nL fr lo G) {idx k : Nat} (d : decode cc pc = .ok (.getstatic idx, 3)) (hk : obk k = 25) (hl0 : Cond.fieldLink own idx RX11 (nmS.getD (k - 600) "") "[I" ∈ wsAll ∨ ∃ host, Cond.fieldLinkNest own idx RX11 (nmS.getD (k - 600) "") "[I" host ∈ nestAll) (kk : G (pc + 3) L (.ref k :: st) h) : G pc L st h := by
  obtain ⟨p, l, e, R, s, m, args, below, meth, c, D, cA, ad, A, cells, slots, Q, F, rfl⟩ := hG
  intro H locs ls hR hS hl
  have hZ := (F.2.2.2.2.2.1.2.2.1 k hk).1
  rcases hl0 with e1 | ⟨host, e1⟩
  · exact va_gets F.1 F.2.1 hZ hS F.2.2.2.1 (F.2.2.2.2.1 _ e1) (fun _ x => x) d (kk H locs ls hR hS hl)
  · exact va_getsN F.1 F.2.1 hZ hS F.2.2.2.1 (va_Nw.use rfl (F.2.2.2.2.2.1.2.2.2 _ e1)) (fun _ x => x) d (kk H locs ls hR hS hl)
/-- behind a call -/
theorem AW_run {p : Program} {l : Launch} {e : Env} {R : Room} {s : State} {m : MethodId} {args : Array Value} {below : List Frame} {meth : Method} {c : Code} {D : va_G} {cA : Nat → ClassId} {ad : Nat → Nat} {A : Nat → Prop} {cells slots : Nat} {Q : State → Prop} {H : Heap} {locs : List Loc} {ls : Array Slot} {st0 rest : List Value} {a : Array Value} {QR : Option Value → AH → Prop}
    (hr : va_Run p l e R s m args below meth c H locs cells slots 0 0 (F0 m pc ls st0) (rest.map (cv ad)) (Qm D cA ad A QR a) A) (hS : va_S A s.heap H locs) (hl : lv_has ls nL (L.map (fun q => (q.1, cv ad q.2))))
    (kk : ∀ (v : Option Value) (h' : AH), QR v h' → AW p l e R s m args below meth c nL D cA ad A cells slots Q (pc + 3) L (v.toList ++ rest) h') : W p l e R s m args below meth c H locs cells slots Q (F0 m pc ls st0) := by
  intro T hT X
  obtain ⟨v, st₀, t, T', Lc, h0, X', hL, e1, e2, ⟨⟨v', h', hv, hq, hWd⟩, hz, hkp⟩, stp⟩ := hr T hT X
  cases hv
  rw [h0] at hz hkp
  have hS1 : va_S A s.heap T'.heap (locs ++ Lc) := ⟨Nat.le_trans hS.1 (by rw [e1]; exact hz), fun q h1 h2 => by rw [e1, hkp q (Nat.lt_of_lt_of_le h1 hS.1) h2]; exact hS.2.1 q h1 h2, fun q hq => by
    rcases List.mem_append.mp hq with h | h
    · exact hS.2.2 q h
    · exact hL q h⟩
  have k1 := kk v' h' hq T'.heap (locs ++ Lc) ls (by rw [e1]; exact hWd.1) hS1 hl
  have e3 : (v'.toList ++ rest).map (cv ad) = (v'.map (cv ad)).toList ++ rest.map (cv ad) := by cases v' <;> simp
  rw [e3] at k1
  obtain ⟨t2, a1, b1⟩ := k1 T' rfl X'
  exact ⟨t2, stp t2 a1, b1⟩
/-- what the tables say of a method that is called -/
def MFc (y : MethodName) (b : ByteArray) (nLy : Nat) (ret : Option FieldType) (n : Nat) : Prop := Cond.code y b nLy ret ∈ wsAll ∧ Cond.initialized y.cls ∈ wsAll ∧ (y.cls ≠ "java/lang/invoke/MethodHandle" ∧ y.cls ≠ "java/lang/invoke/VarHandle") ∧ (parseMethodDescriptor y.desc).map (fun d => d.parameters.length) = some n
def MLk (own : String) (idx : Nat) (y : MethodName) : Prop := Cond.methodLink own idx y ∈ wsAll ∨ ∃ host, Cond.methodLinkNest own idx y host ∈ nestAll
theorem MF_len {y : MethodName} {b : ByteArray} {nLy n : Nat} {ret : Option FieldType} (hm : MFc y b nLy ret n) : ∀ sig, parseMethodDescriptor y.desc = some sig → n = sig.parameters.length := fun sig hs => by
  have h2 := hm.2.2.2
  rw [hs] at h2
  exact (Option.some.inj h2).symm
theorem ws_pay {args : Array Value} {s : State} {y : MethodName} {b : ByteArray} {nLy : Nat} {ret : Option FieldType} (hts : ∀ w ∈ wsAll, w.before args s = true) (hc : Cond.code y b nLy ret ∈ wsAll) : ∀ w ∈ (Cond.code y b nLy ret :: wsAll), ∀ (a' : Array Value) (U : State), s.WarmedH U.vm → w.before a' U = true :=
  pay_in hts (fun w hw => by
    have hm : w ∈ wsAll := by
      rcases List.mem_cons.mp hw with e | e
      · rw [e]; exact hc
      · exact e
    exact ⟨hm, good_of_word (wsAll_good w hm)⟩)
theorem cat_cv (ad : Nat → Nat) (l : List Value) : ((l.map (cv ad)).map fun v => v.category).sum = (l.map fun v => v.category).sum := by
  rw [List.map_map]
  congr 2
  funext v
  exact cv_cat ad v
theorem Wld {D : va_G} {cA : Nat → ClassId} {ad : Nat → Nat} {A : Nat → Prop} {s U : State} {H : Heap} {locs : List Loc} (hW0 : Wst D cA ad A s s.heap) (hR : Rel D cA ad h H) (hS : va_S A s.heap H locs) (hU : U.heap = H) (hW : s.WarmedH U.vm) : World D cA ad A h U := by
  subst hU
  exact ⟨hR, (hW0.kept hS.2.1).warm hW⟩
theorem A_callV (hG : Cx cc own nL fr lo G) {idx k c n nLy fr' lo' : Nat} {y : MethodName} {b : ByteArray} {ret : Option FieldType} {q : vw_C} {as st0 : List Value} {QR : Option Value → AH → Prop} (d : decode cc pc = .ok (.invokevirtual idx, 3)) (hl0 : MLk own idx y) (hm : MFc y b nLy ret n) (hi : Cond.instanceMethod y ∈ wsAll) (hs : Cond.selects q.1 y y ∈ wsAll)
    (hq : cls[c]? = some q) (hc : c < 12) (hk : obk k = c + 1) (hM : AMet y b nLy ret fr' lo' (.ref k :: as) h QR) (hfr : fr' + 1 ≤ fr) (hlo : 8 + (nLy + 11) + lo' ≤ lo) (hst : st0 = as.reverse ++ .ref k :: st) (hn : as.length = n) (hw : (st.map fun v => v.category).sum ≤ 8)
    (kk : ∀ (v : Option Value) (h' : AH), QR v h' → G (pc + 3) L (v.toList ++ st) h') : G pc L st0 h := by
  obtain ⟨p, l, e, R, s, m, args, below, meth, c0, D, cA, ad, A, cells, slots, Q, F, rfl⟩ := hG
  intro H locs ls hR hS hl
  obtain ⟨hx, hb, hml, hown, hts, hW0, f1, f2, f3, f4⟩ := F
  obtain ⟨q', cell, hq', hcell, hcl, hvm, -⟩ := (hR.2 k).2.2.2.2.2 c hc hk
  have hrecv : ∃ cellB : Cell, H[ad k]? = some cellB ∧ cellB.vm.isStatics = false ∧ s.vm.findClass q.1 = some cellB.cls := ⟨cell, hcell, by rw [hvm]; rfl, by rw [hcl]; exact (hW0.1.1 c q hq).2.1⟩
  have hp : PreV s H q.1 (ad k) (va_Pc ((.ref k :: as).map (cv ad)) (World D cA ad A h)) (as.map (cv ad)) := ⟨World.blind, hrecv, fun U hU hW => ⟨rfl, Wld hW0 hR hS hU hW⟩⟩
  have hst' : st0.map (cv ad) = (as.map (cv ad)).reverse ++ .ref (ad k) :: st.map (cv ad) := by rw [hst, List.map_append, List.map_reverse]; rfl
  have hW8 : 2 * (F0 m pc ls (st0.map (cv ad))).monitorRoom + ((st.map (cv ad)).map fun v => v.category).sum ≤ 8 := lv_room (by rw [cat_cv]; exact hw)
  have hM1 := hM l D cA ad A
  rcases hl0 with e1 | ⟨host, e1⟩
  · refine AW_run (QR := QR) (va_runV (C := q.1) (As := as.map (cv ad)) (Ts := wsAll) (bytes := b) (maxL := nLy) (ret := ret) (n := n) ⟨hx, hb, hml, hown, hts⟩ hM1 ⟨⟨rfl, rfl, by show fr' + 1 ≤ R.frames; omega, by show 8 + (nLy + 11) + lo' ≤ R.locals; omega, ws_pay hts hm.1, List.mem_cons_self, hts _ hm.1, hts _ hm.2.1, hm.2.2.1, MF_len hm, hts _ e1⟩, hts _ hi, hts _ hs⟩ hp rfl (by rw [List.length_map]; exact hn) hl.1 hst' hW8 d ⟨f3, f4⟩) hS hl kk
  · refine AW_run (QR := QR) (va_runVN (C := q.1) (As := as.map (cv ad)) (Ts := wsAll) (bytes := b) (maxL := nLy) (ret := ret) (n := n) (host := host) ⟨hx, hb, hml, hown, hts⟩ hM1 ⟨⟨⟨rfl, rfl, by show fr' + 1 ≤ R.frames; omega, by show 8 + (nLy + 11) + lo' ≤ R.locals; omega, ws_pay hts hm.1, List.mem_cons_self⟩, hts _ hm.1, hts _ hm.2.1, hm.2.2.1, MF_len hm, va_Nw.use rfl (hW0.2.2.2 _ e1)⟩, hts _ hi, hts _ hs⟩ hp rfl (by rw [List.length_map]; exact hn) hl.1 hst' hW8 d ⟨f3, f4⟩) hS hl kk
theorem A_callS (hG : Cx cc own nL fr lo G) {idx n nLy fr' lo' : Nat} {y : MethodName} {b : ByteArray} {ret : Option FieldType} {as st0 : List Value} {QR : Option Value → AH → Prop} (d : decode cc pc = .ok (.invokestatic idx, 3)) (hl0 : MLk own idx y) (hm : MFc y b nLy ret n) (hi : Cond.static y ∈ wsAll)
    (hM : AMet y b nLy ret fr' lo' as h QR) (hfr : fr' + 1 ≤ fr) (hlo : 8 + (nLy + 11) + lo' ≤ lo) (hst : st0 = as.reverse ++ st) (hn : as.length = n) (hw : (st.map fun v => v.category).sum ≤ 8)
    (kk : ∀ (v : Option Value) (h' : AH), QR v h' → G (pc + 3) L (v.toList ++ st) h') : G pc L st0 h := by
  obtain ⟨p, l, e, R, s, m, args, below, meth, c0, D, cA, ad, A, cells, slots, Q, F, rfl⟩ := hG
  intro H locs ls hR hS hl
  obtain ⟨hx, hb, hml, hown, hts, hW0, f1, f2, f3, f4⟩ := F
  have hp : PreS s H (va_Pc (as.map (cv ad)) (World D cA ad A h)) (as.map (cv ad)) := ⟨World.blind, fun U hU hW => ⟨rfl, Wld hW0 hR hS hU hW⟩⟩
  have hst' : st0.map (cv ad) = (as.map (cv ad)).reverse ++ st.map (cv ad) := by rw [hst, List.map_append, List.map_reverse]
  have hW8 : 2 * (F0 m pc ls (st0.map (cv ad))).monitorRoom + ((st.map (cv ad)).map fun v => v.category).sum ≤ 8 := lv_room (by rw [cat_cv]; exact hw)
  have hM1 := hM l D cA ad A
  rcases hl0 with e1 | ⟨host, e1⟩
  · refine AW_run (QR := QR) (va_runS (As := as.map (cv ad)) (Ts := wsAll) (bytes := b) (maxL := nLy) (ret := ret) (n := n) ⟨hx, hb, hml, hown, hts⟩ hM1 ⟨⟨rfl, rfl, by show fr' + 1 ≤ R.frames; omega, by show 8 + (nLy + 11) + lo' ≤ R.locals; omega, ws_pay hts hm.1, List.mem_cons_self, hts _ hm.1, hts _ hm.2.1, hm.2.2.1, MF_len hm, hts _ e1⟩, hts _ hi⟩ hp rfl (by rw [List.length_map]; exact hn) hl.1 hst' hW8 d ⟨f3, f4⟩) hS hl kk
  · refine AW_run (QR := QR) (va_runSN (As := as.map (cv ad)) (Ts := wsAll) (bytes := b) (maxL := nLy) (ret := ret) (n := n) (host := host) ⟨hx, hb, hml, hown, hts⟩ hM1 ⟨⟨⟨rfl, rfl, by show fr' + 1 ≤ R.frames; omega, by show 8 + (nLy + 11) + lo' ≤ R.locals; omega, ws_pay hts hm.1, List.mem_cons_self⟩, hts _ hm.1, hts _ hm.2.1, hm.2.2.1, MF_len hm, va_Nw.use rfl (hW0.2.2.2 _ e1)⟩, hts _ hi, trivial⟩ hp rfl (by rw [List.length_map]; exact hn) hl.1 hst' hW8 d ⟨f3, f4⟩) hS hl kk
/-- a call of a method that the receiver's class has from another, or has overridden -/
theorem A_callU (hG : Cx cc own nL fr lo G) {idx k c n nLy fr' lo' : Nat} {x y : MethodName} {owner : String} {b : ByteArray} {ret : Option FieldType} {q : vw_C} {as st0 : List Value} {QR : Option Value → AH → Prop} (d : decode cc pc = .ok (.invokevirtual idx, 3)) (hl0 : Cond.methodLink own idx x ∈ wsAll) (hsm : Cond.sameMethod x.cls owner x.name x.desc ∈ wsAll) (hde : Cond.declares ⟨owner, x.name, x.desc⟩ ∈ nestAll) (ho : owner ≠ "java/lang/invoke/MethodHandle" ∧ owner ≠ "java/lang/invoke/VarHandle") (hd0 : x.desc = y.desc) (hm : MFc y b nLy ret n) (hi : Cond.instanceMethod y ∈ wsAll) (hs : Cond.selects q.1 x y ∈ wsAll)
    (hq : cls[c]? = some q) (hc : c < 12) (hk : obk k = c + 1) (hM : AMet y b nLy ret fr' lo' (.ref k :: as) h QR) (hfr : fr' + 1 ≤ fr) (hlo : 8 + (nLy + 11) + lo' ≤ lo) (hst : st0 = as.reverse ++ .ref k :: st) (hn : as.length = n) (hw : (st.map fun v => v.category).sum ≤ 8)
    (kk : ∀ (v : Option Value) (h' : AH), QR v h' → G (pc + 3) L (v.toList ++ st) h') : G pc L st0 h := by
  obtain ⟨p, l, e, R, s, m, args, below, meth, c0, D, cA, ad, A, cells, slots, Q, F, rfl⟩ := hG
  intro H locs ls hR hS hl
  obtain ⟨hx, hb, hml, hown, hts, hW0, f1, f2, f3, f4⟩ := F
  obtain ⟨q', cell, hq', hcell, hcl, hvm, -⟩ := (hR.2 k).2.2.2.2.2 c hc hk
  have hrecv : ∃ cellB : Cell, H[ad k]? = some cellB ∧ cellB.vm.isStatics = false ∧ s.vm.findClass q.1 = some cellB.cls := ⟨cell, hcell, by rw [hvm]; rfl, by rw [hcl]; exact (hW0.1.1 c q hq).2.1⟩
  have hp : PreV s H q.1 (ad k) (va_Pc ((.ref k :: as).map (cv ad)) (World D cA ad A h)) (as.map (cv ad)) := ⟨World.blind, hrecv, fun U hU hW => ⟨rfl, Wld hW0 hR hS hU hW⟩⟩
  have hst' : st0.map (cv ad) = (as.map (cv ad)).reverse ++ .ref (ad k) :: st.map (cv ad) := by rw [hst, List.map_append, List.map_reverse]; rfl
  have hW8 : 2 * (F0 m pc ls (st0.map (cv ad))).monitorRoom + ((st.map (cv ad)).map fun v => v.category).sum ≤ 8 := lv_room (by rw [cat_cv]; exact hw)
  have hM1 := hM l D cA ad A
  refine AW_run (QR := QR) (va_runU (C := q.1) (owner := owner) (x := x) (As := as.map (cv ad)) (Ts := wsAll) (bytes := b) (maxL := nLy) (ret := ret) (n := n) ⟨hx, hb, hml, hown, hts⟩ hM1 ⟨⟨rfl, rfl, by show fr' + 1 ≤ R.frames; omega, by show 8 + (nLy + 11) + lo' ≤ R.locals; omega, ws_pay hts hm.1, List.mem_cons_self⟩, hts _ hm.1, hts _ hm.2.1, ho, by rw [hd0]; exact MF_len hm, hts _ hl0, hts _ hsm, va_Decl.abs (hW0.2.2.2 _ hde), hts _ hs, hts _ hi⟩ hp rfl (by rw [List.length_map]; exact hn) hl.1 hst' hW8 d ⟨f3, f4⟩) hS hl kk
variable {QR : Option Value → AH → Prop}
theorem A_iret (hM : CxM cc own nL fr lo (some .int) QR G) (d : decode cc pc = .ok (.ireturn, 1)) {z : Int} (hq : QR (some (vI z)) h) : G pc L [vI z] h := by
  obtain ⟨p, l, e, R, s, m, args, below, meth, c, D, cA, ad, A, F, hr, hlk, rfl⟩ := hM
  intro H locs ls hR hS hl
  exact W.iret (v := Int32.ofInt z) F.1 F.2.1 hr (fun t ht hW => ⟨⟨some (vI z), h, rfl, hq, Wld F.2.2.2.2.2.1 hR hS ht hW⟩, hS.F ht⟩) hS.2.2 d hlk
theorem A_zret (hM : CxM cc own nL fr lo (some .boolean) QR G) (d : decode cc pc = .ok (.ireturn, 1)) {z : Int} (hz : z = 0 ∨ z = 1) (hq : QR (some (vI z)) h) : G pc L [vI z] h := by
  obtain ⟨p, l, e, R, s, m, args, below, meth, c, D, cA, ad, A, F, hr, hlk, rfl⟩ := hM
  intro H locs ls hR hS hl
  exact W.zret (v := Int32.ofInt z) F.1 F.2.1 hr (by rcases hz with rfl | rfl <;> rfl) (fun t ht hW => ⟨⟨some (vI z), h, rfl, hq, Wld F.2.2.2.2.2.1 hR hS ht hW⟩, hS.F ht⟩) hS.2.2 d hlk
theorem A_lret (hM : CxM cc own nL fr lo (some .long) QR G) (d : decode cc pc = .ok (.lreturn, 1)) {x : Int64} (hq : QR (some (.long x)) h) : G pc L [.long x] h := by
  obtain ⟨p, l, e, R, s, m, args, below, meth, c, D, cA, ad, A, F, hr, hlk, rfl⟩ := hM
  intro H locs ls hR hS hl
  exact W.lret (v := x) F.1 F.2.1 hr (fun t ht hW => ⟨⟨some (.long x), h, rfl, hq, Wld F.2.2.2.2.2.1 hR hS ht hW⟩, hS.F ht⟩) hS.2.2 d hlk
theorem A_aret {n0 : String} (hM : CxM cc own nL fr lo (some (.object n0)) QR G) (d : decode cc pc = .ok (.areturn, 1)) {k : Nat} (hq : QR (some (.ref k)) h) : G pc L [.ref k] h := by
  obtain ⟨p, l, e, R, s, m, args, below, meth, c, D, cA, ad, A, F, hr, hlk, rfl⟩ := hM
  intro H locs ls hR hS hl
  exact W.aret (v := .ref (ad k)) F.1 F.2.1 hr (Or.inl ⟨_, rfl⟩) (Or.inr ⟨_, rfl⟩) (fun t ht hW => ⟨⟨some (.ref k), h, rfl, hq, Wld F.2.2.2.2.2.1 hR hS ht hW⟩, hS.F ht⟩) hS.2.2 d hlk
theorem A_vret (hM : CxM cc own nL fr lo none QR G) (d : decode cc pc = .ok (.return_, 1)) (hq : QR none h) : G pc L [] h := by
  obtain ⟨p, l, e, R, s, m, args, below, meth, c, D, cA, ad, A, F, hr, hlk, rfl⟩ := hM
  intro H locs ls hR hS hl
  exact W.vret F.1 F.2.1 hr (fun t ht hW => ⟨⟨none, h, rfl, hq, Wld F.2.2.2.2.2.1 hR hS ht hW⟩, hS.F ht⟩) hS.2.2 d hlk
end CALL
end
section
/-! WHAT THE TABLES SAY OF FIELDS AND CALLS (printed by gen/links.py) -/
section LINKS
theorem kl_J13_314 : Cond.constantLong RJ13 314 (6148914691236517205) ∈ wsAll := memw 790 (by decide +kernel) rfl
theorem kl_J13_316 : Cond.constantLong RJ13 316 (3689348814741910323) ∈ wsAll := memw 791 (by decide +kernel) rfl
theorem kl_J13_318 : Cond.constantLong RJ13 318 (1085102592571150095) ∈ wsAll := memw 792 (by decide +kernel) rfl
theorem kc_J6_265 : Cond.constant RJ6 265 (Int32.ofInt 1431655765) ∈ wsAll := memw 771 (by decide +kernel) rfl
theorem kc_J6_266 : Cond.constant RJ6 266 (Int32.ofInt 858993459) ∈ wsAll := memw 772 (by decide +kernel) rfl
theorem kc_J6_267 : Cond.constant RJ6 267 (Int32.ofInt 252645135) ∈ wsAll := memw 773 (by decide +kernel) rfl
theorem ml_L_9 : MLk RL 9 yX11_init := Or.inl (memw 83 (by decide +kernel) rfl)
theorem ml_L_12 : MLk RL 12 yX12_init := Or.inl (memw 854 (by decide +kernel) rfl)
theorem kl_L_13 : Cond.constantLong RL 13 (4294967295) ∈ wsAll := memw 1167 (by decide +kernel) rfl
theorem ml_L_15 : MLk RL 15 yX11_write := Or.inl (memw 393 (by decide +kernel) rfl)
theorem ml_L_19 : MLk RL 19 yX12_write := Or.inl (memw 944 (by decide +kernel) rfl)
theorem ml_L_20 : MLk RL 20 yX11_wipe := Or.inl (memw 404 (by decide +kernel) rfl)
theorem ml_L_24 : MLk RL 24 yX12_wipe := Or.inl (memw 953 (by decide +kernel) rfl)
theorem ml_L_25 : MLk RL 25 yX11_fault := Or.inl (memw 408 (by decide +kernel) rfl)
theorem ml_L_28 : MLk RL 28 yX12_fault := Or.inl (memw 957 (by decide +kernel) rfl)
theorem ml_L_29 : MLk RL 29 yX11_lay := Or.inl (memw 457 (by decide +kernel) rfl)
theorem ml_L_32 : MLk RL 32 yX12_lay := Or.inl (memw 984 (by decide +kernel) rfl)
theorem ml_L_33 : MLk RL 33 yX11_price := Or.inl (memw 465 (by decide +kernel) rfl)
theorem ml_L_37 : MLk RL 37 yX12_price := Or.inl (memw 988 (by decide +kernel) rfl)
theorem ml_L_38 : MLk RL 38 yX11_word := Or.inl (memw 477 (by decide +kernel) rfl)
theorem ml_L_42 : MLk RL 42 yX12_word := Or.inl (memw 1000 (by decide +kernel) rfl)
theorem ml_L_43 : MLk RL 43 yX11_clear := Or.inl (memw 488 (by decide +kernel) rfl)
theorem ml_L_47 : MLk RL 47 yX12_clear := Or.inl (memw 1008 (by decide +kernel) rfl)
theorem ml_L_48 : MLk RL 48 yX11_quote := Or.inl (memw 492 (by decide +kernel) rfl)
theorem ml_L_51 : MLk RL 51 yX12_quote := Or.inl (memw 1012 (by decide +kernel) rfl)
theorem ml_L_52 : MLk RL 52 yX11_trees := Or.inl (memw 496 (by decide +kernel) rfl)
theorem ml_L_56 : MLk RL 56 yX12_trees := Or.inl (memw 1016 (by decide +kernel) rfl)
theorem ml_L_57 : MLk RL 57 yX11_part := Or.inl (memw 550 (by decide +kernel) rfl)
theorem ml_L_61 : MLk RL 61 yX12_part := Or.inl (memw 1031 (by decide +kernel) rfl)
theorem ml_L_62 : MLk RL 62 yX11_least := Or.inl (memw 554 (by decide +kernel) rfl)
theorem ml_L_65 : MLk RL 65 yX12_least := Or.inl (memw 1048 (by decide +kernel) rfl)
theorem ml_L_66 : MLk RL 66 yX11_mend := Or.inl (memw 622 (by decide +kernel) rfl)
theorem ml_L_70 : MLk RL 70 yX12_mend := Or.inl (memw 1073 (by decide +kernel) rfl)
theorem ml_L_71 : MLk RL 71 yX11_heaps := Or.inl (memw 707 (by decide +kernel) rfl)
theorem ml_L_74 : MLk RL 74 yX12_heaps := Or.inl (memw 1097 (by decide +kernel) rfl)
theorem ml_L_75 : MLk RL 75 yX11_bars := Or.inl (memw 746 (by decide +kernel) rfl)
theorem ml_L_78 : MLk RL 78 yX12_bars := Or.inl (memw 1114 (by decide +kernel) rfl)
theorem ml_L_79 : MLk RL 79 yX11_keep := Or.inl (memw 793 (by decide +kernel) rfl)
theorem ml_L_82 : MLk RL 82 yX12_keep := Or.inl (memw 1126 (by decide +kernel) rfl)
theorem ml_L_83 : MLk RL 83 yX11_kept := Or.inl (memw 806 (by decide +kernel) rfl)
theorem ml_L_86 : MLk RL 86 yX12_kept := Or.inl (memw 1130 (by decide +kernel) rfl)
theorem ml_L_87 : MLk RL 87 yX11_byRule := Or.inl (memw 818 (by decide +kernel) rfl)
theorem ml_L_90 : MLk RL 90 yX12_byRule := Or.inl (memw 1146 (by decide +kernel) rfl)
theorem ml_L_91 : MLk RL 91 yX11_theirs := Or.inl (memw 823 (by decide +kernel) rfl)
theorem ml_L_94 : MLk RL 94 yX12_theirs := Or.inl (memw 1150 (by decide +kernel) rfl)
theorem ml_L_95 : MLk RL 95 yX11_err := Or.inl (memw 827 (by decide +kernel) rfl)
theorem ml_L_98 : MLk RL 98 yX12_err := Or.inl (memw 1154 (by decide +kernel) rfl)
theorem ml_L_99 : MLk RL 99 yX11_gone := Or.inl (memw 835 (by decide +kernel) rfl)
theorem ml_L_102 : MLk RL 102 yX12_gone := Or.inl (memw 1158 (by decide +kernel) rfl)
theorem ml_L_103 : MLk RL 103 yX11_count := Or.inl (memw 844 (by decide +kernel) rfl)
theorem ml_L_106 : MLk RL 106 yX12_count := Or.inl (memw 1163 (by decide +kernel) rfl)
theorem ml_X0_3 : MLk RX0 3 ⟨"java/lang/Object", "<init>", "()V"⟩ := Or.inl (memw 252 (by decide +kernel) rfl)
theorem fl_X0_9 : FLk RX0 9 0 0 := ⟨"OneWordWrong$BarFinder", _, rfl, by decide, Or.inl (memw 253 (by decide +kernel) rfl), Or.inl rfl⟩
theorem fl_X0_15 : FLk RX0 15 0 1 := ⟨"OneWordWrong$BarFinder", _, rfl, by decide, Or.inl (memw 254 (by decide +kernel) rfl), Or.inl rfl⟩
theorem ml_X0_19 : MLk RX0 19 yX0_agreeingRules := Or.inl (memw 754 (by decide +kernel) rfl)
theorem ml_X0_23 : MLk RX0 23 yX0_fewestOf := Or.inl (memw 757 (by decide +kernel) rfl)
theorem fl_X0_27 : FLk RX0 27 1 10 := ⟨"OneWordWrong$Grammar", _, rfl, by decide, Or.inr ⟨"OneWordWrong", memn 156 (by decide +kernel) rfl⟩, Or.inl rfl⟩
theorem ml_X0_32 : MLk RX0 32 yX0_addSet := Or.inl (memw 761 (by decide +kernel) rfl)
theorem ml_X0_36 : MLk RX0 36 yX0_freeingLanes := Or.inl (memw 774 (by decide +kernel) rfl)
theorem fl_X0_40 : FLk RX0 40 1 8 := ⟨"OneWordWrong$Grammar", _, rfl, by decide, Or.inr ⟨"OneWordWrong", memn 147 (by decide +kernel) rfl⟩, Or.inl rfl⟩
theorem ml_X0_44 : MLk RX0 44 yX0_nextSet := Or.inl (memw 765 (by decide +kernel) rfl)
theorem ml_X0_48 : MLk RX0 48 yJ13_bitCount_95d88 := Or.inl (memw 787 (by decide +kernel) rfl)
theorem ml_X0_54 : MLk RX0 54 yJ6_bitCount_0f7a4 := Or.inl (memw 768 (by decide +kernel) rfl)
theorem ml_X0_58 : MLk RX0 58 yX4_restart := Or.inl (memw 778 (by decide +kernel) rfl)
theorem ml_X0_63 : MLk RX0 63 yX4_putRow := Or.inl (memw 779 (by decide +kernel) rfl)
theorem ml_X0_67 : MLk RX0 67 yX11_hasBit := Or.inr ⟨"OneWordWrong", memn 780 (by decide +kernel) rfl⟩
theorem ml_X0_71 : MLk RX0 71 yX4_freeRule := Or.inl (memw 781 (by decide +kernel) rfl)
theorem fl_X0_75 : FLk RX0 75 7 1 := ⟨"OneWordWrong$Row", _, rfl, by decide, Or.inr ⟨"OneWordWrong", memn 284 (by decide +kernel) rfl⟩, Or.inl rfl⟩
theorem ml_X0_78 : MLk RX0 78 ⟨"OneWordWrong$Lanes", "joinAll", "(LOneWordWrong$Grammar;I)V"⟩ := Or.inl (memw 785 (by decide +kernel) rfl)
theorem ml_X0_82 : MLk RX0 82 yX4_readLanes := Or.inl (memw 786 (by decide +kernel) rfl)
theorem ml_X1_3 : MLk RX1 3 ⟨"java/lang/Object", "<init>", "()V"⟩ := Or.inl (memw 115 (by decide +kernel) rfl)
theorem fl_X1_9 : FLk RX1 9 1 0 := ⟨"OneWordWrong$Grammar", _, rfl, by decide, Or.inl (memw 125 (by decide +kernel) rfl), Or.inl rfl⟩
theorem fl_X1_15 : FLk RX1 15 1 1 := ⟨"OneWordWrong$Grammar", _, rfl, by decide, Or.inl (memw 126 (by decide +kernel) rfl), Or.inl rfl⟩
theorem fl_X1_18 : FLk RX1 18 1 2 := ⟨"OneWordWrong$Grammar", _, rfl, by decide, Or.inl (memw 127 (by decide +kernel) rfl), Or.inl rfl⟩
theorem fl_X1_21 : FLk RX1 21 1 3 := ⟨"OneWordWrong$Grammar", _, rfl, by decide, Or.inl (memw 129 (by decide +kernel) rfl), Or.inl rfl⟩
theorem fl_X1_24 : FLk RX1 24 1 4 := ⟨"OneWordWrong$Grammar", _, rfl, by decide, Or.inl (memw 130 (by decide +kernel) rfl), Or.inl rfl⟩
theorem fl_X1_28 : FLk RX1 28 1 5 := ⟨"OneWordWrong$Grammar", _, rfl, by decide, Or.inl (memw 134 (by decide +kernel) rfl), Or.inl rfl⟩
theorem fl_X1_31 : FLk RX1 31 1 6 := ⟨"OneWordWrong$Grammar", _, rfl, by decide, Or.inl (memw 138 (by decide +kernel) rfl), Or.inl rfl⟩
theorem fl_X1_34 : FLk RX1 34 1 7 := ⟨"OneWordWrong$Grammar", _, rfl, by decide, Or.inl (memw 142 (by decide +kernel) rfl), Or.inl rfl⟩
theorem fl_X1_37 : FLk RX1 37 1 8 := ⟨"OneWordWrong$Grammar", _, rfl, by decide, Or.inl (memw 146 (by decide +kernel) rfl), Or.inl rfl⟩
theorem fl_X1_41 : FLk RX1 41 1 9 := ⟨"OneWordWrong$Grammar", _, rfl, by decide, Or.inl (memw 151 (by decide +kernel) rfl), Or.inl rfl⟩
theorem fl_X1_44 : FLk RX1 44 1 10 := ⟨"OneWordWrong$Grammar", _, rfl, by decide, Or.inl (memw 155 (by decide +kernel) rfl), Or.inl rfl⟩
theorem gs_X1_47 : Cond.fieldLink RX1 47 RX11 (nmS.getD (600 - 600) "") "[I" ∈ wsAll ∨ ∃ host, Cond.fieldLinkNest RX1 47 RX11 (nmS.getD (600 - 600) "") "[I" host ∈ nestAll := Or.inr ⟨"OneWordWrong", memn 116 (by decide +kernel) rfl⟩
theorem ml_X1_50 : MLk RX1 50 ⟨"[I", "clone", "()Ljava/lang/Object;"⟩ := Or.inl (memw 118 (by decide +kernel) rfl)
theorem fl_X1_55 : FLk RX1 55 1 11 := ⟨"OneWordWrong$Grammar", _, rfl, by decide, Or.inl (memw 161 (by decide +kernel) rfl), Or.inl rfl⟩
theorem ml_X1_58 : MLk RX1 58 ⟨"java/lang/System", "arraycopy", "(Ljava/lang/Object;ILjava/lang/Object;II)V"⟩ := Or.inl (memw 420 (by decide +kernel) rfl)
theorem gs_X1_64 : Cond.fieldLink RX1 64 RX11 (nmS.getD (601 - 600) "") "[I" ∈ wsAll ∨ ∃ host, Cond.fieldLinkNest RX1 64 RX11 (nmS.getD (601 - 600) "") "[I" host ∈ nestAll := Or.inr ⟨"OneWordWrong", memn 436 (by decide +kernel) rfl⟩
theorem ml_X1_67 : MLk RX1 67 yX1_areWithin := Or.inl (memw 438 (by decide +kernel) rfl)
theorem ml_X1_71 : MLk RX1 71 yX1_addWord := Or.inl (memw 441 (by decide +kernel) rfl)
theorem gs_X1_75 : Cond.fieldLink RX1 75 RX11 (nmS.getD (602 - 600) "") "[I" ∈ wsAll ∨ ∃ host, Cond.fieldLinkNest RX1 75 RX11 (nmS.getD (602 - 600) "") "[I" host ∈ nestAll := Or.inr ⟨"OneWordWrong", memn 445 (by decide +kernel) rfl⟩
theorem ml_X1_78 : MLk RX1 78 yX1_addRule := Or.inl (memw 447 (by decide +kernel) rfl)
theorem gs_X1_81 : Cond.fieldLink RX1 81 RX11 (nmS.getD (603 - 600) "") "[I" ∈ wsAll ∨ ∃ host, Cond.fieldLinkNest RX1 81 RX11 (nmS.getD (603 - 600) "") "[I" host ∈ nestAll := Or.inr ⟨"OneWordWrong", memn 451 (by decide +kernel) rfl⟩
theorem ml_X1_84 : MLk RX1 84 yX1_tellPrice := Or.inl (memw 453 (by decide +kernel) rfl)
theorem ml_X1_87 : MLk RX1 87 yJ9_min_7cf53 := Or.inl (memw 609 (by decide +kernel) rfl)
theorem ml_X10_3 : MLk RX10 3 yX8_init := Or.inr ⟨"OneWordWrong", memn 213 (by decide +kernel) rfl⟩
theorem fl_X10_9 : FLk RX10 9 9 0 := ⟨"OneWordWrong$TreeTable", _, rfl, by decide, Or.inl (memw 218 (by decide +kernel) rfl), Or.inr (memw 219 (by decide +kernel) rfl)⟩
theorem ml_X10_15 : MLk RX10 15 yJ7_fill_d0a16 := Or.inl (memw 506 (by decide +kernel) rfl)
theorem fl_X10_21 : FLk RX10 21 7 1 := ⟨"OneWordWrong$Row", _, rfl, by decide, Or.inr ⟨"OneWordWrong", memn 280 (by decide +kernel) rfl⟩, Or.inl rfl⟩
theorem ml_X10_27 : MLk RX10 27 ⟨"OneWordWrong$TreeTable", "span", "(II)I"⟩ := Or.inl (memw 509 (by decide +kernel) rfl)
theorem fl_X10_31 : FLk RX10 31 7 0 := ⟨"OneWordWrong$Row", _, rfl, by decide, Or.inr ⟨"OneWordWrong", memn 273 (by decide +kernel) rfl⟩, Or.inl rfl⟩
theorem ml_X10_35 : MLk RX10 35 yX1_stateOf := Or.inl (memw 513 (by decide +kernel) rfl)
theorem ml_X10_41 : MLk RX10 41 ⟨"OneWordWrong$TreeTable", "joinAll", "(LOneWordWrong$Grammar;I)V"⟩ := Or.inl (memw 517 (by decide +kernel) rfl)
theorem ml_X10_45 : MLk RX10 45 yX10_sumAt := Or.inl (memw 538 (by decide +kernel) rfl)
theorem fl_X10_49 : FLk RX10 49 1 10 := ⟨"OneWordWrong$Grammar", _, rfl, by decide, Or.inr ⟨"OneWordWrong", memn 157 (by decide +kernel) rfl⟩, Or.inl rfl⟩
theorem fl_X10_52 : FLk RX10 52 1 6 := ⟨"OneWordWrong$Grammar", _, rfl, by decide, Or.inr ⟨"OneWordWrong", memn 139 (by decide +kernel) rfl⟩, Or.inl rfl⟩
theorem fl_X10_55 : FLk RX10 55 1 7 := ⟨"OneWordWrong$Grammar", _, rfl, by decide, Or.inr ⟨"OneWordWrong", memn 143 (by decide +kernel) rfl⟩, Or.inl rfl⟩
theorem fl_X10_58 : FLk RX10 58 1 5 := ⟨"OneWordWrong$Grammar", _, rfl, by decide, Or.inr ⟨"OneWordWrong", memn 135 (by decide +kernel) rfl⟩, Or.inl rfl⟩
theorem fl_X10_61 : FLk RX10 61 1 8 := ⟨"OneWordWrong$Grammar", _, rfl, by decide, Or.inr ⟨"OneWordWrong", memn 148 (by decide +kernel) rfl⟩, Or.inl rfl⟩
theorem fl_X10_65 : FLk RX10 65 1 9 := ⟨"OneWordWrong$Grammar", _, rfl, by decide, Or.inr ⟨"OneWordWrong", memn 152 (by decide +kernel) rfl⟩, Or.inl rfl⟩
theorem ml_X11_3 : MLk RX11 3 ⟨"java/lang/Object", "<init>", "()V"⟩ := Or.inl (memw 86 (by decide +kernel) rfl)
theorem ml_X11_11 : MLk RX11 11 yX9_init := Or.inr ⟨"OneWordWrong", memn 91 (by decide +kernel) rfl⟩
theorem fl_X11_12 : FLk RX11 12 10 0 := ⟨"OneWordWrong", _, rfl, by decide, Or.inl (memw 350 (by decide +kernel) rfl), Or.inl rfl⟩
theorem ml_X11_18 : MLk RX11 18 yX1_init := Or.inr ⟨"OneWordWrong", memn 112 (by decide +kernel) rfl⟩
theorem fl_X11_19 : FLk RX11 19 10 1 := ⟨"OneWordWrong", _, rfl, by decide, Or.inl (memw 351 (by decide +kernel) rfl), Or.inl rfl⟩
theorem fl_X11_23 : FLk RX11 23 10 2 := ⟨"OneWordWrong", _, rfl, by decide, Or.inl (memw 352 (by decide +kernel) rfl), Or.inl rfl⟩
theorem fl_X11_28 : FLk RX11 28 10 3 := ⟨"OneWordWrong", _, rfl, by decide, Or.inl (memw 353 (by decide +kernel) rfl), Or.inl rfl⟩
theorem fl_X11_34 : FLk RX11 34 10 4 := ⟨"OneWordWrong", _, rfl, by decide, Or.inl (memw 354 (by decide +kernel) rfl), Or.inl rfl⟩
theorem fl_X11_38 : FLk RX11 38 10 5 := ⟨"OneWordWrong", _, rfl, by decide, Or.inl (memw 355 (by decide +kernel) rfl), Or.inl rfl⟩
theorem ml_X11_44 : MLk RX11 44 yX2_init := Or.inr ⟨"OneWordWrong", memn 196 (by decide +kernel) rfl⟩
theorem fl_X11_45 : FLk RX11 45 10 6 := ⟨"OneWordWrong", _, rfl, by decide, Or.inl (memw 356 (by decide +kernel) rfl), Or.inl rfl⟩
theorem fl_X11_49 : FLk RX11 49 10 7 := ⟨"OneWordWrong", _, rfl, by decide, Or.inl (memw 357 (by decide +kernel) rfl), Or.inl rfl⟩
theorem ml_X11_55 : MLk RX11 55 yX10_init := Or.inr ⟨"OneWordWrong", memn 210 (by decide +kernel) rfl⟩
theorem fl_X11_56 : FLk RX11 56 10 8 := ⟨"OneWordWrong", _, rfl, by decide, Or.inl (memw 358 (by decide +kernel) rfl), Or.inl rfl⟩
theorem ml_X11_62 : MLk RX11 62 yX6_init := Or.inr ⟨"OneWordWrong", memn 228 (by decide +kernel) rfl⟩
theorem fl_X11_63 : FLk RX11 63 10 9 := ⟨"OneWordWrong", _, rfl, by decide, Or.inl (memw 359 (by decide +kernel) rfl), Or.inl rfl⟩
theorem ml_X11_69 : MLk RX11 69 yX4_init := Or.inr ⟨"OneWordWrong", memn 238 (by decide +kernel) rfl⟩
theorem fl_X11_70 : FLk RX11 70 10 10 := ⟨"OneWordWrong", _, rfl, by decide, Or.inl (memw 360 (by decide +kernel) rfl), Or.inl rfl⟩
theorem ml_X11_76 : MLk RX11 76 yX0_init := Or.inr ⟨"OneWordWrong", memn 249 (by decide +kernel) rfl⟩
theorem fl_X11_77 : FLk RX11 77 10 11 := ⟨"OneWordWrong", _, rfl, by decide, Or.inl (memw 361 (by decide +kernel) rfl), Or.inl rfl⟩
theorem ml_X11_83 : MLk RX11 83 yX5_init := Or.inl (memw 262 (by decide +kernel) rfl)
theorem fl_X11_84 : FLk RX11 84 10 12 := ⟨"OneWordWrong", _, rfl, by decide, Or.inl (memw 362 (by decide +kernel) rfl), Or.inl rfl⟩
theorem fl_X11_88 : FLk RX11 88 10 13 := ⟨"OneWordWrong", _, rfl, by decide, Or.inl (memw 363 (by decide +kernel) rfl), Or.inl rfl⟩
theorem ml_X11_91 : MLk RX11 91 yX7_init := Or.inr ⟨"OneWordWrong", memn 327 (by decide +kernel) rfl⟩
theorem ml_X11_92 : MLk RX11 92 yX3_init := Or.inr ⟨"OneWordWrong", memn 329 (by decide +kernel) rfl⟩
theorem ml_X11_93 : MLk RX11 93 yX11_isWithin := Or.inl (memw 397 (by decide +kernel) rfl)
theorem fl_X11_97 : FLk RX11 97 8 1 := ⟨"OneWordWrong$Text", _, rfl, by decide, Or.inr ⟨"OneWordWrong", memn 97 (by decide +kernel) rfl⟩, Or.inl rfl⟩
theorem ml_X11_100 : MLk RX11 100 yX9_append := Or.inl (memw 400 (by decide +kernel) rfl)
theorem ml_X11_104 : MLk RX11 104 yX9_tellTo := Or.inl (memw 412 (by decide +kernel) rfl)
theorem ml_X11_108 : MLk RX11 108 yX7_restart := Or.inl (memw 461 (by decide +kernel) rfl)
theorem fl_X11_111 : FLk RX11 111 2 1 := ⟨"OneWordWrong$Hand", _, rfl, by decide, Or.inr ⟨"OneWordWrong", memn 202 (by decide +kernel) rfl⟩, Or.inl rfl⟩
theorem fl_X11_112 : FLk RX11 112 1 4 := ⟨"OneWordWrong$Grammar", _, rfl, by decide, Or.inr ⟨"OneWordWrong", memn 133 (by decide +kernel) rfl⟩, Or.inl rfl⟩
theorem ml_X11_115 : MLk RX11 115 yX11_priceOf := Or.inl (memw 469 (by decide +kernel) rfl)
theorem ml_X11_119 : MLk RX11 119 yX11_isSentence := Or.inl (memw 481 (by decide +kernel) rfl)
theorem fl_X11_123 : FLk RX11 123 7 1 := ⟨"OneWordWrong$Row", _, rfl, by decide, Or.inr ⟨"OneWordWrong", memn 283 (by decide +kernel) rfl⟩, Or.inl rfl⟩
theorem ml_X11_124 : MLk RX11 124 yX7_append := Or.inl (memw 484 (by decide +kernel) rfl)
theorem fl_X11_125 : FLk RX11 125 7 2 := ⟨"OneWordWrong$Row", _, rfl, by decide, Or.inr ⟨"OneWordWrong", memn 287 (by decide +kernel) rfl⟩, Or.inl rfl⟩
theorem kl_X11_128 : Cond.constantLong RX11 128 (-1) ∈ wsAll := memw 500 (by decide +kernel) rfl
theorem kl_X11_130 : Cond.constantLong RX11 130 (-2) ∈ wsAll := memw 501 (by decide +kernel) rfl
theorem ml_X11_132 : MLk RX11 132 yX10_fill := Or.inl (memw 502 (by decide +kernel) rfl)
theorem ml_X11_136 : MLk RX11 136 yX10_overAll := Or.inl (memw 542 (by decide +kernel) rfl)
theorem ml_X11_140 : MLk RX11 140 yX10_treesOver := Or.inl (memw 546 (by decide +kernel) rfl)
theorem ml_X11_144 : MLk RX11 144 yX6_leastSum := Or.inl (memw 558 (by decide +kernel) rfl)
theorem ml_X11_148 : MLk RX11 148 yX11_canBeMended := Or.inl (memw 626 (by decide +kernel) rfl)
theorem ml_X11_152 : MLk RX11 152 yX11_findMends := Or.inl (memw 634 (by decide +kernel) rfl)
theorem fl_X11_155 : FLk RX11 155 5 2 := ⟨"OneWordWrong$Mends", _, rfl, by decide, Or.inr ⟨"OneWordWrong", memn 300 (by decide +kernel) rfl⟩, Or.inl rfl⟩
theorem fl_X11_156 : FLk RX11 156 5 0 := ⟨"OneWordWrong$Mends", _, rfl, by decide, Or.inr ⟨"OneWordWrong", memn 296 (by decide +kernel) rfl⟩, Or.inl rfl⟩
theorem fl_X11_159 : FLk RX11 159 5 1 := ⟨"OneWordWrong$Mends", _, rfl, by decide, Or.inr ⟨"OneWordWrong", memn 298 (by decide +kernel) rfl⟩, Or.inl rfl⟩
theorem fl_X11_162 : FLk RX11 162 7 0 := ⟨"OneWordWrong$Row", _, rfl, by decide, Or.inr ⟨"OneWordWrong", memn 277 (by decide +kernel) rfl⟩, Or.inl rfl⟩
theorem ml_X11_164 : MLk RX11 164 yX5_gatherHeaps := Or.inl (memw 711 (by decide +kernel) rfl)
theorem fl_X11_168 : FLk RX11 168 5 7 := ⟨"OneWordWrong$Mends", _, rfl, by decide, Or.inr ⟨"OneWordWrong", memn 306 (by decide +kernel) rfl⟩, Or.inl rfl⟩
theorem ml_X11_171 : MLk RX11 171 yX5_firstStandsOut := Or.inl (memw 727 (by decide +kernel) rfl)
theorem ml_X11_174 : MLk RX11 174 yX5_askedPlace := Or.inl (memw 731 (by decide +kernel) rfl)
theorem ml_X11_177 : MLk RX11 177 yX11_isRead := Or.inl (memw 630 (by decide +kernel) rfl)
theorem ml_X11_180 : MLk RX11 180 yX0_fewest := Or.inl (memw 750 (by decide +kernel) rfl)
theorem ml_X11_184 : MLk RX11 184 yX7_orderTo := Or.inl (memw 797 (by decide +kernel) rfl)
theorem fl_X11_188 : FLk RX11 188 3 0 := ⟨"OneWordWrong$KeptOne", _, rfl, by decide, Or.inr ⟨"OneWordWrong", memn 334 (by decide +kernel) rfl⟩, Or.inl rfl⟩
theorem fl_X11_192 : FLk RX11 192 3 1 := ⟨"OneWordWrong$KeptOne", _, rfl, by decide, Or.inr ⟨"OneWordWrong", memn 336 (by decide +kernel) rfl⟩, Or.inl rfl⟩
theorem fl_X11_195 : FLk RX11 195 3 2 := ⟨"OneWordWrong$KeptOne", _, rfl, by decide, Or.inr ⟨"OneWordWrong", memn 338 (by decide +kernel) rfl⟩, Or.inl rfl⟩
theorem fl_X11_198 : FLk RX11 198 3 3 := ⟨"OneWordWrong$KeptOne", _, rfl, by decide, Or.inr ⟨"OneWordWrong", memn 340 (by decide +kernel) rfl⟩, Or.inl rfl⟩
theorem ml_X11_201 : MLk RX11 201 yX0_singleRules := Or.inl (memw 798 (by decide +kernel) rfl)
theorem ml_X11_204 : MLk RX11 204 yX5_find := Or.inl (memw 638 (by decide +kernel) rfl)
theorem ml_X11_208 : MLk RX11 208 yX5_placeOf := Or.inl (memw 802 (by decide +kernel) rfl)
theorem ml_X11_211 : MLk RX11 211 yX3_isWronged := Or.inl (memw 810 (by decide +kernel) rfl)
theorem ml_X11_215 : MLk RX11 215 yX3_isChangedUnread := Or.inl (memw 814 (by decide +kernel) rfl)
theorem fl_X11_218 : FLk RX11 218 1 10 := ⟨"OneWordWrong$Grammar", _, rfl, by decide, Or.inr ⟨"OneWordWrong", memn 160 (by decide +kernel) rfl⟩, Or.inl rfl⟩
theorem ml_X11_221 : MLk RX11 221 yX11_hasBit := Or.inl (memw 822 (by decide +kernel) rfl)
theorem ml_X11_225 : MLk RX11 225 yX2_append := Or.inl (memw 831 (by decide +kernel) rfl)
theorem ml_X11_226 : MLk RX11 226 yX2_cameSince := Or.inl (memw 839 (by decide +kernel) rfl)
theorem ml_X11_229 : MLk RX11 229 yX11_wordsOfSentences := Or.inl (memw 848 (by decide +kernel) rfl)
theorem ml_X11_233 : MLk RX11 233 yX2_fittedPrice := Or.inl (memw 473 (by decide +kernel) rfl)
theorem fl_X11_237 : FLk RX11 237 1 11 := ⟨"OneWordWrong$Grammar", _, rfl, by decide, Or.inr ⟨"OneWordWrong", memn 163 (by decide +kernel) rfl⟩, Or.inl rfl⟩
theorem ml_X12_1 : MLk RX12 1 ⟨"java/lang/Object", "<init>", "()V"⟩ := Or.inl (memw 857 (by decide +kernel) rfl)
theorem fl_X12_7 : FLk RX12 7 11 1 := ⟨"OneWordWrongModel", _, rfl, by decide, Or.inl (memw 863 (by decide +kernel) rfl), Or.inl rfl⟩
theorem fl_X12_13 : FLk RX12 13 11 2 := ⟨"OneWordWrongModel", _, rfl, by decide, Or.inl (memw 864 (by decide +kernel) rfl), Or.inl rfl⟩
theorem fl_X12_16 : FLk RX12 16 11 3 := ⟨"OneWordWrongModel", _, rfl, by decide, Or.inl (memw 865 (by decide +kernel) rfl), Or.inl rfl⟩
theorem fl_X12_19 : FLk RX12 19 11 4 := ⟨"OneWordWrongModel", _, rfl, by decide, Or.inl (memw 866 (by decide +kernel) rfl), Or.inl rfl⟩
theorem fl_X12_22 : FLk RX12 22 11 5 := ⟨"OneWordWrongModel", _, rfl, by decide, Or.inl (memw 867 (by decide +kernel) rfl), Or.inl rfl⟩
theorem fl_X12_25 : FLk RX12 25 11 6 := ⟨"OneWordWrongModel", _, rfl, by decide, Or.inl (memw 868 (by decide +kernel) rfl), Or.inl rfl⟩
theorem fl_X12_28 : FLk RX12 28 11 7 := ⟨"OneWordWrongModel", _, rfl, by decide, Or.inl (memw 869 (by decide +kernel) rfl), Or.inl rfl⟩
theorem fl_X12_31 : FLk RX12 31 11 8 := ⟨"OneWordWrongModel", _, rfl, by decide, Or.inl (memw 870 (by decide +kernel) rfl), Or.inl rfl⟩
theorem fl_X12_34 : FLk RX12 34 11 9 := ⟨"OneWordWrongModel", _, rfl, by decide, Or.inl (memw 871 (by decide +kernel) rfl), Or.inl rfl⟩
theorem fl_X12_37 : FLk RX12 37 11 11 := ⟨"OneWordWrongModel", _, rfl, by decide, Or.inl (memw 873 (by decide +kernel) rfl), Or.inl rfl⟩
theorem fl_X12_40 : FLk RX12 40 11 12 := ⟨"OneWordWrongModel", _, rfl, by decide, Or.inl (memw 874 (by decide +kernel) rfl), Or.inl rfl⟩
theorem fl_X12_43 : FLk RX12 43 11 14 := ⟨"OneWordWrongModel", _, rfl, by decide, Or.inl (memw 876 (by decide +kernel) rfl), Or.inl rfl⟩
theorem fl_X12_46 : FLk RX12 46 11 16 := ⟨"OneWordWrongModel", _, rfl, by decide, Or.inl (memw 878 (by decide +kernel) rfl), Or.inl rfl⟩
theorem fl_X12_49 : FLk RX12 49 11 17 := ⟨"OneWordWrongModel", _, rfl, by decide, Or.inl (memw 879 (by decide +kernel) rfl), Or.inl rfl⟩
theorem fl_X12_53 : FLk RX12 53 11 18 := ⟨"OneWordWrongModel", _, rfl, by decide, Or.inl (memw 880 (by decide +kernel) rfl), Or.inl rfl⟩
theorem fl_X12_56 : FLk RX12 56 11 19 := ⟨"OneWordWrongModel", _, rfl, by decide, Or.inl (memw 881 (by decide +kernel) rfl), Or.inl rfl⟩
theorem fl_X12_59 : FLk RX12 59 11 20 := ⟨"OneWordWrongModel", _, rfl, by decide, Or.inl (memw 882 (by decide +kernel) rfl), Or.inl rfl⟩
theorem fl_X12_62 : FLk RX12 62 11 22 := ⟨"OneWordWrongModel", _, rfl, by decide, Or.inl (memw 884 (by decide +kernel) rfl), Or.inl rfl⟩
theorem fl_X12_65 : FLk RX12 65 11 23 := ⟨"OneWordWrongModel", _, rfl, by decide, Or.inl (memw 885 (by decide +kernel) rfl), Or.inl rfl⟩
theorem fl_X12_68 : FLk RX12 68 11 24 := ⟨"OneWordWrongModel", _, rfl, by decide, Or.inl (memw 886 (by decide +kernel) rfl), Or.inl rfl⟩
theorem fl_X12_71 : FLk RX12 71 11 26 := ⟨"OneWordWrongModel", _, rfl, by decide, Or.inl (memw 888 (by decide +kernel) rfl), Or.inl rfl⟩
theorem ml_X12_74 : MLk RX12 74 yX12_noPrices := Or.inl (memw 858 (by decide +kernel) rfl)
theorem kl_X12_78 : Cond.constantLong RX12 78 (8) ∈ wsAll := memw 948 (by decide +kernel) rfl
theorem ml_X12_80 : MLk RX12 80 yX12_in := Or.inl (memw 949 (by decide +kernel) rfl)
theorem fl_X12_84 : FLk RX12 84 11 0 := ⟨"OneWordWrongModel", _, rfl, by decide, Or.inl (memw 862 (by decide +kernel) rfl), Or.inl rfl⟩
theorem kl_X12_88 : Cond.constantLong RX12 88 (255) ∈ wsAll := memw 952 (by decide +kernel) rfl
theorem fl_X12_90 : FLk RX12 90 11 15 := ⟨"OneWordWrongModel", _, rfl, by decide, Or.inl (memw 877 (by decide +kernel) rfl), Or.inl rfl⟩
theorem kl_X12_93 : Cond.constantLong RX12 93 (48) ∈ wsAll := memw 973 (by decide +kernel) rfl
theorem kl_X12_95 : Cond.constantLong RX12 95 (57) ∈ wsAll := memw 974 (by decide +kernel) rfl
theorem kl_X12_97 : Cond.constantLong RX12 97 (2) ∈ wsAll := memw 975 (by decide +kernel) rfl
theorem ml_X12_99 : MLk RX12 99 yX12_figures := Or.inl (memw 969 (by decide +kernel) rfl)
theorem ml_X12_103 : MLk RX12 103 yX12_wordItem := Or.inl (memw 965 (by decide +kernel) rfl)
theorem ml_X12_107 : MLk RX12 107 yX12_ruleItem := Or.inl (memw 976 (by decide +kernel) rfl)
theorem ml_X12_110 : MLk RX12 110 yX12_priceItem := Or.inl (memw 980 (by decide +kernel) rfl)
theorem ml_X12_113 : MLk RX12 113 yX12_readAll := Or.inl (memw 961 (by decide +kernel) rfl)
theorem fl_X12_117 : FLk RX12 117 11 10 := ⟨"OneWordWrongModel", _, rfl, by decide, Or.inl (memw 872 (by decide +kernel) rfl), Or.inl rfl⟩
theorem fl_X12_120 : FLk RX12 120 11 13 := ⟨"OneWordWrongModel", _, rfl, by decide, Or.inl (memw 875 (by decide +kernel) rfl), Or.inl rfl⟩
theorem kl_X12_123 : Cond.constantLong RX12 123 (4) ∈ wsAll := memw 995 (by decide +kernel) rfl
theorem ml_X12_125 : MLk RX12 125 yX12_isChange := Or.inl (memw 992 (by decide +kernel) rfl)
theorem ml_X12_128 : MLk RX12 128 yX12_fitted := Or.inl (memw 996 (by decide +kernel) rfl)
theorem kl_X12_132 : Cond.constantLong RX12 132 (7) ∈ wsAll := memw 1007 (by decide +kernel) rfl
theorem ml_X12_134 : MLk RX12 134 yX12_isSentence := Or.inl (memw 1004 (by decide +kernel) rfl)
theorem kl_X12_137 : Cond.constantLong RX12 137 (15) ∈ wsAll := memw 1044 (by decide +kernel) rfl
theorem ml_X12_139 : MLk RX12 139 yX12_marksOf := Or.inl (memw 1040 (by decide +kernel) rfl)
theorem ml_X12_143 : MLk RX12 143 yX12_has := Or.inl (memw 1045 (by decide +kernel) rfl)
theorem ml_X12_147 : MLk RX12 147 yX12_laySpans := Or.inl (memw 1036 (by decide +kernel) rfl)
theorem ml_X12_151 : MLk RX12 151 yX12_addTrees := Or.inl (memw 1027 (by decide +kernel) rfl)
theorem kl_X12_155 : Cond.constantLong RX12 155 (-1) ∈ wsAll := memw 1020 (by decide +kernel) rfl
theorem kl_X12_157 : Cond.constantLong RX12 157 (3) ∈ wsAll := memw 1021 (by decide +kernel) rfl
theorem kl_X12_159 : Cond.constantLong RX12 159 (-2) ∈ wsAll := memw 1022 (by decide +kernel) rfl
theorem ml_X12_161 : MLk RX12 161 yX12_layCounts := Or.inl (memw 1023 (by decide +kernel) rfl)
theorem kl_X12_164 : Cond.constantLong RX12 164 (9) ∈ wsAll := memw 1035 (by decide +kernel) rfl
theorem kc_X12_166 : Cond.constant RX12 166 (Int32.ofInt 100000) ∈ wsAll := memw 1060 (by decide +kernel) rfl
theorem ml_X12_167 : MLk RX12 167 yX12_costAt := Or.inl (memw 1056 (by decide +kernel) rfl)
theorem ml_X12_171 : MLk RX12 171 yX12_changes := Or.inl (memw 1061 (by decide +kernel) rfl)
theorem ml_X12_174 : MLk RX12 174 yX12_cheaper := Or.inl (memw 1069 (by decide +kernel) rfl)
theorem ml_X12_177 : MLk RX12 177 yX12_layLeaves := Or.inl (memw 1052 (by decide +kernel) rfl)
theorem ml_X12_181 : MLk RX12 181 yX12_goOver := Or.inl (memw 1065 (by decide +kernel) rfl)
theorem ml_X12_185 : MLk RX12 185 yX12_isRead := Or.inl (memw 1077 (by decide +kernel) rfl)
theorem fl_X12_188 : FLk RX12 188 11 21 := ⟨"OneWordWrongModel", _, rfl, by decide, Or.inl (memw 883 (by decide +kernel) rfl), Or.inl rfl⟩
theorem ml_X12_191 : MLk RX12 191 yX12_order := Or.inl (memw 1093 (by decide +kernel) rfl)
theorem ml_X12_194 : MLk RX12 194 yX12_layTried := Or.inl (memw 1085 (by decide +kernel) rfl)
theorem ml_X12_198 : MLk RX12 198 yX12_tryRow := Or.inl (memw 1089 (by decide +kernel) rfl)
theorem ml_X12_201 : MLk RX12 201 yX12_layMends := Or.inl (memw 1081 (by decide +kernel) rfl)
theorem fl_X12_204 : FLk RX12 204 11 25 := ⟨"OneWordWrongModel", _, rfl, by decide, Or.inl (memw 887 (by decide +kernel) rfl), Or.inl rfl⟩
theorem ml_X12_207 : MLk RX12 207 yX12_familyAt := Or.inl (memw 1106 (by decide +kernel) rfl)
theorem kl_X12_210 : Cond.constantLong RX12 210 (99) ∈ wsAll := memw 1101 (by decide +kernel) rfl
theorem ml_X12_212 : MLk RX12 212 yX12_layHeaps := Or.inl (memw 1102 (by decide +kernel) rfl)
theorem ml_X12_215 : MLk RX12 215 yX12_asked := Or.inl (memw 1110 (by decide +kernel) rfl)
theorem ml_X12_218 : MLk RX12 218 yX12_isAgreeing := Or.inl (memw 1118 (by decide +kernel) rfl)
theorem ml_X12_221 : MLk RX12 221 yX12_lesser := Or.inl (memw 1122 (by decide +kernel) rfl)
theorem ml_X12_224 : MLk RX12 224 yX12_look := Or.inl (memw 1134 (by decide +kernel) rfl)
theorem ml_X12_227 : MLk RX12 227 yX12_isRight := Or.inl (memw 1138 (by decide +kernel) rfl)
theorem ml_X12_230 : MLk RX12 230 yX12_placeOf := Or.inl (memw 1142 (by decide +kernel) rfl)
theorem kl_X12_233 : Cond.constantLong RX12 233 (60) ∈ wsAll := memw 1162 (by decide +kernel) rfl
theorem ml_X2_3 : MLk RX2 3 ⟨"java/lang/Object", "<init>", "()V"⟩ := Or.inl (memw 199 (by decide +kernel) rfl)
theorem fl_X2_9 : FLk RX2 9 2 0 := ⟨"OneWordWrong$Hand", _, rfl, by decide, Or.inl (memw 200 (by decide +kernel) rfl), Or.inl rfl⟩
theorem fl_X2_15 : FLk RX2 15 2 1 := ⟨"OneWordWrong$Hand", _, rfl, by decide, Or.inl (memw 201 (by decide +kernel) rfl), Or.inl rfl⟩
theorem ml_X2_19 : MLk RX2 19 yJ9_max_7cf53 := Or.inl (memw 843 (by decide +kernel) rfl)
theorem ml_X3_3 : MLk RX3 3 ⟨"java/lang/Object", "<init>", "()V"⟩ := Or.inl (memw 332 (by decide +kernel) rfl)
theorem fl_X3_9 : FLk RX3 9 3 0 := ⟨"OneWordWrong$KeptOne", _, rfl, by decide, Or.inl (memw 333 (by decide +kernel) rfl), Or.inl rfl⟩
theorem fl_X3_15 : FLk RX3 15 3 1 := ⟨"OneWordWrong$KeptOne", _, rfl, by decide, Or.inl (memw 335 (by decide +kernel) rfl), Or.inl rfl⟩
theorem fl_X3_18 : FLk RX3 18 3 2 := ⟨"OneWordWrong$KeptOne", _, rfl, by decide, Or.inl (memw 337 (by decide +kernel) rfl), Or.inl rfl⟩
theorem fl_X3_22 : FLk RX3 22 3 3 := ⟨"OneWordWrong$KeptOne", _, rfl, by decide, Or.inl (memw 339 (by decide +kernel) rfl), Or.inl rfl⟩
theorem ml_X4_3 : MLk RX4 3 yX8_init := Or.inr ⟨"OneWordWrong", memn 241 (by decide +kernel) rfl⟩
theorem fl_X4_9 : FLk RX4 9 4 1 := ⟨"OneWordWrong$Lanes", _, rfl, by decide, Or.inl (memw 242 (by decide +kernel) rfl), Or.inl rfl⟩
theorem fl_X4_15 : FLk RX4 15 4 0 := ⟨"OneWordWrong$Lanes", _, rfl, by decide, Or.inl (memw 220 (by decide +kernel) rfl), Or.inr (memw 221 (by decide +kernel) rfl)⟩
theorem ml_X4_18 : MLk RX4 18 yJ7_fill_d0a16 := Or.inl (memw 670 (by decide +kernel) rfl)
theorem fl_X4_24 : FLk RX4 24 7 1 := ⟨"OneWordWrong$Row", _, rfl, by decide, Or.inr ⟨"OneWordWrong", memn 282 (by decide +kernel) rfl⟩, Or.inl rfl⟩
theorem ml_X4_30 : MLk RX4 30 ⟨"OneWordWrong$Lanes", "span", "(II)I"⟩ := Or.inl (memw 675 (by decide +kernel) rfl)
theorem fl_X4_34 : FLk RX4 34 7 0 := ⟨"OneWordWrong$Row", _, rfl, by decide, Or.inr ⟨"OneWordWrong", memn 274 (by decide +kernel) rfl⟩, Or.inl rfl⟩
theorem ml_X4_38 : MLk RX4 38 yX1_stateOf := Or.inl (memw 677 (by decide +kernel) rfl)
theorem ml_X4_44 : MLk RX4 44 yX4_anyAt := Or.inl (memw 530 (by decide +kernel) rfl)
theorem fl_X4_48 : FLk RX4 48 1 10 := ⟨"OneWordWrong$Grammar", _, rfl, by decide, Or.inr ⟨"OneWordWrong", memn 158 (by decide +kernel) rfl⟩, Or.inl rfl⟩
theorem fl_X4_51 : FLk RX4 51 1 6 := ⟨"OneWordWrong$Grammar", _, rfl, by decide, Or.inr ⟨"OneWordWrong", memn 140 (by decide +kernel) rfl⟩, Or.inl rfl⟩
theorem fl_X4_54 : FLk RX4 54 1 7 := ⟨"OneWordWrong$Grammar", _, rfl, by decide, Or.inr ⟨"OneWordWrong", memn 144 (by decide +kernel) rfl⟩, Or.inl rfl⟩
theorem fl_X4_57 : FLk RX4 57 1 5 := ⟨"OneWordWrong$Grammar", _, rfl, by decide, Or.inr ⟨"OneWordWrong", memn 136 (by decide +kernel) rfl⟩, Or.inl rfl⟩
theorem fl_X4_60 : FLk RX4 60 1 8 := ⟨"OneWordWrong$Grammar", _, rfl, by decide, Or.inr ⟨"OneWordWrong", memn 149 (by decide +kernel) rfl⟩, Or.inl rfl⟩
theorem kl_X4_64 : Cond.constantLong RX4 64 (-1) ∈ wsAll := memw 534 (by decide +kernel) rfl
theorem fl_X4_66 : FLk RX4 66 1 9 := ⟨"OneWordWrong$Grammar", _, rfl, by decide, Or.inr ⟨"OneWordWrong", memn 153 (by decide +kernel) rfl⟩, Or.inl rfl⟩
theorem ml_X5_3 : MLk RX5 3 ⟨"java/lang/Object", "<init>", "()V"⟩ := Or.inl (memw 265 (by decide +kernel) rfl)
theorem fl_X5_11 : FLk RX5 11 5 0 := ⟨"OneWordWrong$Mends", _, rfl, by decide, Or.inl (memw 295 (by decide +kernel) rfl), Or.inl rfl⟩
theorem fl_X5_17 : FLk RX5 17 5 1 := ⟨"OneWordWrong$Mends", _, rfl, by decide, Or.inl (memw 297 (by decide +kernel) rfl), Or.inl rfl⟩
theorem fl_X5_21 : FLk RX5 21 5 2 := ⟨"OneWordWrong$Mends", _, rfl, by decide, Or.inl (memw 299 (by decide +kernel) rfl), Or.inl rfl⟩
theorem fl_X5_25 : FLk RX5 25 5 3 := ⟨"OneWordWrong$Mends", _, rfl, by decide, Or.inl (memw 301 (by decide +kernel) rfl), Or.inl rfl⟩
theorem fl_X5_28 : FLk RX5 28 5 4 := ⟨"OneWordWrong$Mends", _, rfl, by decide, Or.inl (memw 302 (by decide +kernel) rfl), Or.inl rfl⟩
theorem fl_X5_31 : FLk RX5 31 5 5 := ⟨"OneWordWrong$Mends", _, rfl, by decide, Or.inl (memw 303 (by decide +kernel) rfl), Or.inl rfl⟩
theorem fl_X5_34 : FLk RX5 34 5 6 := ⟨"OneWordWrong$Mends", _, rfl, by decide, Or.inl (memw 304 (by decide +kernel) rfl), Or.inl rfl⟩
theorem fl_X5_37 : FLk RX5 37 5 7 := ⟨"OneWordWrong$Mends", _, rfl, by decide, Or.inl (memw 305 (by decide +kernel) rfl), Or.inl rfl⟩
theorem fl_X5_40 : FLk RX5 40 5 8 := ⟨"OneWordWrong$Mends", _, rfl, by decide, Or.inl (memw 307 (by decide +kernel) rfl), Or.inl rfl⟩
theorem ml_X5_43 : MLk RX5 43 yX7_init := Or.inr ⟨"OneWordWrong", memn 268 (by decide +kernel) rfl⟩
theorem fl_X5_44 : FLk RX5 44 7 1 := ⟨"OneWordWrong$Row", _, rfl, by decide, Or.inr ⟨"OneWordWrong", memn 281 (by decide +kernel) rfl⟩, Or.inl rfl⟩
theorem ml_X5_45 : MLk RX5 45 yX11_hasBit := Or.inr ⟨"OneWordWrong", memn 642 (by decide +kernel) rfl⟩
theorem ml_X5_49 : MLk RX5 49 yX5_addSwaps := Or.inl (memw 643 (by decide +kernel) rfl)
theorem ml_X5_53 : MLk RX5 53 yX5_readTries := Or.inl (memw 662 (by decide +kernel) rfl)
theorem fl_X5_57 : FLk RX5 57 1 11 := ⟨"OneWordWrong$Grammar", _, rfl, by decide, Or.inr ⟨"OneWordWrong", memn 162 (by decide +kernel) rfl⟩, Or.inl rfl⟩
theorem ml_X5_62 : MLk RX5 62 yX5_nextTry := Or.inl (memw 648 (by decide +kernel) rfl)
theorem ml_X5_66 : MLk RX5 66 yX7_copyWithout := Or.inl (memw 698 (by decide +kernel) rfl)
theorem fl_X5_70 : FLk RX5 70 1 4 := ⟨"OneWordWrong$Grammar", _, rfl, by decide, Or.inr ⟨"OneWordWrong", memn 131 (by decide +kernel) rfl⟩, Or.inl rfl⟩
theorem ml_X5_73 : MLk RX5 73 yX7_copyWith := Or.inl (memw 703 (by decide +kernel) rfl)
theorem ml_X5_77 : MLk RX5 77 yX7_orderTo := Or.inl (memw 693 (by decide +kernel) rfl)
theorem fl_X5_81 : FLk RX5 81 7 0 := ⟨"OneWordWrong$Row", _, rfl, by decide, Or.inr ⟨"OneWordWrong", memn 275 (by decide +kernel) rfl⟩, Or.inl rfl⟩
theorem ml_X5_83 : MLk RX5 83 yX1_swapPrice := Or.inl (memw 647 (by decide +kernel) rfl)
theorem ml_X5_87 : MLk RX5 87 yX7_copySwapped := Or.inl (memw 653 (by decide +kernel) rfl)
theorem ml_X5_90 : MLk RX5 90 yJ9_min_7cf53 := Or.inl (memw 652 (by decide +kernel) rfl)
theorem ml_X5_96 : MLk RX5 96 yX4_restart := Or.inl (memw 666 (by decide +kernel) rfl)
theorem ml_X5_101 : MLk RX5 101 yX4_putRow := Or.inl (memw 671 (by decide +kernel) rfl)
theorem ml_X5_105 : MLk RX5 105 ⟨"OneWordWrong$Lanes", "joinAll", "(LOneWordWrong$Grammar;I)V"⟩ := Or.inl (memw 678 (by decide +kernel) rfl)
theorem ml_X5_109 : MLk RX5 109 yX4_readLanes := Or.inl (memw 681 (by decide +kernel) rfl)
theorem ml_X5_113 : MLk RX5 113 yX5_insert := Or.inl (memw 685 (by decide +kernel) rfl)
theorem ml_X5_116 : MLk RX5 116 yX5_orderAt := Or.inl (memw 689 (by decide +kernel) rfl)
theorem ml_X5_120 : MLk RX5 120 yX7_copyOf := Or.inl (memw 697 (by decide +kernel) rfl)
theorem ml_X5_124 : MLk RX5 124 yX5_isHeaped := Or.inl (memw 715 (by decide +kernel) rfl)
theorem ml_X5_128 : MLk RX5 128 yX7_hasFamiliesOf := Or.inl (memw 719 (by decide +kernel) rfl)
theorem ml_X5_131 : MLk RX5 131 yX5_greatestAt := Or.inl (memw 735 (by decide +kernel) rfl)
theorem ml_X5_135 : MLk RX5 135 yJ7_fill_53178 := Or.inl (memw 739 (by decide +kernel) rfl)
theorem ml_X5_141 : MLk RX5 141 yX7_familyAt := Or.inl (memw 742 (by decide +kernel) rfl)
theorem ml_X5_144 : MLk RX5 144 yJ9_max_7cf53 := Or.inl (memw 743 (by decide +kernel) rfl)
theorem ml_X6_3 : MLk RX6 3 ⟨"java/lang/Object", "<init>", "()V"⟩ := Or.inl (memw 231 (by decide +kernel) rfl)
theorem fl_X6_11 : FLk RX6 11 6 0 := ⟨"OneWordWrong$PriceTable", _, rfl, by decide, Or.inl (memw 232 (by decide +kernel) rfl), Or.inl rfl⟩
theorem fl_X6_15 : FLk RX6 15 7 1 := ⟨"OneWordWrong$Row", _, rfl, by decide, Or.inr ⟨"OneWordWrong", memn 279 (by decide +kernel) rfl⟩, Or.inl rfl⟩
theorem ml_X6_21 : MLk RX6 21 yX6_fillEmptyRuns := Or.inl (memw 562 (by decide +kernel) rfl)
theorem ml_X6_25 : MLk RX6 25 yX6_startRun := Or.inl (memw 594 (by decide +kernel) rfl)
theorem ml_X6_29 : MLk RX6 29 yX6_joinInside := Or.inl (memw 614 (by decide +kernel) rfl)
theorem ml_X6_32 : MLk RX6 32 yX6_joinWithPutIn := Or.inl (memw 618 (by decide +kernel) rfl)
theorem ml_X6_35 : MLk RX6 35 yX6_run := Or.inl (memw 566 (by decide +kernel) rfl)
theorem ml_X6_39 : MLk RX6 39 yX6_cheapestAt := Or.inl (memw 582 (by decide +kernel) rfl)
theorem ml_X6_43 : MLk RX6 43 yX6_forbidAll := Or.inl (memw 569 (by decide +kernel) rfl)
theorem fl_X6_47 : FLk RX6 47 1 4 := ⟨"OneWordWrong$Grammar", _, rfl, by decide, Or.inr ⟨"OneWordWrong", memn 132 (by decide +kernel) rfl⟩, Or.inl rfl⟩
theorem ml_X6_52 : MLk RX6 52 yX1_stateOf := Or.inl (memw 573 (by decide +kernel) rfl)
theorem ml_X6_55 : MLk RX6 55 yX6_joinCells := Or.inl (memw 574 (by decide +kernel) rfl)
theorem ml_X6_59 : MLk RX6 59 ⟨"java/lang/System", "arraycopy", "(Ljava/lang/Object;ILjava/lang/Object;II)V"⟩ := Or.inl (memw 593 (by decide +kernel) rfl)
theorem ml_X6_65 : MLk RX6 65 yX6_putChanged := Or.inl (memw 598 (by decide +kernel) rfl)
theorem fl_X6_69 : FLk RX6 69 7 2 := ⟨"OneWordWrong$Row", _, rfl, by decide, Or.inr ⟨"OneWordWrong", memn 286 (by decide +kernel) rfl⟩, Or.inl rfl⟩
theorem ml_X6_72 : MLk RX6 72 yX11_hasBit := Or.inr ⟨"OneWordWrong", memn 602 (by decide +kernel) rfl⟩
theorem ml_X6_76 : MLk RX6 76 yX6_lowerAll := Or.inl (memw 610 (by decide +kernel) rfl)
theorem fl_X6_80 : FLk RX6 80 7 0 := ⟨"OneWordWrong$Row", _, rfl, by decide, Or.inr ⟨"OneWordWrong", memn 276 (by decide +kernel) rfl⟩, Or.inl rfl⟩
theorem ml_X6_82 : MLk RX6 82 yX1_swapPrice := Or.inl (memw 605 (by decide +kernel) rfl)
theorem ml_X6_86 : MLk RX6 86 yX6_lower := Or.inl (memw 589 (by decide +kernel) rfl)
theorem fl_X6_89 : FLk RX6 89 1 10 := ⟨"OneWordWrong$Grammar", _, rfl, by decide, Or.inr ⟨"OneWordWrong", memn 159 (by decide +kernel) rfl⟩, Or.inl rfl⟩
theorem fl_X6_92 : FLk RX6 92 1 6 := ⟨"OneWordWrong$Grammar", _, rfl, by decide, Or.inr ⟨"OneWordWrong", memn 141 (by decide +kernel) rfl⟩, Or.inl rfl⟩
theorem fl_X6_95 : FLk RX6 95 1 7 := ⟨"OneWordWrong$Grammar", _, rfl, by decide, Or.inr ⟨"OneWordWrong", memn 145 (by decide +kernel) rfl⟩, Or.inl rfl⟩
theorem fl_X6_98 : FLk RX6 98 1 5 := ⟨"OneWordWrong$Grammar", _, rfl, by decide, Or.inr ⟨"OneWordWrong", memn 137 (by decide +kernel) rfl⟩, Or.inl rfl⟩
theorem ml_X6_101 : MLk RX6 101 yX6_joinByRule := Or.inl (memw 578 (by decide +kernel) rfl)
theorem fl_X6_105 : FLk RX6 105 1 8 := ⟨"OneWordWrong$Grammar", _, rfl, by decide, Or.inr ⟨"OneWordWrong", memn 150 (by decide +kernel) rfl⟩, Or.inl rfl⟩
theorem fl_X6_109 : FLk RX6 109 1 9 := ⟨"OneWordWrong$Grammar", _, rfl, by decide, Or.inr ⟨"OneWordWrong", memn 154 (by decide +kernel) rfl⟩, Or.inl rfl⟩
theorem ml_X6_112 : MLk RX6 112 yJ9_min_7cf53 := Or.inl (memw 586 (by decide +kernel) rfl)
theorem ml_X7_3 : MLk RX7 3 ⟨"java/lang/Object", "<init>", "()V"⟩ := Or.inl (memw 271 (by decide +kernel) rfl)
theorem fl_X7_9 : FLk RX7 9 7 0 := ⟨"OneWordWrong$Row", _, rfl, by decide, Or.inl (memw 272 (by decide +kernel) rfl), Or.inl rfl⟩
theorem fl_X7_15 : FLk RX7 15 7 1 := ⟨"OneWordWrong$Row", _, rfl, by decide, Or.inl (memw 278 (by decide +kernel) rfl), Or.inl rfl⟩
theorem fl_X7_19 : FLk RX7 19 7 2 := ⟨"OneWordWrong$Row", _, rfl, by decide, Or.inl (memw 285 (by decide +kernel) rfl), Or.inl rfl⟩
theorem ml_X7_22 : MLk RX7 22 ⟨"java/lang/System", "arraycopy", "(Ljava/lang/Object;ILjava/lang/Object;II)V"⟩ := Or.inl (memw 661 (by decide +kernel) rfl)
theorem ml_X7_28 : MLk RX7 28 yX7_copyOf := Or.inl (memw 657 (by decide +kernel) rfl)
theorem ml_X7_32 : MLk RX7 32 yX7_append := Or.inl (memw 702 (by decide +kernel) rfl)
theorem fl_X7_36 : FLk RX7 36 1 2 := ⟨"OneWordWrong$Grammar", _, rfl, by decide, Or.inr ⟨"OneWordWrong", memn 128 (by decide +kernel) rfl⟩, Or.inl rfl⟩
theorem ml_X7_41 : MLk RX7 41 yX7_familyAt := Or.inl (memw 723 (by decide +kernel) rfl)
theorem ml_X8_3 : MLk RX8 3 ⟨"java/lang/Object", "<init>", "()V"⟩ := Or.inl (memw 216 (by decide +kernel) rfl)
theorem ml_X8_15 : MLk RX8 15 yX8_span := Or.inl (memw 523 (by decide +kernel) rfl)
theorem ml_X8_19 : MLk RX8 19 ⟨"OneWordWrong$SpanTable", "joinSpans", "(LOneWordWrong$Grammar;III)V"⟩ := Or.inl (memw 524 (by decide +kernel) rfl)
theorem ml_X9_3 : MLk RX9 3 ⟨"java/lang/Object", "<init>", "()V"⟩ := Or.inl (memw 94 (by decide +kernel) rfl)
theorem fl_X9_9 : FLk RX9 9 8 0 := ⟨"OneWordWrong$Text", _, rfl, by decide, Or.inl (memw 95 (by decide +kernel) rfl), Or.inl rfl⟩
theorem fl_X9_15 : FLk RX9 15 8 1 := ⟨"OneWordWrong$Text", _, rfl, by decide, Or.inl (memw 96 (by decide +kernel) rfl), Or.inl rfl⟩
theorem fl_X9_19 : FLk RX9 19 8 2 := ⟨"OneWordWrong$Text", _, rfl, by decide, Or.inl (memw 98 (by decide +kernel) rfl), Or.inl rfl⟩
theorem fl_X9_22 : FLk RX9 22 8 3 := ⟨"OneWordWrong$Text", _, rfl, by decide, Or.inl (memw 99 (by decide +kernel) rfl), Or.inl rfl⟩
theorem ml_X9_25 : MLk RX9 25 yX1_restart := Or.inl (memw 416 (by decide +kernel) rfl)
theorem ml_X9_30 : MLk RX9 30 yX9_itemEnd := Or.inl (memw 423 (by decide +kernel) rfl)
theorem ml_X9_34 : MLk RX9 34 yX1_takeItem := Or.inl (memw 432 (by decide +kernel) rfl)
theorem ml_X9_38 : MLk RX9 38 yX9_isFigure := Or.inl (memw 427 (by decide +kernel) rfl)
theorem ml_X9_42 : MLk RX9 42 yX11_isWithin := Or.inr ⟨"OneWordWrong", memn 431 (by decide +kernel) rfl⟩
theorem mf_X0_init : MFc yX0_init cX0_init 1 none 0 := ⟨memw 251 (by decide +kernel) rfl, memw 71 (by decide +kernel) rfl, ⟨by decide, by decide⟩, by decide +kernel⟩
theorem mi_X0_init : Cond.instanceMethod yX0_init ∈ wsAll := memw 250 (by decide +kernel) rfl
theorem mf_X0_fewest : MFc yX0_fewest cX0_fewest 7 (some .int) 3 := ⟨memw 753 (by decide +kernel) rfl, memw 71 (by decide +kernel) rfl, ⟨by decide, by decide⟩, by decide +kernel⟩
theorem mi_X0_fewest : Cond.instanceMethod yX0_fewest ∈ wsAll := memw 751 (by decide +kernel) rfl
theorem se_X0_fewest : Cond.selects RX0 yX0_fewest yX0_fewest ∈ wsAll := memw 752 (by decide +kernel) rfl
theorem mf_X0_singleRules : MFc yX0_singleRules cX0_singleRules 5 (some .int) 3 := ⟨memw 801 (by decide +kernel) rfl, memw 71 (by decide +kernel) rfl, ⟨by decide, by decide⟩, by decide +kernel⟩
theorem mi_X0_singleRules : Cond.instanceMethod yX0_singleRules ∈ wsAll := memw 799 (by decide +kernel) rfl
theorem se_X0_singleRules : Cond.selects RX0 yX0_singleRules yX0_singleRules ∈ wsAll := memw 800 (by decide +kernel) rfl
theorem mf_X0_agreeingRules : MFc yX0_agreeingRules cX0_agreeingRules 3 (some .int) 1 := ⟨memw 756 (by decide +kernel) rfl, memw 71 (by decide +kernel) rfl, ⟨by decide, by decide⟩, by decide +kernel⟩
theorem ms_X0_agreeingRules : Cond.static yX0_agreeingRules ∈ wsAll := memw 755 (by decide +kernel) rfl
theorem mf_X0_fewestOf : MFc yX0_fewestOf cX0_fewestOf 11 (some .int) 5 := ⟨memw 760 (by decide +kernel) rfl, memw 71 (by decide +kernel) rfl, ⟨by decide, by decide⟩, by decide +kernel⟩
theorem mi_X0_fewestOf : Cond.instanceMethod yX0_fewestOf ∈ wsAll := memw 759 (by decide +kernel) rfl
theorem se_X0_fewestOf : Cond.selects RX0 yX0_fewestOf yX0_fewestOf ∈ wsAll := memw 29 (by decide +kernel) rfl
theorem mf_X0_addSet : MFc yX0_addSet cX0_addSet 2 none 1 := ⟨memw 764 (by decide +kernel) rfl, memw 71 (by decide +kernel) rfl, ⟨by decide, by decide⟩, by decide +kernel⟩
theorem mi_X0_addSet : Cond.instanceMethod yX0_addSet ∈ wsAll := memw 763 (by decide +kernel) rfl
theorem se_X0_addSet : Cond.selects RX0 yX0_addSet yX0_addSet ∈ wsAll := memw 30 (by decide +kernel) rfl
theorem mf_X0_nextSet : MFc yX0_nextSet cX0_nextSet 3 (some .int) 1 := ⟨memw 767 (by decide +kernel) rfl, memw 71 (by decide +kernel) rfl, ⟨by decide, by decide⟩, by decide +kernel⟩
theorem ms_X0_nextSet : Cond.static yX0_nextSet ∈ wsAll := memw 766 (by decide +kernel) rfl
theorem mf_X0_freeingLanes : MFc yX0_freeingLanes cX0_freeingLanes 6 (some .long) 3 := ⟨memw 777 (by decide +kernel) rfl, memw 71 (by decide +kernel) rfl, ⟨by decide, by decide⟩, by decide +kernel⟩
theorem mi_X0_freeingLanes : Cond.instanceMethod yX0_freeingLanes ∈ wsAll := memw 776 (by decide +kernel) rfl
theorem se_X0_freeingLanes : Cond.selects RX0 yX0_freeingLanes yX0_freeingLanes ∈ wsAll := memw 31 (by decide +kernel) rfl
theorem mf_X1_init : MFc yX1_init cX1_init 1 none 0 := ⟨memw 114 (by decide +kernel) rfl, memw 65 (by decide +kernel) rfl, ⟨by decide, by decide⟩, by decide +kernel⟩
theorem mi_X1_init : Cond.instanceMethod yX1_init ∈ wsAll := memw 113 (by decide +kernel) rfl
theorem mf_X1_restart : MFc yX1_restart cX1_restart 1 none 0 := ⟨memw 419 (by decide +kernel) rfl, memw 65 (by decide +kernel) rfl, ⟨by decide, by decide⟩, by decide +kernel⟩
theorem mi_X1_restart : Cond.instanceMethod yX1_restart ∈ wsAll := memw 417 (by decide +kernel) rfl
theorem se_X1_restart : Cond.selects RX1 yX1_restart yX1_restart ∈ wsAll := memw 418 (by decide +kernel) rfl
theorem mf_X1_takeItem : MFc yX1_takeItem cX1_takeItem 4 (some .boolean) 3 := ⟨memw 435 (by decide +kernel) rfl, memw 65 (by decide +kernel) rfl, ⟨by decide, by decide⟩, by decide +kernel⟩
theorem mi_X1_takeItem : Cond.instanceMethod yX1_takeItem ∈ wsAll := memw 433 (by decide +kernel) rfl
theorem se_X1_takeItem : Cond.selects RX1 yX1_takeItem yX1_takeItem ∈ wsAll := memw 434 (by decide +kernel) rfl
theorem mf_X1_areWithin : MFc yX1_areWithin cX1_areWithin 4 (some .boolean) 3 := ⟨memw 440 (by decide +kernel) rfl, memw 65 (by decide +kernel) rfl, ⟨by decide, by decide⟩, by decide +kernel⟩
theorem ms_X1_areWithin : Cond.static yX1_areWithin ∈ wsAll := memw 439 (by decide +kernel) rfl
theorem mf_X1_addWord : MFc yX1_addWord cX1_addWord 2 (some .boolean) 1 := ⟨memw 444 (by decide +kernel) rfl, memw 65 (by decide +kernel) rfl, ⟨by decide, by decide⟩, by decide +kernel⟩
theorem mi_X1_addWord : Cond.instanceMethod yX1_addWord ∈ wsAll := memw 443 (by decide +kernel) rfl
theorem se_X1_addWord : Cond.selects RX1 yX1_addWord yX1_addWord ∈ wsAll := memw 2 (by decide +kernel) rfl
theorem mf_X1_addRule : MFc yX1_addRule cX1_addRule 2 (some .boolean) 1 := ⟨memw 450 (by decide +kernel) rfl, memw 65 (by decide +kernel) rfl, ⟨by decide, by decide⟩, by decide +kernel⟩
theorem mi_X1_addRule : Cond.instanceMethod yX1_addRule ∈ wsAll := memw 449 (by decide +kernel) rfl
theorem se_X1_addRule : Cond.selects RX1 yX1_addRule yX1_addRule ∈ wsAll := memw 3 (by decide +kernel) rfl
theorem mf_X1_tellPrice : MFc yX1_tellPrice cX1_tellPrice 2 (some .boolean) 1 := ⟨memw 456 (by decide +kernel) rfl, memw 65 (by decide +kernel) rfl, ⟨by decide, by decide⟩, by decide +kernel⟩
theorem mi_X1_tellPrice : Cond.instanceMethod yX1_tellPrice ∈ wsAll := memw 455 (by decide +kernel) rfl
theorem se_X1_tellPrice : Cond.selects RX1 yX1_tellPrice yX1_tellPrice ∈ wsAll := memw 4 (by decide +kernel) rfl
theorem mf_X1_stateOf : MFc yX1_stateOf cX1_stateOf 2 (some .int) 1 := ⟨memw 516 (by decide +kernel) rfl, memw 65 (by decide +kernel) rfl, ⟨by decide, by decide⟩, by decide +kernel⟩
theorem mi_X1_stateOf : Cond.instanceMethod yX1_stateOf ∈ wsAll := memw 514 (by decide +kernel) rfl
theorem se_X1_stateOf : Cond.selects RX1 yX1_stateOf yX1_stateOf ∈ wsAll := memw 515 (by decide +kernel) rfl
theorem mf_X1_swapPrice : MFc yX1_swapPrice cX1_swapPrice 5 (some .int) 3 := ⟨memw 608 (by decide +kernel) rfl, memw 65 (by decide +kernel) rfl, ⟨by decide, by decide⟩, by decide +kernel⟩
theorem mi_X1_swapPrice : Cond.instanceMethod yX1_swapPrice ∈ wsAll := memw 606 (by decide +kernel) rfl
theorem se_X1_swapPrice : Cond.selects RX1 yX1_swapPrice yX1_swapPrice ∈ wsAll := memw 607 (by decide +kernel) rfl
theorem mf_X2_init : MFc yX2_init cX2_init 1 none 0 := ⟨memw 198 (by decide +kernel) rfl, memw 66 (by decide +kernel) rfl, ⟨by decide, by decide⟩, by decide +kernel⟩
theorem mi_X2_init : Cond.instanceMethod yX2_init ∈ wsAll := memw 197 (by decide +kernel) rfl
theorem mf_X2_append : MFc yX2_append cX2_append 2 none 1 := ⟨memw 834 (by decide +kernel) rfl, memw 66 (by decide +kernel) rfl, ⟨by decide, by decide⟩, by decide +kernel⟩
theorem mi_X2_append : Cond.instanceMethod yX2_append ∈ wsAll := memw 832 (by decide +kernel) rfl
theorem se_X2_append : Cond.selects RX2 yX2_append yX2_append ∈ wsAll := memw 833 (by decide +kernel) rfl
theorem mf_X2_fittedPrice : MFc yX2_fittedPrice cX2_fittedPrice 4 (some .int) 1 := ⟨memw 476 (by decide +kernel) rfl, memw 66 (by decide +kernel) rfl, ⟨by decide, by decide⟩, by decide +kernel⟩
theorem mi_X2_fittedPrice : Cond.instanceMethod yX2_fittedPrice ∈ wsAll := memw 474 (by decide +kernel) rfl
theorem se_X2_fittedPrice : Cond.selects RX2 yX2_fittedPrice yX2_fittedPrice ∈ wsAll := memw 475 (by decide +kernel) rfl
theorem mf_X2_cameSince : MFc yX2_cameSince cX2_cameSince 4 (some .boolean) 2 := ⟨memw 842 (by decide +kernel) rfl, memw 66 (by decide +kernel) rfl, ⟨by decide, by decide⟩, by decide +kernel⟩
theorem mi_X2_cameSince : Cond.instanceMethod yX2_cameSince ∈ wsAll := memw 840 (by decide +kernel) rfl
theorem se_X2_cameSince : Cond.selects RX2 yX2_cameSince yX2_cameSince ∈ wsAll := memw 841 (by decide +kernel) rfl
theorem mf_X3_init : MFc yX3_init cX3_init 1 none 0 := ⟨memw 331 (by decide +kernel) rfl, memw 74 (by decide +kernel) rfl, ⟨by decide, by decide⟩, by decide +kernel⟩
theorem mi_X3_init : Cond.instanceMethod yX3_init ∈ wsAll := memw 330 (by decide +kernel) rfl
theorem mf_X3_isWronged : MFc yX3_isWronged cX3_isWronged 1 (some .boolean) 0 := ⟨memw 813 (by decide +kernel) rfl, memw 74 (by decide +kernel) rfl, ⟨by decide, by decide⟩, by decide +kernel⟩
theorem mi_X3_isWronged : Cond.instanceMethod yX3_isWronged ∈ wsAll := memw 811 (by decide +kernel) rfl
theorem se_X3_isWronged : Cond.selects RX3 yX3_isWronged yX3_isWronged ∈ wsAll := memw 812 (by decide +kernel) rfl
theorem mf_X3_isChangedUnread : MFc yX3_isChangedUnread cX3_isChangedUnread 1 (some .boolean) 0 := ⟨memw 817 (by decide +kernel) rfl, memw 74 (by decide +kernel) rfl, ⟨by decide, by decide⟩, by decide +kernel⟩
theorem mi_X3_isChangedUnread : Cond.instanceMethod yX3_isChangedUnread ∈ wsAll := memw 815 (by decide +kernel) rfl
theorem se_X3_isChangedUnread : Cond.selects RX3 yX3_isChangedUnread yX3_isChangedUnread ∈ wsAll := memw 816 (by decide +kernel) rfl
theorem mf_X4_init : MFc yX4_init cX4_init 1 none 0 := ⟨memw 240 (by decide +kernel) rfl, memw 70 (by decide +kernel) rfl, ⟨by decide, by decide⟩, by decide +kernel⟩
theorem mi_X4_init : Cond.instanceMethod yX4_init ∈ wsAll := memw 239 (by decide +kernel) rfl
theorem mf_X4_restart : MFc yX4_restart cX4_restart 1 none 0 := ⟨memw 669 (by decide +kernel) rfl, memw 70 (by decide +kernel) rfl, ⟨by decide, by decide⟩, by decide +kernel⟩
theorem mi_X4_restart : Cond.instanceMethod yX4_restart ∈ wsAll := memw 667 (by decide +kernel) rfl
theorem se_X4_restart : Cond.selects RX4 yX4_restart yX4_restart ∈ wsAll := memw 668 (by decide +kernel) rfl
theorem mf_X4_putRow : MFc yX4_putRow cX4_putRow 6 none 3 := ⟨memw 674 (by decide +kernel) rfl, memw 70 (by decide +kernel) rfl, ⟨by decide, by decide⟩, by decide +kernel⟩
theorem mi_X4_putRow : Cond.instanceMethod yX4_putRow ∈ wsAll := memw 672 (by decide +kernel) rfl
theorem se_X4_putRow : Cond.selects RX4 yX4_putRow yX4_putRow ∈ wsAll := memw 673 (by decide +kernel) rfl
theorem mf_X4_freeRule : MFc yX4_freeRule cX4_freeRule 4 none 2 := ⟨memw 784 (by decide +kernel) rfl, memw 70 (by decide +kernel) rfl, ⟨by decide, by decide⟩, by decide +kernel⟩
theorem mi_X4_freeRule : Cond.instanceMethod yX4_freeRule ∈ wsAll := memw 782 (by decide +kernel) rfl
theorem se_X4_freeRule : Cond.selects RX4 yX4_freeRule yX4_freeRule ∈ wsAll := memw 783 (by decide +kernel) rfl
theorem mf_X4_readLanes : MFc yX4_readLanes cX4_readLanes 2 (some .long) 1 := ⟨memw 684 (by decide +kernel) rfl, memw 70 (by decide +kernel) rfl, ⟨by decide, by decide⟩, by decide +kernel⟩
theorem mi_X4_readLanes : Cond.instanceMethod yX4_readLanes ∈ wsAll := memw 682 (by decide +kernel) rfl
theorem se_X4_readLanes : Cond.selects RX4 yX4_readLanes yX4_readLanes ∈ wsAll := memw 683 (by decide +kernel) rfl
theorem mf_X4_joinSpans : MFc yX4_joinSpans cX4_joinSpans 20 none 4 := ⟨memw 529 (by decide +kernel) rfl, memw 70 (by decide +kernel) rfl, ⟨by decide, by decide⟩, by decide +kernel⟩
theorem mi_X4_joinSpans : Cond.instanceMethod yX4_joinSpans ∈ wsAll := memw 528 (by decide +kernel) rfl
theorem mf_X4_anyAt : MFc yX4_anyAt cX4_anyAt 2 (some .long) 1 := ⟨memw 533 (by decide +kernel) rfl, memw 70 (by decide +kernel) rfl, ⟨by decide, by decide⟩, by decide +kernel⟩
theorem mi_X4_anyAt : Cond.instanceMethod yX4_anyAt ∈ wsAll := memw 532 (by decide +kernel) rfl
theorem se_X4_anyAt : Cond.selects RX4 yX4_anyAt yX4_anyAt ∈ wsAll := memw 6 (by decide +kernel) rfl
theorem mf_X5_init : MFc yX5_init cX5_init 2 none 0 := ⟨memw 264 (by decide +kernel) rfl, memw 72 (by decide +kernel) rfl, ⟨by decide, by decide⟩, by decide +kernel⟩
theorem mi_X5_init : Cond.instanceMethod yX5_init ∈ wsAll := memw 263 (by decide +kernel) rfl
theorem mf_X5_find : MFc yX5_find cX5_find 7 none 4 := ⟨memw 641 (by decide +kernel) rfl, memw 72 (by decide +kernel) rfl, ⟨by decide, by decide⟩, by decide +kernel⟩
theorem mi_X5_find : Cond.instanceMethod yX5_find ∈ wsAll := memw 639 (by decide +kernel) rfl
theorem se_X5_find : Cond.selects RX5 yX5_find yX5_find ∈ wsAll := memw 640 (by decide +kernel) rfl
theorem mf_X5_placeOf : MFc yX5_placeOf cX5_placeOf 3 (some .int) 1 := ⟨memw 805 (by decide +kernel) rfl, memw 72 (by decide +kernel) rfl, ⟨by decide, by decide⟩, by decide +kernel⟩
theorem mi_X5_placeOf : Cond.instanceMethod yX5_placeOf ∈ wsAll := memw 803 (by decide +kernel) rfl
theorem se_X5_placeOf : Cond.selects RX5 yX5_placeOf yX5_placeOf ∈ wsAll := memw 804 (by decide +kernel) rfl
theorem mf_X5_addSwaps : MFc yX5_addSwaps cX5_addSwaps 7 none 3 := ⟨memw 646 (by decide +kernel) rfl, memw 72 (by decide +kernel) rfl, ⟨by decide, by decide⟩, by decide +kernel⟩
theorem mi_X5_addSwaps : Cond.instanceMethod yX5_addSwaps ∈ wsAll := memw 645 (by decide +kernel) rfl
theorem se_X5_addSwaps : Cond.selects RX5 yX5_addSwaps yX5_addSwaps ∈ wsAll := memw 22 (by decide +kernel) rfl
theorem mf_X5_nextTry : MFc yX5_nextTry cX5_nextTry 3 (some (.object "OneWordWrong$Row")) 1 := ⟨memw 651 (by decide +kernel) rfl, memw 72 (by decide +kernel) rfl, ⟨by decide, by decide⟩, by decide +kernel⟩
theorem mi_X5_nextTry : Cond.instanceMethod yX5_nextTry ∈ wsAll := memw 650 (by decide +kernel) rfl
theorem se_X5_nextTry : Cond.selects RX5 yX5_nextTry yX5_nextTry ∈ wsAll := memw 23 (by decide +kernel) rfl
theorem mf_X5_readTries : MFc yX5_readTries cX5_readTries 7 none 3 := ⟨memw 665 (by decide +kernel) rfl, memw 72 (by decide +kernel) rfl, ⟨by decide, by decide⟩, by decide +kernel⟩
theorem mi_X5_readTries : Cond.instanceMethod yX5_readTries ∈ wsAll := memw 664 (by decide +kernel) rfl
theorem se_X5_readTries : Cond.selects RX5 yX5_readTries yX5_readTries ∈ wsAll := memw 24 (by decide +kernel) rfl
theorem mf_X5_insert : MFc yX5_insert cX5_insert 6 none 2 := ⟨memw 688 (by decide +kernel) rfl, memw 72 (by decide +kernel) rfl, ⟨by decide, by decide⟩, by decide +kernel⟩
theorem mi_X5_insert : Cond.instanceMethod yX5_insert ∈ wsAll := memw 687 (by decide +kernel) rfl
theorem se_X5_insert : Cond.selects RX5 yX5_insert yX5_insert ∈ wsAll := memw 25 (by decide +kernel) rfl
theorem mf_X5_orderAt : MFc yX5_orderAt cX5_orderAt 4 (some .int) 3 := ⟨memw 692 (by decide +kernel) rfl, memw 72 (by decide +kernel) rfl, ⟨by decide, by decide⟩, by decide +kernel⟩
theorem mi_X5_orderAt : Cond.instanceMethod yX5_orderAt ∈ wsAll := memw 691 (by decide +kernel) rfl
theorem se_X5_orderAt : Cond.selects RX5 yX5_orderAt yX5_orderAt ∈ wsAll := memw 26 (by decide +kernel) rfl
theorem mf_X5_gatherHeaps : MFc yX5_gatherHeaps cX5_gatherHeaps 3 none 1 := ⟨memw 714 (by decide +kernel) rfl, memw 72 (by decide +kernel) rfl, ⟨by decide, by decide⟩, by decide +kernel⟩
theorem mi_X5_gatherHeaps : Cond.instanceMethod yX5_gatherHeaps ∈ wsAll := memw 712 (by decide +kernel) rfl
theorem se_X5_gatherHeaps : Cond.selects RX5 yX5_gatherHeaps yX5_gatherHeaps ∈ wsAll := memw 713 (by decide +kernel) rfl
theorem mf_X5_isHeaped : MFc yX5_isHeaped cX5_isHeaped 4 (some .boolean) 2 := ⟨memw 718 (by decide +kernel) rfl, memw 72 (by decide +kernel) rfl, ⟨by decide, by decide⟩, by decide +kernel⟩
theorem mi_X5_isHeaped : Cond.instanceMethod yX5_isHeaped ∈ wsAll := memw 717 (by decide +kernel) rfl
theorem se_X5_isHeaped : Cond.selects RX5 yX5_isHeaped yX5_isHeaped ∈ wsAll := memw 27 (by decide +kernel) rfl
theorem mf_X5_firstStandsOut : MFc yX5_firstStandsOut cX5_firstStandsOut 2 (some .boolean) 1 := ⟨memw 730 (by decide +kernel) rfl, memw 72 (by decide +kernel) rfl, ⟨by decide, by decide⟩, by decide +kernel⟩
theorem mi_X5_firstStandsOut : Cond.instanceMethod yX5_firstStandsOut ∈ wsAll := memw 728 (by decide +kernel) rfl
theorem se_X5_firstStandsOut : Cond.selects RX5 yX5_firstStandsOut yX5_firstStandsOut ∈ wsAll := memw 729 (by decide +kernel) rfl
theorem mf_X5_askedPlace : MFc yX5_askedPlace cX5_askedPlace 4 (some .int) 1 := ⟨memw 734 (by decide +kernel) rfl, memw 72 (by decide +kernel) rfl, ⟨by decide, by decide⟩, by decide +kernel⟩
theorem mi_X5_askedPlace : Cond.instanceMethod yX5_askedPlace ∈ wsAll := memw 732 (by decide +kernel) rfl
theorem se_X5_askedPlace : Cond.selects RX5 yX5_askedPlace yX5_askedPlace ∈ wsAll := memw 733 (by decide +kernel) rfl
theorem mf_X5_greatestAt : MFc yX5_greatestAt cX5_greatestAt 6 (some .int) 2 := ⟨memw 738 (by decide +kernel) rfl, memw 72 (by decide +kernel) rfl, ⟨by decide, by decide⟩, by decide +kernel⟩
theorem mi_X5_greatestAt : Cond.instanceMethod yX5_greatestAt ∈ wsAll := memw 737 (by decide +kernel) rfl
theorem se_X5_greatestAt : Cond.selects RX5 yX5_greatestAt yX5_greatestAt ∈ wsAll := memw 28 (by decide +kernel) rfl
theorem mf_X6_init : MFc yX6_init cX6_init 1 none 0 := ⟨memw 230 (by decide +kernel) rfl, memw 69 (by decide +kernel) rfl, ⟨by decide, by decide⟩, by decide +kernel⟩
theorem mi_X6_init : Cond.instanceMethod yX6_init ∈ wsAll := memw 229 (by decide +kernel) rfl
theorem mf_X6_leastSum : MFc yX6_leastSum cX6_leastSum 7 (some .int) 3 := ⟨memw 561 (by decide +kernel) rfl, memw 69 (by decide +kernel) rfl, ⟨by decide, by decide⟩, by decide +kernel⟩
theorem mi_X6_leastSum : Cond.instanceMethod yX6_leastSum ∈ wsAll := memw 559 (by decide +kernel) rfl
theorem se_X6_leastSum : Cond.selects RX6 yX6_leastSum yX6_leastSum ∈ wsAll := memw 560 (by decide +kernel) rfl
theorem mf_X6_run : MFc yX6_run cX6_run 2 (some .int) 2 := ⟨memw 568 (by decide +kernel) rfl, memw 69 (by decide +kernel) rfl, ⟨by decide, by decide⟩, by decide +kernel⟩
theorem ms_X6_run : Cond.static yX6_run ∈ wsAll := memw 567 (by decide +kernel) rfl
theorem mf_X6_fillEmptyRuns : MFc yX6_fillEmptyRuns cX6_fillEmptyRuns 7 none 3 := ⟨memw 565 (by decide +kernel) rfl, memw 69 (by decide +kernel) rfl, ⟨by decide, by decide⟩, by decide +kernel⟩
theorem mi_X6_fillEmptyRuns : Cond.instanceMethod yX6_fillEmptyRuns ∈ wsAll := memw 564 (by decide +kernel) rfl
theorem se_X6_fillEmptyRuns : Cond.selects RX6 yX6_fillEmptyRuns yX6_fillEmptyRuns ∈ wsAll := memw 8 (by decide +kernel) rfl
theorem mf_X6_startRun : MFc yX6_startRun cX6_startRun 7 none 5 := ⟨memw 597 (by decide +kernel) rfl, memw 69 (by decide +kernel) rfl, ⟨by decide, by decide⟩, by decide +kernel⟩
theorem mi_X6_startRun : Cond.instanceMethod yX6_startRun ∈ wsAll := memw 596 (by decide +kernel) rfl
theorem se_X6_startRun : Cond.selects RX6 yX6_startRun yX6_startRun ∈ wsAll := memw 14 (by decide +kernel) rfl
theorem mf_X6_putChanged : MFc yX6_putChanged cX6_putChanged 8 none 4 := ⟨memw 601 (by decide +kernel) rfl, memw 69 (by decide +kernel) rfl, ⟨by decide, by decide⟩, by decide +kernel⟩
theorem mi_X6_putChanged : Cond.instanceMethod yX6_putChanged ∈ wsAll := memw 600 (by decide +kernel) rfl
theorem se_X6_putChanged : Cond.selects RX6 yX6_putChanged yX6_putChanged ∈ wsAll := memw 15 (by decide +kernel) rfl
theorem mf_X6_forbidAll : MFc yX6_forbidAll cX6_forbidAll 3 none 1 := ⟨memw 572 (by decide +kernel) rfl, memw 69 (by decide +kernel) rfl, ⟨by decide, by decide⟩, by decide +kernel⟩
theorem mi_X6_forbidAll : Cond.instanceMethod yX6_forbidAll ∈ wsAll := memw 571 (by decide +kernel) rfl
theorem se_X6_forbidAll : Cond.selects RX6 yX6_forbidAll yX6_forbidAll ∈ wsAll := memw 9 (by decide +kernel) rfl
theorem mf_X6_lowerAll : MFc yX6_lowerAll cX6_lowerAll 5 none 3 := ⟨memw 613 (by decide +kernel) rfl, memw 69 (by decide +kernel) rfl, ⟨by decide, by decide⟩, by decide +kernel⟩
theorem mi_X6_lowerAll : Cond.instanceMethod yX6_lowerAll ∈ wsAll := memw 612 (by decide +kernel) rfl
theorem se_X6_lowerAll : Cond.selects RX6 yX6_lowerAll yX6_lowerAll ∈ wsAll := memw 16 (by decide +kernel) rfl
theorem mf_X6_lower : MFc yX6_lower cX6_lower 3 (some .boolean) 2 := ⟨memw 592 (by decide +kernel) rfl, memw 69 (by decide +kernel) rfl, ⟨by decide, by decide⟩, by decide +kernel⟩
theorem mi_X6_lower : Cond.instanceMethod yX6_lower ∈ wsAll := memw 591 (by decide +kernel) rfl
theorem se_X6_lower : Cond.selects RX6 yX6_lower yX6_lower ∈ wsAll := memw 13 (by decide +kernel) rfl
theorem mf_X6_joinInside : MFc yX6_joinInside cX6_joinInside 5 none 3 := ⟨memw 617 (by decide +kernel) rfl, memw 69 (by decide +kernel) rfl, ⟨by decide, by decide⟩, by decide +kernel⟩
theorem mi_X6_joinInside : Cond.instanceMethod yX6_joinInside ∈ wsAll := memw 616 (by decide +kernel) rfl
theorem se_X6_joinInside : Cond.selects RX6 yX6_joinInside yX6_joinInside ∈ wsAll := memw 17 (by decide +kernel) rfl
theorem mf_X6_joinWithPutIn : MFc yX6_joinWithPutIn cX6_joinWithPutIn 9 none 3 := ⟨memw 621 (by decide +kernel) rfl, memw 69 (by decide +kernel) rfl, ⟨by decide, by decide⟩, by decide +kernel⟩
theorem mi_X6_joinWithPutIn : Cond.instanceMethod yX6_joinWithPutIn ∈ wsAll := memw 620 (by decide +kernel) rfl
theorem se_X6_joinWithPutIn : Cond.selects RX6 yX6_joinWithPutIn yX6_joinWithPutIn ∈ wsAll := memw 18 (by decide +kernel) rfl
theorem mf_X6_joinCells : MFc yX6_joinCells cX6_joinCells 9 (some .boolean) 4 := ⟨memw 577 (by decide +kernel) rfl, memw 69 (by decide +kernel) rfl, ⟨by decide, by decide⟩, by decide +kernel⟩
theorem mi_X6_joinCells : Cond.instanceMethod yX6_joinCells ∈ wsAll := memw 576 (by decide +kernel) rfl
theorem se_X6_joinCells : Cond.selects RX6 yX6_joinCells yX6_joinCells ∈ wsAll := memw 10 (by decide +kernel) rfl
theorem mf_X6_joinByRule : MFc yX6_joinByRule cX6_joinByRule 11 (some .boolean) 5 := ⟨memw 581 (by decide +kernel) rfl, memw 69 (by decide +kernel) rfl, ⟨by decide, by decide⟩, by decide +kernel⟩
theorem mi_X6_joinByRule : Cond.instanceMethod yX6_joinByRule ∈ wsAll := memw 580 (by decide +kernel) rfl
theorem se_X6_joinByRule : Cond.selects RX6 yX6_joinByRule yX6_joinByRule ∈ wsAll := memw 11 (by decide +kernel) rfl
theorem mf_X6_cheapestAt : MFc yX6_cheapestAt cX6_cheapestAt 2 (some .int) 1 := ⟨memw 585 (by decide +kernel) rfl, memw 69 (by decide +kernel) rfl, ⟨by decide, by decide⟩, by decide +kernel⟩
theorem mi_X6_cheapestAt : Cond.instanceMethod yX6_cheapestAt ∈ wsAll := memw 584 (by decide +kernel) rfl
theorem se_X6_cheapestAt : Cond.selects RX6 yX6_cheapestAt yX6_cheapestAt ∈ wsAll := memw 12 (by decide +kernel) rfl
theorem mf_X7_init : MFc yX7_init cX7_init 1 none 0 := ⟨memw 270 (by decide +kernel) rfl, memw 73 (by decide +kernel) rfl, ⟨by decide, by decide⟩, by decide +kernel⟩
theorem mi_X7_init : Cond.instanceMethod yX7_init ∈ wsAll := memw 269 (by decide +kernel) rfl
theorem mf_X7_restart : MFc yX7_restart cX7_restart 1 none 0 := ⟨memw 464 (by decide +kernel) rfl, memw 73 (by decide +kernel) rfl, ⟨by decide, by decide⟩, by decide +kernel⟩
theorem mi_X7_restart : Cond.instanceMethod yX7_restart ∈ wsAll := memw 462 (by decide +kernel) rfl
theorem se_X7_restart : Cond.selects RX7 yX7_restart yX7_restart ∈ wsAll := memw 463 (by decide +kernel) rfl
theorem mf_X7_append : MFc yX7_append cX7_append 2 none 1 := ⟨memw 487 (by decide +kernel) rfl, memw 73 (by decide +kernel) rfl, ⟨by decide, by decide⟩, by decide +kernel⟩
theorem mi_X7_append : Cond.instanceMethod yX7_append ∈ wsAll := memw 485 (by decide +kernel) rfl
theorem se_X7_append : Cond.selects RX7 yX7_append yX7_append ∈ wsAll := memw 486 (by decide +kernel) rfl
theorem mf_X7_copyOf : MFc yX7_copyOf cX7_copyOf 2 none 1 := ⟨memw 660 (by decide +kernel) rfl, memw 73 (by decide +kernel) rfl, ⟨by decide, by decide⟩, by decide +kernel⟩
theorem mi_X7_copyOf : Cond.instanceMethod yX7_copyOf ∈ wsAll := memw 658 (by decide +kernel) rfl
theorem se_X7_copyOf : Cond.selects RX7 yX7_copyOf yX7_copyOf ∈ wsAll := memw 659 (by decide +kernel) rfl
theorem mf_X7_copySwapped : MFc yX7_copySwapped cX7_copySwapped 4 none 3 := ⟨memw 656 (by decide +kernel) rfl, memw 73 (by decide +kernel) rfl, ⟨by decide, by decide⟩, by decide +kernel⟩
theorem mi_X7_copySwapped : Cond.instanceMethod yX7_copySwapped ∈ wsAll := memw 654 (by decide +kernel) rfl
theorem se_X7_copySwapped : Cond.selects RX7 yX7_copySwapped yX7_copySwapped ∈ wsAll := memw 655 (by decide +kernel) rfl
theorem mf_X7_copyWithout : MFc yX7_copyWithout cX7_copyWithout 4 none 2 := ⟨memw 701 (by decide +kernel) rfl, memw 73 (by decide +kernel) rfl, ⟨by decide, by decide⟩, by decide +kernel⟩
theorem mi_X7_copyWithout : Cond.instanceMethod yX7_copyWithout ∈ wsAll := memw 699 (by decide +kernel) rfl
theorem se_X7_copyWithout : Cond.selects RX7 yX7_copyWithout yX7_copyWithout ∈ wsAll := memw 700 (by decide +kernel) rfl
theorem mf_X7_copyWith : MFc yX7_copyWith cX7_copyWith 5 none 3 := ⟨memw 706 (by decide +kernel) rfl, memw 73 (by decide +kernel) rfl, ⟨by decide, by decide⟩, by decide +kernel⟩
theorem mi_X7_copyWith : Cond.instanceMethod yX7_copyWith ∈ wsAll := memw 704 (by decide +kernel) rfl
theorem se_X7_copyWith : Cond.selects RX7 yX7_copyWith yX7_copyWith ∈ wsAll := memw 705 (by decide +kernel) rfl
theorem mf_X7_orderTo : MFc yX7_orderTo cX7_orderTo 3 (some .int) 1 := ⟨memw 696 (by decide +kernel) rfl, memw 73 (by decide +kernel) rfl, ⟨by decide, by decide⟩, by decide +kernel⟩
theorem mi_X7_orderTo : Cond.instanceMethod yX7_orderTo ∈ wsAll := memw 694 (by decide +kernel) rfl
theorem se_X7_orderTo : Cond.selects RX7 yX7_orderTo yX7_orderTo ∈ wsAll := memw 695 (by decide +kernel) rfl
theorem mf_X7_familyAt : MFc yX7_familyAt cX7_familyAt 3 (some .int) 2 := ⟨memw 726 (by decide +kernel) rfl, memw 73 (by decide +kernel) rfl, ⟨by decide, by decide⟩, by decide +kernel⟩
theorem mi_X7_familyAt : Cond.instanceMethod yX7_familyAt ∈ wsAll := memw 724 (by decide +kernel) rfl
theorem se_X7_familyAt : Cond.selects RX7 yX7_familyAt yX7_familyAt ∈ wsAll := memw 725 (by decide +kernel) rfl
theorem mf_X7_hasFamiliesOf : MFc yX7_hasFamiliesOf cX7_hasFamiliesOf 4 (some .boolean) 2 := ⟨memw 722 (by decide +kernel) rfl, memw 73 (by decide +kernel) rfl, ⟨by decide, by decide⟩, by decide +kernel⟩
theorem mi_X7_hasFamiliesOf : Cond.instanceMethod yX7_hasFamiliesOf ∈ wsAll := memw 720 (by decide +kernel) rfl
theorem se_X7_hasFamiliesOf : Cond.selects RX7 yX7_hasFamiliesOf yX7_hasFamiliesOf ∈ wsAll := memw 721 (by decide +kernel) rfl
theorem mf_X8_init : MFc yX8_init cX8_init 1 none 0 := ⟨memw 215 (by decide +kernel) rfl, memw 67 (by decide +kernel) rfl, ⟨by decide, by decide⟩, by decide +kernel⟩
theorem mi_X8_init : Cond.instanceMethod yX8_init ∈ wsAll := memw 214 (by decide +kernel) rfl
theorem mf_X8_span : MFc yX8_span cX8_span 2 (some .int) 2 := ⟨memw 512 (by decide +kernel) rfl, memw 67 (by decide +kernel) rfl, ⟨by decide, by decide⟩, by decide +kernel⟩
theorem ms_X8_span : Cond.static yX8_span ∈ wsAll := memw 511 (by decide +kernel) rfl
theorem mf_X8_joinAll : MFc yX8_joinAll cX8_joinAll 6 none 2 := ⟨memw 522 (by decide +kernel) rfl, memw 67 (by decide +kernel) rfl, ⟨by decide, by decide⟩, by decide +kernel⟩
theorem mi_X8_joinAll : Cond.instanceMethod yX8_joinAll ∈ wsAll := memw 521 (by decide +kernel) rfl
theorem mf_X9_init : MFc yX9_init cX9_init 1 none 0 := ⟨memw 93 (by decide +kernel) rfl, memw 64 (by decide +kernel) rfl, ⟨by decide, by decide⟩, by decide +kernel⟩
theorem mi_X9_init : Cond.instanceMethod yX9_init ∈ wsAll := memw 92 (by decide +kernel) rfl
theorem mf_X9_append : MFc yX9_append cX9_append 2 none 1 := ⟨memw 403 (by decide +kernel) rfl, memw 64 (by decide +kernel) rfl, ⟨by decide, by decide⟩, by decide +kernel⟩
theorem mi_X9_append : Cond.instanceMethod yX9_append ∈ wsAll := memw 401 (by decide +kernel) rfl
theorem se_X9_append : Cond.selects RX9 yX9_append yX9_append ∈ wsAll := memw 402 (by decide +kernel) rfl
theorem mf_X9_tellTo : MFc yX9_tellTo cX9_tellTo 5 (some .int) 1 := ⟨memw 415 (by decide +kernel) rfl, memw 64 (by decide +kernel) rfl, ⟨by decide, by decide⟩, by decide +kernel⟩
theorem mi_X9_tellTo : Cond.instanceMethod yX9_tellTo ∈ wsAll := memw 413 (by decide +kernel) rfl
theorem se_X9_tellTo : Cond.selects RX9 yX9_tellTo yX9_tellTo ∈ wsAll := memw 414 (by decide +kernel) rfl
theorem mf_X9_itemEnd : MFc yX9_itemEnd cX9_itemEnd 5 (some .int) 1 := ⟨memw 426 (by decide +kernel) rfl, memw 64 (by decide +kernel) rfl, ⟨by decide, by decide⟩, by decide +kernel⟩
theorem mi_X9_itemEnd : Cond.instanceMethod yX9_itemEnd ∈ wsAll := memw 425 (by decide +kernel) rfl
theorem se_X9_itemEnd : Cond.selects RX9 yX9_itemEnd yX9_itemEnd ∈ wsAll := memw 0 (by decide +kernel) rfl
theorem mf_X9_isFigure : MFc yX9_isFigure cX9_isFigure 2 (some .boolean) 1 := ⟨memw 430 (by decide +kernel) rfl, memw 64 (by decide +kernel) rfl, ⟨by decide, by decide⟩, by decide +kernel⟩
theorem mi_X9_isFigure : Cond.instanceMethod yX9_isFigure ∈ wsAll := memw 429 (by decide +kernel) rfl
theorem se_X9_isFigure : Cond.selects RX9 yX9_isFigure yX9_isFigure ∈ wsAll := memw 1 (by decide +kernel) rfl
theorem mf_X10_init : MFc yX10_init cX10_init 1 none 0 := ⟨memw 212 (by decide +kernel) rfl, memw 68 (by decide +kernel) rfl, ⟨by decide, by decide⟩, by decide +kernel⟩
theorem mi_X10_init : Cond.instanceMethod yX10_init ∈ wsAll := memw 211 (by decide +kernel) rfl
theorem mf_X10_fill : MFc yX10_fill cX10_fill 4 none 2 := ⟨memw 505 (by decide +kernel) rfl, memw 68 (by decide +kernel) rfl, ⟨by decide, by decide⟩, by decide +kernel⟩
theorem mi_X10_fill : Cond.instanceMethod yX10_fill ∈ wsAll := memw 503 (by decide +kernel) rfl
theorem se_X10_fill : Cond.selects RX10 yX10_fill yX10_fill ∈ wsAll := memw 504 (by decide +kernel) rfl
theorem mf_X10_treesOver : MFc yX10_treesOver cX10_treesOver 5 (some .long) 4 := ⟨memw 549 (by decide +kernel) rfl, memw 68 (by decide +kernel) rfl, ⟨by decide, by decide⟩, by decide +kernel⟩
theorem mi_X10_treesOver : Cond.instanceMethod yX10_treesOver ∈ wsAll := memw 547 (by decide +kernel) rfl
theorem se_X10_treesOver : Cond.selects RX10 yX10_treesOver yX10_treesOver ∈ wsAll := memw 548 (by decide +kernel) rfl
theorem mf_X10_overAll : MFc yX10_overAll cX10_overAll 2 (some .long) 1 := ⟨memw 545 (by decide +kernel) rfl, memw 68 (by decide +kernel) rfl, ⟨by decide, by decide⟩, by decide +kernel⟩
theorem mi_X10_overAll : Cond.instanceMethod yX10_overAll ∈ wsAll := memw 543 (by decide +kernel) rfl
theorem se_X10_overAll : Cond.selects RX10 yX10_overAll yX10_overAll ∈ wsAll := memw 544 (by decide +kernel) rfl
theorem mf_X10_joinSpans : MFc yX10_joinSpans cX10_joinSpans 14 none 4 := ⟨memw 537 (by decide +kernel) rfl, memw 68 (by decide +kernel) rfl, ⟨by decide, by decide⟩, by decide +kernel⟩
theorem mi_X10_joinSpans : Cond.instanceMethod yX10_joinSpans ∈ wsAll := memw 536 (by decide +kernel) rfl
theorem mf_X10_sumAt : MFc yX10_sumAt cX10_sumAt 2 (some .long) 1 := ⟨memw 541 (by decide +kernel) rfl, memw 68 (by decide +kernel) rfl, ⟨by decide, by decide⟩, by decide +kernel⟩
theorem mi_X10_sumAt : Cond.instanceMethod yX10_sumAt ∈ wsAll := memw 540 (by decide +kernel) rfl
theorem se_X10_sumAt : Cond.selects RX10 yX10_sumAt yX10_sumAt ∈ wsAll := memw 7 (by decide +kernel) rfl
theorem mf_X11_init : MFc yX11_init cX11_init 2 none 0 := ⟨memw 85 (by decide +kernel) rfl, memw 63 (by decide +kernel) rfl, ⟨by decide, by decide⟩, by decide +kernel⟩
theorem mi_X11_init : Cond.instanceMethod yX11_init ∈ wsAll := memw 84 (by decide +kernel) rfl
theorem mf_X11_write : MFc yX11_write cX11_write 5 (some .int) 2 := ⟨memw 396 (by decide +kernel) rfl, memw 63 (by decide +kernel) rfl, ⟨by decide, by decide⟩, by decide +kernel⟩
theorem mi_X11_write : Cond.instanceMethod yX11_write ∈ wsAll := memw 394 (by decide +kernel) rfl
theorem se_X11_write : Cond.selects RX11 yX11_write yX11_write ∈ wsAll := memw 395 (by decide +kernel) rfl
theorem mf_X11_wipe : MFc yX11_wipe cX11_wipe 2 (some .int) 0 := ⟨memw 407 (by decide +kernel) rfl, memw 63 (by decide +kernel) rfl, ⟨by decide, by decide⟩, by decide +kernel⟩
theorem mi_X11_wipe : Cond.instanceMethod yX11_wipe ∈ wsAll := memw 405 (by decide +kernel) rfl
theorem se_X11_wipe : Cond.selects RX11 yX11_wipe yX11_wipe ∈ wsAll := memw 406 (by decide +kernel) rfl
theorem mf_X11_fault : MFc yX11_fault cX11_fault 1 (some .int) 0 := ⟨memw 411 (by decide +kernel) rfl, memw 63 (by decide +kernel) rfl, ⟨by decide, by decide⟩, by decide +kernel⟩
theorem mi_X11_fault : Cond.instanceMethod yX11_fault ∈ wsAll := memw 409 (by decide +kernel) rfl
theorem se_X11_fault : Cond.selects RX11 yX11_fault yX11_fault ∈ wsAll := memw 410 (by decide +kernel) rfl
theorem mf_X11_lay : MFc yX11_lay cX11_lay 3 (some .int) 0 := ⟨memw 460 (by decide +kernel) rfl, memw 63 (by decide +kernel) rfl, ⟨by decide, by decide⟩, by decide +kernel⟩
theorem mi_X11_lay : Cond.instanceMethod yX11_lay ∈ wsAll := memw 458 (by decide +kernel) rfl
theorem se_X11_lay : Cond.selects RX11 yX11_lay yX11_lay ∈ wsAll := memw 459 (by decide +kernel) rfl
theorem mf_X11_price : MFc yX11_price cX11_price 3 (some .int) 2 := ⟨memw 468 (by decide +kernel) rfl, memw 63 (by decide +kernel) rfl, ⟨by decide, by decide⟩, by decide +kernel⟩
theorem mi_X11_price : Cond.instanceMethod yX11_price ∈ wsAll := memw 466 (by decide +kernel) rfl
theorem se_X11_price : Cond.selects RX11 yX11_price yX11_price ∈ wsAll := memw 467 (by decide +kernel) rfl
theorem mf_X11_word : MFc yX11_word cX11_word 4 (some .int) 2 := ⟨memw 480 (by decide +kernel) rfl, memw 63 (by decide +kernel) rfl, ⟨by decide, by decide⟩, by decide +kernel⟩
theorem mi_X11_word : Cond.instanceMethod yX11_word ∈ wsAll := memw 478 (by decide +kernel) rfl
theorem se_X11_word : Cond.selects RX11 yX11_word yX11_word ∈ wsAll := memw 479 (by decide +kernel) rfl
theorem mf_X11_clear : MFc yX11_clear cX11_clear 3 (some .int) 1 := ⟨memw 491 (by decide +kernel) rfl, memw 63 (by decide +kernel) rfl, ⟨by decide, by decide⟩, by decide +kernel⟩
theorem mi_X11_clear : Cond.instanceMethod yX11_clear ∈ wsAll := memw 489 (by decide +kernel) rfl
theorem se_X11_clear : Cond.selects RX11 yX11_clear yX11_clear ∈ wsAll := memw 490 (by decide +kernel) rfl
theorem mf_X11_quote : MFc yX11_quote cX11_quote 4 (some .int) 2 := ⟨memw 495 (by decide +kernel) rfl, memw 63 (by decide +kernel) rfl, ⟨by decide, by decide⟩, by decide +kernel⟩
theorem mi_X11_quote : Cond.instanceMethod yX11_quote ∈ wsAll := memw 493 (by decide +kernel) rfl
theorem se_X11_quote : Cond.selects RX11 yX11_quote yX11_quote ∈ wsAll := memw 494 (by decide +kernel) rfl
theorem mf_X11_trees : MFc yX11_trees cX11_trees 4 (some .long) 2 := ⟨memw 499 (by decide +kernel) rfl, memw 63 (by decide +kernel) rfl, ⟨by decide, by decide⟩, by decide +kernel⟩
theorem mi_X11_trees : Cond.instanceMethod yX11_trees ∈ wsAll := memw 497 (by decide +kernel) rfl
theorem se_X11_trees : Cond.selects RX11 yX11_trees yX11_trees ∈ wsAll := memw 498 (by decide +kernel) rfl
theorem mf_X11_part : MFc yX11_part cX11_part 7 (some .int) 5 := ⟨memw 553 (by decide +kernel) rfl, memw 63 (by decide +kernel) rfl, ⟨by decide, by decide⟩, by decide +kernel⟩
theorem mi_X11_part : Cond.instanceMethod yX11_part ∈ wsAll := memw 551 (by decide +kernel) rfl
theorem se_X11_part : Cond.selects RX11 yX11_part yX11_part ∈ wsAll := memw 552 (by decide +kernel) rfl
theorem mf_X11_least : MFc yX11_least cX11_least 4 (some .int) 2 := ⟨memw 557 (by decide +kernel) rfl, memw 63 (by decide +kernel) rfl, ⟨by decide, by decide⟩, by decide +kernel⟩
theorem mi_X11_least : Cond.instanceMethod yX11_least ∈ wsAll := memw 555 (by decide +kernel) rfl
theorem se_X11_least : Cond.selects RX11 yX11_least yX11_least ∈ wsAll := memw 556 (by decide +kernel) rfl
theorem mf_X11_mend : MFc yX11_mend cX11_mend 5 (some .int) 3 := ⟨memw 625 (by decide +kernel) rfl, memw 63 (by decide +kernel) rfl, ⟨by decide, by decide⟩, by decide +kernel⟩
theorem mi_X11_mend : Cond.instanceMethod yX11_mend ∈ wsAll := memw 623 (by decide +kernel) rfl
theorem se_X11_mend : Cond.selects RX11 yX11_mend yX11_mend ∈ wsAll := memw 624 (by decide +kernel) rfl
theorem mf_X11_heaps : MFc yX11_heaps cX11_heaps 4 (some .int) 3 := ⟨memw 710 (by decide +kernel) rfl, memw 63 (by decide +kernel) rfl, ⟨by decide, by decide⟩, by decide +kernel⟩
theorem mi_X11_heaps : Cond.instanceMethod yX11_heaps ∈ wsAll := memw 708 (by decide +kernel) rfl
theorem se_X11_heaps : Cond.selects RX11 yX11_heaps yX11_heaps ∈ wsAll := memw 709 (by decide +kernel) rfl
theorem mf_X11_bars : MFc yX11_bars cX11_bars 3 (some .int) 1 := ⟨memw 749 (by decide +kernel) rfl, memw 63 (by decide +kernel) rfl, ⟨by decide, by decide⟩, by decide +kernel⟩
theorem mi_X11_bars : Cond.instanceMethod yX11_bars ∈ wsAll := memw 747 (by decide +kernel) rfl
theorem se_X11_bars : Cond.selects RX11 yX11_bars yX11_bars ∈ wsAll := memw 748 (by decide +kernel) rfl
theorem mf_X11_keep : MFc yX11_keep cX11_keep 6 (some .int) 2 := ⟨memw 796 (by decide +kernel) rfl, memw 63 (by decide +kernel) rfl, ⟨by decide, by decide⟩, by decide +kernel⟩
theorem mi_X11_keep : Cond.instanceMethod yX11_keep ∈ wsAll := memw 794 (by decide +kernel) rfl
theorem se_X11_keep : Cond.selects RX11 yX11_keep yX11_keep ∈ wsAll := memw 795 (by decide +kernel) rfl
theorem mf_X11_kept : MFc yX11_kept cX11_kept 6 (some .int) 1 := ⟨memw 809 (by decide +kernel) rfl, memw 63 (by decide +kernel) rfl, ⟨by decide, by decide⟩, by decide +kernel⟩
theorem mi_X11_kept : Cond.instanceMethod yX11_kept ∈ wsAll := memw 807 (by decide +kernel) rfl
theorem se_X11_kept : Cond.selects RX11 yX11_kept yX11_kept ∈ wsAll := memw 808 (by decide +kernel) rfl
theorem mf_X11_byRule : MFc yX11_byRule cX11_byRule 4 (some .int) 1 := ⟨memw 821 (by decide +kernel) rfl, memw 63 (by decide +kernel) rfl, ⟨by decide, by decide⟩, by decide +kernel⟩
theorem mi_X11_byRule : Cond.instanceMethod yX11_byRule ∈ wsAll := memw 819 (by decide +kernel) rfl
theorem se_X11_byRule : Cond.selects RX11 yX11_byRule yX11_byRule ∈ wsAll := memw 820 (by decide +kernel) rfl
theorem mf_X11_theirs : MFc yX11_theirs cX11_theirs 2 (some .int) 1 := ⟨memw 826 (by decide +kernel) rfl, memw 63 (by decide +kernel) rfl, ⟨by decide, by decide⟩, by decide +kernel⟩
theorem mi_X11_theirs : Cond.instanceMethod yX11_theirs ∈ wsAll := memw 824 (by decide +kernel) rfl
theorem se_X11_theirs : Cond.selects RX11 yX11_theirs yX11_theirs ∈ wsAll := memw 825 (by decide +kernel) rfl
theorem mf_X11_err : MFc yX11_err cX11_err 2 (some .int) 1 := ⟨memw 830 (by decide +kernel) rfl, memw 63 (by decide +kernel) rfl, ⟨by decide, by decide⟩, by decide +kernel⟩
theorem mi_X11_err : Cond.instanceMethod yX11_err ∈ wsAll := memw 828 (by decide +kernel) rfl
theorem se_X11_err : Cond.selects RX11 yX11_err yX11_err ∈ wsAll := memw 829 (by decide +kernel) rfl
theorem mf_X11_gone : MFc yX11_gone cX11_gone 3 (some .int) 2 := ⟨memw 838 (by decide +kernel) rfl, memw 63 (by decide +kernel) rfl, ⟨by decide, by decide⟩, by decide +kernel⟩
theorem mi_X11_gone : Cond.instanceMethod yX11_gone ∈ wsAll := memw 836 (by decide +kernel) rfl
theorem se_X11_gone : Cond.selects RX11 yX11_gone yX11_gone ∈ wsAll := memw 837 (by decide +kernel) rfl
theorem mf_X11_count : MFc yX11_count cX11_count 2 (some .int) 1 := ⟨memw 847 (by decide +kernel) rfl, memw 63 (by decide +kernel) rfl, ⟨by decide, by decide⟩, by decide +kernel⟩
theorem mi_X11_count : Cond.instanceMethod yX11_count ∈ wsAll := memw 845 (by decide +kernel) rfl
theorem se_X11_count : Cond.selects RX11 yX11_count yX11_count ∈ wsAll := memw 846 (by decide +kernel) rfl
theorem mf_X11_isWithin : MFc yX11_isWithin cX11_isWithin 3 (some .boolean) 3 := ⟨memw 399 (by decide +kernel) rfl, memw 63 (by decide +kernel) rfl, ⟨by decide, by decide⟩, by decide +kernel⟩
theorem ms_X11_isWithin : Cond.static yX11_isWithin ∈ wsAll := memw 398 (by decide +kernel) rfl
theorem mf_X11_isSentence : MFc yX11_isSentence cX11_isSentence 1 (some .boolean) 1 := ⟨memw 483 (by decide +kernel) rfl, memw 63 (by decide +kernel) rfl, ⟨by decide, by decide⟩, by decide +kernel⟩
theorem ms_X11_isSentence : Cond.static yX11_isSentence ∈ wsAll := memw 482 (by decide +kernel) rfl
theorem mf_X11_hasBit : MFc yX11_hasBit cX11_hasBit 2 (some .boolean) 2 := ⟨memw 604 (by decide +kernel) rfl, memw 63 (by decide +kernel) rfl, ⟨by decide, by decide⟩, by decide +kernel⟩
theorem ms_X11_hasBit : Cond.static yX11_hasBit ∈ wsAll := memw 603 (by decide +kernel) rfl
theorem mf_X11_priceOf : MFc yX11_priceOf cX11_priceOf 3 (some .int) 2 := ⟨memw 472 (by decide +kernel) rfl, memw 63 (by decide +kernel) rfl, ⟨by decide, by decide⟩, by decide +kernel⟩
theorem mi_X11_priceOf : Cond.instanceMethod yX11_priceOf ∈ wsAll := memw 471 (by decide +kernel) rfl
theorem se_X11_priceOf : Cond.selects RX11 yX11_priceOf yX11_priceOf ∈ wsAll := memw 5 (by decide +kernel) rfl
theorem mf_X11_isRead : MFc yX11_isRead cX11_isRead 2 (some .boolean) 1 := ⟨memw 633 (by decide +kernel) rfl, memw 63 (by decide +kernel) rfl, ⟨by decide, by decide⟩, by decide +kernel⟩
theorem mi_X11_isRead : Cond.instanceMethod yX11_isRead ∈ wsAll := memw 632 (by decide +kernel) rfl
theorem se_X11_isRead : Cond.selects RX11 yX11_isRead yX11_isRead ∈ wsAll := memw 20 (by decide +kernel) rfl
theorem mf_X11_canBeMended : MFc yX11_canBeMended cX11_canBeMended 2 (some .boolean) 1 := ⟨memw 629 (by decide +kernel) rfl, memw 63 (by decide +kernel) rfl, ⟨by decide, by decide⟩, by decide +kernel⟩
theorem mi_X11_canBeMended : Cond.instanceMethod yX11_canBeMended ∈ wsAll := memw 628 (by decide +kernel) rfl
theorem se_X11_canBeMended : Cond.selects RX11 yX11_canBeMended yX11_canBeMended ∈ wsAll := memw 19 (by decide +kernel) rfl
theorem mf_X11_findMends : MFc yX11_findMends cX11_findMends 2 none 1 := ⟨memw 637 (by decide +kernel) rfl, memw 63 (by decide +kernel) rfl, ⟨by decide, by decide⟩, by decide +kernel⟩
theorem mi_X11_findMends : Cond.instanceMethod yX11_findMends ∈ wsAll := memw 636 (by decide +kernel) rfl
theorem se_X11_findMends : Cond.selects RX11 yX11_findMends yX11_findMends ∈ wsAll := memw 21 (by decide +kernel) rfl
theorem mf_X11_wordsOfSentences : MFc yX11_wordsOfSentences cX11_wordsOfSentences 3 (some .int) 0 := ⟨memw 851 (by decide +kernel) rfl, memw 63 (by decide +kernel) rfl, ⟨by decide, by decide⟩, by decide +kernel⟩
theorem mi_X11_wordsOfSentences : Cond.instanceMethod yX11_wordsOfSentences ∈ wsAll := memw 850 (by decide +kernel) rfl
theorem se_X11_wordsOfSentences : Cond.selects RX11 yX11_wordsOfSentences yX11_wordsOfSentences ∈ wsAll := memw 32 (by decide +kernel) rfl
theorem mf_X12_init : MFc yX12_init cX12_init 1 none 0 := ⟨memw 856 (by decide +kernel) rfl, memw 75 (by decide +kernel) rfl, ⟨by decide, by decide⟩, by decide +kernel⟩
theorem mi_X12_init : Cond.instanceMethod yX12_init ∈ wsAll := memw 855 (by decide +kernel) rfl
theorem mf_X12_in : MFc yX12_in cX12_in 6 (some .boolean) 3 := ⟨memw 951 (by decide +kernel) rfl, memw 75 (by decide +kernel) rfl, ⟨by decide, by decide⟩, by decide +kernel⟩
theorem ms_X12_in : Cond.static yX12_in ∈ wsAll := memw 950 (by decide +kernel) rfl
theorem mf_X12_has : MFc yX12_has cX12_has 2 (some .boolean) 2 := ⟨memw 1047 (by decide +kernel) rfl, memw 75 (by decide +kernel) rfl, ⟨by decide, by decide⟩, by decide +kernel⟩
theorem ms_X12_has : Cond.static yX12_has ∈ wsAll := memw 1046 (by decide +kernel) rfl
theorem mf_X12_noPrices : MFc yX12_noPrices cX12_noPrices 2 none 1 := ⟨memw 861 (by decide +kernel) rfl, memw 75 (by decide +kernel) rfl, ⟨by decide, by decide⟩, by decide +kernel⟩
theorem mi_X12_noPrices : Cond.instanceMethod yX12_noPrices ∈ wsAll := memw 860 (by decide +kernel) rfl
theorem se_X12_noPrices : Cond.selects RX12 yX12_noPrices yX12_noPrices ∈ wsAll := memw 33 (by decide +kernel) rfl
theorem mf_X12_write : MFc yX12_write cX12_write 5 (some .int) 2 := ⟨memw 947 (by decide +kernel) rfl, memw 75 (by decide +kernel) rfl, ⟨by decide, by decide⟩, by decide +kernel⟩
theorem mi_X12_write : Cond.instanceMethod yX12_write ∈ wsAll := memw 945 (by decide +kernel) rfl
theorem se_X12_write : Cond.selects RX12 yX12_write yX12_write ∈ wsAll := memw 946 (by decide +kernel) rfl
theorem mf_X12_wipe : MFc yX12_wipe cX12_wipe 2 (some .int) 0 := ⟨memw 956 (by decide +kernel) rfl, memw 75 (by decide +kernel) rfl, ⟨by decide, by decide⟩, by decide +kernel⟩
theorem mi_X12_wipe : Cond.instanceMethod yX12_wipe ∈ wsAll := memw 954 (by decide +kernel) rfl
theorem se_X12_wipe : Cond.selects RX12 yX12_wipe yX12_wipe ∈ wsAll := memw 955 (by decide +kernel) rfl
theorem mf_X12_figures : MFc yX12_figures cX12_figures 5 (some .boolean) 1 := ⟨memw 972 (by decide +kernel) rfl, memw 75 (by decide +kernel) rfl, ⟨by decide, by decide⟩, by decide +kernel⟩
theorem mi_X12_figures : Cond.instanceMethod yX12_figures ∈ wsAll := memw 971 (by decide +kernel) rfl
theorem se_X12_figures : Cond.selects RX12 yX12_figures yX12_figures ∈ wsAll := memw 36 (by decide +kernel) rfl
theorem mf_X12_wordItem : MFc yX12_wordItem cX12_wordItem 2 (some .boolean) 0 := ⟨memw 968 (by decide +kernel) rfl, memw 75 (by decide +kernel) rfl, ⟨by decide, by decide⟩, by decide +kernel⟩
theorem mi_X12_wordItem : Cond.instanceMethod yX12_wordItem ∈ wsAll := memw 967 (by decide +kernel) rfl
theorem se_X12_wordItem : Cond.selects RX12 yX12_wordItem yX12_wordItem ∈ wsAll := memw 35 (by decide +kernel) rfl
theorem mf_X12_ruleItem : MFc yX12_ruleItem cX12_ruleItem 2 (some .boolean) 0 := ⟨memw 979 (by decide +kernel) rfl, memw 75 (by decide +kernel) rfl, ⟨by decide, by decide⟩, by decide +kernel⟩
theorem mi_X12_ruleItem : Cond.instanceMethod yX12_ruleItem ∈ wsAll := memw 978 (by decide +kernel) rfl
theorem se_X12_ruleItem : Cond.selects RX12 yX12_ruleItem yX12_ruleItem ∈ wsAll := memw 37 (by decide +kernel) rfl
theorem mf_X12_priceItem : MFc yX12_priceItem cX12_priceItem 1 (some .boolean) 0 := ⟨memw 983 (by decide +kernel) rfl, memw 75 (by decide +kernel) rfl, ⟨by decide, by decide⟩, by decide +kernel⟩
theorem mi_X12_priceItem : Cond.instanceMethod yX12_priceItem ∈ wsAll := memw 982 (by decide +kernel) rfl
theorem se_X12_priceItem : Cond.selects RX12 yX12_priceItem yX12_priceItem ∈ wsAll := memw 38 (by decide +kernel) rfl
theorem mf_X12_readAll : MFc yX12_readAll cX12_readAll 4 (some .int) 0 := ⟨memw 964 (by decide +kernel) rfl, memw 75 (by decide +kernel) rfl, ⟨by decide, by decide⟩, by decide +kernel⟩
theorem mi_X12_readAll : Cond.instanceMethod yX12_readAll ∈ wsAll := memw 963 (by decide +kernel) rfl
theorem se_X12_readAll : Cond.selects RX12 yX12_readAll yX12_readAll ∈ wsAll := memw 34 (by decide +kernel) rfl
theorem mf_X12_fault : MFc yX12_fault cX12_fault 1 (some .int) 0 := ⟨memw 960 (by decide +kernel) rfl, memw 75 (by decide +kernel) rfl, ⟨by decide, by decide⟩, by decide +kernel⟩
theorem mi_X12_fault : Cond.instanceMethod yX12_fault ∈ wsAll := memw 958 (by decide +kernel) rfl
theorem se_X12_fault : Cond.selects RX12 yX12_fault yX12_fault ∈ wsAll := memw 959 (by decide +kernel) rfl
theorem mf_X12_lay : MFc yX12_lay cX12_lay 2 (some .int) 0 := ⟨memw 987 (by decide +kernel) rfl, memw 75 (by decide +kernel) rfl, ⟨by decide, by decide⟩, by decide +kernel⟩
theorem mi_X12_lay : Cond.instanceMethod yX12_lay ∈ wsAll := memw 985 (by decide +kernel) rfl
theorem se_X12_lay : Cond.selects RX12 yX12_lay yX12_lay ∈ wsAll := memw 986 (by decide +kernel) rfl
theorem mf_X12_fitted : MFc yX12_fitted cX12_fitted 4 (some .int) 1 := ⟨memw 999 (by decide +kernel) rfl, memw 75 (by decide +kernel) rfl, ⟨by decide, by decide⟩, by decide +kernel⟩
theorem mi_X12_fitted : Cond.instanceMethod yX12_fitted ∈ wsAll := memw 998 (by decide +kernel) rfl
theorem se_X12_fitted : Cond.selects RX12 yX12_fitted yX12_fitted ∈ wsAll := memw 39 (by decide +kernel) rfl
theorem mf_X12_isChange : MFc yX12_isChange cX12_isChange 1 (some .boolean) 1 := ⟨memw 994 (by decide +kernel) rfl, memw 75 (by decide +kernel) rfl, ⟨by decide, by decide⟩, by decide +kernel⟩
theorem ms_X12_isChange : Cond.static yX12_isChange ∈ wsAll := memw 993 (by decide +kernel) rfl
theorem mf_X12_price : MFc yX12_price cX12_price 3 (some .int) 2 := ⟨memw 991 (by decide +kernel) rfl, memw 75 (by decide +kernel) rfl, ⟨by decide, by decide⟩, by decide +kernel⟩
theorem mi_X12_price : Cond.instanceMethod yX12_price ∈ wsAll := memw 989 (by decide +kernel) rfl
theorem se_X12_price : Cond.selects RX12 yX12_price yX12_price ∈ wsAll := memw 990 (by decide +kernel) rfl
theorem mf_X12_isSentence : MFc yX12_isSentence cX12_isSentence 1 (some .boolean) 1 := ⟨memw 1006 (by decide +kernel) rfl, memw 75 (by decide +kernel) rfl, ⟨by decide, by decide⟩, by decide +kernel⟩
theorem ms_X12_isSentence : Cond.static yX12_isSentence ∈ wsAll := memw 1005 (by decide +kernel) rfl
theorem mf_X12_word : MFc yX12_word cX12_word 3 (some .int) 2 := ⟨memw 1003 (by decide +kernel) rfl, memw 75 (by decide +kernel) rfl, ⟨by decide, by decide⟩, by decide +kernel⟩
theorem mi_X12_word : Cond.instanceMethod yX12_word ∈ wsAll := memw 1001 (by decide +kernel) rfl
theorem se_X12_word : Cond.selects RX12 yX12_word yX12_word ∈ wsAll := memw 1002 (by decide +kernel) rfl
theorem mf_X12_clear : MFc yX12_clear cX12_clear 3 (some .int) 1 := ⟨memw 1011 (by decide +kernel) rfl, memw 75 (by decide +kernel) rfl, ⟨by decide, by decide⟩, by decide +kernel⟩
theorem mi_X12_clear : Cond.instanceMethod yX12_clear ∈ wsAll := memw 1009 (by decide +kernel) rfl
theorem se_X12_clear : Cond.selects RX12 yX12_clear yX12_clear ∈ wsAll := memw 1010 (by decide +kernel) rfl
theorem mf_X12_quote : MFc yX12_quote cX12_quote 4 (some .int) 2 := ⟨memw 1015 (by decide +kernel) rfl, memw 75 (by decide +kernel) rfl, ⟨by decide, by decide⟩, by decide +kernel⟩
theorem mi_X12_quote : Cond.instanceMethod yX12_quote ∈ wsAll := memw 1013 (by decide +kernel) rfl
theorem se_X12_quote : Cond.selects RX12 yX12_quote yX12_quote ∈ wsAll := memw 1014 (by decide +kernel) rfl
theorem mf_X12_marksOf : MFc yX12_marksOf cX12_marksOf 4 (some .int) 3 := ⟨memw 1043 (by decide +kernel) rfl, memw 75 (by decide +kernel) rfl, ⟨by decide, by decide⟩, by decide +kernel⟩
theorem mi_X12_marksOf : Cond.instanceMethod yX12_marksOf ∈ wsAll := memw 1042 (by decide +kernel) rfl
theorem se_X12_marksOf : Cond.selects RX12 yX12_marksOf yX12_marksOf ∈ wsAll := memw 43 (by decide +kernel) rfl
theorem mf_X12_laySpans : MFc yX12_laySpans cX12_laySpans 12 none 2 := ⟨memw 1039 (by decide +kernel) rfl, memw 75 (by decide +kernel) rfl, ⟨by decide, by decide⟩, by decide +kernel⟩
theorem mi_X12_laySpans : Cond.instanceMethod yX12_laySpans ∈ wsAll := memw 1038 (by decide +kernel) rfl
theorem se_X12_laySpans : Cond.selects RX12 yX12_laySpans yX12_laySpans ∈ wsAll := memw 42 (by decide +kernel) rfl
theorem mf_X12_isRead : MFc yX12_isRead cX12_isRead 3 (some .boolean) 2 := ⟨memw 1080 (by decide +kernel) rfl, memw 75 (by decide +kernel) rfl, ⟨by decide, by decide⟩, by decide +kernel⟩
theorem mi_X12_isRead : Cond.instanceMethod yX12_isRead ∈ wsAll := memw 1079 (by decide +kernel) rfl
theorem se_X12_isRead : Cond.selects RX12 yX12_isRead yX12_isRead ∈ wsAll := memw 49 (by decide +kernel) rfl
theorem mf_X12_layCounts : MFc yX12_layCounts cX12_layCounts 8 none 1 := ⟨memw 1026 (by decide +kernel) rfl, memw 75 (by decide +kernel) rfl, ⟨by decide, by decide⟩, by decide +kernel⟩
theorem mi_X12_layCounts : Cond.instanceMethod yX12_layCounts ∈ wsAll := memw 1025 (by decide +kernel) rfl
theorem se_X12_layCounts : Cond.selects RX12 yX12_layCounts yX12_layCounts ∈ wsAll := memw 40 (by decide +kernel) rfl
theorem mf_X12_addTrees : MFc yX12_addTrees cX12_addTrees 7 none 4 := ⟨memw 1030 (by decide +kernel) rfl, memw 75 (by decide +kernel) rfl, ⟨by decide, by decide⟩, by decide +kernel⟩
theorem mi_X12_addTrees : Cond.instanceMethod yX12_addTrees ∈ wsAll := memw 1029 (by decide +kernel) rfl
theorem se_X12_addTrees : Cond.selects RX12 yX12_addTrees yX12_addTrees ∈ wsAll := memw 41 (by decide +kernel) rfl
theorem mf_X12_trees : MFc yX12_trees cX12_trees 4 (some .long) 2 := ⟨memw 1019 (by decide +kernel) rfl, memw 75 (by decide +kernel) rfl, ⟨by decide, by decide⟩, by decide +kernel⟩
theorem mi_X12_trees : Cond.instanceMethod yX12_trees ∈ wsAll := memw 1017 (by decide +kernel) rfl
theorem se_X12_trees : Cond.selects RX12 yX12_trees yX12_trees ∈ wsAll := memw 1018 (by decide +kernel) rfl
theorem mf_X12_part : MFc yX12_part cX12_part 6 (some .int) 5 := ⟨memw 1034 (by decide +kernel) rfl, memw 75 (by decide +kernel) rfl, ⟨by decide, by decide⟩, by decide +kernel⟩
theorem mi_X12_part : Cond.instanceMethod yX12_part ∈ wsAll := memw 1032 (by decide +kernel) rfl
theorem se_X12_part : Cond.selects RX12 yX12_part yX12_part ∈ wsAll := memw 1033 (by decide +kernel) rfl
theorem mf_X12_changes : MFc yX12_changes cX12_changes 8 (some .int) 2 := ⟨memw 1064 (by decide +kernel) rfl, memw 75 (by decide +kernel) rfl, ⟨by decide, by decide⟩, by decide +kernel⟩
theorem mi_X12_changes : Cond.instanceMethod yX12_changes ∈ wsAll := memw 1063 (by decide +kernel) rfl
theorem se_X12_changes : Cond.selects RX12 yX12_changes yX12_changes ∈ wsAll := memw 46 (by decide +kernel) rfl
theorem mf_X12_costAt : MFc yX12_costAt cX12_costAt 3 (some .int) 2 := ⟨memw 1059 (by decide +kernel) rfl, memw 75 (by decide +kernel) rfl, ⟨by decide, by decide⟩, by decide +kernel⟩
theorem mi_X12_costAt : Cond.instanceMethod yX12_costAt ∈ wsAll := memw 1058 (by decide +kernel) rfl
theorem se_X12_costAt : Cond.selects RX12 yX12_costAt yX12_costAt ∈ wsAll := memw 45 (by decide +kernel) rfl
theorem mf_X12_layLeaves : MFc yX12_layLeaves cX12_layLeaves 9 none 3 := ⟨memw 1055 (by decide +kernel) rfl, memw 75 (by decide +kernel) rfl, ⟨by decide, by decide⟩, by decide +kernel⟩
theorem mi_X12_layLeaves : Cond.instanceMethod yX12_layLeaves ∈ wsAll := memw 1054 (by decide +kernel) rfl
theorem se_X12_layLeaves : Cond.selects RX12 yX12_layLeaves yX12_layLeaves ∈ wsAll := memw 44 (by decide +kernel) rfl
theorem mf_X12_cheaper : MFc yX12_cheaper cX12_cheaper 3 (some .boolean) 2 := ⟨memw 1072 (by decide +kernel) rfl, memw 75 (by decide +kernel) rfl, ⟨by decide, by decide⟩, by decide +kernel⟩
theorem mi_X12_cheaper : Cond.instanceMethod yX12_cheaper ∈ wsAll := memw 1071 (by decide +kernel) rfl
theorem se_X12_cheaper : Cond.selects RX12 yX12_cheaper yX12_cheaper ∈ wsAll := memw 48 (by decide +kernel) rfl
theorem mf_X12_goOver : MFc yX12_goOver cX12_goOver 12 (some .boolean) 3 := ⟨memw 1068 (by decide +kernel) rfl, memw 75 (by decide +kernel) rfl, ⟨by decide, by decide⟩, by decide +kernel⟩
theorem mi_X12_goOver : Cond.instanceMethod yX12_goOver ∈ wsAll := memw 1067 (by decide +kernel) rfl
theorem se_X12_goOver : Cond.selects RX12 yX12_goOver yX12_goOver ∈ wsAll := memw 47 (by decide +kernel) rfl
theorem mf_X12_least : MFc yX12_least cX12_least 6 (some .int) 2 := ⟨memw 1051 (by decide +kernel) rfl, memw 75 (by decide +kernel) rfl, ⟨by decide, by decide⟩, by decide +kernel⟩
theorem mi_X12_least : Cond.instanceMethod yX12_least ∈ wsAll := memw 1049 (by decide +kernel) rfl
theorem se_X12_least : Cond.selects RX12 yX12_least yX12_least ∈ wsAll := memw 1050 (by decide +kernel) rfl
theorem mf_X12_order : MFc yX12_order cX12_order 4 (some .int) 2 := ⟨memw 1096 (by decide +kernel) rfl, memw 75 (by decide +kernel) rfl, ⟨by decide, by decide⟩, by decide +kernel⟩
theorem mi_X12_order : Cond.instanceMethod yX12_order ∈ wsAll := memw 1095 (by decide +kernel) rfl
theorem se_X12_order : Cond.selects RX12 yX12_order yX12_order ∈ wsAll := memw 53 (by decide +kernel) rfl
theorem mf_X12_tryRow : MFc yX12_tryRow cX12_tryRow 6 none 1 := ⟨memw 1092 (by decide +kernel) rfl, memw 75 (by decide +kernel) rfl, ⟨by decide, by decide⟩, by decide +kernel⟩
theorem mi_X12_tryRow : Cond.instanceMethod yX12_tryRow ∈ wsAll := memw 1091 (by decide +kernel) rfl
theorem se_X12_tryRow : Cond.selects RX12 yX12_tryRow yX12_tryRow ∈ wsAll := memw 52 (by decide +kernel) rfl
theorem mf_X12_layTried : MFc yX12_layTried cX12_layTried 6 none 4 := ⟨memw 1088 (by decide +kernel) rfl, memw 75 (by decide +kernel) rfl, ⟨by decide, by decide⟩, by decide +kernel⟩
theorem mi_X12_layTried : Cond.instanceMethod yX12_layTried ∈ wsAll := memw 1087 (by decide +kernel) rfl
theorem se_X12_layTried : Cond.selects RX12 yX12_layTried yX12_layTried ∈ wsAll := memw 51 (by decide +kernel) rfl
theorem mf_X12_layMends : MFc yX12_layMends cX12_layMends 6 none 1 := ⟨memw 1084 (by decide +kernel) rfl, memw 75 (by decide +kernel) rfl, ⟨by decide, by decide⟩, by decide +kernel⟩
theorem mi_X12_layMends : Cond.instanceMethod yX12_layMends ∈ wsAll := memw 1083 (by decide +kernel) rfl
theorem se_X12_layMends : Cond.selects RX12 yX12_layMends yX12_layMends ∈ wsAll := memw 50 (by decide +kernel) rfl
theorem mf_X12_mend : MFc yX12_mend cX12_mend 4 (some .int) 3 := ⟨memw 1076 (by decide +kernel) rfl, memw 75 (by decide +kernel) rfl, ⟨by decide, by decide⟩, by decide +kernel⟩
theorem mi_X12_mend : Cond.instanceMethod yX12_mend ∈ wsAll := memw 1074 (by decide +kernel) rfl
theorem se_X12_mend : Cond.selects RX12 yX12_mend yX12_mend ∈ wsAll := memw 1075 (by decide +kernel) rfl
theorem mf_X12_familyAt : MFc yX12_familyAt cX12_familyAt 4 (some .int) 2 := ⟨memw 1109 (by decide +kernel) rfl, memw 75 (by decide +kernel) rfl, ⟨by decide, by decide⟩, by decide +kernel⟩
theorem mi_X12_familyAt : Cond.instanceMethod yX12_familyAt ∈ wsAll := memw 1108 (by decide +kernel) rfl
theorem se_X12_familyAt : Cond.selects RX12 yX12_familyAt yX12_familyAt ∈ wsAll := memw 55 (by decide +kernel) rfl
theorem mf_X12_layHeaps : MFc yX12_layHeaps cX12_layHeaps 5 none 0 := ⟨memw 1105 (by decide +kernel) rfl, memw 75 (by decide +kernel) rfl, ⟨by decide, by decide⟩, by decide +kernel⟩
theorem mi_X12_layHeaps : Cond.instanceMethod yX12_layHeaps ∈ wsAll := memw 1104 (by decide +kernel) rfl
theorem se_X12_layHeaps : Cond.selects RX12 yX12_layHeaps yX12_layHeaps ∈ wsAll := memw 54 (by decide +kernel) rfl
theorem mf_X12_asked : MFc yX12_asked cX12_asked 8 (some .int) 0 := ⟨memw 1113 (by decide +kernel) rfl, memw 75 (by decide +kernel) rfl, ⟨by decide, by decide⟩, by decide +kernel⟩
theorem mi_X12_asked : Cond.instanceMethod yX12_asked ∈ wsAll := memw 1112 (by decide +kernel) rfl
theorem se_X12_asked : Cond.selects RX12 yX12_asked yX12_asked ∈ wsAll := memw 56 (by decide +kernel) rfl
theorem mf_X12_heaps : MFc yX12_heaps cX12_heaps 4 (some .int) 3 := ⟨memw 1100 (by decide +kernel) rfl, memw 75 (by decide +kernel) rfl, ⟨by decide, by decide⟩, by decide +kernel⟩
theorem mi_X12_heaps : Cond.instanceMethod yX12_heaps ∈ wsAll := memw 1098 (by decide +kernel) rfl
theorem se_X12_heaps : Cond.selects RX12 yX12_heaps yX12_heaps ∈ wsAll := memw 1099 (by decide +kernel) rfl
theorem mf_X12_isAgreeing : MFc yX12_isAgreeing cX12_isAgreeing 2 (some .boolean) 1 := ⟨memw 1121 (by decide +kernel) rfl, memw 75 (by decide +kernel) rfl, ⟨by decide, by decide⟩, by decide +kernel⟩
theorem mi_X12_isAgreeing : Cond.instanceMethod yX12_isAgreeing ∈ wsAll := memw 1120 (by decide +kernel) rfl
theorem se_X12_isAgreeing : Cond.selects RX12 yX12_isAgreeing yX12_isAgreeing ∈ wsAll := memw 57 (by decide +kernel) rfl
theorem mf_X12_lesser : MFc yX12_lesser cX12_lesser 5 (some .int) 3 := ⟨memw 1125 (by decide +kernel) rfl, memw 75 (by decide +kernel) rfl, ⟨by decide, by decide⟩, by decide +kernel⟩
theorem mi_X12_lesser : Cond.instanceMethod yX12_lesser ∈ wsAll := memw 1124 (by decide +kernel) rfl
theorem se_X12_lesser : Cond.selects RX12 yX12_lesser yX12_lesser ∈ wsAll := memw 58 (by decide +kernel) rfl
theorem mf_X12_bars : MFc yX12_bars cX12_bars 9 (some .int) 1 := ⟨memw 1117 (by decide +kernel) rfl, memw 75 (by decide +kernel) rfl, ⟨by decide, by decide⟩, by decide +kernel⟩
theorem mi_X12_bars : Cond.instanceMethod yX12_bars ∈ wsAll := memw 1115 (by decide +kernel) rfl
theorem se_X12_bars : Cond.selects RX12 yX12_bars yX12_bars ∈ wsAll := memw 1116 (by decide +kernel) rfl
theorem mf_X12_keep : MFc yX12_keep cX12_keep 4 (some .int) 2 := ⟨memw 1129 (by decide +kernel) rfl, memw 75 (by decide +kernel) rfl, ⟨by decide, by decide⟩, by decide +kernel⟩
theorem mi_X12_keep : Cond.instanceMethod yX12_keep ∈ wsAll := memw 1127 (by decide +kernel) rfl
theorem se_X12_keep : Cond.selects RX12 yX12_keep yX12_keep ∈ wsAll := memw 1128 (by decide +kernel) rfl
theorem mf_X12_look : MFc yX12_look cX12_look 3 none 1 := ⟨memw 1137 (by decide +kernel) rfl, memw 75 (by decide +kernel) rfl, ⟨by decide, by decide⟩, by decide +kernel⟩
theorem mi_X12_look : Cond.instanceMethod yX12_look ∈ wsAll := memw 1136 (by decide +kernel) rfl
theorem se_X12_look : Cond.selects RX12 yX12_look yX12_look ∈ wsAll := memw 59 (by decide +kernel) rfl
theorem mf_X12_isRight : MFc yX12_isRight cX12_isRight 4 (some .boolean) 1 := ⟨memw 1141 (by decide +kernel) rfl, memw 75 (by decide +kernel) rfl, ⟨by decide, by decide⟩, by decide +kernel⟩
theorem mi_X12_isRight : Cond.instanceMethod yX12_isRight ∈ wsAll := memw 1140 (by decide +kernel) rfl
theorem se_X12_isRight : Cond.selects RX12 yX12_isRight yX12_isRight ∈ wsAll := memw 60 (by decide +kernel) rfl
theorem mf_X12_placeOf : MFc yX12_placeOf cX12_placeOf 5 (some .int) 1 := ⟨memw 1145 (by decide +kernel) rfl, memw 75 (by decide +kernel) rfl, ⟨by decide, by decide⟩, by decide +kernel⟩
theorem mi_X12_placeOf : Cond.instanceMethod yX12_placeOf ∈ wsAll := memw 1144 (by decide +kernel) rfl
theorem se_X12_placeOf : Cond.selects RX12 yX12_placeOf yX12_placeOf ∈ wsAll := memw 61 (by decide +kernel) rfl
theorem mf_X12_kept : MFc yX12_kept cX12_kept 4 (some .int) 1 := ⟨memw 1133 (by decide +kernel) rfl, memw 75 (by decide +kernel) rfl, ⟨by decide, by decide⟩, by decide +kernel⟩
theorem mi_X12_kept : Cond.instanceMethod yX12_kept ∈ wsAll := memw 1131 (by decide +kernel) rfl
theorem se_X12_kept : Cond.selects RX12 yX12_kept yX12_kept ∈ wsAll := memw 1132 (by decide +kernel) rfl
theorem mf_X12_byRule : MFc yX12_byRule cX12_byRule 4 (some .int) 1 := ⟨memw 1149 (by decide +kernel) rfl, memw 75 (by decide +kernel) rfl, ⟨by decide, by decide⟩, by decide +kernel⟩
theorem mi_X12_byRule : Cond.instanceMethod yX12_byRule ∈ wsAll := memw 1147 (by decide +kernel) rfl
theorem se_X12_byRule : Cond.selects RX12 yX12_byRule yX12_byRule ∈ wsAll := memw 1148 (by decide +kernel) rfl
theorem mf_X12_theirs : MFc yX12_theirs cX12_theirs 2 (some .int) 1 := ⟨memw 1153 (by decide +kernel) rfl, memw 75 (by decide +kernel) rfl, ⟨by decide, by decide⟩, by decide +kernel⟩
theorem mi_X12_theirs : Cond.instanceMethod yX12_theirs ∈ wsAll := memw 1151 (by decide +kernel) rfl
theorem se_X12_theirs : Cond.selects RX12 yX12_theirs yX12_theirs ∈ wsAll := memw 1152 (by decide +kernel) rfl
theorem mf_X12_err : MFc yX12_err cX12_err 2 (some .int) 1 := ⟨memw 1157 (by decide +kernel) rfl, memw 75 (by decide +kernel) rfl, ⟨by decide, by decide⟩, by decide +kernel⟩
theorem mi_X12_err : Cond.instanceMethod yX12_err ∈ wsAll := memw 1155 (by decide +kernel) rfl
theorem se_X12_err : Cond.selects RX12 yX12_err yX12_err ∈ wsAll := memw 1156 (by decide +kernel) rfl
theorem mf_X12_gone : MFc yX12_gone cX12_gone 6 (some .int) 2 := ⟨memw 1161 (by decide +kernel) rfl, memw 75 (by decide +kernel) rfl, ⟨by decide, by decide⟩, by decide +kernel⟩
theorem mi_X12_gone : Cond.instanceMethod yX12_gone ∈ wsAll := memw 1159 (by decide +kernel) rfl
theorem se_X12_gone : Cond.selects RX12 yX12_gone yX12_gone ∈ wsAll := memw 1160 (by decide +kernel) rfl
theorem mf_X12_count : MFc yX12_count cX12_count 4 (some .int) 1 := ⟨memw 1166 (by decide +kernel) rfl, memw 75 (by decide +kernel) rfl, ⟨by decide, by decide⟩, by decide +kernel⟩
theorem mi_X12_count : Cond.instanceMethod yX12_count ∈ wsAll := memw 1164 (by decide +kernel) rfl
theorem se_X12_count : Cond.selects RX12 yX12_count yX12_count ∈ wsAll := memw 1165 (by decide +kernel) rfl
theorem mf_J6_bitCount_0f7a4 : MFc yJ6_bitCount_0f7a4 cJ6_bitCount_0f7a4 1 (some .int) 1 := ⟨memw 770 (by decide +kernel) rfl, memw 79 (by decide +kernel) rfl, ⟨by decide, by decide⟩, by decide +kernel⟩
theorem ms_J6_bitCount_0f7a4 : Cond.static yJ6_bitCount_0f7a4 ∈ wsAll := memw 769 (by decide +kernel) rfl
theorem mf_J13_bitCount_95d88 : MFc yJ13_bitCount_95d88 cJ13_bitCount_95d88 2 (some .int) 1 := ⟨memw 789 (by decide +kernel) rfl, memw 80 (by decide +kernel) rfl, ⟨by decide, by decide⟩, by decide +kernel⟩
theorem ms_J13_bitCount_95d88 : Cond.static yJ13_bitCount_95d88 ∈ wsAll := memw 788 (by decide +kernel) rfl
theorem mf_J9_max_7cf53 : MFc yJ9_max_7cf53 cJ9_max_7cf53 2 (some .int) 2 := ⟨memw 745 (by decide +kernel) rfl, memw 78 (by decide +kernel) rfl, ⟨by decide, by decide⟩, by decide +kernel⟩
theorem ms_J9_max_7cf53 : Cond.static yJ9_max_7cf53 ∈ wsAll := memw 744 (by decide +kernel) rfl
theorem mf_J9_min_7cf53 : MFc yJ9_min_7cf53 cJ9_min_7cf53 2 (some .int) 2 := ⟨memw 588 (by decide +kernel) rfl, memw 78 (by decide +kernel) rfl, ⟨by decide, by decide⟩, by decide +kernel⟩
theorem ms_J9_min_7cf53 : Cond.static yJ9_min_7cf53 ∈ wsAll := memw 587 (by decide +kernel) rfl
theorem mf_J7_fill_d0a16 : MFc yJ7_fill_d0a16 cJ7_fill_d0a16 5 none 2 := ⟨memw 508 (by decide +kernel) rfl, memw 77 (by decide +kernel) rfl, ⟨by decide, by decide⟩, by decide +kernel⟩
theorem ms_J7_fill_d0a16 : Cond.static yJ7_fill_d0a16 ∈ wsAll := memw 507 (by decide +kernel) rfl
theorem mf_J7_fill_53178 : MFc yJ7_fill_53178 cJ7_fill_53178 4 none 2 := ⟨memw 741 (by decide +kernel) rfl, memw 77 (by decide +kernel) rfl, ⟨by decide, by decide⟩, by decide +kernel⟩
theorem ms_J7_fill_53178 : Cond.static yJ7_fill_53178 ∈ wsAll := memw 740 (by decide +kernel) rfl
end LINKS
end
section
/-! PICTURES AS A BASE AND CHANGED OBJECTS (printed by gen/hm.py) -/
section HM
def up {α : Type} (f : Int → α) (z : Int) (v : α) : Int → α := fun j => if j = z then v else f j
theorem up_eq {α : Type} (f : Int → α) (z : Int) (v : α) : up f z v z = v := if_pos rfl
theorem up_ne {α : Type} (f : Int → α) {z j : Int} (v : α) (h : j ≠ z) : up f z v j = f j := if_neg h
def alk {α : Type} (l : List (Nat × (Int → α))) (q : Nat) (d : Int → α) : Int → α := match l with
  | [] => d
  | (k, f) :: t => if q = k then f else alk t q d
def aset {α : Type} (l : List (Nat × (Int → α))) (k : Nat) (f : Int → α) : List (Nat × (Int → α)) := match l with
  | [] => [(k, f)]
  | (q, g) :: t => if k = q then (k, f) :: t else (q, g) :: aset t k f
def amg {α : Type} (a b : List (Nat × (Int → α))) : List (Nat × (Int → α)) := match b with
  | [] => a
  | (k, f) :: t => aset (amg a t) k f
theorem alk_aset {α : Type} (l : List (Nat × (Int → α))) (k : Nat) (f : Int → α) (q : Nat) (d : Int → α) : alk (aset l k f) q d = if q = k then f else alk l q d := by
  induction l with
  | nil => rfl
  | cons p t ih =>
    obtain ⟨k', f'⟩ := p
    by_cases h1 : k = k'
    · subst h1
      simp only [aset, if_pos, alk]
      by_cases h2 : q = k
      · simp [h2]
      · simp [h2]
    · simp only [aset, if_neg h1, alk, ih]
      by_cases h2 : q = k'
      · subst h2
        simp [Ne.symm h1]
      · simp [h2]
theorem alk_amg {α : Type} (a b : List (Nat × (Int → α))) (q : Nat) (d : Int → α) : alk (amg a b) q d = alk b q (alk a q d) := by
  induction b with
  | nil => rfl
  | cons p t ih =>
    obtain ⟨k, f⟩ := p
    simp only [amg, alk_aset, alk, ih]
def hm (h : AH) (li : List (Nat × (Int → Int))) (ll : List (Nat × (Int → Int64))) (lr : List (Nat × (Int → Nat))) : AH := (fun q => alk li q (h.1 q), fun q => alk ll q (h.2.1 q), fun q => alk lr q (h.2.2 q))
theorem hm_0 (h : AH) : hm h [] [] [] = h := rfl
theorem hm_hm (h : AH) (a a' : List (Nat × (Int → Int))) (b b' : List (Nat × (Int → Int64))) (c c' : List (Nat × (Int → Nat))) : hm (hm h a b c) a' b' c' = hm h (amg a a') (amg b b') (amg c c') := by
  unfold hm
  refine Prod.ext (funext fun q => ?_) (Prod.ext (funext fun q => ?_) (funext fun q => ?_))
  · exact (alk_amg a a' q _).symm
  · exact (alk_amg b b' q _).symm
  · exact (alk_amg c c' q _).symm
theorem sw_alk {α : Type} (l : List (Nat × (Int → α))) (f : Nat → Int → α) (k : Nat) (z : Int) (v : α) : sw (fun q => alk l q (f q)) k z v = fun q => alk (aset l k (up (alk l k (f k)) z v)) q (f q) := by
  funext q
  rw [alk_aset]
  by_cases hq : q = k
  · subst hq
    rw [sw_eq, if_pos rfl]; rfl
  · rw [sw_ne _ _ _ hq, if_neg hq]
variable {cc : ByteArray} {own : String} {nL fr lo : Nat} {G : GT} {pc : Nat} {L L' : List (Nat × Value)} {st : List Value} {h : AH} {li li' : List (Nat × (Int → Int))} {ll ll' : List (Nat × (Int → Int64))} {lr lr' : List (Nat × (Int → Nat))}
theorem hm_wi (h : AH) (k : Nat) (z v : Int) : hwi (hm h li ll lr) k z v = hm h (aset li k (up (alk li k (h.1 k)) z v)) ll lr := Prod.ext (sw_alk li h.1 k z v) rfl
theorem hm_wl (h : AH) (k : Nat) (z : Int) (v : Int64) : hwl (hm h li ll lr) k z v = hm h li (aset ll k (up (alk ll k (h.2.1 k)) z v)) lr := Prod.ext rfl (Prod.ext (sw_alk ll h.2.1 k z v) rfl)
theorem hm_wr (h : AH) (k : Nat) (z : Int) (v : Nat) : hwr (hm h li ll lr) k z v = hm h li ll (aset lr k (up (alk lr k (h.2.2 k)) z v)) := Prod.ext rfl (Prod.ext rfl (sw_alk lr h.2.2 k z v))
theorem A_hm0 (k : G pc L st (hm h [] [] [])) : G pc L st h := k
theorem A_hm {a a' la : List (Nat × (Int → Int))} {b b' lb : List (Nat × (Int → Int64))} {c c' lc : List (Nat × (Int → Nat))} (e1 : amg a a' = la) (e2 : amg b b' = lb) (e3 : amg c c' = lc) (k : G pc L st (hm h la lb lc)) : G pc L st (hm (hm h a b c) a' b' c') := by
  rw [hm_hm, e1, e2, e3]; exact k
theorem M_iald (hG : Cx cc own nL fr lo G) (d : decode cc pc = .ok (.iaload, 1)) {k : Nat} {z v : Int} {N : Nat} (hk : obk k = 20) (hn : obn k = N) (hin : 0 ≤ z ∧ z < N) (hv : alk li k (h.1 k) z = v) (kk : ir v → G (pc + 1) L (vI v :: st) (hm h li ll lr)) : G pc L (vI z :: .ref k :: st) (hm h li ll lr) := by
  subst hv
  exact A_iald hG d hk hn hin (A_rng hG (fun rg => kk (rg k z)))
theorem M_zald (hG : Cx cc own nL fr lo G) (d : decode cc pc = .ok (.baload, 1)) {k : Nat} {z v : Int} {N : Nat} (hk : obk k = 21) (hn : obn k = N) (hin : 0 ≤ z ∧ z < N) (hv : alk li k (h.1 k) z = v) (kk : ir v → G (pc + 1) L (vI v :: st) (hm h li ll lr)) : G pc L (vI z :: .ref k :: st) (hm h li ll lr) := by
  subst hv
  exact A_zald hG d hk hn hin (A_rng hG (fun rg => kk (rg k z)))
theorem M_lald (hG : Cx cc own nL fr lo G) (d : decode cc pc = .ok (.laload, 1)) {k : Nat} {z : Int} {v : Int64} {N : Nat} (hk : obk k = 22) (hn : obn k = N) (hin : 0 ≤ z ∧ z < N) (hv : alk ll k (h.2.1 k) z = v) (kk : G (pc + 1) L (.long v :: st) (hm h li ll lr)) : G pc L (vI z :: .ref k :: st) (hm h li ll lr) := by
  subst hv
  exact A_lald hG d hk hn hin kk
theorem M_aald (hG : Cx cc own nL fr lo G) (d : decode cc pc = .ok (.aaload, 1)) {k r : Nat} {z : Int} {N : Nat} (hk : obk k = 23 ∨ obk k = 24) (hn : obn k = N) (hin : 0 ≤ z ∧ z < N) (hv : alk lr k (h.2.2 k) z = r) (kk : G (pc + 1) L (.ref r :: st) (hm h li ll lr)) : G pc L (vI z :: .ref k :: st) (hm h li ll lr) := by
  subst hv
  exact A_aald hG d hk hn hin kk
theorem M_iast (hG : Cx cc own nL fr lo G) (d : decode cc pc = .ok (.iastore, 1)) {k : Nat} {z v : Int} {N : Nat} (hk : obk k = 20) (hn : obn k = N) (hin : 0 ≤ z ∧ z < N) (hv : ir v) (hl : aset li k (up (alk li k (h.1 k)) z v) = li') (kk : G (pc + 1) L st (hm h li' ll lr)) : G pc L (vI v :: vI z :: .ref k :: st) (hm h li ll lr) := by
  subst hl
  exact A_iast hG d hk hn hin hv (by rw [hm_wi]; exact kk)
theorem M_zast (hG : Cx cc own nL fr lo G) (d : decode cc pc = .ok (.bastore, 1)) {k : Nat} {z v : Int} {N : Nat} (hk : obk k = 21) (hn : obn k = N) (hin : 0 ≤ z ∧ z < N) (hv : v = 0 ∨ v = 1) (hl : aset li k (up (alk li k (h.1 k)) z v) = li') (kk : G (pc + 1) L st (hm h li' ll lr)) : G pc L (vI v :: vI z :: .ref k :: st) (hm h li ll lr) := by
  subst hl
  exact A_zast hG d hk hn hin hv (by rw [hm_wi]; exact kk)
theorem M_last (hG : Cx cc own nL fr lo G) (d : decode cc pc = .ok (.lastore, 1)) {k : Nat} {z : Int} {v : Int64} {N : Nat} (hk : obk k = 22) (hn : obn k = N) (hin : 0 ≤ z ∧ z < N) (hl : aset ll k (up (alk ll k (h.2.1 k)) z v) = ll') (kk : G (pc + 1) L st (hm h li ll' lr)) : G pc L (.long v :: vI z :: .ref k :: st) (hm h li ll lr) := by
  subst hl
  exact A_last hG d hk hn hin (by rw [hm_wl]; exact kk)
theorem M_aast (hG : Cx cc own nL fr lo G) (d : decode cc pc = .ok (.aastore, 1)) {k r : Nat} {z : Int} {N : Nat} (hk : obk k = 23) (hn : obn k = N) (hr : obk r = 8) (hin : 0 ≤ z ∧ z < N) (hl : aset lr k (up (alk lr k (h.2.2 k)) z r) = lr') (kk : G (pc + 1) L st (hm h li ll lr')) : G pc L (.ref r :: vI z :: .ref k :: st) (hm h li ll lr) := by
  subst hl
  exact A_aast hG d hk hn hr hin (by rw [hm_wr]; exact kk)
theorem M_getI (hG : Cx cc own nL fr lo G) {idx k c j : Nat} {z v : Int} (d : decode cc pc = .ok (.getfield idx, 3)) (hf : FLk own idx c j) (hc : c < 12) (hk : obk k = c + 1) (ht : (fcode c j).1 = 0) (hz : (j : Int) = z) (hv : alk li k (h.1 k) z = v) (kk : ir v → G (pc + 3) L (vI v :: st) (hm h li ll lr)) : G pc L (.ref k :: st) (hm h li ll lr) := by
  subst hv
  exact A_getI hG d hf hc hk ht hz (A_rng hG (fun rg => kk (rg k z)))
theorem M_putI (hG : Cx cc own nL fr lo G) {idx k c j : Nat} {z v : Int} {ty : FieldType} (d : decode cc pc = .ok (.putfield idx, 3)) (hf : FLk own idx c j) (hc : c < 12) (hk : obk k = c + 1) (hnf : ∀ q, cls[c]? = some q → (q.2.1 j).2.2.2 = false ∧ parseFieldDescriptor (q.2.1 j).2.2.1 = some ty) (ht : (fcode c j).1 = 0) (hz : (j : Int) = z) (hv : ir v) (hty : ty = .int ∨ ty = .boolean ∧ (v = 0 ∨ v = 1)) (hl : aset li k (up (alk li k (h.1 k)) z v) = li')
    (kk : G (pc + 3) L st (hm h li' ll lr)) : G pc L (vI v :: .ref k :: st) (hm h li ll lr) := by
  subst hl
  exact A_putI hG d hf hc hk hnf ht hz hv hty (by rw [hm_wi]; exact kk)
theorem M_putR (hG : Cx cc own nL fr lo G) {idx k c j r : Nat} {z : Int} {ty : FieldType} (d : decode cc pc = .ok (.putfield idx, 3)) (hf : FLk own idx c j) (hc : c < 12) (hk : obk k = c + 1) (hnf : ∀ q, cls[c]? = some q → (q.2.1 j).2.2.2 = false ∧ parseFieldDescriptor (q.2.1 j).2.2.1 = some ty) (ht : (fcode c j).1 = 3) (hz : (j : Int) = z) (hty : ∃ n, ty = .object n) (hl : aset lr k (up (alk lr k (h.2.2 k)) z r) = lr')
    (kk : G (pc + 3) L st (hm h li ll lr')) : G pc L (.ref r :: .ref k :: st) (hm h li ll lr) := by
  subst hl
  exact A_putR hG d hf hc hk hnf ht hz hty (by rw [hm_wr]; exact kk)
/-! contracts by what they answer -/
def Qi (P : Int → AH → Prop) : Option Value → AH → Prop := fun v h' => ∃ z : Int, v = some (vI z) ∧ ir z ∧ P z h'
def Ql (P : Int64 → AH → Prop) : Option Value → AH → Prop := fun v h' => ∃ x : Int64, v = some (.long x) ∧ P x h'
def Qr (P : Nat → AH → Prop) : Option Value → AH → Prop := fun v h' => ∃ k : Nat, v = some (.ref k) ∧ P k h'
def Qv (P : AH → Prop) : Option Value → AH → Prop := fun v h' => v = none ∧ P h'
theorem Ret_i {P : Int → AH → Prop} (hM : CxM cc own nL fr lo (some .int) (Qi P) G) (d : decode cc pc = .ok (.ireturn, 1)) {z : Int} (hz : ir z) (hp : P z h) : G pc L [vI z] h := A_iret hM d ⟨z, rfl, hz, hp⟩
theorem Ret_z {P : Int → AH → Prop} (hM : CxM cc own nL fr lo (some .boolean) (Qi P) G) (d : decode cc pc = .ok (.ireturn, 1)) {z : Int} (hz : z = 0 ∨ z = 1) (hp : P z h) : G pc L [vI z] h := A_zret hM d hz ⟨z, rfl, by rcases hz with rfl | rfl <;> constructor <;> decide, hp⟩
theorem Ret_l {P : Int64 → AH → Prop} (hM : CxM cc own nL fr lo (some .long) (Ql P) G) (d : decode cc pc = .ok (.lreturn, 1)) {x : Int64} (hp : P x h) : G pc L [.long x] h := A_lret hM d ⟨x, rfl, hp⟩
theorem Ret_r {n0 : String} {P : Nat → AH → Prop} (hM : CxM cc own nL fr lo (some (.object n0)) (Qr P) G) (d : decode cc pc = .ok (.areturn, 1)) {k : Nat} (hp : P k h) : G pc L [.ref k] h := A_aret hM d ⟨k, rfl, hp⟩
theorem Ret_v {P : AH → Prop} (hM : CxM cc own nL fr lo none (Qv P) G) (d : decode cc pc = .ok (.return_, 1)) (hp : P h) : G pc L [] h := A_vret hM d ⟨rfl, hp⟩
theorem C_Vi (hG : Cx cc own nL fr lo G) {idx k c n nLy fr' lo' : Nat} {y : MethodName} {b : ByteArray} {ret : Option FieldType} {q : vw_C} {as st0 : List Value} {P : Int → AH → Prop} (d : decode cc pc = .ok (.invokevirtual idx, 3)) (hl0 : MLk own idx y) (hm : MFc y b nLy ret n) (hi : Cond.instanceMethod y ∈ wsAll) (hs : Cond.selects q.1 y y ∈ wsAll)
    (hq : cls[c]? = some q) (hc : c < 12) (hk : obk k = c + 1) (hM : AMet y b nLy ret fr' lo' (.ref k :: as) h (Qi P)) (hfr : fr' + 1 ≤ fr) (hlo : 8 + (nLy + 11) + lo' ≤ lo) (hst : st0 = as.reverse ++ .ref k :: st) (hn : as.length = n) (hw : (st.map fun v => v.category).sum ≤ 8)
    (kk : ∀ (z : Int) (h' : AH), ir z → P z h' → G (pc + 3) L (vI z :: st) h') : G pc L st0 h := A_callV hG d hl0 hm hi hs hq hc hk hM hfr hlo hst hn hw (fun v h' e => by obtain ⟨z, rfl, hz, hp⟩ := e; exact kk z h' hz hp)
theorem C_Si (hG : Cx cc own nL fr lo G) {idx n nLy fr' lo' : Nat} {y : MethodName} {b : ByteArray} {ret : Option FieldType} {as st0 : List Value} {P : Int → AH → Prop} (d : decode cc pc = .ok (.invokestatic idx, 3)) (hl0 : MLk own idx y) (hm : MFc y b nLy ret n) (hi : Cond.static y ∈ wsAll)
    (hM : AMet y b nLy ret fr' lo' as h (Qi P)) (hfr : fr' + 1 ≤ fr) (hlo : 8 + (nLy + 11) + lo' ≤ lo) (hst : st0 = as.reverse ++ st) (hn : as.length = n) (hw : (st.map fun v => v.category).sum ≤ 8)
    (kk : ∀ (z : Int) (h' : AH), ir z → P z h' → G (pc + 3) L (vI z :: st) h') : G pc L st0 h := A_callS hG d hl0 hm hi hM hfr hlo hst hn hw (fun v h' e => by obtain ⟨z, rfl, hz, hp⟩ := e; exact kk z h' hz hp)
theorem C_Ui (hG : Cx cc own nL fr lo G) {idx k c n nLy fr' lo' : Nat} {x y : MethodName} {owner : String} {b : ByteArray} {ret : Option FieldType} {q : vw_C} {as st0 : List Value} {P : Int → AH → Prop} (d : decode cc pc = .ok (.invokevirtual idx, 3)) (hl0 : Cond.methodLink own idx x ∈ wsAll) (hsm : Cond.sameMethod x.cls owner x.name x.desc ∈ wsAll) (hde : Cond.declares ⟨owner, x.name, x.desc⟩ ∈ nestAll) (ho : owner ≠ "java/lang/invoke/MethodHandle" ∧ owner ≠ "java/lang/invoke/VarHandle") (hd0 : x.desc = y.desc) (hm : MFc y b nLy ret n) (hi : Cond.instanceMethod y ∈ wsAll) (hs : Cond.selects q.1 x y ∈ wsAll)
    (hq : cls[c]? = some q) (hc : c < 12) (hk : obk k = c + 1) (hM : AMet y b nLy ret fr' lo' (.ref k :: as) h (Qi P)) (hfr : fr' + 1 ≤ fr) (hlo : 8 + (nLy + 11) + lo' ≤ lo) (hst : st0 = as.reverse ++ .ref k :: st) (hn : as.length = n) (hw : (st.map fun v => v.category).sum ≤ 8)
    (kk : ∀ (z : Int) (h' : AH), ir z → P z h' → G (pc + 3) L (vI z :: st) h') : G pc L st0 h := A_callU hG d hl0 hsm hde ho hd0 hm hi hs hq hc hk hM hfr hlo hst hn hw (fun v h' e => by obtain ⟨z, rfl, hz, hp⟩ := e; exact kk z h' hz hp)
theorem C_Vl (hG : Cx cc own nL fr lo G) {idx k c n nLy fr' lo' : Nat} {y : MethodName} {b : ByteArray} {ret : Option FieldType} {q : vw_C} {as st0 : List Value} {P : Int64 → AH → Prop} (d : decode cc pc = .ok (.invokevirtual idx, 3)) (hl0 : MLk own idx y) (hm : MFc y b nLy ret n) (hi : Cond.instanceMethod y ∈ wsAll) (hs : Cond.selects q.1 y y ∈ wsAll)
    (hq : cls[c]? = some q) (hc : c < 12) (hk : obk k = c + 1) (hM : AMet y b nLy ret fr' lo' (.ref k :: as) h (Ql P)) (hfr : fr' + 1 ≤ fr) (hlo : 8 + (nLy + 11) + lo' ≤ lo) (hst : st0 = as.reverse ++ .ref k :: st) (hn : as.length = n) (hw : (st.map fun v => v.category).sum ≤ 8)
    (kk : ∀ (x : Int64) (h' : AH), P x h' → G (pc + 3) L (.long x :: st) h') : G pc L st0 h := A_callV hG d hl0 hm hi hs hq hc hk hM hfr hlo hst hn hw (fun v h' e => by obtain ⟨x, rfl, hp⟩ := e; exact kk x h' hp)
theorem C_Sl (hG : Cx cc own nL fr lo G) {idx n nLy fr' lo' : Nat} {y : MethodName} {b : ByteArray} {ret : Option FieldType} {as st0 : List Value} {P : Int64 → AH → Prop} (d : decode cc pc = .ok (.invokestatic idx, 3)) (hl0 : MLk own idx y) (hm : MFc y b nLy ret n) (hi : Cond.static y ∈ wsAll)
    (hM : AMet y b nLy ret fr' lo' as h (Ql P)) (hfr : fr' + 1 ≤ fr) (hlo : 8 + (nLy + 11) + lo' ≤ lo) (hst : st0 = as.reverse ++ st) (hn : as.length = n) (hw : (st.map fun v => v.category).sum ≤ 8)
    (kk : ∀ (x : Int64) (h' : AH), P x h' → G (pc + 3) L (.long x :: st) h') : G pc L st0 h := A_callS hG d hl0 hm hi hM hfr hlo hst hn hw (fun v h' e => by obtain ⟨x, rfl, hp⟩ := e; exact kk x h' hp)
theorem C_Ul (hG : Cx cc own nL fr lo G) {idx k c n nLy fr' lo' : Nat} {x y : MethodName} {owner : String} {b : ByteArray} {ret : Option FieldType} {q : vw_C} {as st0 : List Value} {P : Int64 → AH → Prop} (d : decode cc pc = .ok (.invokevirtual idx, 3)) (hl0 : Cond.methodLink own idx x ∈ wsAll) (hsm : Cond.sameMethod x.cls owner x.name x.desc ∈ wsAll) (hde : Cond.declares ⟨owner, x.name, x.desc⟩ ∈ nestAll) (ho : owner ≠ "java/lang/invoke/MethodHandle" ∧ owner ≠ "java/lang/invoke/VarHandle") (hd0 : x.desc = y.desc) (hm : MFc y b nLy ret n) (hi : Cond.instanceMethod y ∈ wsAll) (hs : Cond.selects q.1 x y ∈ wsAll)
    (hq : cls[c]? = some q) (hc : c < 12) (hk : obk k = c + 1) (hM : AMet y b nLy ret fr' lo' (.ref k :: as) h (Ql P)) (hfr : fr' + 1 ≤ fr) (hlo : 8 + (nLy + 11) + lo' ≤ lo) (hst : st0 = as.reverse ++ .ref k :: st) (hn : as.length = n) (hw : (st.map fun v => v.category).sum ≤ 8)
    (kk : ∀ (x : Int64) (h' : AH), P x h' → G (pc + 3) L (.long x :: st) h') : G pc L st0 h := A_callU hG d hl0 hsm hde ho hd0 hm hi hs hq hc hk hM hfr hlo hst hn hw (fun v h' e => by obtain ⟨x, rfl, hp⟩ := e; exact kk x h' hp)
theorem C_Vr (hG : Cx cc own nL fr lo G) {idx k c n nLy fr' lo' : Nat} {y : MethodName} {b : ByteArray} {ret : Option FieldType} {q : vw_C} {as st0 : List Value} {P : Nat → AH → Prop} (d : decode cc pc = .ok (.invokevirtual idx, 3)) (hl0 : MLk own idx y) (hm : MFc y b nLy ret n) (hi : Cond.instanceMethod y ∈ wsAll) (hs : Cond.selects q.1 y y ∈ wsAll)
    (hq : cls[c]? = some q) (hc : c < 12) (hk : obk k = c + 1) (hM : AMet y b nLy ret fr' lo' (.ref k :: as) h (Qr P)) (hfr : fr' + 1 ≤ fr) (hlo : 8 + (nLy + 11) + lo' ≤ lo) (hst : st0 = as.reverse ++ .ref k :: st) (hn : as.length = n) (hw : (st.map fun v => v.category).sum ≤ 8)
    (kk : ∀ (r : Nat) (h' : AH), P r h' → G (pc + 3) L (.ref r :: st) h') : G pc L st0 h := A_callV hG d hl0 hm hi hs hq hc hk hM hfr hlo hst hn hw (fun v h' e => by obtain ⟨r, rfl, hp⟩ := e; exact kk r h' hp)
theorem C_Sr (hG : Cx cc own nL fr lo G) {idx n nLy fr' lo' : Nat} {y : MethodName} {b : ByteArray} {ret : Option FieldType} {as st0 : List Value} {P : Nat → AH → Prop} (d : decode cc pc = .ok (.invokestatic idx, 3)) (hl0 : MLk own idx y) (hm : MFc y b nLy ret n) (hi : Cond.static y ∈ wsAll)
    (hM : AMet y b nLy ret fr' lo' as h (Qr P)) (hfr : fr' + 1 ≤ fr) (hlo : 8 + (nLy + 11) + lo' ≤ lo) (hst : st0 = as.reverse ++ st) (hn : as.length = n) (hw : (st.map fun v => v.category).sum ≤ 8)
    (kk : ∀ (r : Nat) (h' : AH), P r h' → G (pc + 3) L (.ref r :: st) h') : G pc L st0 h := A_callS hG d hl0 hm hi hM hfr hlo hst hn hw (fun v h' e => by obtain ⟨r, rfl, hp⟩ := e; exact kk r h' hp)
theorem C_Ur (hG : Cx cc own nL fr lo G) {idx k c n nLy fr' lo' : Nat} {x y : MethodName} {owner : String} {b : ByteArray} {ret : Option FieldType} {q : vw_C} {as st0 : List Value} {P : Nat → AH → Prop} (d : decode cc pc = .ok (.invokevirtual idx, 3)) (hl0 : Cond.methodLink own idx x ∈ wsAll) (hsm : Cond.sameMethod x.cls owner x.name x.desc ∈ wsAll) (hde : Cond.declares ⟨owner, x.name, x.desc⟩ ∈ nestAll) (ho : owner ≠ "java/lang/invoke/MethodHandle" ∧ owner ≠ "java/lang/invoke/VarHandle") (hd0 : x.desc = y.desc) (hm : MFc y b nLy ret n) (hi : Cond.instanceMethod y ∈ wsAll) (hs : Cond.selects q.1 x y ∈ wsAll)
    (hq : cls[c]? = some q) (hc : c < 12) (hk : obk k = c + 1) (hM : AMet y b nLy ret fr' lo' (.ref k :: as) h (Qr P)) (hfr : fr' + 1 ≤ fr) (hlo : 8 + (nLy + 11) + lo' ≤ lo) (hst : st0 = as.reverse ++ .ref k :: st) (hn : as.length = n) (hw : (st.map fun v => v.category).sum ≤ 8)
    (kk : ∀ (r : Nat) (h' : AH), P r h' → G (pc + 3) L (.ref r :: st) h') : G pc L st0 h := A_callU hG d hl0 hsm hde ho hd0 hm hi hs hq hc hk hM hfr hlo hst hn hw (fun v h' e => by obtain ⟨r, rfl, hp⟩ := e; exact kk r h' hp)
theorem C_Vv (hG : Cx cc own nL fr lo G) {idx k c n nLy fr' lo' : Nat} {y : MethodName} {b : ByteArray} {ret : Option FieldType} {q : vw_C} {as st0 : List Value} {P : AH → Prop} (d : decode cc pc = .ok (.invokevirtual idx, 3)) (hl0 : MLk own idx y) (hm : MFc y b nLy ret n) (hi : Cond.instanceMethod y ∈ wsAll) (hs : Cond.selects q.1 y y ∈ wsAll)
    (hq : cls[c]? = some q) (hc : c < 12) (hk : obk k = c + 1) (hM : AMet y b nLy ret fr' lo' (.ref k :: as) h (Qv P)) (hfr : fr' + 1 ≤ fr) (hlo : 8 + (nLy + 11) + lo' ≤ lo) (hst : st0 = as.reverse ++ .ref k :: st) (hn : as.length = n) (hw : (st.map fun v => v.category).sum ≤ 8)
    (kk : ∀ h' : AH, P h' → G (pc + 3) L st h') : G pc L st0 h := A_callV hG d hl0 hm hi hs hq hc hk hM hfr hlo hst hn hw (fun v h' e => by obtain ⟨rfl, hp⟩ := e; exact kk h' hp)
theorem C_Sv (hG : Cx cc own nL fr lo G) {idx n nLy fr' lo' : Nat} {y : MethodName} {b : ByteArray} {ret : Option FieldType} {as st0 : List Value} {P : AH → Prop} (d : decode cc pc = .ok (.invokestatic idx, 3)) (hl0 : MLk own idx y) (hm : MFc y b nLy ret n) (hi : Cond.static y ∈ wsAll)
    (hM : AMet y b nLy ret fr' lo' as h (Qv P)) (hfr : fr' + 1 ≤ fr) (hlo : 8 + (nLy + 11) + lo' ≤ lo) (hst : st0 = as.reverse ++ st) (hn : as.length = n) (hw : (st.map fun v => v.category).sum ≤ 8)
    (kk : ∀ h' : AH, P h' → G (pc + 3) L st h') : G pc L st0 h := A_callS hG d hl0 hm hi hM hfr hlo hst hn hw (fun v h' e => by obtain ⟨rfl, hp⟩ := e; exact kk h' hp)
theorem C_Uv (hG : Cx cc own nL fr lo G) {idx k c n nLy fr' lo' : Nat} {x y : MethodName} {owner : String} {b : ByteArray} {ret : Option FieldType} {q : vw_C} {as st0 : List Value} {P : AH → Prop} (d : decode cc pc = .ok (.invokevirtual idx, 3)) (hl0 : Cond.methodLink own idx x ∈ wsAll) (hsm : Cond.sameMethod x.cls owner x.name x.desc ∈ wsAll) (hde : Cond.declares ⟨owner, x.name, x.desc⟩ ∈ nestAll) (ho : owner ≠ "java/lang/invoke/MethodHandle" ∧ owner ≠ "java/lang/invoke/VarHandle") (hd0 : x.desc = y.desc) (hm : MFc y b nLy ret n) (hi : Cond.instanceMethod y ∈ wsAll) (hs : Cond.selects q.1 x y ∈ wsAll)
    (hq : cls[c]? = some q) (hc : c < 12) (hk : obk k = c + 1) (hM : AMet y b nLy ret fr' lo' (.ref k :: as) h (Qv P)) (hfr : fr' + 1 ≤ fr) (hlo : 8 + (nLy + 11) + lo' ≤ lo) (hst : st0 = as.reverse ++ .ref k :: st) (hn : as.length = n) (hw : (st.map fun v => v.category).sum ≤ 8)
    (kk : ∀ h' : AH, P h' → G (pc + 3) L st h') : G pc L st0 h := A_callU hG d hl0 hsm hde ho hd0 hm hi hs hq hc hk hM hfr hlo hst hn hw (fun v h' e => by obtain ⟨rfl, hp⟩ := e; exact kk h' hp)
theorem k1 : obk 1 = 11 := by decide
theorem k2 : obk 2 = 9 := by decide
theorem k3 : obk 3 = 20 := by decide
theorem n3 : obn 3 = 400 := by decide
theorem k4 : obk 4 = 20 := by decide
theorem n4 : obn 4 = 5 := by decide
theorem k5 : obk 5 = 23 := by decide
theorem n5 : obn 5 = 8 := by decide
theorem k6 : obk 6 = 24 := by decide
theorem n6 : obn 6 = 12 := by decide
theorem k7 : obk 7 = 3 := by decide
theorem k8 : obk 8 = 20 := by decide
theorem n8 : obn 8 = 60 := by decide
theorem k9 : obk 9 = 20 := by decide
theorem n9 : obn 9 = 5 := by decide
theorem k10 : obk 10 = 10 := by decide
theorem k11 : obk 11 = 22 := by decide
theorem n11 : obn 11 = 2560 := by decide
theorem k12 : obk 12 = 7 := by decide
theorem k13 : obk 13 = 20 := by decide
theorem n13 : obn 13 = 3240 := by decide
theorem k14 : obk 14 = 5 := by decide
theorem k15 : obk 15 = 22 := by decide
theorem n15 : obn 15 = 2560 := by decide
theorem k16 : obk 16 = 22 := by decide
theorem n16 : obn 16 = 24 := by decide
theorem k17 : obk 17 = 1 := by decide
theorem k18 : obk 18 = 20 := by decide
theorem n18 : obn 18 = 64 := by decide
theorem k20 : obk 20 = 2 := by decide
theorem k21 : obk 21 = 20 := by decide
theorem n21 : obn 21 = 16 := by decide
theorem k22 : obk 22 = 20 := by decide
theorem n22 : obn 22 = 16 := by decide
theorem k23 : obk 23 = 20 := by decide
theorem n23 : obn 23 = 16 := by decide
theorem k24 : obk 24 = 20 := by decide
theorem n24 : obn 24 = 16 := by decide
theorem k25 : obk 25 = 20 := by decide
theorem n25 : obn 25 = 24 := by decide
theorem k26 : obk 26 = 20 := by decide
theorem n26 : obn 26 = 24 := by decide
theorem k27 : obk 27 = 20 := by decide
theorem n27 : obn 27 = 24 := by decide
theorem k28 : obk 28 = 21 := by decide
theorem n28 : obn 28 = 24 := by decide
theorem k29 : obk 29 = 21 := by decide
theorem n29 : obn 29 = 24 := by decide
theorem k30 : obk 30 = 20 := by decide
theorem n30 : obn 30 = 5 := by decide
theorem k40 : obk 40 = 2 := by decide
theorem k41 : obk 41 = 20 := by decide
theorem n41 : obn 41 = 16 := by decide
theorem k42 : obk 42 = 20 := by decide
theorem n42 : obn 42 = 16 := by decide
theorem k43 : obk 43 = 20 := by decide
theorem n43 : obn 43 = 16 := by decide
theorem k44 : obk 44 = 20 := by decide
theorem n44 : obn 44 = 16 := by decide
theorem k45 : obk 45 = 20 := by decide
theorem n45 : obn 45 = 24 := by decide
theorem k46 : obk 46 = 20 := by decide
theorem n46 : obn 46 = 24 := by decide
theorem k47 : obk 47 = 20 := by decide
theorem n47 : obn 47 = 24 := by decide
theorem k48 : obk 48 = 21 := by decide
theorem n48 : obn 48 = 24 := by decide
theorem k49 : obk 49 = 21 := by decide
theorem n49 : obn 49 = 24 := by decide
theorem k50 : obk 50 = 20 := by decide
theorem n50 : obn 50 = 5 := by decide
theorem k60 : obk 60 = 6 := by decide
theorem k61 : obk 61 = 23 := by decide
theorem n61 : obn 61 = 40 := by decide
theorem k62 : obk 62 = 20 := by decide
theorem n62 : obn 62 = 40 := by decide
theorem k63 : obk 63 = 23 := by decide
theorem n63 : obn 63 = 64 := by decide
theorem k64 : obk 64 = 20 := by decide
theorem n64 : obn 64 = 64 := by decide
theorem k65 : obk 65 = 20 := by decide
theorem n65 : obn 65 = 40 := by decide
theorem k66 : obk 66 = 20 := by decide
theorem n66 : obn 66 = 17 := by decide
theorem k500 : obk 500 = 12 := by decide
theorem k502 : obk 502 = 20 := by decide
theorem n502 : obn 502 = 400 := by decide
theorem k503 : obk 503 = 20 := by decide
theorem n503 : obn 503 = 2 := by decide
theorem k504 : obk 504 = 20 := by decide
theorem n504 : obn 504 = 128 := by decide
theorem k505 : obk 505 = 20 := by decide
theorem n505 : obn 505 = 2 := by decide
theorem k506 : obk 506 = 20 := by decide
theorem n506 : obn 506 = 240 := by decide
theorem k507 : obk 507 = 20 := by decide
theorem n507 : obn 507 = 10 := by decide
theorem k508 : obk 508 = 20 := by decide
theorem n508 : obn 508 = 10 := by decide
theorem k509 : obk 509 = 20 := by decide
theorem n509 : obn 509 = 100 := by decide
theorem k510 : obk 510 = 20 := by decide
theorem n510 : obn 510 = 10 := by decide
theorem k512 : obk 512 = 20 := by decide
theorem n512 : obn 512 = 24 := by decide
theorem k513 : obk 513 = 20 := by decide
theorem n513 : obn 513 = 192 := by decide
theorem k515 : obk 515 = 20 := by decide
theorem n515 : obn 515 = 60 := by decide
theorem k517 : obk 517 = 20 := by decide
theorem n517 : obn 517 = 5 := by decide
theorem k518 : obk 518 = 22 := by decide
theorem n518 : obn 518 = 72 := by decide
theorem k519 : obk 519 = 22 := by decide
theorem n519 : obn 519 = 2880 := by decide
theorem k520 : obk 520 = 20 := by decide
theorem n520 : obn 520 = 4050 := by decide
theorem k521 : obk 521 = 20 := by decide
theorem n521 : obn 521 = 5 := by decide
theorem k523 : obk 523 = 20 := by decide
theorem n523 : obn 523 = 40 := by decide
theorem k524 : obk 524 = 20 := by decide
theorem n524 : obn 524 = 40 := by decide
theorem k525 : obk 525 = 20 := by decide
theorem n525 : obn 525 = 320 := by decide
theorem k527 : obk 527 = 20 := by decide
theorem n527 : obn 527 = 40 := by decide
theorem k600 : obk 600 = 25 := by decide
theorem n600 : obn 600 = 5 := by decide
theorem k601 : obk 601 = 25 := by decide
theorem n601 : obn 601 = 4 := by decide
theorem k602 : obk 602 = 25 := by decide
theorem n602 : obn 602 = 5 := by decide
theorem k603 : obk 603 = 25 := by decide
theorem n603 : obn 603 = 2 := by decide
theorem nf_0_1 : ∀ q, cls[0]? = some q → (q.2.1 1).2.2.2 = false ∧ parseFieldDescriptor (q.2.1 1).2.2.1 = some .int := fun q hq => by cases hq; exact ⟨rfl, by decide +kernel⟩
theorem nf_1_4 : ∀ q, cls[1]? = some q → (q.2.1 4).2.2.2 = false ∧ parseFieldDescriptor (q.2.1 4).2.2.1 = some .int := fun q hq => by cases hq; exact ⟨rfl, by decide +kernel⟩
theorem nf_1_10 : ∀ q, cls[1]? = some q → (q.2.1 10).2.2.2 = false ∧ parseFieldDescriptor (q.2.1 10).2.2.1 = some .int := fun q hq => by cases hq; exact ⟨rfl, by decide +kernel⟩
theorem nf_2_1 : ∀ q, cls[2]? = some q → (q.2.1 1).2.2.2 = false ∧ parseFieldDescriptor (q.2.1 1).2.2.1 = some .int := fun q hq => by cases hq; exact ⟨rfl, by decide +kernel⟩
theorem nf_3_0 : ∀ q, cls[3]? = some q → (q.2.1 0).2.2.2 = false ∧ parseFieldDescriptor (q.2.1 0).2.2.1 = some .boolean := fun q hq => by cases hq; exact ⟨rfl, by decide +kernel⟩
theorem nf_3_1 : ∀ q, cls[3]? = some q → (q.2.1 1).2.2.2 = false ∧ parseFieldDescriptor (q.2.1 1).2.2.1 = some .boolean := fun q hq => by cases hq; exact ⟨rfl, by decide +kernel⟩
theorem nf_3_2 : ∀ q, cls[3]? = some q → (q.2.1 2).2.2.2 = false ∧ parseFieldDescriptor (q.2.1 2).2.2.1 = some .int := fun q hq => by cases hq; exact ⟨rfl, by decide +kernel⟩
theorem nf_3_3 : ∀ q, cls[3]? = some q → (q.2.1 3).2.2.2 = false ∧ parseFieldDescriptor (q.2.1 3).2.2.1 = some .int := fun q hq => by cases hq; exact ⟨rfl, by decide +kernel⟩
theorem nf_5_2 : ∀ q, cls[5]? = some q → (q.2.1 2).2.2.2 = false ∧ parseFieldDescriptor (q.2.1 2).2.2.1 = some .int := fun q hq => by cases hq; exact ⟨rfl, by decide +kernel⟩
theorem nf_5_5 : ∀ q, cls[5]? = some q → (q.2.1 5).2.2.2 = false ∧ parseFieldDescriptor (q.2.1 5).2.2.1 = some .int := fun q hq => by cases hq; exact ⟨rfl, by decide +kernel⟩
theorem nf_5_7 : ∀ q, cls[5]? = some q → (q.2.1 7).2.2.2 = false ∧ parseFieldDescriptor (q.2.1 7).2.2.1 = some .int := fun q hq => by cases hq; exact ⟨rfl, by decide +kernel⟩
theorem nf_7_1 : ∀ q, cls[7]? = some q → (q.2.1 1).2.2.2 = false ∧ parseFieldDescriptor (q.2.1 1).2.2.1 = some .int := fun q hq => by cases hq; exact ⟨rfl, by decide +kernel⟩
theorem nf_7_2 : ∀ q, cls[7]? = some q → (q.2.1 2).2.2.2 = false ∧ parseFieldDescriptor (q.2.1 2).2.2.1 = some .int := fun q hq => by cases hq; exact ⟨rfl, by decide +kernel⟩
theorem nf_8_1 : ∀ q, cls[8]? = some q → (q.2.1 1).2.2.2 = false ∧ parseFieldDescriptor (q.2.1 1).2.2.1 = some .int := fun q hq => by cases hq; exact ⟨rfl, by decide +kernel⟩
theorem nf_8_3 : ∀ q, cls[8]? = some q → (q.2.1 3).2.2.2 = false ∧ parseFieldDescriptor (q.2.1 3).2.2.1 = some .int := fun q hq => by cases hq; exact ⟨rfl, by decide +kernel⟩
theorem nf_10_1 : ∀ q, cls[10]? = some q → (q.2.1 1).2.2.2 = false ∧ parseFieldDescriptor (q.2.1 1).2.2.1 = some (.object "OneWordWrong$Grammar") := fun q hq => by cases hq; exact ⟨rfl, by decide +kernel⟩
theorem nf_10_2 : ∀ q, cls[10]? = some q → (q.2.1 2).2.2.2 = false ∧ parseFieldDescriptor (q.2.1 2).2.2.1 = some (.object "OneWordWrong$Grammar") := fun q hq => by cases hq; exact ⟨rfl, by decide +kernel⟩
theorem nf_10_5 : ∀ q, cls[10]? = some q → (q.2.1 5).2.2.2 = false ∧ parseFieldDescriptor (q.2.1 5).2.2.1 = some .int := fun q hq => by cases hq; exact ⟨rfl, by decide +kernel⟩
theorem nf_10_13 : ∀ q, cls[10]? = some q → (q.2.1 13).2.2.2 = false ∧ parseFieldDescriptor (q.2.1 13).2.2.1 = some .int := fun q hq => by cases hq; exact ⟨rfl, by decide +kernel⟩
theorem nf_11_0 : ∀ q, cls[11]? = some q → (q.2.1 0).2.2.2 = false ∧ parseFieldDescriptor (q.2.1 0).2.2.1 = some .int := fun q hq => by cases hq; exact ⟨rfl, by decide +kernel⟩
theorem nf_11_10 : ∀ q, cls[11]? = some q → (q.2.1 10).2.2.2 = false ∧ parseFieldDescriptor (q.2.1 10).2.2.1 = some .int := fun q hq => by cases hq; exact ⟨rfl, by decide +kernel⟩
theorem nf_11_13 : ∀ q, cls[11]? = some q → (q.2.1 13).2.2.2 = false ∧ parseFieldDescriptor (q.2.1 13).2.2.1 = some .int := fun q hq => by cases hq; exact ⟨rfl, by decide +kernel⟩
theorem nf_11_15 : ∀ q, cls[11]? = some q → (q.2.1 15).2.2.2 = false ∧ parseFieldDescriptor (q.2.1 15).2.2.1 = some .int := fun q hq => by cases hq; exact ⟨rfl, by decide +kernel⟩
theorem nf_11_21 : ∀ q, cls[11]? = some q → (q.2.1 21).2.2.2 = false ∧ parseFieldDescriptor (q.2.1 21).2.2.1 = some .int := fun q hq => by cases hq; exact ⟨rfl, by decide +kernel⟩
theorem nf_11_25 : ∀ q, cls[11]? = some q → (q.2.1 25).2.2.2 = false ∧ parseFieldDescriptor (q.2.1 25).2.2.1 = some .int := fun q hq => by cases hq; exact ⟨rfl, by decide +kernel⟩
end HM
end
section
/-! SMALL FACTS FOR THE WALKS -/
section HELP
theorem i2l_int {a : Int} (ha : ir a) : (i2l a).toInt = a := by
  unfold i2l
  rw [Int32.toInt_toInt64, tI ha]
theorem lcmp3 {a b : Int} (ha : ir a) (hb : ir b) : (lcmpI (i2l a) (i2l b) = 1 ∧ b < a) ∨ (lcmpI (i2l a) (i2l b) = 0 ∧ a = b) ∨ (lcmpI (i2l a) (i2l b) = -1 ∧ a < b) := by
  unfold lcmpI
  have e1 : i2l b < i2l a ↔ b < a := by rw [Int64.lt_iff_toInt_lt, i2l_int ha, i2l_int hb]
  have e2 : i2l a = i2l b ↔ a = b := ⟨fun e => by rw [← i2l_int ha, ← i2l_int hb, e], fun e => by rw [e]⟩
  by_cases h1 : b < a
  · rw [if_pos (e1.mpr h1)]; exact Or.inl ⟨rfl, h1⟩
  · rw [if_neg (fun q => h1 (e1.mp q))]
    by_cases h2 : a = b
    · rw [if_pos (e2.mpr h2)]; exact Or.inr (Or.inl ⟨rfl, h2⟩)
    · rw [if_neg (fun q => h2 (e2.mp q))]; exact Or.inr (Or.inr ⟨rfl, by omega⟩)
theorem ir_lcmp (x y : Int64) : ir (lcmpI x y) := by
  unfold lcmpI ir
  split
  · omega
  · split <;> omega
theorem ir_iand (a b : Int) : ir (iand a b) := irT _
theorem ir_ior (a b : Int) : ir (ior a b) := irT _
theorem ir_ixor (a b : Int) : ir (ixor a b) := irT _
theorem ir_ishl (a b : Int) : ir (ishl a b) := irT _
theorem ir_ishr (a b : Int) : ir (ishr a b) := irT _
theorem ir_iushr (a b : Int) : ir (iushr a b) := irT _
theorem ir_idiv (a b : Int) : ir (idiv a b) := irT _
theorem ir_l2i (x : Int64) : ir (l2i x) := irT _
/-- bit i of a set -/
def hasb (a b : Int) : Prop := iand (ishr a b) 1 = 1
/-- how often c is among the first n -/
def cntE (f : Int → Int) (c : Int) : Nat → Int
  | 0 => 0
  | n + 1 => cntE f c n + (if f n = c then 1 else 0)
theorem cntE_le (f : Int → Int) (c : Int) : ∀ n : Nat, 0 ≤ cntE f c n ∧ cntE f c n ≤ n
  | 0 => ⟨Int.le_refl _, Int.le_refl _⟩
  | n + 1 => by
    have h := cntE_le f c n
    simp only [cntE]
    split <;> omega
theorem cntE_congr {f g : Int → Int} {c : Int} : ∀ {n : Nat}, (∀ i : Int, 0 ≤ i → i < n → f i = g i) → cntE f c n = cntE g c n
  | 0, _ => rfl
  | n + 1, h => by
    simp only [cntE]
    rw [cntE_congr (n := n) (fun i h0 h1 => h i h0 (by omega)), h n (by omega) (by omega)]
def sumN (f : Int → Int) : Nat → Int
  | 0 => 0
  | n + 1 => sumN f n + f n
theorem sumN_congr {f g : Int → Int} : ∀ {n : Nat}, (∀ i : Int, 0 ≤ i → i < n → f i = g i) → sumN f n = sumN g n
  | 0, _ => rfl
  | n + 1, h => by
    simp only [sumN]
    rw [sumN_congr (n := n) (fun i h0 h1 => h i h0 (by omega)), h n (by omega) (by omega)]
theorem sumN_le {f : Int → Int} {b : Int} : ∀ {n : Nat}, (∀ i : Int, 0 ≤ i → i < n → 0 ≤ f i ∧ f i ≤ b) → 0 ≤ sumN f n ∧ sumN f n ≤ n * b
  | 0, _ => by simp [sumN]
  | n + 1, h => by
    have h1 := sumN_le (n := n) (fun i h0 h1 => h i h0 (by omega))
    have h2 := h n (by omega) (by omega)
    simp only [sumN]
    have e : ((n + 1 : Nat) : Int) * b = n * b + b := by
      rw [Int.natCast_add, Int.add_mul]; simp
    omega
/-- whether c is among those from a on, of the first n -/
def cameE (f : Int → Int) (c a : Int) (n : Nat) : Prop := ∃ i : Int, 0 ≤ i ∧ i < n ∧ a ≤ i ∧ f i = c
end HELP
section HELP2
theorem idivN {a d : Nat} (ha : a < 2 ^ 31) (h0 : 0 < d) (hd : d < 2 ^ 31) : idiv a d = ((a / d : Nat) : Int) := by
  show (nI a / nI d).toInt = _
  rw [pk_div ha h0 hd, nI_toInt (Nat.lt_of_le_of_lt (Nat.div_le_self a d) ha)]
theorem idiv9 {x n : Int} (hx : 0 ≤ x ∧ x ≤ n) (hn : 0 < n ∧ n ≤ 60) : 0 ≤ idiv (9 * x) n ∧ idiv (9 * x) n ≤ 9 := by
  obtain ⟨a, rfl⟩ := Int.eq_ofNat_of_zero_le hx.1
  obtain ⟨d, rfl⟩ := Int.eq_ofNat_of_zero_le (Int.le_of_lt hn.1)
  have e : idiv (9 * (a : Int)) d = ((9 * a / d : Nat) : Int) := idivN (a := 9 * a) (by omega) (by omega) (by omega)
  rw [e]
  have h1 : 9 * a / d ≤ 9 := by
    apply Nat.div_le_of_le_mul
    rw [Nat.mul_comm d 9]
    omega
  exact ⟨Int.natCast_nonneg _, Int.ofNat_le.mpr h1⟩
end HELP2
end
section
/-! the reference: small methods (printed by gen) -/
section
set_option maxHeartbeats 2000000 in
set_option maxRecDepth 20000 in
theorem r_in (h : AH) {a b c : Int} (ha : ir a) (hb : ir b) (hc : ir c) : AMet yX12_in cX12_in 6 (some .boolean) 0 0 [.long (i2l a), .long (i2l b), .long (i2l c)] h (Qi (fun z h' => ((z = 1 ∧ b ≤ a ∧ a ≤ c) ∨ (z = 0 ∧ (a < b ∨ c < a))) ∧ h' = h)) := by
  refine AMet.of (by decide) (Nat.le_of_ble_eq_true rfl) (fun G hM => ?_)
  have hG := hM.cx
  refine A_hm0 (G := G) (L := [(0, .long (i2l a)), (2, .long (i2l b)), (4, .long (i2l c))]) ?_
  refine A_lload_n hG 0 dX12_in_0 rfl rfl ?_
  refine A_lload_n hG 1 dX12_in_1 rfl rfl ?_
  refine A_lcmp hG dX12_in_2 ?_
  have e1 := lcmp3 ha hb
  refine A_if_lt hG 17 dX12_in_3 (by decide) (ir_lcmp _ _) (fun c_3 => ?_) (fun c_3 => ?_)
  ·
    refine A_iconst (n := 0) hG dX12_in_17 ?_
    exact Ret_z hM dX12_in_18 (by omega) (⟨by omega, rfl⟩)
  ·
    refine A_lload_n hG 0 dX12_in_6 rfl rfl ?_
    refine A_lload hG 2 dX12_in_7 rfl ?_
    refine A_lcmp hG dX12_in_9 ?_
    have e2 := lcmp3 ha hc
    refine A_if_gt hG 17 dX12_in_10 (by decide) (ir_lcmp _ _) (fun c_10 => ?_) (fun c_10 => ?_)
    ·
      refine A_iconst (n := 0) hG dX12_in_17 ?_
      exact Ret_z hM dX12_in_18 (by omega) (⟨by omega, rfl⟩)
    ·
      refine A_iconst (n := 1) hG dX12_in_13 ?_
      refine A_goto hG 18 dX12_in_14 (by decide) ?_
      exact Ret_z hM dX12_in_18 (by omega) (⟨by omega, rfl⟩)

set_option maxHeartbeats 2000000 in
set_option maxRecDepth 20000 in
theorem r_has (h : AH) (a b : Int) : AMet yX12_has cX12_has 2 (some .boolean) 0 0 [vI a, vI b] h (Qi (fun z h' => ((z = 1 ∧ hasb a b) ∨ (z = 0 ∧ ¬ hasb a b)) ∧ h' = h)) := by
  refine AMet.of (by decide) (Nat.le_of_ble_eq_true rfl) (fun G hM => ?_)
  have hG := hM.cx
  refine A_hm0 (G := G) (L := [(0, vI a), (1, vI b)]) ?_
  refine A_iload_n hG 0 dX12_has_0 rfl rfl ?_
  refine A_iload_n hG 1 dX12_has_1 rfl rfl ?_
  refine A_ishr hG dX12_has_2 ?_
  refine A_iconst (n := 1) hG dX12_has_3 ?_
  refine A_iand hG dX12_has_4 ?_
  refine A_iconst (n := 1) hG dX12_has_5 ?_
  refine A_icmp_ne hG 13 dX12_has_6 (by decide) (ir_iand _ _) (by constructor <;> omega) (fun c_6 => ?_) (fun c_6 => ?_)
  ·
    refine A_iconst (n := 0) hG dX12_has_13 ?_
    exact Ret_z hM dX12_has_14 (by omega) (⟨Or.inr ⟨rfl, c_6⟩, rfl⟩)
  ·
    refine A_iconst (n := 1) hG dX12_has_9 ?_
    refine A_goto hG 14 dX12_has_10 (by decide) ?_
    exact Ret_z hM dX12_has_14 (by omega) (⟨Or.inl ⟨rfl, c_6⟩, rfl⟩)

set_option maxHeartbeats 2000000 in
set_option maxRecDepth 20000 in
theorem r_isChange (h : AH) {c : Int} (hc : ir c) : AMet yX12_isChange cX12_isChange 1 (some .boolean) 1 25 [vI c] h (Qi (fun z h' => ((z = 1 ∧ 0 ≤ c ∧ c ≤ 4) ∨ (z = 0 ∧ (c < 0 ∨ 4 < c))) ∧ h' = h)) := by
  obtain ⟨hc1, hc2⟩ := hc
  refine AMet.of (by decide) (Nat.le_of_ble_eq_true rfl) (fun G hM => ?_)
  have hG := hM.cx
  refine A_hm0 (G := G) (L := [(0, vI c)]) ?_
  refine A_iload_n hG 0 dX12_isChange_0 rfl rfl ?_
  refine A_i2l hG dX12_isChange_1 ?_
  refine A_lconst (v := i2l 0) hG dX12_isChange_2 (by decide) ?_
  refine A_ldc2 (v := i2l 4) hG dX12_isChange_3 (by rw [show i2l 4 = (4 : Int64) by decide]; exact kl_X12_123) ?_
  refine C_Si (as := [.long (i2l c), .long (i2l 0), .long (i2l 4)]) (st := []) hG dX12_isChange_6 ml_X12_80 mf_X12_in ms_X12_in (r_in (hm h [] [] []) (by constructor <;> omega) (by constructor <;> omega) (by constructor <;> omega)) (by decide) (by decide) rfl rfl (by decide) (fun z6 g6 ri_6 hp_6 => ?_)
  obtain ⟨ra_6, rb_6⟩ := ri_6
  obtain ⟨hz6, rfl⟩ := hp_6
  exact Ret_z hM dX12_isChange_9 (by omega) (⟨by omega, rfl⟩)

set_option maxHeartbeats 2000000 in
set_option maxRecDepth 20000 in
theorem r_isSentence (h : AH) {c : Int} (hc : ir c) : AMet yX12_isSentence cX12_isSentence 1 (some .boolean) 1 25 [vI c] h (Qi (fun z h' => ((z = 1 ∧ 0 ≤ c ∧ c ≤ 7) ∨ (z = 0 ∧ (c < 0 ∨ 7 < c))) ∧ h' = h)) := by
  obtain ⟨hc1, hc2⟩ := hc
  refine AMet.of (by decide) (Nat.le_of_ble_eq_true rfl) (fun G hM => ?_)
  have hG := hM.cx
  refine A_hm0 (G := G) (L := [(0, vI c)]) ?_
  refine A_iload_n hG 0 dX12_isSentence_0 rfl rfl ?_
  refine A_i2l hG dX12_isSentence_1 ?_
  refine A_lconst (v := i2l 0) hG dX12_isSentence_2 (by decide) ?_
  refine A_ldc2 (v := i2l 7) hG dX12_isSentence_3 (by rw [show i2l 7 = (7 : Int64) by decide]; exact kl_X12_132) ?_
  refine C_Si (as := [.long (i2l c), .long (i2l 0), .long (i2l 7)]) (st := []) hG dX12_isSentence_6 ml_X12_80 mf_X12_in ms_X12_in (r_in (hm h [] [] []) (by constructor <;> omega) (by constructor <;> omega) (by constructor <;> omega)) (by decide) (by decide) rfl rfl (by decide) (fun z6 g6 ri_6 hp_6 => ?_)
  obtain ⟨ra_6, rb_6⟩ := ri_6
  obtain ⟨hz6, rfl⟩ := hp_6
  exact Ret_z hM dX12_isSentence_9 (by omega) (⟨by omega, rfl⟩)

set_option maxHeartbeats 2000000 in
set_option maxRecDepth 20000 in
theorem r_wipe (h : AH) : AMet yX12_wipe cX12_wipe 2 (some .int) 0 0 [.ref 500] h (Qi (fun z h' => z = h.1 500 0 ∧ h' = hm h [(500, up (h.1 500) 0 0)] [] [])) := by
  refine AMet.of (by decide) (Nat.le_of_ble_eq_true rfl) (fun G hM => ?_)
  have hG := hM.cx
  refine A_hm0 (G := G) (L := [(0, .ref 500)]) ?_
  refine A_aload_n hG 0 dX12_wipe_0 rfl rfl ?_
  refine M_getI (v := h.1 500 0) hG dX12_wipe_1 fl_X12_84 (by decide) k500 rfl rfl rfl (fun ⟨ra_1, rb_1⟩ => ?_)
  refine A_istore_n (L' := [(1, vI (h.1 500 0)), (0, .ref 500)]) hG dX12_wipe_4 rfl (by decide) rfl ?_
  refine A_aload_n hG 1 dX12_wipe_5 rfl rfl ?_
  refine A_iconst (n := 0) hG dX12_wipe_6 ?_
  refine M_putI (li' := [(500, up (h.1 500) 0 0)]) hG dX12_wipe_7 fl_X12_84 (by decide) k500 nf_11_0 rfl rfl (by constructor <;> omega) (Or.inl rfl) rfl ?_
  refine A_iload_n hG 0 dX12_wipe_10 rfl rfl ?_
  exact Ret_i hM dX12_wipe_11 (by constructor <;> omega) (⟨rfl, rfl⟩)

set_option maxHeartbeats 2000000 in
set_option maxRecDepth 20000 in
theorem r_count (h : AH) {w : Int} (hw : ir w) (hl : ∀ s : Int, 0 ≤ s → s < 8 → 0 ≤ h.1 508 s ∧ h.1 508 s ≤ 8) : AMet yX12_count cX12_count 4 (some .int) 0 0 [.ref 500, vI w] h (Qi (fun z h' => ((w = 0 ∧ z = h.1 503 0) ∨ (w = 1 ∧ z = h.1 505 0) ∨ (w = 2 ∧ z = h.1 500 0) ∨ (w = 3 ∧ z = h.1 500 10) ∨ (w = 4 ∧ z = h.1 500 13) ∨ (w = 5 ∧ z = sumN (h.1 508) 8) ∨ ((w < 0 ∨ 5 < w) ∧ z = -1)) ∧ h' = h)) := by
  obtain ⟨hw1, hw2⟩ := hw
  refine AMet.of (by decide) (Nat.le_of_ble_eq_true rfl) (fun G hM => ?_)
  have hG := hM.cx
  refine A_hm0 (G := G) (L := [(0, .ref 500), (1, vI w)]) ?_
  refine A_iconst (n := 0) hG dX12_count_0 ?_
  refine A_istore_n (L' := [(2, vI 0), (0, .ref 500), (1, vI w)]) hG dX12_count_1 rfl (by decide) rfl ?_
  refine A_iload_n hG 2 dX12_count_2 rfl rfl ?_
  rcases (show w = 0 ∨ w = 1 ∨ w = 2 ∨ w = 3 ∨ w = 4 ∨ w = 5 ∨ w < 0 ∨ 5 < w by omega) with hsw | hsw | hsw | hsw | hsw | hsw | hsw
  ·
    refine A_tabIn hG 40 dX12_count_3 (by constructor <;> omega) (by omega) (by rw [hsw]; rfl) (by decide) ?_
    refine A_aload_n hG 1 dX12_count_40 rfl rfl ?_
    refine A_getR (r := 503) hG dX12_count_41 fl_X12_13 (by decide) k500 (by decide) rfl ?_
    refine A_iconst (n := 0) hG dX12_count_44 ?_
    refine M_iald (v := h.1 503 0) hG dX12_count_45 k503 n503 (by omega) rfl (fun ⟨ra_45, rb_45⟩ => ?_)
    exact Ret_i hM dX12_count_46 (by constructor <;> omega) (⟨by omega, rfl⟩)
  ·
    refine A_tabIn hG 47 dX12_count_3 (by constructor <;> omega) (by omega) (by rw [hsw]; rfl) (by decide) ?_
    refine A_aload_n hG 1 dX12_count_47 rfl rfl ?_
    refine A_getR (r := 505) hG dX12_count_48 fl_X12_19 (by decide) k500 (by decide) rfl ?_
    refine A_iconst (n := 0) hG dX12_count_51 ?_
    refine M_iald (v := h.1 505 0) hG dX12_count_52 k505 n505 (by omega) rfl (fun ⟨ra_52, rb_52⟩ => ?_)
    exact Ret_i hM dX12_count_53 (by constructor <;> omega) (⟨by omega, rfl⟩)
  ·
    refine A_tabIn hG 54 dX12_count_3 (by constructor <;> omega) (by omega) (by rw [hsw]; rfl) (by decide) ?_
    refine A_aload_n hG 1 dX12_count_54 rfl rfl ?_
    refine M_getI (v := h.1 500 0) hG dX12_count_55 fl_X12_84 (by decide) k500 rfl rfl rfl (fun ⟨ra_55, rb_55⟩ => ?_)
    exact Ret_i hM dX12_count_58 (by constructor <;> omega) (⟨by omega, rfl⟩)
  ·
    refine A_tabIn hG 59 dX12_count_3 (by constructor <;> omega) (by omega) (by rw [hsw]; rfl) (by decide) ?_
    refine A_aload_n hG 1 dX12_count_59 rfl rfl ?_
    refine M_getI (v := h.1 500 10) hG dX12_count_60 fl_X12_117 (by decide) k500 rfl rfl rfl (fun ⟨ra_60, rb_60⟩ => ?_)
    exact Ret_i hM dX12_count_63 (by constructor <;> omega) (⟨by omega, rfl⟩)
  ·
    refine A_tabIn hG 64 dX12_count_3 (by constructor <;> omega) (by omega) (by rw [hsw]; rfl) (by decide) ?_
    refine A_aload_n hG 1 dX12_count_64 rfl rfl ?_
    refine M_getI (v := h.1 500 13) hG dX12_count_65 fl_X12_120 (by decide) k500 rfl rfl rfl (fun ⟨ra_65, rb_65⟩ => ?_)
    exact Ret_i hM dX12_count_68 (by constructor <;> omega) (⟨by omega, rfl⟩)
  ·
    refine A_tabIn hG 69 dX12_count_3 (by constructor <;> omega) (by omega) (by rw [hsw]; rfl) (by decide) ?_
    refine A_iconst (n := 0) hG dX12_count_69 ?_
    refine A_istore_n (L' := [(3, vI 0), (2, vI 0), (0, .ref 500), (1, vI w)]) hG dX12_count_70 rfl (by decide) rfl ?_
    have a_0 : ∀ n : Nat, ∀ (x : Int) (k : Int) (j : Nat), (k = j) → (j ≤ 8) → (x = sumN (h.1 508) j) → (8 - j) < n → G 71 [(0, .ref 500), (2, vI x), (3, vI k)] [] (hm h [] [] []) := by
      intro n
      induction n with
      | zero => intro x k j hk hj hx hn; exact absurd hn (Nat.not_lt_zero _)
      | succ n ih_a =>
        intro x k j hk hj hx hn
        have hb := sumN_le (f := h.1 508) (b := 8) (n := j) (fun i h0 h1 => hl i h0 (by omega))
        refine A_iload_n hG 2 dX12_count_71 rfl rfl ?_
        refine A_bipush (n := 8) hG dX12_count_72 (by decide) ?_
        refine A_icmp_ge hG 92 dX12_count_74 (by decide) (by constructor <;> omega) (by constructor <;> omega) (fun c_74 => ?_) (fun c_74 => ?_)
        ·
          refine A_iload_n hG 1 dX12_count_92 rfl rfl ?_
          exact Ret_i hM dX12_count_93 (by constructor <;> omega) (⟨by (have e : j = 8 := (by omega)); subst e; omega, rfl⟩)
        ·
          refine A_iload_n hG 1 dX12_count_77 rfl rfl ?_
          refine A_aload_n hG 0 dX12_count_78 rfl rfl ?_
          refine A_getR (r := 508) hG dX12_count_79 fl_X12_28 (by decide) k500 (by decide) rfl ?_
          refine A_iload_n hG 2 dX12_count_82 rfl rfl ?_
          refine M_iald (v := h.1 508 k) hG dX12_count_83 k508 n508 (by omega) rfl (fun ⟨ra_83, rb_83⟩ => ?_)
          have hb2 := hl k (by omega) (by omega)
          refine A_iadd hG dX12_count_84 ?_
          refine A_istore_n (L' := [(2, vI (x + (h.1 508 k))), (0, .ref 500), (3, vI k)]) hG dX12_count_85 rfl (by decide) rfl ?_
          refine A_iinc (L' := [(3, vI (k + 1)), (2, vI (x + (h.1 508 k))), (0, .ref 500)]) hG 2 dX12_count_86 rfl (by decide) rfl ?_
          refine A_goto hG 71 dX12_count_89 (by decide) ?_
          refine A_sub hG [2, 1, 0] rfl ?_
          exact ih_a (x + (h.1 508 k)) (k + 1) (j + 1) (by omega) (by omega) (by simp only [sumN]; rw [hx, hk]) (by omega)
    refine A_sub hG [2, 1, 0] rfl ?_
    exact a_0 _ 0 0 0 (by omega) (by omega) rfl (Nat.lt_succ_self _)
  ·
    refine A_tabOut hG 94 dX12_count_3 (by constructor <;> omega) hsw (by decide) ?_
    refine A_iconst (n := -1) hG dX12_count_94 ?_
    exact Ret_i hM dX12_count_95 (by constructor <;> omega) (⟨by omega, rfl⟩)

set_option maxHeartbeats 2000000 in
set_option maxRecDepth 20000 in
theorem r_fitted (h : AH) {c : Int} (hc : 0 ≤ c ∧ c ≤ 4) (hn : 0 ≤ h.1 500 13 ∧ h.1 500 13 ≤ 60) : AMet yX12_fitted cX12_fitted 4 (some .int) 0 0 [.ref 500, vI c] h (Qi (fun z h' => ((h.1 500 13 = 0 ∧ z = h.1 507 c) ∨ (h.1 500 13 ≠ 0 ∧ z = 10 - idiv (9 * cntE (h.1 515) c (h.1 500 13).toNat) (h.1 500 13))) ∧ h' = h)) := by
  refine AMet.of (by decide) (Nat.le_of_ble_eq_true rfl) (fun G hM => ?_)
  have hG := hM.cx
  refine A_hm0 (G := G) (L := [(0, .ref 500), (1, vI c)]) ?_
  refine A_aload_n hG 0 dX12_fitted_0 rfl rfl ?_
  refine M_getI (v := h.1 500 13) hG dX12_fitted_1 fl_X12_120 (by decide) k500 rfl rfl rfl (fun ⟨ra_1, rb_1⟩ => ?_)
  refine A_if_ne hG 14 dX12_fitted_4 (by decide) (by constructor <;> omega) (fun c_4 => ?_) (fun c_4 => ?_)
  ·
    refine A_iconst (n := 0) hG dX12_fitted_14 ?_
    refine A_istore_n (L' := [(2, vI 0), (0, .ref 500), (1, vI c)]) hG dX12_fitted_15 rfl (by decide) rfl ?_
    refine A_iconst (n := 0) hG dX12_fitted_16 ?_
    refine A_istore_n (L' := [(3, vI 0), (2, vI 0), (0, .ref 500), (1, vI c)]) hG dX12_fitted_17 rfl (by decide) rfl ?_
    have a_0 : ∀ n : Nat, ∀ (x : Int) (k : Int) (j : Nat), (k = j) → (j ≤ (h.1 500 13).toNat) → (x = cntE (h.1 515) c j) → (60 - j) < n → G 18 [(0, .ref 500), (1, vI c), (2, vI x), (3, vI k)] [] (hm h [] [] []) := by
      intro n
      induction n with
      | zero => intro x k j hk hj hx hn; exact absurd hn (Nat.not_lt_zero _)
      | succ n ih_a =>
        intro x k j hk hj hx hn
        have hb := cntE_le (h.1 515) c j
        refine A_iload_n hG 3 dX12_fitted_18 rfl rfl ?_
        refine A_aload_n hG 0 dX12_fitted_19 rfl rfl ?_
        refine M_getI (v := h.1 500 13) hG dX12_fitted_20 fl_X12_120 (by decide) k500 rfl rfl rfl (fun ⟨ra_20, rb_20⟩ => ?_)
        refine A_icmp_ge hG 50 dX12_fitted_23 (by decide) (by constructor <;> omega) (by constructor <;> omega) (fun c_23 => ?_) (fun c_23 => ?_)
        ·
          refine A_bipush (n := 10) hG dX12_fitted_50 (by decide) ?_
          refine A_bipush (n := 9) hG dX12_fitted_52 (by decide) ?_
          refine A_iload_n hG 2 dX12_fitted_54 rfl rfl ?_
          refine A_imul hG dX12_fitted_55 ?_
          refine A_aload_n hG 0 dX12_fitted_56 rfl rfl ?_
          refine M_getI (v := h.1 500 13) hG dX12_fitted_57 fl_X12_120 (by decide) k500 rfl rfl rfl (fun ⟨ra_57, rb_57⟩ => ?_)
          refine A_idiv hG dX12_fitted_60 (by constructor <;> omega) (by omega) ?_
          refine A_isub hG dX12_fitted_61 ?_
          have hdv := idiv9 (n := h.1 500 13) (x := x) (by omega) (by omega)
          have hiv : ir (10 - idiv (9 * x) (h.1 500 13)) := by constructor <;> omega
          exact Ret_i hM dX12_fitted_62 hiv (⟨Or.inr ⟨by omega, by rw [hx, show j = (h.1 500 13).toNat from (by omega)]⟩, rfl⟩)
        ·
          refine A_iload_n hG 2 dX12_fitted_26 rfl rfl ?_
          refine A_aload_n hG 0 dX12_fitted_27 rfl rfl ?_
          refine A_getR (r := 515) hG dX12_fitted_28 fl_X12_43 (by decide) k500 (by decide) rfl ?_
          refine A_iload_n hG 3 dX12_fitted_31 rfl rfl ?_
          refine M_iald (v := h.1 515 k) hG dX12_fitted_32 k515 n515 (by omega) rfl (fun ⟨ra_32, rb_32⟩ => ?_)
          refine A_iload_n hG 1 dX12_fitted_33 rfl rfl ?_
          refine A_icmp_ne hG 41 dX12_fitted_34 (by decide) (by constructor <;> omega) (by constructor <;> omega) (fun c_34 => ?_) (fun c_34 => ?_)
          ·
            refine A_iconst (n := 0) hG dX12_fitted_41 ?_
            refine A_iadd hG dX12_fitted_42 ?_
            refine A_istore_n (L' := [(2, vI (x + 0)), (0, .ref 500), (1, vI c), (3, vI k)]) hG dX12_fitted_43 rfl (by decide) rfl ?_
            refine A_iinc (L' := [(3, vI (k + 1)), (2, vI (x + 0)), (0, .ref 500), (1, vI c)]) hG 3 dX12_fitted_44 rfl (by decide) rfl ?_
            refine A_goto hG 18 dX12_fitted_47 (by decide) ?_
            refine A_sub hG [2, 3, 1, 0] rfl ?_
            exact ih_a (x + 0) (k + 1) (j + 1) (by omega) (by omega) (by simp only [cntE]; rw [if_neg (by rw [← hk]; exact c_34), hx]) (by omega)
          ·
            refine A_iconst (n := 1) hG dX12_fitted_37 ?_
            refine A_goto hG 42 dX12_fitted_38 (by decide) ?_
            refine A_iadd hG dX12_fitted_42 ?_
            refine A_istore_n (L' := [(2, vI (x + 1)), (0, .ref 500), (1, vI c), (3, vI k)]) hG dX12_fitted_43 rfl (by decide) rfl ?_
            refine A_iinc (L' := [(3, vI (k + 1)), (2, vI (x + 1)), (0, .ref 500), (1, vI c)]) hG 3 dX12_fitted_44 rfl (by decide) rfl ?_
            refine A_goto hG 18 dX12_fitted_47 (by decide) ?_
            refine A_sub hG [2, 3, 1, 0] rfl ?_
            exact ih_a (x + 1) (k + 1) (j + 1) (by omega) (by omega) (by simp only [cntE]; rw [if_pos (by rw [← hk]; exact c_34), hx]) (by omega)
    refine A_sub hG [2, 3, 1, 0] rfl ?_
    exact a_0 _ 0 0 0 (by omega) (by omega) rfl (Nat.lt_succ_self _)
  ·
    refine A_aload_n hG 0 dX12_fitted_7 rfl rfl ?_
    refine A_getR (r := 507) hG dX12_fitted_8 fl_X12_25 (by decide) k500 (by decide) rfl ?_
    refine A_iload_n hG 1 dX12_fitted_11 rfl rfl ?_
    refine M_iald (v := h.1 507 c) hG dX12_fitted_12 k507 n507 (by omega) rfl (fun ⟨ra_12, rb_12⟩ => ?_)
    exact Ret_i hM dX12_fitted_13 (by constructor <;> omega) (⟨by omega, rfl⟩)

end
end
