section
-- ===== PART A: goes FIRST, ahead of the names: the tables' words, and 'selects' of the private methods out of them =====
/-- a private method of a class that the tables say can be made, by its rows of tables_1 -/
def lw_okq (q : MethodName × Nat) : Prop := (q.1.cls ≠ "java/lang/invoke/MethodHandle" ∧ q.1.cls ≠ "java/lang/invoke/VarHandle") ∧ Cond.instantiable q.1.cls q.2 ∈ tables_1 ∧ Cond.privateMethod q.1 ∈ tables_1 ∧ Cond.instanceMethod q.1 ∈ tables_1
theorem lw_p0 : lw_okq (⟨"SortTransform", "blockChanged", "()V"⟩, 8) := ⟨⟨by decide +kernel, by decide +kernel⟩, List.mem_of_getElem? (i := 17) (by decide +kernel), List.mem_of_getElem? (i := 342) (by decide +kernel), List.mem_of_getElem? (i := 343) (by decide +kernel)⟩
theorem lw_p1 : lw_okq (⟨"SortTransform", "benchUsed", "()V"⟩, 8) := ⟨⟨by decide +kernel, by decide +kernel⟩, List.mem_of_getElem? (i := 17) (by decide +kernel), List.mem_of_getElem? (i := 346) (by decide +kernel), List.mem_of_getElem? (i := 347) (by decide +kernel)⟩
theorem lw_p2 : lw_okq (⟨"SortTransform", "freshenPack", "()V"⟩, 8) := ⟨⟨by decide +kernel, by decide +kernel⟩, List.mem_of_getElem? (i := 17) (by decide +kernel), List.mem_of_getElem? (i := 382) (by decide +kernel), List.mem_of_getElem? (i := 383) (by decide +kernel)⟩
theorem lw_p3 : lw_okq (⟨"SortTransform", "freshenTurns", "()V"⟩, 8) := ⟨⟨by decide +kernel, by decide +kernel⟩, List.mem_of_getElem? (i := 17) (by decide +kernel), List.mem_of_getElem? (i := 400) (by decide +kernel), List.mem_of_getElem? (i := 401) (by decide +kernel)⟩
theorem lw_p4 : lw_okq (⟨"SortTransform$Turns", "lineUp", "()V"⟩, 9) := ⟨⟨by decide +kernel, by decide +kernel⟩, List.mem_of_getElem? (i := 56) (by decide +kernel), List.mem_of_getElem? (i := 412) (by decide +kernel), List.mem_of_getElem? (i := 413) (by decide +kernel)⟩
theorem lw_p5 : lw_okq (⟨"SortTransform$Turns", "sortByRank", "()V"⟩, 9) := ⟨⟨by decide +kernel, by decide +kernel⟩, List.mem_of_getElem? (i := 56) (by decide +kernel), List.mem_of_getElem? (i := 416) (by decide +kernel), List.mem_of_getElem? (i := 417) (by decide +kernel)⟩
theorem lw_p6 : lw_okq (⟨"SortTransform$Turns", "numberRanks", "(I)V"⟩, 9) := ⟨⟨by decide +kernel, by decide +kernel⟩, List.mem_of_getElem? (i := 56) (by decide +kernel), List.mem_of_getElem? (i := 420) (by decide +kernel), List.mem_of_getElem? (i := 421) (by decide +kernel)⟩
theorem lw_p7 : lw_okq (⟨"SortTransform$Turns", "around", "(I)I"⟩, 9) := ⟨⟨by decide +kernel, by decide +kernel⟩, List.mem_of_getElem? (i := 56) (by decide +kernel), List.mem_of_getElem? (i := 424) (by decide +kernel), List.mem_of_getElem? (i := 425) (by decide +kernel)⟩
theorem lw_p8 : lw_okq (⟨"SortTransform$Turns", "shift", "(I)V"⟩, 9) := ⟨⟨by decide +kernel, by decide +kernel⟩, List.mem_of_getElem? (i := 56) (by decide +kernel), List.mem_of_getElem? (i := 431) (by decide +kernel), List.mem_of_getElem? (i := 432) (by decide +kernel)⟩
theorem lw_p9 : lw_okq (⟨"SortTransform$Turns", "notePlaces", "(LSortTransform$Row;)V"⟩, 9) := ⟨⟨by decide +kernel, by decide +kernel⟩, List.mem_of_getElem? (i := 56) (by decide +kernel), List.mem_of_getElem? (i := 435) (by decide +kernel), List.mem_of_getElem? (i := 436) (by decide +kernel)⟩
theorem lw_p10 : lw_okq (⟨"SortTransform", "turnBegins", "(IJI)Z"⟩, 8) := ⟨⟨by decide +kernel, by decide +kernel⟩, List.mem_of_getElem? (i := 17) (by decide +kernel), List.mem_of_getElem? (i := 469) (by decide +kernel), List.mem_of_getElem? (i := 470) (by decide +kernel)⟩
theorem lw_p11 : lw_okq (⟨"SortTransform", "freshenCodes", "()V"⟩, 8) := ⟨⟨by decide +kernel, by decide +kernel⟩, List.mem_of_getElem? (i := 17) (by decide +kernel), List.mem_of_getElem? (i := 524) (by decide +kernel), List.mem_of_getElem? (i := 525) (by decide +kernel)⟩
theorem lw_p12 : lw_okq (⟨"SortTransform$Symbols", "addDigits", "(I)V"⟩, 4) := ⟨⟨by decide +kernel, by decide +kernel⟩, List.mem_of_getElem? (i := 112) (by decide +kernel), List.mem_of_getElem? (i := 543) (by decide +kernel), List.mem_of_getElem? (i := 544) (by decide +kernel)⟩
theorem lw_p13 : lw_okq (⟨"SortTransform$Symbols", "addSymbol", "(I)V"⟩, 4) := ⟨⟨by decide +kernel, by decide +kernel⟩, List.mem_of_getElem? (i := 112) (by decide +kernel), List.mem_of_getElem? (i := 547) (by decide +kernel), List.mem_of_getElem? (i := 548) (by decide +kernel)⟩
theorem lw_p14 : lw_okq (⟨"SortTransform$Codes", "weigh", "(LSortTransform$Symbols;)V"⟩, 7) := ⟨⟨by decide +kernel, by decide +kernel⟩, List.mem_of_getElem? (i := 153) (by decide +kernel), List.mem_of_getElem? (i := 560) (by decide +kernel), List.mem_of_getElem? (i := 561) (by decide +kernel)⟩
theorem lw_p15 : lw_okq (⟨"SortTransform$Joiner", "push", "(I)V"⟩, 5) := ⟨⟨by decide +kernel, by decide +kernel⟩, List.mem_of_getElem? (i := 159) (by decide +kernel), List.mem_of_getElem? (i := 578) (by decide +kernel), List.mem_of_getElem? (i := 579) (by decide +kernel)⟩
def lw_privs_1 : List (MethodName × Nat) := [(⟨"SortTransform", "blockChanged", "()V"⟩, 8), (⟨"SortTransform", "benchUsed", "()V"⟩, 8), (⟨"SortTransform", "freshenPack", "()V"⟩, 8), (⟨"SortTransform", "freshenTurns", "()V"⟩, 8), (⟨"SortTransform$Turns", "lineUp", "()V"⟩, 9), (⟨"SortTransform$Turns", "sortByRank", "()V"⟩, 9), (⟨"SortTransform$Turns", "numberRanks", "(I)V"⟩, 9), (⟨"SortTransform$Turns", "around", "(I)I"⟩, 9), (⟨"SortTransform$Turns", "shift", "(I)V"⟩, 9), (⟨"SortTransform$Turns", "notePlaces", "(LSortTransform$Row;)V"⟩, 9), (⟨"SortTransform", "turnBegins", "(IJI)Z"⟩, 8), (⟨"SortTransform", "freshenCodes", "()V"⟩, 8), (⟨"SortTransform$Symbols", "addDigits", "(I)V"⟩, 4), (⟨"SortTransform$Symbols", "addSymbol", "(I)V"⟩, 4), (⟨"SortTransform$Codes", "weigh", "(LSortTransform$Symbols;)V"⟩, 7), (⟨"SortTransform$Joiner", "push", "(I)V"⟩, 5)]
theorem lw_r1 : ∀ q ∈ lw_privs_1, lw_okq q := List.forall_mem_cons.mpr ⟨lw_p0, List.forall_mem_cons.mpr ⟨lw_p1, List.forall_mem_cons.mpr ⟨lw_p2, List.forall_mem_cons.mpr ⟨lw_p3, List.forall_mem_cons.mpr ⟨lw_p4, List.forall_mem_cons.mpr ⟨lw_p5, List.forall_mem_cons.mpr ⟨lw_p6, List.forall_mem_cons.mpr ⟨lw_p7, List.forall_mem_cons.mpr ⟨lw_p8, List.forall_mem_cons.mpr ⟨lw_p9, List.forall_mem_cons.mpr ⟨lw_p10, List.forall_mem_cons.mpr ⟨lw_p11, List.forall_mem_cons.mpr ⟨lw_p12, List.forall_mem_cons.mpr ⟨lw_p13, List.forall_mem_cons.mpr ⟨lw_p14, List.forall_mem_cons.mpr ⟨lw_p15, fun _ h => absurd h List.not_mem_nil⟩⟩⟩⟩⟩⟩⟩⟩⟩⟩⟩⟩⟩⟩⟩⟩
theorem lw_p16 : lw_okq (⟨"SortTransform$Joiner", "joinTwo", "(I)V"⟩, 5) := ⟨⟨by decide +kernel, by decide +kernel⟩, List.mem_of_getElem? (i := 159) (by decide +kernel), List.mem_of_getElem? (i := 582) (by decide +kernel), List.mem_of_getElem? (i := 583) (by decide +kernel)⟩
theorem lw_p17 : lw_okq (⟨"SortTransform$Joiner", "pop", "()I"⟩, 5) := ⟨⟨by decide +kernel, by decide +kernel⟩, List.mem_of_getElem? (i := 159) (by decide +kernel), List.mem_of_getElem? (i := 586) (by decide +kernel), List.mem_of_getElem? (i := 587) (by decide +kernel)⟩
theorem lw_p18 : lw_okq (⟨"SortTransform$Joiner", "measureDepths", "(II[I)I"⟩, 5) := ⟨⟨by decide +kernel, by decide +kernel⟩, List.mem_of_getElem? (i := 159) (by decide +kernel), List.mem_of_getElem? (i := 591) (by decide +kernel), List.mem_of_getElem? (i := 592) (by decide +kernel)⟩
theorem lw_p19 : lw_okq (⟨"SortTransform$StreamWriter", "put", "(II)V"⟩, 3) := ⟨⟨by decide +kernel, by decide +kernel⟩, List.mem_of_getElem? (i := 241) (by decide +kernel), List.mem_of_getElem? (i := 632) (by decide +kernel), List.mem_of_getElem? (i := 633) (by decide +kernel)⟩
theorem lw_p20 : lw_okq (⟨"SortTransform$StreamWriter", "putList", "(LSortTransform$FrontList;)V"⟩, 3) := ⟨⟨by decide +kernel, by decide +kernel⟩, List.mem_of_getElem? (i := 241) (by decide +kernel), List.mem_of_getElem? (i := 640) (by decide +kernel), List.mem_of_getElem? (i := 641) (by decide +kernel)⟩
theorem lw_p21 : lw_okq (⟨"SortTransform$StreamWriter", "putLengths", "(LSortTransform$Codes;)V"⟩, 3) := ⟨⟨by decide +kernel, by decide +kernel⟩, List.mem_of_getElem? (i := 241) (by decide +kernel), List.mem_of_getElem? (i := 654) (by decide +kernel), List.mem_of_getElem? (i := 655) (by decide +kernel)⟩
theorem lw_p22 : lw_okq (⟨"SortTransform$StreamWriter", "putCodes", "(LSortTransform$Symbols;LSortTransform$Codes;)V"⟩, 3) := ⟨⟨by decide +kernel, by decide +kernel⟩, List.mem_of_getElem? (i := 241) (by decide +kernel), List.mem_of_getElem? (i := 659) (by decide +kernel), List.mem_of_getElem? (i := 660) (by decide +kernel)⟩
theorem lw_p23 : lw_okq (⟨"SortTransform$StreamReader", "readHead", "()Z"⟩, 9) := ⟨⟨by decide +kernel, by decide +kernel⟩, List.mem_of_getElem? (i := 260) (by decide +kernel), List.mem_of_getElem? (i := 699) (by decide +kernel), List.mem_of_getElem? (i := 700) (by decide +kernel)⟩
theorem lw_p24 : lw_okq (⟨"SortTransform$StreamReader", "lacks", "(I)Z"⟩, 9) := ⟨⟨by decide +kernel, by decide +kernel⟩, List.mem_of_getElem? (i := 260) (by decide +kernel), List.mem_of_getElem? (i := 703) (by decide +kernel), List.mem_of_getElem? (i := 704) (by decide +kernel)⟩
theorem lw_p25 : lw_okq (⟨"SortTransform$StreamReader", "tapeEnds", "()Z"⟩, 9) := ⟨⟨by decide +kernel, by decide +kernel⟩, List.mem_of_getElem? (i := 260) (by decide +kernel), List.mem_of_getElem? (i := 707) (by decide +kernel), List.mem_of_getElem? (i := 708) (by decide +kernel)⟩
theorem lw_p26 : lw_okq (⟨"SortTransform$StreamReader", "fails", "(II)Z"⟩, 9) := ⟨⟨by decide +kernel, by decide +kernel⟩, List.mem_of_getElem? (i := 260) (by decide +kernel), List.mem_of_getElem? (i := 711) (by decide +kernel), List.mem_of_getElem? (i := 712) (by decide +kernel)⟩
theorem lw_p27 : lw_okq (⟨"SortTransform$StreamReader", "next", "(I)I"⟩, 9) := ⟨⟨by decide +kernel, by decide +kernel⟩, List.mem_of_getElem? (i := 260) (by decide +kernel), List.mem_of_getElem? (i := 715) (by decide +kernel), List.mem_of_getElem? (i := 716) (by decide +kernel)⟩
theorem lw_p28 : lw_okq (⟨"SortTransform$StreamReader", "byteNow", "()I"⟩, 9) := ⟨⟨by decide +kernel, by decide +kernel⟩, List.mem_of_getElem? (i := 260) (by decide +kernel), List.mem_of_getElem? (i := 719) (by decide +kernel), List.mem_of_getElem? (i := 720) (by decide +kernel)⟩
theorem lw_p29 : lw_okq (⟨"SortTransform$StreamReader", "readList", "(LSortTransform$FrontList;)Z"⟩, 9) := ⟨⟨by decide +kernel, by decide +kernel⟩, List.mem_of_getElem? (i := 260) (by decide +kernel), List.mem_of_getElem? (i := 724) (by decide +kernel), List.mem_of_getElem? (i := 725) (by decide +kernel)⟩
theorem lw_p30 : lw_okq (⟨"SortTransform$StreamReader", "readSixteenth", "(LSortTransform$FrontList;I)Z"⟩, 9) := ⟨⟨by decide +kernel, by decide +kernel⟩, List.mem_of_getElem? (i := 260) (by decide +kernel), List.mem_of_getElem? (i := 735) (by decide +kernel), List.mem_of_getElem? (i := 736) (by decide +kernel)⟩
theorem lw_p31 : lw_okq (⟨"SortTransform$StreamReader", "readLengths", "(LSortTransform$Codes;I)Z"⟩, 9) := ⟨⟨by decide +kernel, by decide +kernel⟩, List.mem_of_getElem? (i := 260) (by decide +kernel), List.mem_of_getElem? (i := 743) (by decide +kernel), List.mem_of_getElem? (i := 744) (by decide +kernel)⟩
def lw_privs_2 : List (MethodName × Nat) := [(⟨"SortTransform$Joiner", "joinTwo", "(I)V"⟩, 5), (⟨"SortTransform$Joiner", "pop", "()I"⟩, 5), (⟨"SortTransform$Joiner", "measureDepths", "(II[I)I"⟩, 5), (⟨"SortTransform$StreamWriter", "put", "(II)V"⟩, 3), (⟨"SortTransform$StreamWriter", "putList", "(LSortTransform$FrontList;)V"⟩, 3), (⟨"SortTransform$StreamWriter", "putLengths", "(LSortTransform$Codes;)V"⟩, 3), (⟨"SortTransform$StreamWriter", "putCodes", "(LSortTransform$Symbols;LSortTransform$Codes;)V"⟩, 3), (⟨"SortTransform$StreamReader", "readHead", "()Z"⟩, 9), (⟨"SortTransform$StreamReader", "lacks", "(I)Z"⟩, 9), (⟨"SortTransform$StreamReader", "tapeEnds", "()Z"⟩, 9), (⟨"SortTransform$StreamReader", "fails", "(II)Z"⟩, 9), (⟨"SortTransform$StreamReader", "next", "(I)I"⟩, 9), (⟨"SortTransform$StreamReader", "byteNow", "()I"⟩, 9), (⟨"SortTransform$StreamReader", "readList", "(LSortTransform$FrontList;)Z"⟩, 9), (⟨"SortTransform$StreamReader", "readSixteenth", "(LSortTransform$FrontList;I)Z"⟩, 9), (⟨"SortTransform$StreamReader", "readLengths", "(LSortTransform$Codes;I)Z"⟩, 9)]
theorem lw_r2 : ∀ q ∈ lw_privs_2, lw_okq q := List.forall_mem_cons.mpr ⟨lw_p16, List.forall_mem_cons.mpr ⟨lw_p17, List.forall_mem_cons.mpr ⟨lw_p18, List.forall_mem_cons.mpr ⟨lw_p19, List.forall_mem_cons.mpr ⟨lw_p20, List.forall_mem_cons.mpr ⟨lw_p21, List.forall_mem_cons.mpr ⟨lw_p22, List.forall_mem_cons.mpr ⟨lw_p23, List.forall_mem_cons.mpr ⟨lw_p24, List.forall_mem_cons.mpr ⟨lw_p25, List.forall_mem_cons.mpr ⟨lw_p26, List.forall_mem_cons.mpr ⟨lw_p27, List.forall_mem_cons.mpr ⟨lw_p28, List.forall_mem_cons.mpr ⟨lw_p29, List.forall_mem_cons.mpr ⟨lw_p30, List.forall_mem_cons.mpr ⟨lw_p31, fun _ h => absurd h List.not_mem_nil⟩⟩⟩⟩⟩⟩⟩⟩⟩⟩⟩⟩⟩⟩⟩⟩
theorem lw_p32 : lw_okq (⟨"SortTransform$StreamReader", "readLength", "(LSortTransform$Codes;I)Z"⟩, 9) := ⟨⟨by decide +kernel, by decide +kernel⟩, List.mem_of_getElem? (i := 260) (by decide +kernel), List.mem_of_getElem? (i := 754) (by decide +kernel), List.mem_of_getElem? (i := 755) (by decide +kernel)⟩
theorem lw_p33 : lw_okq (⟨"SortTransform$StreamReader", "readSymbols", "(LSortTransform$Codes;LSortTransform$FrontList;)Z"⟩, 9) := ⟨⟨by decide +kernel, by decide +kernel⟩, List.mem_of_getElem? (i := 260) (by decide +kernel), List.mem_of_getElem? (i := 767) (by decide +kernel), List.mem_of_getElem? (i := 768) (by decide +kernel)⟩
theorem lw_p34 : lw_okq (⟨"SortTransform$StreamReader", "nextSymbol", "(LSortTransform$Codes;)I"⟩, 9) := ⟨⟨by decide +kernel, by decide +kernel⟩, List.mem_of_getElem? (i := 260) (by decide +kernel), List.mem_of_getElem? (i := 771) (by decide +kernel), List.mem_of_getElem? (i := 772) (by decide +kernel)⟩
theorem lw_p35 : lw_okq (⟨"SortTransform$StreamReader", "isGivenBack", "(LSortTransform$Bench;)Z"⟩, 9) := ⟨⟨by decide +kernel, by decide +kernel⟩, List.mem_of_getElem? (i := 260) (by decide +kernel), List.mem_of_getElem? (i := 782) (by decide +kernel), List.mem_of_getElem? (i := 783) (by decide +kernel)⟩
theorem lw_p36 : lw_okq (⟨"SortTransform$StreamReader", "isAtEnd", "()Z"⟩, 9) := ⟨⟨by decide +kernel, by decide +kernel⟩, List.mem_of_getElem? (i := 260) (by decide +kernel), List.mem_of_getElem? (i := 796) (by decide +kernel), List.mem_of_getElem? (i := 797) (by decide +kernel)⟩
theorem lw_p37 : lw_okq (⟨"SortTransformModel", "packBlock", "()V"⟩, 31) := ⟨⟨by decide +kernel, by decide +kernel⟩, List.mem_of_getElem? (i := 808) (by decide +kernel), List.mem_of_getElem? (i := 936) (by decide +kernel), List.mem_of_getElem? (i := 937) (by decide +kernel)⟩
theorem lw_p38 : lw_okq (⟨"SortTransformModel", "lay", "()V"⟩, 31) := ⟨⟨by decide +kernel, by decide +kernel⟩, List.mem_of_getElem? (i := 808) (by decide +kernel), List.mem_of_getElem? (i := 948) (by decide +kernel), List.mem_of_getElem? (i := 949) (by decide +kernel)⟩
theorem lw_p39 : lw_okq (⟨"SortTransformModel", "takeBlock", "()V"⟩, 31) := ⟨⟨by decide +kernel, by decide +kernel⟩, List.mem_of_getElem? (i := 808) (by decide +kernel), List.mem_of_getElem? (i := 952) (by decide +kernel), List.mem_of_getElem? (i := 953) (by decide +kernel)⟩
theorem lw_p40 : lw_okq (⟨"SortTransformModel", "putInOrder", "()V"⟩, 31) := ⟨⟨by decide +kernel, by decide +kernel⟩, List.mem_of_getElem? (i := 808) (by decide +kernel), List.mem_of_getElem? (i := 956) (by decide +kernel), List.mem_of_getElem? (i := 957) (by decide +kernel)⟩
theorem lw_p41 : lw_okq (⟨"SortTransformModel", "isAbove", "(II)Z"⟩, 31) := ⟨⟨by decide +kernel, by decide +kernel⟩, List.mem_of_getElem? (i := 808) (by decide +kernel), List.mem_of_getElem? (i := 960) (by decide +kernel), List.mem_of_getElem? (i := 961) (by decide +kernel)⟩
theorem lw_p42 : lw_okq (⟨"SortTransformModel", "parts", "(II)I"⟩, 31) := ⟨⟨by decide +kernel, by decide +kernel⟩, List.mem_of_getElem? (i := 808) (by decide +kernel), List.mem_of_getElem? (i := 964) (by decide +kernel), List.mem_of_getElem? (i := 965) (by decide +kernel)⟩
theorem lw_p43 : lw_okq (⟨"SortTransformModel", "originOf", "()I"⟩, 31) := ⟨⟨by decide +kernel, by decide +kernel⟩, List.mem_of_getElem? (i := 808) (by decide +kernel), List.mem_of_getElem? (i := 968) (by decide +kernel), List.mem_of_getElem? (i := 969) (by decide +kernel)⟩
theorem lw_p44 : lw_okq (⟨"SortTransformModel", "givesBack", "(I)Z"⟩, 31) := ⟨⟨by decide +kernel, by decide +kernel⟩, List.mem_of_getElem? (i := 808) (by decide +kernel), List.mem_of_getElem? (i := 998) (by decide +kernel), List.mem_of_getElem? (i := 999) (by decide +kernel)⟩
theorem lw_p45 : lw_okq (⟨"SortTransformModel", "nexts", "()V"⟩, 31) := ⟨⟨by decide +kernel, by decide +kernel⟩, List.mem_of_getElem? (i := 808) (by decide +kernel), List.mem_of_getElem? (i := 1002) (by decide +kernel), List.mem_of_getElem? (i := 1003) (by decide +kernel)⟩
theorem lw_p46 : lw_okq (⟨"SortTransformModel", "lastAt", "(I)I"⟩, 31) := ⟨⟨by decide +kernel, by decide +kernel⟩, List.mem_of_getElem? (i := 808) (by decide +kernel), List.mem_of_getElem? (i := 1006) (by decide +kernel), List.mem_of_getElem? (i := 1007) (by decide +kernel)⟩
theorem lw_p47 : lw_okq (⟨"SortTransformModel", "makeSymbols", "()V"⟩, 31) := ⟨⟨by decide +kernel, by decide +kernel⟩, List.mem_of_getElem? (i := 808) (by decide +kernel), List.mem_of_getElem? (i := 1018) (by decide +kernel), List.mem_of_getElem? (i := 1019) (by decide +kernel)⟩
def lw_privs_3 : List (MethodName × Nat) := [(⟨"SortTransform$StreamReader", "readLength", "(LSortTransform$Codes;I)Z"⟩, 9), (⟨"SortTransform$StreamReader", "readSymbols", "(LSortTransform$Codes;LSortTransform$FrontList;)Z"⟩, 9), (⟨"SortTransform$StreamReader", "nextSymbol", "(LSortTransform$Codes;)I"⟩, 9), (⟨"SortTransform$StreamReader", "isGivenBack", "(LSortTransform$Bench;)Z"⟩, 9), (⟨"SortTransform$StreamReader", "isAtEnd", "()Z"⟩, 9), (⟨"SortTransformModel", "packBlock", "()V"⟩, 31), (⟨"SortTransformModel", "lay", "()V"⟩, 31), (⟨"SortTransformModel", "takeBlock", "()V"⟩, 31), (⟨"SortTransformModel", "putInOrder", "()V"⟩, 31), (⟨"SortTransformModel", "isAbove", "(II)Z"⟩, 31), (⟨"SortTransformModel", "parts", "(II)I"⟩, 31), (⟨"SortTransformModel", "originOf", "()I"⟩, 31), (⟨"SortTransformModel", "givesBack", "(I)Z"⟩, 31), (⟨"SortTransformModel", "nexts", "()V"⟩, 31), (⟨"SortTransformModel", "lastAt", "(I)I"⟩, 31), (⟨"SortTransformModel", "makeSymbols", "()V"⟩, 31)]
theorem lw_r3 : ∀ q ∈ lw_privs_3, lw_okq q := List.forall_mem_cons.mpr ⟨lw_p32, List.forall_mem_cons.mpr ⟨lw_p33, List.forall_mem_cons.mpr ⟨lw_p34, List.forall_mem_cons.mpr ⟨lw_p35, List.forall_mem_cons.mpr ⟨lw_p36, List.forall_mem_cons.mpr ⟨lw_p37, List.forall_mem_cons.mpr ⟨lw_p38, List.forall_mem_cons.mpr ⟨lw_p39, List.forall_mem_cons.mpr ⟨lw_p40, List.forall_mem_cons.mpr ⟨lw_p41, List.forall_mem_cons.mpr ⟨lw_p42, List.forall_mem_cons.mpr ⟨lw_p43, List.forall_mem_cons.mpr ⟨lw_p44, List.forall_mem_cons.mpr ⟨lw_p45, List.forall_mem_cons.mpr ⟨lw_p46, List.forall_mem_cons.mpr ⟨lw_p47, fun _ h => absurd h List.not_mem_nil⟩⟩⟩⟩⟩⟩⟩⟩⟩⟩⟩⟩⟩⟩⟩⟩
theorem lw_p48 : lw_okq (⟨"SortTransformModel", "rowHas", "(I)Z"⟩, 31) := ⟨⟨by decide +kernel, by decide +kernel⟩, List.mem_of_getElem? (i := 808) (by decide +kernel), List.mem_of_getElem? (i := 1022) (by decide +kernel), List.mem_of_getElem? (i := 1023) (by decide +kernel)⟩
theorem lw_p49 : lw_okq (⟨"SortTransformModel", "toFront", "(I)I"⟩, 31) := ⟨⟨by decide +kernel, by decide +kernel⟩, List.mem_of_getElem? (i := 808) (by decide +kernel), List.mem_of_getElem? (i := 1026) (by decide +kernel), List.mem_of_getElem? (i := 1027) (by decide +kernel)⟩
theorem lw_p50 : lw_okq (⟨"SortTransformModel", "putNoughts", "(I)V"⟩, 31) := ⟨⟨by decide +kernel, by decide +kernel⟩, List.mem_of_getElem? (i := 808) (by decide +kernel), List.mem_of_getElem? (i := 1030) (by decide +kernel), List.mem_of_getElem? (i := 1031) (by decide +kernel)⟩
theorem lw_p51 : lw_okq (⟨"SortTransformModel", "makeLengths", "()V"⟩, 31) := ⟨⟨by decide +kernel, by decide +kernel⟩, List.mem_of_getElem? (i := 808) (by decide +kernel), List.mem_of_getElem? (i := 1038) (by decide +kernel), List.mem_of_getElem? (i := 1039) (by decide +kernel)⟩
theorem lw_p52 : lw_okq (⟨"SortTransformModel", "join", "(I)V"⟩, 31) := ⟨⟨by decide +kernel, by decide +kernel⟩, List.mem_of_getElem? (i := 808) (by decide +kernel), List.mem_of_getElem? (i := 1042) (by decide +kernel), List.mem_of_getElem? (i := 1043) (by decide +kernel)⟩
theorem lw_p53 : lw_okq (⟨"SortTransformModel", "lightest", "(II)I"⟩, 31) := ⟨⟨by decide +kernel, by decide +kernel⟩, List.mem_of_getElem? (i := 808) (by decide +kernel), List.mem_of_getElem? (i := 1046) (by decide +kernel), List.mem_of_getElem? (i := 1047) (by decide +kernel)⟩
theorem lw_p54 : lw_okq (⟨"SortTransformModel", "makeCodes", "(I)V"⟩, 31) := ⟨⟨by decide +kernel, by decide +kernel⟩, List.mem_of_getElem? (i := 808) (by decide +kernel), List.mem_of_getElem? (i := 1050) (by decide +kernel), List.mem_of_getElem? (i := 1051) (by decide +kernel)⟩
theorem lw_p55 : lw_okq (⟨"SortTransformModel", "put", "(JI)V"⟩, 31) := ⟨⟨by decide +kernel, by decide +kernel⟩, List.mem_of_getElem? (i := 808) (by decide +kernel), List.mem_of_getElem? (i := 1068) (by decide +kernel), List.mem_of_getElem? (i := 1069) (by decide +kernel)⟩
theorem lw_p56 : lw_okq (⟨"SortTransformModel", "writeRow", "()V"⟩, 31) := ⟨⟨by decide +kernel, by decide +kernel⟩, List.mem_of_getElem? (i := 808) (by decide +kernel), List.mem_of_getElem? (i := 1074) (by decide +kernel), List.mem_of_getElem? (i := 1075) (by decide +kernel)⟩
theorem lw_p57 : lw_okq (⟨"SortTransformModel", "reads", "()Z"⟩, 31) := ⟨⟨by decide +kernel, by decide +kernel⟩, List.mem_of_getElem? (i := 808) (by decide +kernel), List.mem_of_getElem? (i := 1104) (by decide +kernel), List.mem_of_getElem? (i := 1105) (by decide +kernel)⟩
theorem lw_p58 : lw_okq (⟨"SortTransformModel", "get", "(I)J"⟩, 31) := ⟨⟨by decide +kernel, by decide +kernel⟩, List.mem_of_getElem? (i := 808) (by decide +kernel), List.mem_of_getElem? (i := 1108) (by decide +kernel), List.mem_of_getElem? (i := 1109) (by decide +kernel)⟩
theorem lw_p59 : lw_okq (⟨"SortTransformModel", "wrong", "(II)Z"⟩, 31) := ⟨⟨by decide +kernel, by decide +kernel⟩, List.mem_of_getElem? (i := 808) (by decide +kernel), List.mem_of_getElem? (i := 1112) (by decide +kernel), List.mem_of_getElem? (i := 1113) (by decide +kernel)⟩
theorem lw_p60 : lw_okq (⟨"SortTransformModel", "readsList", "()Z"⟩, 31) := ⟨⟨by decide +kernel, by decide +kernel⟩, List.mem_of_getElem? (i := 808) (by decide +kernel), List.mem_of_getElem? (i := 1116) (by decide +kernel), List.mem_of_getElem? (i := 1117) (by decide +kernel)⟩
theorem lw_p61 : lw_okq (⟨"SortTransformModel", "readsLengths", "()Z"⟩, 31) := ⟨⟨by decide +kernel, by decide +kernel⟩, List.mem_of_getElem? (i := 808) (by decide +kernel), List.mem_of_getElem? (i := 1120) (by decide +kernel), List.mem_of_getElem? (i := 1121) (by decide +kernel)⟩
theorem lw_p62 : lw_okq (⟨"SortTransformModel", "readsRow", "(I)Z"⟩, 31) := ⟨⟨by decide +kernel, by decide +kernel⟩, List.mem_of_getElem? (i := 808) (by decide +kernel), List.mem_of_getElem? (i := 1126) (by decide +kernel), List.mem_of_getElem? (i := 1127) (by decide +kernel)⟩
theorem lw_p63 : lw_okq (⟨"SortTransformModel", "readsSymbol", "()I"⟩, 31) := ⟨⟨by decide +kernel, by decide +kernel⟩, List.mem_of_getElem? (i := 808) (by decide +kernel), List.mem_of_getElem? (i := 1130) (by decide +kernel), List.mem_of_getElem? (i := 1131) (by decide +kernel)⟩
def lw_privs_4 : List (MethodName × Nat) := [(⟨"SortTransformModel", "rowHas", "(I)Z"⟩, 31), (⟨"SortTransformModel", "toFront", "(I)I"⟩, 31), (⟨"SortTransformModel", "putNoughts", "(I)V"⟩, 31), (⟨"SortTransformModel", "makeLengths", "()V"⟩, 31), (⟨"SortTransformModel", "join", "(I)V"⟩, 31), (⟨"SortTransformModel", "lightest", "(II)I"⟩, 31), (⟨"SortTransformModel", "makeCodes", "(I)V"⟩, 31), (⟨"SortTransformModel", "put", "(JI)V"⟩, 31), (⟨"SortTransformModel", "writeRow", "()V"⟩, 31), (⟨"SortTransformModel", "reads", "()Z"⟩, 31), (⟨"SortTransformModel", "get", "(I)J"⟩, 31), (⟨"SortTransformModel", "wrong", "(II)Z"⟩, 31), (⟨"SortTransformModel", "readsList", "()Z"⟩, 31), (⟨"SortTransformModel", "readsLengths", "()Z"⟩, 31), (⟨"SortTransformModel", "readsRow", "(I)Z"⟩, 31), (⟨"SortTransformModel", "readsSymbol", "()I"⟩, 31)]
theorem lw_r4 : ∀ q ∈ lw_privs_4, lw_okq q := List.forall_mem_cons.mpr ⟨lw_p48, List.forall_mem_cons.mpr ⟨lw_p49, List.forall_mem_cons.mpr ⟨lw_p50, List.forall_mem_cons.mpr ⟨lw_p51, List.forall_mem_cons.mpr ⟨lw_p52, List.forall_mem_cons.mpr ⟨lw_p53, List.forall_mem_cons.mpr ⟨lw_p54, List.forall_mem_cons.mpr ⟨lw_p55, List.forall_mem_cons.mpr ⟨lw_p56, List.forall_mem_cons.mpr ⟨lw_p57, List.forall_mem_cons.mpr ⟨lw_p58, List.forall_mem_cons.mpr ⟨lw_p59, List.forall_mem_cons.mpr ⟨lw_p60, List.forall_mem_cons.mpr ⟨lw_p61, List.forall_mem_cons.mpr ⟨lw_p62, List.forall_mem_cons.mpr ⟨lw_p63, fun _ h => absurd h List.not_mem_nil⟩⟩⟩⟩⟩⟩⟩⟩⟩⟩⟩⟩⟩⟩⟩⟩
theorem lw_p64 : lw_okq (⟨"SortTransformModel", "unpacks", "()Z"⟩, 31) := ⟨⟨by decide +kernel, by decide +kernel⟩, List.mem_of_getElem? (i := 808) (by decide +kernel), List.mem_of_getElem? (i := 1134) (by decide +kernel), List.mem_of_getElem? (i := 1135) (by decide +kernel)⟩
def lw_privs_5 : List (MethodName × Nat) := [(⟨"SortTransformModel", "unpacks", "()Z"⟩, 31)]
theorem lw_r5 : ∀ q ∈ lw_privs_5, lw_okq q := List.forall_mem_cons.mpr ⟨lw_p64, fun _ h => absurd h List.not_mem_nil⟩
def lw_privs : List (MethodName × Nat) := lw_privs_1 ++ (lw_privs_2 ++ (lw_privs_3 ++ (lw_privs_4 ++ (lw_privs_5))))
def lw_tbl : List Cond := k2_sels lw_privs ++ tables_1
theorem lw_privs_ok : ∀ q ∈ lw_privs, lw_okq q := by
  show ∀ q ∈ lw_privs_1 ++ (lw_privs_2 ++ (lw_privs_3 ++ (lw_privs_4 ++ (lw_privs_5)))), lw_okq q
  exact List.forall_mem_append.mpr ⟨lw_r1, List.forall_mem_append.mpr ⟨lw_r2, List.forall_mem_append.mpr ⟨lw_r3, List.forall_mem_append.mpr ⟨lw_r4, lw_r5⟩⟩⟩⟩
def n_S : String := "SortTransform"
def f_S : u_T := fun k => match k with
  | 0 => ("SortTransform", "block", "LSortTransform$Row;", true)
  | 1 => ("SortTransform", "packedBlock", "LSortTransform$Row;", true)
  | 2 => ("SortTransform", "bench", "LSortTransform$Bench;", true)
  | 3 => ("SortTransform", "writer", "LSortTransform$StreamWriter;", true)
  | 4 => ("SortTransform", "reader", "LSortTransform$StreamReader;", true)
  | 5 => ("SortTransform", "packFresh", "Z", false)
  | 6 => ("SortTransform", "turnsFresh", "Z", false)
  | _ => ("SortTransform", "codesFresh", "Z", false)
def t_S : Nat → FieldType := fun k => match k with
  | 0 => .object "SortTransform$Row"
  | 1 => .object "SortTransform$Row"
  | 2 => .object "SortTransform$Bench"
  | 3 => .object "SortTransform$StreamWriter"
  | 4 => .object "SortTransform$StreamReader"
  | 5 => .boolean
  | 6 => .boolean
  | _ => .boolean
theorem nm_S : ∀ a, a < 8 → ∀ b, b < 8 → a ≠ b → (f_S a).2.1 ≠ (f_S b).2.1 := by decide +kernel
theorem ty_S : ∀ k, k < 8 → parseFieldDescriptor (f_S k).2.2.1 = some (t_S k) := by decide +kernel
def n_Bn : String := "SortTransform$Bench"
def f_Bn : u_T := fun k => match k with
  | 0 => ("SortTransform$Bench", "turns", "LSortTransform$Turns;", true)
  | 1 => ("SortTransform$Bench", "chain", "LSortTransform$Chain;", true)
  | 2 => ("SortTransform$Bench", "symbols", "LSortTransform$Symbols;", true)
  | 3 => ("SortTransform$Bench", "codes", "LSortTransform$Codes;", true)
  | 4 => ("SortTransform$Bench", "given", "LSortTransform$Row;", true)
  | 5 => ("SortTransform$Bench", "unpacked", "LSortTransform$Row;", true)
  | _ => ("SortTransform$Bench", "again", "LSortTransform$Row;", true)
def t_Bn : Nat → FieldType := fun k => match k with
  | 0 => .object "SortTransform$Turns"
  | 1 => .object "SortTransform$Chain"
  | 2 => .object "SortTransform$Symbols"
  | 3 => .object "SortTransform$Codes"
  | 4 => .object "SortTransform$Row"
  | 5 => .object "SortTransform$Row"
  | _ => .object "SortTransform$Row"
theorem nm_Bn : ∀ a, a < 7 → ∀ b, b < 7 → a ≠ b → (f_Bn a).2.1 ≠ (f_Bn b).2.1 := by decide +kernel
theorem ty_Bn : ∀ k, k < 7 → parseFieldDescriptor (f_Bn k).2.2.1 = some (t_Bn k) := by decide +kernel
def n_Ch : String := "SortTransform$Chain"
def f_Ch : u_T := fun k => match k with
  | 0 => ("SortTransform$Chain", "next", "[I", true)
  | 1 => ("SortTransform$Chain", "offsets", "[I", true)
  | _ => ("SortTransform$Chain", "size", "I", false)
def t_Ch : Nat → FieldType := fun k => match k with
  | 0 => .array .int
  | 1 => .array .int
  | _ => .int
theorem nm_Ch : ∀ a, a < 3 → ∀ b, b < 3 → a ≠ b → (f_Ch a).2.1 ≠ (f_Ch b).2.1 := by decide +kernel
theorem ty_Ch : ∀ k, k < 3 → parseFieldDescriptor (f_Ch k).2.2.1 = some (t_Ch k) := by decide +kernel
def n_Cd : String := "SortTransform$Codes"
def f_Cd : u_T := fun k => match k with
  | 0 => ("SortTransform$Codes", "joiner", "LSortTransform$Joiner;", true)
  | 1 => ("SortTransform$Codes", "weights", "[I", true)
  | 2 => ("SortTransform$Codes", "lengths", "[I", true)
  | 3 => ("SortTransform$Codes", "values", "[I", true)
  | 4 => ("SortTransform$Codes", "byLength", "[I", true)
  | 5 => ("SortTransform$Codes", "perLength", "[I", true)
  | _ => ("SortTransform$Codes", "count", "I", false)
def t_Cd : Nat → FieldType := fun k => match k with
  | 0 => .object "SortTransform$Joiner"
  | 1 => .array .int
  | 2 => .array .int
  | 3 => .array .int
  | 4 => .array .int
  | 5 => .array .int
  | _ => .int
theorem nm_Cd : ∀ a, a < 7 → ∀ b, b < 7 → a ≠ b → (f_Cd a).2.1 ≠ (f_Cd b).2.1 := by decide +kernel
theorem ty_Cd : ∀ k, k < 7 → parseFieldDescriptor (f_Cd k).2.2.1 = some (t_Cd k) := by decide +kernel
def n_Fl : String := "SortTransform$FrontList"
def f_Fl : u_T := fun k => match k with
  | 0 => ("SortTransform$FrontList", "bytes", "[I", true)
  | _ => ("SortTransform$FrontList", "size", "I", false)
def t_Fl : Nat → FieldType := fun k => match k with
  | 0 => .array .int
  | _ => .int
theorem nm_Fl : ∀ a, a < 2 → ∀ b, b < 2 → a ≠ b → (f_Fl a).2.1 ≠ (f_Fl b).2.1 := by decide +kernel
theorem ty_Fl : ∀ k, k < 2 → parseFieldDescriptor (f_Fl k).2.2.1 = some (t_Fl k) := by decide +kernel
def n_Jn : String := "SortTransform$Joiner"
def f_Jn : u_T := fun k => match k with
  | 0 => ("SortTransform$Joiner", "heap", "[I", true)
  | 1 => ("SortTransform$Joiner", "nodeOfLeast", "[I", true)
  | 2 => ("SortTransform$Joiner", "parents", "[I", true)
  | 3 => ("SortTransform$Joiner", "depths", "[I", true)
  | _ => ("SortTransform$Joiner", "size", "I", false)
def t_Jn : Nat → FieldType := fun k => match k with
  | 0 => .array .int
  | 1 => .array .int
  | 2 => .array .int
  | 3 => .array .int
  | _ => .int
theorem nm_Jn : ∀ a, a < 5 → ∀ b, b < 5 → a ≠ b → (f_Jn a).2.1 ≠ (f_Jn b).2.1 := by decide +kernel
theorem ty_Jn : ∀ k, k < 5 → parseFieldDescriptor (f_Jn k).2.2.1 = some (t_Jn k) := by decide +kernel
def n_Rw : String := "SortTransform$Row"
def f_Rw : u_T := fun k => match k with
  | 0 => ("SortTransform$Row", "bytes", "[I", true)
  | _ => ("SortTransform$Row", "size", "I", false)
def t_Rw : Nat → FieldType := fun k => match k with
  | 0 => .array .int
  | _ => .int
theorem nm_Rw : ∀ a, a < 2 → ∀ b, b < 2 → a ≠ b → (f_Rw a).2.1 ≠ (f_Rw b).2.1 := by decide +kernel
theorem ty_Rw : ∀ k, k < 2 → parseFieldDescriptor (f_Rw k).2.2.1 = some (t_Rw k) := by decide +kernel
def n_Sr : String := "SortTransform$StreamReader"
def f_Sr : u_T := fun k => match k with
  | 0 => ("SortTransform$StreamReader", "tape", "LSortTransform$Row;", true)
  | 1 => ("SortTransform$StreamReader", "last", "LSortTransform$Row;", true)
  | 2 => ("SortTransform$StreamReader", "position", "I", false)
  | 3 => ("SortTransform$StreamReader", "count", "I", false)
  | 4 => ("SortTransform$StreamReader", "origin", "I", false)
  | 5 => ("SortTransform$StreamReader", "check", "I", false)
  | 6 => ("SortTransform$StreamReader", "lengthAtHand", "I", false)
  | 7 => ("SortTransform$StreamReader", "fault", "I", false)
  | _ => ("SortTransform$StreamReader", "faultPlace", "I", false)
def t_Sr : Nat → FieldType := fun k => match k with
  | 0 => .object "SortTransform$Row"
  | 1 => .object "SortTransform$Row"
  | 2 => .int
  | 3 => .int
  | 4 => .int
  | 5 => .int
  | 6 => .int
  | 7 => .int
  | _ => .int
theorem nm_Sr : ∀ a, a < 9 → ∀ b, b < 9 → a ≠ b → (f_Sr a).2.1 ≠ (f_Sr b).2.1 := by decide +kernel
theorem ty_Sr : ∀ k, k < 9 → parseFieldDescriptor (f_Sr k).2.2.1 = some (t_Sr k) := by decide +kernel
def n_Sw : String := "SortTransform$StreamWriter"
def f_Sw : u_T := fun k => match k with
  | 0 => ("SortTransform$StreamWriter", "out", "LSortTransform$Row;", true)
  | 1 => ("SortTransform$StreamWriter", "held", "I", false)
  | _ => ("SortTransform$StreamWriter", "heldBits", "I", false)
def t_Sw : Nat → FieldType := fun k => match k with
  | 0 => .object "SortTransform$Row"
  | 1 => .int
  | _ => .int
theorem nm_Sw : ∀ a, a < 3 → ∀ b, b < 3 → a ≠ b → (f_Sw a).2.1 ≠ (f_Sw b).2.1 := by decide +kernel
theorem ty_Sw : ∀ k, k < 3 → parseFieldDescriptor (f_Sw k).2.2.1 = some (t_Sw k) := by decide +kernel
def n_Sy : String := "SortTransform$Symbols"
def f_Sy : u_T := fun k => match k with
  | 0 => ("SortTransform$Symbols", "list", "LSortTransform$FrontList;", true)
  | 1 => ("SortTransform$Symbols", "row", "[I", true)
  | 2 => ("SortTransform$Symbols", "count", "I", false)
  | _ => ("SortTransform$Symbols", "end", "I", false)
def t_Sy : Nat → FieldType := fun k => match k with
  | 0 => .object "SortTransform$FrontList"
  | 1 => .array .int
  | 2 => .int
  | _ => .int
theorem nm_Sy : ∀ a, a < 4 → ∀ b, b < 4 → a ≠ b → (f_Sy a).2.1 ≠ (f_Sy b).2.1 := by decide +kernel
theorem ty_Sy : ∀ k, k < 4 → parseFieldDescriptor (f_Sy k).2.2.1 = some (t_Sy k) := by decide +kernel
def n_Tu : String := "SortTransform$Turns"
def f_Tu : u_T := fun k => match k with
  | 0 => ("SortTransform$Turns", "lasts", "LSortTransform$Row;", true)
  | 1 => ("SortTransform$Turns", "order", "[I", true)
  | 2 => ("SortTransform$Turns", "places", "[I", true)
  | 3 => ("SortTransform$Turns", "ranks", "[I", true)
  | 4 => ("SortTransform$Turns", "line", "[I", true)
  | 5 => ("SortTransform$Turns", "offsets", "[I", true)
  | 6 => ("SortTransform$Turns", "size", "I", false)
  | 7 => ("SortTransform$Turns", "rankCount", "I", false)
  | _ => ("SortTransform$Turns", "doublings", "I", false)
def t_Tu : Nat → FieldType := fun k => match k with
  | 0 => .object "SortTransform$Row"
  | 1 => .array .int
  | 2 => .array .int
  | 3 => .array .int
  | 4 => .array .int
  | 5 => .array .int
  | 6 => .int
  | 7 => .int
  | _ => .int
theorem nm_Tu : ∀ a, a < 9 → ∀ b, b < 9 → a ≠ b → (f_Tu a).2.1 ≠ (f_Tu b).2.1 := by decide +kernel
theorem ty_Tu : ∀ k, k < 9 → parseFieldDescriptor (f_Tu k).2.2.1 = some (t_Tu k) := by decide +kernel
def n_Mo : String := "SortTransformModel"
def f_Mo : u_T := fun k => match k with
  | 0 => ("SortTransformModel", "many", "I", false)
  | 1 => ("SortTransformModel", "block", "[I", true)
  | 2 => ("SortTransformModel", "size", "I", false)
  | 3 => ("SortTransformModel", "row", "[I", true)
  | 4 => ("SortTransformModel", "order", "[I", true)
  | 5 => ("SortTransformModel", "merged", "[I", true)
  | 6 => ("SortTransformModel", "isLaid", "Z", false)
  | 7 => ("SortTransformModel", "blockOrder", "[I", true)
  | 8 => ("SortTransformModel", "blockOrigin", "I", false)
  | 9 => ("SortTransformModel", "blockRounds", "I", false)
  | 10 => ("SortTransformModel", "next", "[I", true)
  | 11 => ("SortTransformModel", "given", "[I", true)
  | 12 => ("SortTransformModel", "listed", "I", false)
  | 13 => ("SortTransformModel", "list", "[I", true)
  | 14 => ("SortTransformModel", "symbols", "I", false)
  | 15 => ("SortTransformModel", "symbol", "[I", true)
  | 16 => ("SortTransformModel", "lengths", "[I", true)
  | 17 => ("SortTransformModel", "codes", "[I", true)
  | 18 => ("SortTransformModel", "weight", "[J", true)
  | 19 => ("SortTransformModel", "leastOf", "[I", true)
  | 20 => ("SortTransformModel", "above", "[I", true)
  | 21 => ("SortTransformModel", "told", "[J", true)
  | 22 => ("SortTransformModel", "out", "[B", true)
  | 23 => ("SortTransformModel", "outBits", "I", false)
  | 24 => ("SortTransformModel", "outSize", "I", false)
  | 25 => ("SortTransformModel", "tape", "[B", true)
  | 26 => ("SortTransformModel", "taped", "I", false)
  | 27 => ("SortTransformModel", "at", "I", false)
  | 28 => ("SortTransformModel", "fault", "I", false)
  | 29 => ("SortTransformModel", "faultPlace", "I", false)
  | _ => ("SortTransformModel", "kept", "[I", true)
def t_Mo : Nat → FieldType := fun k => match k with
  | 0 => .int
  | 1 => .array .int
  | 2 => .int
  | 3 => .array .int
  | 4 => .array .int
  | 5 => .array .int
  | 6 => .boolean
  | 7 => .array .int
  | 8 => .int
  | 9 => .int
  | 10 => .array .int
  | 11 => .array .int
  | 12 => .int
  | 13 => .array .int
  | 14 => .int
  | 15 => .array .int
  | 16 => .array .int
  | 17 => .array .int
  | 18 => .array .long
  | 19 => .array .int
  | 20 => .array .int
  | 21 => .array .long
  | 22 => .array .byte
  | 23 => .int
  | 24 => .int
  | 25 => .array .byte
  | 26 => .int
  | 27 => .int
  | 28 => .int
  | 29 => .int
  | _ => .array .int
theorem nm_Mo : ∀ a, a < 31 → ∀ b, b < 31 → a ≠ b → (f_Mo a).2.1 ≠ (f_Mo b).2.1 := by decide +kernel
theorem ty_Mo : ∀ k, k < 31 → parseFieldDescriptor (f_Mo k).2.2.1 = some (t_Mo k) := by decide +kernel
def n_Lw : String := "SortTransformLaw"
def n_Ar : String := "java/util/Arrays"
abbrev vwCl : List vw_C := [(n_S, f_S, 8), (n_Bn, f_Bn, 7), (n_Ch, f_Ch, 3), (n_Cd, f_Cd, 7), (n_Fl, f_Fl, 2), (n_Jn, f_Jn, 5), (n_Rw, f_Rw, 2), (n_Sr, f_Sr, 9), (n_Sw, f_Sw, 3), (n_Sy, f_Sy, 4), (n_Tu, f_Tu, 9), (n_Mo, f_Mo, 31)]
abbrev ax_ty : List FieldType := [.int, .long, .byte]
abbrev m_S_init : MethodName × ByteArray × Nat × Option FieldType := (⟨n_S, "<init>", "()V"⟩, prog_1_method_1_code, 1, none)
abbrev m_S_feed : MethodName × ByteArray × Nat × Option FieldType := (⟨n_S, "feed", "(JI)I"⟩, prog_1_method_2_code, 5, (some .int))
abbrev m_S_fill : MethodName × ByteArray × Nat × Option FieldType := (⟨n_S, "fill", "(II)I"⟩, prog_1_method_3_code, 3, (some .int))
abbrev m_S_clear : MethodName × ByteArray × Nat × Option FieldType := (⟨n_S, "clear", "()I"⟩, prog_1_method_4_code, 2, (some .int))
abbrev m_S_octet : MethodName × ByteArray × Nat × Option FieldType := (⟨n_S, "octet", "(I)I"⟩, prog_1_method_5_code, 2, (some .int))
abbrev m_S_pack : MethodName × ByteArray × Nat × Option FieldType := (⟨n_S, "pack", "()I"⟩, prog_1_method_6_code, 1, (some .int))
abbrev m_S_packed : MethodName × ByteArray × Nat × Option FieldType := (⟨n_S, "packed", "(I)I"⟩, prog_1_method_7_code, 2, (some .int))
abbrev m_S_order : MethodName × ByteArray × Nat × Option FieldType := (⟨n_S, "order", "(I)I"⟩, prog_1_method_8_code, 2, (some .int))
abbrev m_S_last : MethodName × ByteArray × Nat × Option FieldType := (⟨n_S, "last", "(I)I"⟩, prog_1_method_9_code, 2, (some .int))
abbrev m_S_origin : MethodName × ByteArray × Nat × Option FieldType := (⟨n_S, "origin", "()I"⟩, prog_1_method_10_code, 1, (some .int))
abbrev m_S_rounds : MethodName × ByteArray × Nat × Option FieldType := (⟨n_S, "rounds", "()I"⟩, prog_1_method_11_code, 1, (some .int))
abbrev m_S_start : MethodName × ByteArray × Nat × Option FieldType := (⟨n_S, "start", "(II)I"⟩, prog_1_method_12_code, 3, (some .int))
abbrev m_S_steps : MethodName × ByteArray × Nat × Option FieldType := (⟨n_S, "steps", "(JII)I"⟩, prog_1_method_13_code, 8, (some .int))
abbrev m_S_back : MethodName × ByteArray × Nat × Option FieldType := (⟨n_S, "back", "(I)I"⟩, prog_1_method_14_code, 3, (some .int))
abbrev m_S_ring : MethodName × ByteArray × Nat × Option FieldType := (⟨n_S, "ring", "(I)I"⟩, prog_1_method_15_code, 2, (some .int))
abbrev m_S_symbol : MethodName × ByteArray × Nat × Option FieldType := (⟨n_S, "symbol", "(I)I"⟩, prog_1_method_16_code, 2, (some .int))
abbrev m_S_code : MethodName × ByteArray × Nat × Option FieldType := (⟨n_S, "code", "(II)I"⟩, prog_1_method_17_code, 4, (some .int))
abbrev m_S_bits : MethodName × ByteArray × Nat × Option FieldType := (⟨n_S, "bits", "()I"⟩, prog_1_method_18_code, 3, (some .int))
abbrev m_S_write : MethodName × ByteArray × Nat × Option FieldType := (⟨n_S, "write", "()I"⟩, prog_1_method_19_code, 1, (some .int))
abbrev m_S_out : MethodName × ByteArray × Nat × Option FieldType := (⟨n_S, "out", "(I)I"⟩, prog_1_method_20_code, 2, (some .int))
abbrev m_S_tape : MethodName × ByteArray × Nat × Option FieldType := (⟨n_S, "tape", "(JI)I"⟩, prog_1_method_21_code, 4, (some .int))
abbrev m_S_take : MethodName × ByteArray × Nat × Option FieldType := (⟨n_S, "take", "()I"⟩, prog_1_method_22_code, 1, (some .int))
abbrev m_S_spoil : MethodName × ByteArray × Nat × Option FieldType := (⟨n_S, "spoil", "(II)I"⟩, prog_1_method_23_code, 3, (some .int))
abbrev m_S_cut : MethodName × ByteArray × Nat × Option FieldType := (⟨n_S, "cut", "(I)I"⟩, prog_1_method_24_code, 3, (some .int))
abbrev m_S_read : MethodName × ByteArray × Nat × Option FieldType := (⟨n_S, "read", "()I"⟩, prog_1_method_25_code, 2, (some .int))
abbrev m_S_faultAt : MethodName × ByteArray × Nat × Option FieldType := (⟨n_S, "faultAt", "()I"⟩, prog_1_method_26_code, 1, (some .int))
abbrev m_S_check : MethodName × ByteArray × Nat × Option FieldType := (⟨n_S, "check", "()I"⟩, prog_1_method_27_code, 1, (some .int))
abbrev m_S_blockChanged : MethodName × ByteArray × Nat × Option FieldType := (⟨n_S, "blockChanged", "()V"⟩, prog_1_method_28_code, 1, none)
abbrev m_S_benchUsed : MethodName × ByteArray × Nat × Option FieldType := (⟨n_S, "benchUsed", "()V"⟩, prog_1_method_29_code, 1, none)
abbrev m_S_freshenPack : MethodName × ByteArray × Nat × Option FieldType := (⟨n_S, "freshenPack", "()V"⟩, prog_1_method_30_code, 1, none)
abbrev m_S_freshenTurns : MethodName × ByteArray × Nat × Option FieldType := (⟨n_S, "freshenTurns", "()V"⟩, prog_1_method_31_code, 1, none)
abbrev m_S_freshenCodes : MethodName × ByteArray × Nat × Option FieldType := (⟨n_S, "freshenCodes", "()V"⟩, prog_1_method_32_code, 1, none)
abbrev m_S_turnBegins : MethodName × ByteArray × Nat × Option FieldType := (⟨n_S, "turnBegins", "(IJI)Z"⟩, prog_1_method_33_code, 7, (some .boolean))
abbrev m_S_addLowest : MethodName × ByteArray × Nat × Option FieldType := (⟨n_S, "addLowest", "(LSortTransform$Row;JI)I"⟩, prog_1_method_34_code, 5, (some .int))
abbrev m_S_byteOf : MethodName × ByteArray × Nat × Option FieldType := (⟨n_S, "byteOf", "(JI)I"⟩, prog_1_method_35_code, 3, (some .int))
abbrev m_S_isByte : MethodName × ByteArray × Nat × Option FieldType := (⟨n_S, "isByte", "(I)Z"⟩, prog_1_method_36_code, 1, (some .boolean))
abbrev m_S_checkOf : MethodName × ByteArray × Nat × Option FieldType := (⟨n_S, "checkOf", "(LSortTransform$Row;)I"⟩, prog_1_method_37_code, 4, (some .int))
abbrev m_S_packInto : MethodName × ByteArray × Nat × Option FieldType := (⟨n_S, "packInto", "(LSortTransform$Row;LSortTransform$Row;)V"⟩, prog_1_method_38_code, 6, none)
abbrev m_S_countMore : MethodName × ByteArray × Nat × Option FieldType := (⟨n_S, "countMore", "(LSortTransform$Row;II)I"⟩, prog_1_method_39_code, 4, (some .int))
abbrev m_S_unpackInto : MethodName × ByteArray × Nat × Option FieldType := (⟨n_S, "unpackInto", "(LSortTransform$Row;LSortTransform$Row;)Z"⟩, prog_1_method_40_code, 7, (some .boolean))
abbrev m_Mo_init : MethodName × ByteArray × Nat × Option FieldType := (⟨n_Mo, "<init>", "()V"⟩, prog_13_method_1_code, 1, none)
abbrev m_Mo_isIn : MethodName × ByteArray × Nat × Option FieldType := (⟨n_Mo, "isIn", "(JJJ)Z"⟩, prog_13_method_2_code, 6, (some .boolean))
abbrev m_Mo_feed : MethodName × ByteArray × Nat × Option FieldType := (⟨n_Mo, "feed", "(JI)I"⟩, prog_13_method_3_code, 5, (some .int))
abbrev m_Mo_fill : MethodName × ByteArray × Nat × Option FieldType := (⟨n_Mo, "fill", "(II)I"⟩, prog_13_method_4_code, 4, (some .int))
abbrev m_Mo_clear : MethodName × ByteArray × Nat × Option FieldType := (⟨n_Mo, "clear", "()I"⟩, prog_13_method_5_code, 2, (some .int))
abbrev m_Mo_octet : MethodName × ByteArray × Nat × Option FieldType := (⟨n_Mo, "octet", "(I)I"⟩, prog_13_method_6_code, 2, (some .int))
abbrev m_Mo_takeBlock : MethodName × ByteArray × Nat × Option FieldType := (⟨n_Mo, "takeBlock", "()V"⟩, prog_13_method_7_code, 2, none)
abbrev m_Mo_packBlock : MethodName × ByteArray × Nat × Option FieldType := (⟨n_Mo, "packBlock", "()V"⟩, prog_13_method_8_code, 4, none)
abbrev m_Mo_pack : MethodName × ByteArray × Nat × Option FieldType := (⟨n_Mo, "pack", "()I"⟩, prog_13_method_9_code, 1, (some .int))
abbrev m_Mo_packed : MethodName × ByteArray × Nat × Option FieldType := (⟨n_Mo, "packed", "(I)I"⟩, prog_13_method_10_code, 2, (some .int))
abbrev m_Mo_parts : MethodName × ByteArray × Nat × Option FieldType := (⟨n_Mo, "parts", "(II)I"⟩, prog_13_method_11_code, 4, (some .int))
abbrev m_Mo_isAbove : MethodName × ByteArray × Nat × Option FieldType := (⟨n_Mo, "isAbove", "(II)Z"⟩, prog_13_method_12_code, 4, (some .boolean))
abbrev m_Mo_putInOrder : MethodName × ByteArray × Nat × Option FieldType := (⟨n_Mo, "putInOrder", "()V"⟩, prog_13_method_13_code, 9, none)
abbrev m_Mo_lastAt : MethodName × ByteArray × Nat × Option FieldType := (⟨n_Mo, "lastAt", "(I)I"⟩, prog_13_method_14_code, 2, (some .int))
abbrev m_Mo_originOf : MethodName × ByteArray × Nat × Option FieldType := (⟨n_Mo, "originOf", "()I"⟩, prog_13_method_15_code, 2, (some .int))
abbrev m_Mo_lay : MethodName × ByteArray × Nat × Option FieldType := (⟨n_Mo, "lay", "()V"⟩, prog_13_method_16_code, 4, none)
abbrev m_Mo_order : MethodName × ByteArray × Nat × Option FieldType := (⟨n_Mo, "order", "(I)I"⟩, prog_13_method_17_code, 2, (some .int))
abbrev m_Mo_last : MethodName × ByteArray × Nat × Option FieldType := (⟨n_Mo, "last", "(I)I"⟩, prog_13_method_18_code, 2, (some .int))
abbrev m_Mo_origin : MethodName × ByteArray × Nat × Option FieldType := (⟨n_Mo, "origin", "()I"⟩, prog_13_method_19_code, 1, (some .int))
abbrev m_Mo_rounds : MethodName × ByteArray × Nat × Option FieldType := (⟨n_Mo, "rounds", "()I"⟩, prog_13_method_20_code, 1, (some .int))
abbrev m_Mo_start : MethodName × ByteArray × Nat × Option FieldType := (⟨n_Mo, "start", "(II)I"⟩, prog_13_method_21_code, 5, (some .int))
abbrev m_Mo_steps : MethodName × ByteArray × Nat × Option FieldType := (⟨n_Mo, "steps", "(JII)I"⟩, prog_13_method_22_code, 10, (some .int))
abbrev m_Mo_nexts : MethodName × ByteArray × Nat × Option FieldType := (⟨n_Mo, "nexts", "()V"⟩, prog_13_method_23_code, 4, none)
abbrev m_Mo_givesBack : MethodName × ByteArray × Nat × Option FieldType := (⟨n_Mo, "givesBack", "(I)Z"⟩, prog_13_method_24_code, 5, (some .boolean))
abbrev m_Mo_back : MethodName × ByteArray × Nat × Option FieldType := (⟨n_Mo, "back", "(I)I"⟩, prog_13_method_25_code, 4, (some .int))
abbrev m_Mo_ring : MethodName × ByteArray × Nat × Option FieldType := (⟨n_Mo, "ring", "(I)I"⟩, prog_13_method_26_code, 4, (some .int))
abbrev m_Mo_rowHas : MethodName × ByteArray × Nat × Option FieldType := (⟨n_Mo, "rowHas", "(I)Z"⟩, prog_13_method_27_code, 3, (some .boolean))
abbrev m_Mo_putNoughts : MethodName × ByteArray × Nat × Option FieldType := (⟨n_Mo, "putNoughts", "(I)V"⟩, prog_13_method_28_code, 4, none)
abbrev m_Mo_makeSymbols : MethodName × ByteArray × Nat × Option FieldType := (⟨n_Mo, "makeSymbols", "()V"⟩, prog_13_method_29_code, 4, none)
abbrev m_Mo_toFront : MethodName × ByteArray × Nat × Option FieldType := (⟨n_Mo, "toFront", "(I)I"⟩, prog_13_method_30_code, 4, (some .int))
abbrev m_Mo_makeLengths : MethodName × ByteArray × Nat × Option FieldType := (⟨n_Mo, "makeLengths", "()V"⟩, prog_13_method_31_code, 4, none)
abbrev m_Mo_join : MethodName × ByteArray × Nat × Option FieldType := (⟨n_Mo, "join", "(I)V"⟩, prog_13_method_32_code, 6, none)
abbrev m_Mo_lightest : MethodName × ByteArray × Nat × Option FieldType := (⟨n_Mo, "lightest", "(II)I"⟩, prog_13_method_33_code, 5, (some .int))
abbrev m_Mo_makeCodes : MethodName × ByteArray × Nat × Option FieldType := (⟨n_Mo, "makeCodes", "(I)V"⟩, prog_13_method_34_code, 6, none)
abbrev m_Mo_symbol : MethodName × ByteArray × Nat × Option FieldType := (⟨n_Mo, "symbol", "(I)I"⟩, prog_13_method_35_code, 2, (some .int))
abbrev m_Mo_code : MethodName × ByteArray × Nat × Option FieldType := (⟨n_Mo, "code", "(II)I"⟩, prog_13_method_36_code, 3, (some .int))
abbrev m_Mo_bits : MethodName × ByteArray × Nat × Option FieldType := (⟨n_Mo, "bits", "()I"⟩, prog_13_method_37_code, 3, (some .int))
abbrev m_Mo_put : MethodName × ByteArray × Nat × Option FieldType := (⟨n_Mo, "put", "(JI)V"⟩, prog_13_method_38_code, 5, none)
abbrev m_Mo_check : MethodName × ByteArray × Nat × Option FieldType := (⟨n_Mo, "check", "()I"⟩, prog_13_method_39_code, 4, (some .int))
abbrev m_Mo_write : MethodName × ByteArray × Nat × Option FieldType := (⟨n_Mo, "write", "()I"⟩, prog_13_method_40_code, 3, (some .int))
abbrev m_Mo_writeRow : MethodName × ByteArray × Nat × Option FieldType := (⟨n_Mo, "writeRow", "()V"⟩, prog_13_method_41_code, 5, none)
abbrev m_Mo_out : MethodName × ByteArray × Nat × Option FieldType := (⟨n_Mo, "out", "(I)I"⟩, prog_13_method_42_code, 2, (some .int))
abbrev m_Mo_tape : MethodName × ByteArray × Nat × Option FieldType := (⟨n_Mo, "tape", "(JI)I"⟩, prog_13_method_43_code, 5, (some .int))
abbrev m_Mo_take : MethodName × ByteArray × Nat × Option FieldType := (⟨n_Mo, "take", "()I"⟩, prog_13_method_44_code, 2, (some .int))
abbrev m_Mo_spoil : MethodName × ByteArray × Nat × Option FieldType := (⟨n_Mo, "spoil", "(II)I"⟩, prog_13_method_45_code, 3, (some .int))
abbrev m_Mo_cut : MethodName × ByteArray × Nat × Option FieldType := (⟨n_Mo, "cut", "(I)I"⟩, prog_13_method_46_code, 3, (some .int))
abbrev m_Mo_wrong : MethodName × ByteArray × Nat × Option FieldType := (⟨n_Mo, "wrong", "(II)Z"⟩, prog_13_method_47_code, 3, (some .boolean))
abbrev m_Mo_get : MethodName × ByteArray × Nat × Option FieldType := (⟨n_Mo, "get", "(I)J"⟩, prog_13_method_48_code, 5, (some .long))
abbrev m_Mo_readsList : MethodName × ByteArray × Nat × Option FieldType := (⟨n_Mo, "readsList", "()Z"⟩, prog_13_method_49_code, 8, (some .boolean))
abbrev m_Mo_readsLengths : MethodName × ByteArray × Nat × Option FieldType := (⟨n_Mo, "readsLengths", "()Z"⟩, prog_13_method_50_code, 8, (some .boolean))
abbrev m_Mo_readsSymbol : MethodName × ByteArray × Nat × Option FieldType := (⟨n_Mo, "readsSymbol", "()I"⟩, prog_13_method_51_code, 4, (some .int))
abbrev m_Mo_readsRow : MethodName × ByteArray × Nat × Option FieldType := (⟨n_Mo, "readsRow", "(I)Z"⟩, prog_13_method_52_code, 8, (some .boolean))
abbrev m_Mo_unpacks : MethodName × ByteArray × Nat × Option FieldType := (⟨n_Mo, "unpacks", "()Z"⟩, prog_13_method_53_code, 5, (some .boolean))
abbrev m_Mo_read : MethodName × ByteArray × Nat × Option FieldType := (⟨n_Mo, "read", "()I"⟩, prog_13_method_54_code, 3, (some .int))
abbrev m_Mo_reads : MethodName × ByteArray × Nat × Option FieldType := (⟨n_Mo, "reads", "()Z"⟩, prog_13_method_55_code, 6, (some .boolean))
abbrev m_Mo_faultAt : MethodName × ByteArray × Nat × Option FieldType := (⟨n_Mo, "faultAt", "()I"⟩, prog_13_method_56_code, 1, (some .int))
abbrev m_Bn_init : MethodName × ByteArray × Nat × Option FieldType := (⟨n_Bn, "<init>", "()V"⟩, prog_2_method_1_code, 1, none)
abbrev m_Bn_goBack : MethodName × ByteArray × Nat × Option FieldType := (⟨n_Bn, "goBack", "(LSortTransform$Row;I)Z"⟩, prog_2_method_2_code, 3, (some .boolean))
abbrev m_Bn_unpackGiven : MethodName × ByteArray × Nat × Option FieldType := (⟨n_Bn, "unpackGiven", "()Z"⟩, prog_2_method_3_code, 1, (some .boolean))
abbrev m_Ch_init : MethodName × ByteArray × Nat × Option FieldType := (⟨n_Ch, "<init>", "()V"⟩, prog_3_method_1_code, 1, none)
abbrev m_Ch_link : MethodName × ByteArray × Nat × Option FieldType := (⟨n_Ch, "link", "(LSortTransform$Row;)V"⟩, prog_3_method_2_code, 4, none)
abbrev m_Ch_ringLength : MethodName × ByteArray × Nat × Option FieldType := (⟨n_Ch, "ringLength", "(I)I"⟩, prog_3_method_3_code, 4, (some .int))
abbrev m_Ch_follow : MethodName × ByteArray × Nat × Option FieldType := (⟨n_Ch, "follow", "(LSortTransform$Row;ILSortTransform$Row;)V"⟩, prog_3_method_4_code, 6, none)
abbrev m_Cd_init : MethodName × ByteArray × Nat × Option FieldType := (⟨n_Cd, "<init>", "()V"⟩, prog_4_method_1_code, 1, none)
abbrev m_Cd_has : MethodName × ByteArray × Nat × Option FieldType := (⟨n_Cd, "has", "(I)Z"⟩, prog_4_method_2_code, 2, (some .boolean))
abbrev m_Cd_lengthOf : MethodName × ByteArray × Nat × Option FieldType := (⟨n_Cd, "lengthOf", "(I)I"⟩, prog_4_method_3_code, 2, (some .int))
abbrev m_Cd_valueOf : MethodName × ByteArray × Nat × Option FieldType := (⟨n_Cd, "valueOf", "(I)I"⟩, prog_4_method_4_code, 2, (some .int))
abbrev m_Cd_symbolAt : MethodName × ByteArray × Nat × Option FieldType := (⟨n_Cd, "symbolAt", "(I)I"⟩, prog_4_method_5_code, 2, (some .int))
abbrev m_Cd_makeFrom : MethodName × ByteArray × Nat × Option FieldType := (⟨n_Cd, "makeFrom", "(LSortTransform$Symbols;)V"⟩, prog_4_method_6_code, 4, none)
abbrev m_Cd_weigh : MethodName × ByteArray × Nat × Option FieldType := (⟨n_Cd, "weigh", "(LSortTransform$Symbols;)V"⟩, prog_4_method_7_code, 4, none)
abbrev m_Cd_beginLengths : MethodName × ByteArray × Nat × Option FieldType := (⟨n_Cd, "beginLengths", "(I)V"⟩, prog_4_method_8_code, 2, none)
abbrev m_Cd_setLength : MethodName × ByteArray × Nat × Option FieldType := (⟨n_Cd, "setLength", "(II)V"⟩, prog_4_method_9_code, 3, none)
abbrev m_Cd_arrange : MethodName × ByteArray × Nat × Option FieldType := (⟨n_Cd, "arrange", "()V"⟩, prog_4_method_10_code, 6, none)
abbrev m_Cd_areWhole : MethodName × ByteArray × Nat × Option FieldType := (⟨n_Cd, "areWhole", "()Z"⟩, prog_4_method_11_code, 3, (some .boolean))
abbrev m_Fl_init : MethodName × ByteArray × Nat × Option FieldType := (⟨n_Fl, "<init>", "()V"⟩, prog_5_method_1_code, 1, none)
abbrev m_Fl_makeEmpty : MethodName × ByteArray × Nat × Option FieldType := (⟨n_Fl, "makeEmpty", "()V"⟩, prog_5_method_2_code, 1, none)
abbrev m_Fl_add : MethodName × ByteArray × Nat × Option FieldType := (⟨n_Fl, "add", "(I)V"⟩, prog_5_method_3_code, 2, none)
abbrev m_Fl_listBytes : MethodName × ByteArray × Nat × Option FieldType := (⟨n_Fl, "listBytes", "(LSortTransform$Row;)V"⟩, prog_5_method_4_code, 3, none)
abbrev m_Fl_placeOf : MethodName × ByteArray × Nat × Option FieldType := (⟨n_Fl, "placeOf", "(I)I"⟩, prog_5_method_5_code, 3, (some .int))
abbrev m_Fl_at : MethodName × ByteArray × Nat × Option FieldType := (⟨n_Fl, "at", "(I)I"⟩, prog_5_method_6_code, 2, (some .int))
abbrev m_Fl_bringToFront : MethodName × ByteArray × Nat × Option FieldType := (⟨n_Fl, "bringToFront", "(I)V"⟩, prog_5_method_7_code, 4, none)
abbrev m_Jn_init : MethodName × ByteArray × Nat × Option FieldType := (⟨n_Jn, "<init>", "()V"⟩, prog_6_method_1_code, 1, none)
abbrev m_Jn_findLengths : MethodName × ByteArray × Nat × Option FieldType := (⟨n_Jn, "findLengths", "([II[I)I"⟩, prog_6_method_2_code, 6, (some .int))
abbrev m_Jn_joinTwo : MethodName × ByteArray × Nat × Option FieldType := (⟨n_Jn, "joinTwo", "(I)V"⟩, prog_6_method_3_code, 6, none)
abbrev m_Jn_measureDepths : MethodName × ByteArray × Nat × Option FieldType := (⟨n_Jn, "measureDepths", "(II[I)I"⟩, prog_6_method_4_code, 6, (some .int))
abbrev m_Jn_push : MethodName × ByteArray × Nat × Option FieldType := (⟨n_Jn, "push", "(I)V"⟩, prog_6_method_5_code, 3, none)
abbrev m_Jn_pop : MethodName × ByteArray × Nat × Option FieldType := (⟨n_Jn, "pop", "()I"⟩, prog_6_method_6_code, 5, (some .int))
abbrev m_Rw_init : MethodName × ByteArray × Nat × Option FieldType := (⟨n_Rw, "<init>", "(I)V"⟩, prog_7_method_1_code, 2, none)
abbrev m_Rw_has : MethodName × ByteArray × Nat × Option FieldType := (⟨n_Rw, "has", "(I)Z"⟩, prog_7_method_2_code, 2, (some .boolean))
abbrev m_Rw_hasRoom : MethodName × ByteArray × Nat × Option FieldType := (⟨n_Rw, "hasRoom", "(I)Z"⟩, prog_7_method_3_code, 2, (some .boolean))
abbrev m_Rw_at : MethodName × ByteArray × Nat × Option FieldType := (⟨n_Rw, "at", "(I)I"⟩, prog_7_method_4_code, 2, (some .int))
abbrev m_Rw_add : MethodName × ByteArray × Nat × Option FieldType := (⟨n_Rw, "add", "(I)V"⟩, prog_7_method_5_code, 2, none)
abbrev m_Rw_addMany : MethodName × ByteArray × Nat × Option FieldType := (⟨n_Rw, "addMany", "(II)V"⟩, prog_7_method_6_code, 4, none)
abbrev m_Rw_joinWith : MethodName × ByteArray × Nat × Option FieldType := (⟨n_Rw, "joinWith", "(II)V"⟩, prog_7_method_7_code, 3, none)
abbrev m_Rw_shorten : MethodName × ByteArray × Nat × Option FieldType := (⟨n_Rw, "shorten", "(I)V"⟩, prog_7_method_8_code, 2, none)
abbrev m_Rw_copyOf : MethodName × ByteArray × Nat × Option FieldType := (⟨n_Rw, "copyOf", "(LSortTransform$Row;)V"⟩, prog_7_method_9_code, 3, none)
abbrev m_Rw_isLike : MethodName × ByteArray × Nat × Option FieldType := (⟨n_Rw, "isLike", "(LSortTransform$Row;)Z"⟩, prog_7_method_10_code, 3, (some .boolean))
abbrev m_Sr_init : MethodName × ByteArray × Nat × Option FieldType := (⟨n_Sr, "<init>", "()V"⟩, prog_8_method_1_code, 1, none)
abbrev m_Sr_readStream : MethodName × ByteArray × Nat × Option FieldType := (⟨n_Sr, "readStream", "(LSortTransform$Bench;)Z"⟩, prog_8_method_2_code, 4, (some .boolean))
abbrev m_Sr_fails : MethodName × ByteArray × Nat × Option FieldType := (⟨n_Sr, "fails", "(II)Z"⟩, prog_8_method_3_code, 3, (some .boolean))
abbrev m_Sr_tapeEnds : MethodName × ByteArray × Nat × Option FieldType := (⟨n_Sr, "tapeEnds", "()Z"⟩, prog_8_method_4_code, 1, (some .boolean))
abbrev m_Sr_lacks : MethodName × ByteArray × Nat × Option FieldType := (⟨n_Sr, "lacks", "(I)Z"⟩, prog_8_method_5_code, 2, (some .boolean))
abbrev m_Sr_next : MethodName × ByteArray × Nat × Option FieldType := (⟨n_Sr, "next", "(I)I"⟩, prog_8_method_6_code, 4, (some .int))
abbrev m_Sr_byteNow : MethodName × ByteArray × Nat × Option FieldType := (⟨n_Sr, "byteNow", "()I"⟩, prog_8_method_7_code, 1, (some .int))
abbrev m_Sr_readHead : MethodName × ByteArray × Nat × Option FieldType := (⟨n_Sr, "readHead", "()Z"⟩, prog_8_method_8_code, 1, (some .boolean))
abbrev m_Sr_readList : MethodName × ByteArray × Nat × Option FieldType := (⟨n_Sr, "readList", "(LSortTransform$FrontList;)Z"⟩, prog_8_method_9_code, 5, (some .boolean))
abbrev m_Sr_readSixteenth : MethodName × ByteArray × Nat × Option FieldType := (⟨n_Sr, "readSixteenth", "(LSortTransform$FrontList;I)Z"⟩, prog_8_method_10_code, 6, (some .boolean))
abbrev m_Sr_isMarked : MethodName × ByteArray × Nat × Option FieldType := (⟨n_Sr, "isMarked", "(II)Z"⟩, prog_8_method_11_code, 2, (some .boolean))
abbrev m_Sr_readLengths : MethodName × ByteArray × Nat × Option FieldType := (⟨n_Sr, "readLengths", "(LSortTransform$Codes;I)Z"⟩, prog_8_method_12_code, 5, (some .boolean))
abbrev m_Sr_readLength : MethodName × ByteArray × Nat × Option FieldType := (⟨n_Sr, "readLength", "(LSortTransform$Codes;I)Z"⟩, prog_8_method_13_code, 5, (some .boolean))
abbrev m_Sr_isNoLength : MethodName × ByteArray × Nat × Option FieldType := (⟨n_Sr, "isNoLength", "(I)Z"⟩, prog_8_method_14_code, 1, (some .boolean))
abbrev m_Sr_readSymbols : MethodName × ByteArray × Nat × Option FieldType := (⟨n_Sr, "readSymbols", "(LSortTransform$Codes;LSortTransform$FrontList;)Z"⟩, prog_8_method_15_code, 10, (some .boolean))
abbrev m_Sr_nextSymbol : MethodName × ByteArray × Nat × Option FieldType := (⟨n_Sr, "nextSymbol", "(LSortTransform$Codes;)I"⟩, prog_8_method_16_code, 7, (some .int))
abbrev m_Sr_isGivenBack : MethodName × ByteArray × Nat × Option FieldType := (⟨n_Sr, "isGivenBack", "(LSortTransform$Bench;)Z"⟩, prog_8_method_17_code, 2, (some .boolean))
abbrev m_Sr_isAtEnd : MethodName × ByteArray × Nat × Option FieldType := (⟨n_Sr, "isAtEnd", "()Z"⟩, prog_8_method_18_code, 3, (some .boolean))
abbrev m_Sw_init : MethodName × ByteArray × Nat × Option FieldType := (⟨n_Sw, "<init>", "()V"⟩, prog_9_method_1_code, 1, none)
abbrev m_Sw_writeStream : MethodName × ByteArray × Nat × Option FieldType := (⟨n_Sw, "writeStream", "(LSortTransform$Row;ILSortTransform$Bench;)V"⟩, prog_9_method_2_code, 4, none)
abbrev m_Sw_put : MethodName × ByteArray × Nat × Option FieldType := (⟨n_Sw, "put", "(II)V"⟩, prog_9_method_3_code, 4, none)
abbrev m_Sw_putList : MethodName × ByteArray × Nat × Option FieldType := (⟨n_Sw, "putList", "(LSortTransform$FrontList;)V"⟩, prog_9_method_4_code, 5, none)
abbrev m_Sw_marksIn : MethodName × ByteArray × Nat × Option FieldType := (⟨n_Sw, "marksIn", "(LSortTransform$FrontList;I)I"⟩, prog_9_method_5_code, 5, (some .int))
abbrev m_Sw_markOf : MethodName × ByteArray × Nat × Option FieldType := (⟨n_Sw, "markOf", "(I)I"⟩, prog_9_method_6_code, 1, (some .int))
abbrev m_Sw_putLengths : MethodName × ByteArray × Nat × Option FieldType := (⟨n_Sw, "putLengths", "(LSortTransform$Codes;)V"⟩, prog_9_method_7_code, 5, none)
abbrev m_Sw_putCodes : MethodName × ByteArray × Nat × Option FieldType := (⟨n_Sw, "putCodes", "(LSortTransform$Symbols;LSortTransform$Codes;)V"⟩, prog_9_method_8_code, 5, none)
abbrev m_Sy_init : MethodName × ByteArray × Nat × Option FieldType := (⟨n_Sy, "<init>", "()V"⟩, prog_10_method_1_code, 1, none)
abbrev m_Sy_at : MethodName × ByteArray × Nat × Option FieldType := (⟨n_Sy, "at", "(I)I"⟩, prog_10_method_2_code, 2, (some .int))
abbrev m_Sy_makeFrom : MethodName × ByteArray × Nat × Option FieldType := (⟨n_Sy, "makeFrom", "(LSortTransform$Row;)V"⟩, prog_10_method_3_code, 5, none)
abbrev m_Sy_addDigits : MethodName × ByteArray × Nat × Option FieldType := (⟨n_Sy, "addDigits", "(I)V"⟩, prog_10_method_4_code, 3, none)
abbrev m_Sy_addSymbol : MethodName × ByteArray × Nat × Option FieldType := (⟨n_Sy, "addSymbol", "(I)V"⟩, prog_10_method_5_code, 2, none)
abbrev m_Tu_init : MethodName × ByteArray × Nat × Option FieldType := (⟨n_Tu, "<init>", "()V"⟩, prog_11_method_1_code, 1, none)
abbrev m_Tu_turnAt : MethodName × ByteArray × Nat × Option FieldType := (⟨n_Tu, "turnAt", "(I)I"⟩, prog_11_method_2_code, 2, (some .int))
abbrev m_Tu_placeOf : MethodName × ByteArray × Nat × Option FieldType := (⟨n_Tu, "placeOf", "(I)I"⟩, prog_11_method_3_code, 2, (some .int))
abbrev m_Tu_sortTurns : MethodName × ByteArray × Nat × Option FieldType := (⟨n_Tu, "sortTurns", "(LSortTransform$Row;)V"⟩, prog_11_method_4_code, 4, none)
abbrev m_Tu_lineUp : MethodName × ByteArray × Nat × Option FieldType := (⟨n_Tu, "lineUp", "()V"⟩, prog_11_method_5_code, 2, none)
abbrev m_Tu_shift : MethodName × ByteArray × Nat × Option FieldType := (⟨n_Tu, "shift", "(I)V"⟩, prog_11_method_6_code, 3, none)
abbrev m_Tu_sortByRank : MethodName × ByteArray × Nat × Option FieldType := (⟨n_Tu, "sortByRank", "()V"⟩, prog_11_method_7_code, 3, none)
abbrev m_Tu_numberRanks : MethodName × ByteArray × Nat × Option FieldType := (⟨n_Tu, "numberRanks", "(I)V"⟩, prog_11_method_8_code, 8, none)
abbrev m_Tu_around : MethodName × ByteArray × Nat × Option FieldType := (⟨n_Tu, "around", "(I)I"⟩, prog_11_method_9_code, 2, (some .int))
abbrev m_Tu_notePlaces : MethodName × ByteArray × Nat × Option FieldType := (⟨n_Tu, "notePlaces", "(LSortTransform$Row;)V"⟩, prog_11_method_10_code, 4, none)
abbrev m_Lw_law : MethodName × ByteArray × Nat × Option FieldType := (⟨n_Lw, "law", "([I)Z"⟩, code, 4, (some .boolean))
abbrev m_Ar_fill : MethodName × ByteArray × Nat × Option FieldType := (⟨n_Ar, "fill", "([II)V"⟩, prog_16_method_103_code, 4, none)
end
section
/-! THE BASE: an abstract heap (a list of cells; place 0 is the law's script), and a judgement over it that the kit's rows carry to the machine. -/
abbrev ax_C : Type := (Nat × vp_A) ⊕ (Nat × List Value)
abbrev ax_H : Type := List ax_C
abbrev ax_M : Type := MethodName × ByteArray × Nat × Option FieldType
abbrev ax_L : Type := List (Option Value)
def ax_ad (b base i : Nat) : Nat := match i with
  | 0 => b
  | j + 1 => base + j
def ax_v (b base : Nat) (v : Value) : Value := match v with
  | .ref i => .ref (ax_ad b base i)
  | .int x => .int x
  | .long x => .long x
  | .float x => .float x
  | .double x => .double x
  | .null => .null
  | .retAddr x => .retAddr x
theorem ax_v_cat (b base : Nat) (v : Value) : (ax_v b base v).category = v.category := by cases v <;> rfl
def ax_arr (b base : Nat) (a : vp_A) : vp_A := match a with
  | (n, .inl f) => (n, .inl f)
  | (n, .inr (.inl f)) => (n, .inr (.inl f))
  | (n, .inr (.inr (.inl f))) => (n, .inr (.inr (.inl f)))
  | (n, .inr (.inr (.inr (.inl f)))) => (n, .inr (.inr (.inr (.inl f))))
  | (n, .inr (.inr (.inr (.inr f)))) => (n, .inr (.inr (.inr (.inr (fun j => (f j).map (ax_ad b base))))))
def ax_e (b base : Nat) (tc : Nat → ClassId) (c : ax_C) : va_E := match c with
  | .inl a => .inl (tc a.1, ax_arr b base a.2)
  | .inr o => .inr (o.1, o.2.map (ax_v b base))
def ax_w (b base : Nat) (tc : Nat → ClassId) (h : ax_H) : va_W := (h.drop 1).mapIdx (fun i c => (base + i, ax_e b base tc c))
theorem ax_w_at {b base : Nat} {tc : Nat → ClassId} {h : ax_H} {i : Nat} : (ax_w b base tc h)[i]? = (h[i + 1]?).map (fun c => (base + i, ax_e b base tc c)) := by
  rw [ax_w, List.getElem?_mapIdx, List.getElem?_drop, Nat.add_comm 1 i]
theorem ax_w_len {b base : Nat} {tc : Nat → ClassId} {h : ax_H} : (ax_w b base tc h).length = h.length - 1 := by simp [ax_w]
theorem ax_w_set {b base : Nat} {tc : Nat → ClassId} {h : ax_H} {i : Nat} {c : ax_C} : ax_w b base tc (h.set (i + 1) c) = (ax_w b base tc h).set i (base + i, ax_e b base tc c) := by
  apply List.ext_getElem?
  intro j
  rw [ax_w_at, List.getElem?_set, List.getElem?_set, ax_w_len, ax_w_at]
  by_cases e : i = j
  · subst e
    by_cases hl : i + 1 < h.length
    · rw [if_pos rfl, if_pos hl, if_pos rfl, if_pos (by omega)]; rfl
    · rw [if_pos rfl, if_neg hl, if_pos rfl, if_neg (by omega)]; rfl
  · rw [if_neg (by omega), if_neg e]
theorem ax_w_push {b base : Nat} {tc : Nat → ClassId} {h : ax_H} {c : ax_C} (h1 : 1 ≤ h.length) : ax_w b base tc (h ++ [c]) = ax_w b base tc h ++ [(base + (h.length - 1), ax_e b base tc c)] := by
  apply List.ext_getElem?
  intro j
  rw [ax_w_at, List.getElem?_append, List.getElem?_append, ax_w_len]
  by_cases e : j + 1 < h.length
  · rw [if_pos e, if_pos (by omega), ax_w_at]
  · rw [if_neg e, if_neg (by omega)]
    by_cases e2 : j + 1 = h.length
    · have e3 : h.length - 1 = j := by omega
      rw [e3, show j + 1 - h.length = 0 by omega, Nat.sub_self]; rfl
    · rw [List.getElem?_eq_none (by simp; omega), List.getElem?_eq_none (by simp; omega)]; rfl
theorem ax_w_D {b base : Nat} {tc : Nat → ClassId} {h : ax_H} : va_D (fun q => base ≤ q) (ax_w b base tc h) := by
  refine ⟨fun i j x y hi hj hxy => ?_, fun k q hk => ?_⟩
  · rw [ax_w_at] at hi hj
    obtain ⟨c1, _, rfl⟩ := Option.map_eq_some_iff.mp hi
    obtain ⟨c2, _, rfl⟩ := Option.map_eq_some_iff.mp hj
    have : base + i = base + j := hxy
    omega
  · rw [ax_w_at] at hk
    obtain ⟨c1, _, rfl⟩ := Option.map_eq_some_iff.mp hk
    exact Nat.le_add_right _ _
def ax_n (c : ax_C) : Nat := match c with
  | .inl a => a.2.1
  | .inr o => o.2.length
def ax_sl (h : ax_H) : Nat := (h.map ax_n).sum
theorem ax_sl_push {h : ax_H} {c : ax_C} : ax_sl (h ++ [c]) = ax_sl h + ax_n c := by simp [ax_sl]
theorem ax_sl_set {h : ax_H} {a : Nat} {c c0 : ax_C} (ha : h[a]? = some c0) (e : ax_n c = ax_n c0) : ax_sl (h.set a c) = ax_sl h := by
  have key : (h.set a c).map ax_n = h.map ax_n := by
    apply List.ext_getElem?
    intro j
    rw [List.getElem?_map, List.getElem?_map, List.getElem?_set]
    by_cases hj : a = j
    · subst hj
      have hl := (List.getElem?_eq_some_iff.mp ha).1
      rw [if_pos rfl, if_pos hl, ha]
      simp [e]
    · rw [if_neg hj]
  rw [ax_sl, key, ax_sl]
/-! the tables' words -/
def ax_good (w : Cond) : Bool := (w.onTables && w.keeps) || (match w with
  | .arrayClass _ => true
  | _ => false)
def ax_all : List Cond := lw_tbl.filter ax_good
theorem ax_all_in {w : Cond} (h : w ∈ lw_tbl) (g : ax_good w = true) : w ∈ ax_all := List.mem_filter.mpr ⟨h, g⟩
theorem ax_all_good {w : Cond} (h : w ∈ ax_all) : (w.onTables && w.keeps) = true ∨ ∃ ty, w = .arrayClass ty := by
  have h2 := (List.mem_filter.mp h).2
  unfold ax_good at h2
  rcases Bool.or_eq_true_iff.mp h2 with h3 | h3
  · exact Or.inl h3
  · split at h3
    · exact Or.inr ⟨_, rfl⟩
    · cases h3
def ax_isN (w : Cond) : Bool := match w with
  | .fieldLinkNest _ _ _ _ _ _ => true
  | .methodLinkNest _ _ _ _ => true
  | _ => false
def ax_nest : List Cond := lw_tbl.filter ax_isN
theorem ax_nest_in {w : Cond} (h : w ∈ lw_tbl) (g : ax_isN w = true) : w ∈ ax_nest := List.mem_filter.mpr ⟨h, g⟩
theorem ax_nest_tab (w : Cond) (hw : w ∈ ax_nest) : w.onTables = true := by
  have h := (List.mem_filter.mp hw).2
  unfold ax_isN at h
  split at h
  · rfl
  · rfl
  · cases h
theorem ax_nest_warm (w : Cond) (hw : w ∈ ax_nest) {s U : State} (hW : s.WarmedH U.vm) (hZ : va_Nw w s) : va_Nw w U := by
  have h := (List.mem_filter.mp hw).2
  unfold ax_isN at h
  split at h
  · exact va_Nw.warmF hW hZ
  · exact va_Nw.warmM hW hZ
  · cases h
def ax_cd (M : ax_M) : Cond := .code M.1 M.2.1 M.2.2.1 M.2.2.2
def ax_ws (M : ax_M) : List Cond := ax_cd M :: ax_all
theorem ax_goodIn {N : ax_M} (hN : ax_cd N ∈ ax_all) : GoodIn ax_all (ax_ws N) := by
  intro w hw
  rcases List.mem_cons.mp hw with rfl | h
  · exact ⟨hN, ax_all_good hN⟩
  · exact ⟨h, ax_all_good h⟩
/-! the judgement -/
def ax_tys (tc : Nat → ClassId) : List (ClassId × FieldType) := ax_ty.mapIdx (fun i t => (tc i, t))
theorem ax_tys_at {tc : Nat → ClassId} {t0 : Nat} {ty : FieldType} (h : ax_ty[t0]? = some ty) : (ax_tys tc)[t0]? = some (tc t0, ty) := by
  rw [ax_tys, List.getElem?_mapIdx, h]; rfl
def ax_At (D : va_G) (tc : Nat → ClassId) (b base : Nat) (h : ax_H) (U : State) (H : Heap) : Prop :=
  va_P D vwCl (ax_w b base tc h) H ∧ H.size + 1 = base + h.length ∧ ∃ (L : Nat) (xs : Nat → Int32), h[0]? = some (.inl (0, L, .inl xs)) ∧ va_X b L xs U H
def ax_K (D : va_G) (tc : Nat → ClassId) (U : State) : Prop := va_K D vwCl (ax_tys tc) U ∧ ∀ w ∈ ax_nest, va_Nw w U
def ax_Cx (M : ax_M) (D : va_G) (tc : Nat → ClassId) (b base : Nat) (p : Program) (s : State) (m : MethodId) (args : Array Value) (meth : Method) (c : Code) : Prop :=
  p.tables.exec = Jvm.exec ∧ c.code = M.2.1 ∧ c.maxLocals = M.2.2.1 ∧ meth.sig.returnType = M.2.2.2 ∧ meth.locks = false ∧ (M.1.name = "<init>" → meth.name = "<init>") ∧ s.vm.findClass M.1.cls = some m.cls ∧ (∀ w ∈ ax_all, w.before args s = true) ∧ ax_K D tc s ∧ b < base
def ax_lv (b base : Nat) (ls : Array Slot) (n : Nat) (lv : ax_L) : Prop := ls.size = n ∧ lv_wf ls ∧ ∀ (i : Nat) (v : Value), lv[i]? = some (some v) → ls[i]? = some (.val (ax_v b base v))
def ax_mono (h h' : ax_H) : Prop := h.length ≤ h'.length ∧ ax_sl h ≤ ax_sl h'
theorem ax_mono.rf {h : ax_H} : ax_mono h h := ⟨Nat.le_refl _, Nat.le_refl _⟩
theorem ax_mono.tr {a b c : ax_H} (h1 : ax_mono a b) (h2 : ax_mono b c) : ax_mono a c := ⟨Nat.le_trans h1.1 h2.1, Nat.le_trans h1.2 h2.2⟩
def ax_R (R : Room) (d mc ms : Nat) : Prop := d ≤ R.frames ∧ 45 * d ≤ R.locals ∧ mc ≤ R.cells ∧ ms ≤ R.slots
def ax_Q (D : va_G) (tc : Nat → ClassId) (b base : Nat) (r : Option Value) (h' : ax_H) : Array Value → State → Outcome → State → Prop := fun _ st oc t =>
  oc = .returned (r.map (ax_v b base)) ∧ ax_At D tc b base h' t t.heap ∧ va_F (fun q => base ≤ q) st t
def ax_X (M : ax_M) (d pc : Nat) (lv : ax_L) (st : List Value) (h : ax_H) (r : Option Value) (h' : ax_H) : Prop :=
  ax_mono h h' ∧ ∀ (l : Launch) (D : va_G) (tc : Nat → ClassId) (b base : Nat) (p : Program) (e : Env) (R : Room) (s : State) (m : MethodId) (args : Array Value) (below : List Frame) (meth : Method) (c : Code), ax_Cx M D tc b base p s m args meth c →
    ∀ (H : Heap) (locs : List Loc) (ls : Array Slot) (cells slots : Nat), ax_R R d (cells + (h'.length - h.length)) (slots + (ax_sl h' - ax_sl h)) → ax_At D tc b base h s H → va_S (fun q => base ≤ q) s.heap H locs → ax_lv b base ls M.2.2.1 lv →
      W p l e R s m args below meth c H locs cells slots (MQ below (ax_Q D tc b base r h') args s (cells + (h'.length - h.length)) (slots + (ax_sl h' - ax_sl h)) (fun q => base ≤ q)) (F0 m pc ls (st.map (ax_v b base)))
def ax_W (M : ax_M) (d pc : Nat) (lv : ax_L) (st : List Value) (h : ax_H) (Q : Option Value → ax_H → Prop) : Prop := ∃ (r : Option Value) (h' : ax_H), Q r h' ∧ ax_X M d pc lv st h r h'
def ax_rm (d mc ms : Nat) : Room := { frames := d, cells := mc, slots := ms, locals := 45 * d }
def ax_Call (M : ax_M) (d : Nat) (av : List Value) (h : ax_H) (r : Option Value) (h' : ax_H) : Prop :=
  ax_mono h h' ∧ ∀ (l : Launch) (D : va_G) (tc : Nat → ClassId) (b base : Nat), b < base → Met l M.1 (ax_ws M) (ax_rm d (h'.length - h.length) (ax_sl h' - ax_sl h)) (va_Pc (av.map (ax_v b base)) (fun U => ax_At D tc b base h U U.heap ∧ ax_K D tc U)) (ax_Q D tc b base r h') (h'.length - h.length) (ax_sl h' - ax_sl h) (fun q => base ≤ q)
def ax_Cl (M : ax_M) (d : Nat) (av : List Value) (h : ax_H) (Q : Option Value → ax_H → Prop) : Prop := ∃ (r : Option Value) (h' : ax_H), Q r h' ∧ ax_Call M d av h r h'
theorem ax_Cl.mono {M : ax_M} {d : Nat} {av : List Value} {h : ax_H} {Q Q' : Option Value → ax_H → Prop} (k : ax_Cl M d av h Q) (f : ∀ r h', Q r h' → Q' r h') : ax_Cl M d av h Q' := by
  obtain ⟨r, h', q, c⟩ := k
  exact ⟨r, h', f r h' q, c⟩
theorem ax_W.mono {M : ax_M} {d pc : Nat} {lv : ax_L} {st : List Value} {h : ax_H} {Q Q' : Option Value → ax_H → Prop} (k : ax_W M d pc lv st h Q) (f : ∀ r h', Q r h' → Q' r h') : ax_W M d pc lv st h Q' := by
  obtain ⟨r, h', q, c⟩ := k
  exact ⟨r, h', f r h' q, c⟩
/-! a method's start -/
def ax_fl (av : List Value) : ax_L := av.flatMap (fun v => if v.category = 2 then [some v, none] else [some v])
def ax_l0 (n : Nat) (av : List Value) : ax_L := ax_fl av ++ List.replicate (n - (ax_fl av).length) none
theorem ax_sl_len (b base : Nat) (av : List Value) : (lg_sl (av.map (ax_v b base))).length = (ax_fl av).length := by
  induction av with
  | nil => rfl
  | cons v t ih =>
    have e1 : lg_sl ((v :: t).map (ax_v b base)) = (if (ax_v b base v).category = 2 then [Slot.val (ax_v b base v), Slot.second] else [Slot.val (ax_v b base v)]) ++ lg_sl (t.map (ax_v b base)) := by simp [lg_sl]
    have e2 : ax_fl (v :: t) = (if v.category = 2 then [some v, none] else [some v]) ++ ax_fl t := by simp [ax_fl]
    rw [e1, e2, List.length_append, List.length_append, ih, ax_v_cat]
    split <;> rfl
theorem ax_fl_args (b base : Nat) : ∀ (av : List Value) (k i : Nat) (v : Value), (ax_fl av)[i]? = some (some v) → (k + i, ax_v b base v) ∈ lv_args k (av.map (ax_v b base))
  | [], k, i, v, h => by simp [ax_fl] at h
  | w :: t, k, i, v, h => by
    have e2 : ax_fl (w :: t) = (if w.category = 2 then [some w, none] else [some w]) ++ ax_fl t := by simp [ax_fl]
    rw [e2] at h
    show _ ∈ (k, ax_v b base w) :: lv_args (if (ax_v b base w).category = 2 then k + 2 else k + 1) (t.map (ax_v b base))
    rw [ax_v_cat]
    by_cases hc : w.category = 2
    · rw [if_pos hc] at h ⊢
      match i, h with
      | 0, h => simp at h; subst h; exact List.mem_cons_self
      | 1, h => simp at h
      | i + 2, h =>
        have h' : (ax_fl t)[i]? = some (some v) := by simpa using h
        have := ax_fl_args b base t (k + 2) i v h'
        rw [show k + (i + 2) = k + 2 + i by omega]
        exact List.mem_cons_of_mem _ this
    · rw [if_neg hc] at h ⊢
      match i, h with
      | 0, h => simp at h; subst h; exact List.mem_cons_self
      | i + 1, h =>
        have h' : (ax_fl t)[i]? = some (some v) := by simpa using h
        have := ax_fl_args b base t (k + 1) i v h'
        rw [show k + (i + 1) = k + 1 + i by omega]
        exact List.mem_cons_of_mem _ this
theorem ax_lv_entry {b base n : Nat} {av : List Value} (hlen : (ax_fl av).length ≤ n) : ax_lv b base ((lg_sl (av.map (ax_v b base)) ++ List.replicate (n - (lg_sl (av.map (ax_v b base))).length) Slot.unset).toArray) n (ax_l0 n av) := by
  obtain ⟨h1, h2, h3⟩ := lv_entry (av.map (ax_v b base)) (n := n) (by rw [ax_sl_len]; exact hlen)
  refine ⟨h1, h2, fun i v hv => ?_⟩
  have hv' : (ax_fl av)[i]? = some (some v) := by
    unfold ax_l0 at hv
    rw [List.getElem?_append] at hv
    split at hv
    · exact hv
    · exfalso
      rw [List.getElem?_replicate] at hv
      split at hv <;> simp at hv
  have := ax_fl_args b base av 0 i v hv'
  rw [Nat.zero_add] at this
  exact h3 _ this
theorem ax_enter {M : ax_M} {d : Nat} {av : List Value} {h : ax_H} {Q : Option Value → ax_H → Prop} (lv : ax_L) (hlv : ax_l0 M.2.2.1 av = lv) (hlen : (ax_fl av).length ≤ M.2.2.1) (hpl : plainName M.1.cls = true)
    (k : ax_W M d 0 lv [] h Q) : ax_Cl M d av h Q := by
  obtain ⟨r, h', hq, hp, k⟩ := k
  subst hlv
  refine ⟨r, h', hq, hp, fun l D tc b base hbb => ?_⟩
  refine Met.ofW (cc := M.2.1) (maxL := M.2.2.1) (ret := M.2.2.2) hpl rfl ?_
  intro p e s m args below meth c s₁ B hml hv
  obtain ⟨rfl, hA, hK⟩ := hv
  rw [lg_entry_eq]
  have hts := atoms_spec (ws := ax_ws M) B.pre
  have := k l D tc b base p e (headSpec (ax_ws M) (ax_rm d (h'.length - h.length) (ax_sl h' - ax_sl h))).room s m _ below meth c ⟨B.exec, B.bytes, hml, B.returns, B.notSynchronized, fun hi => (name_of_methodNamed B.named B.method).1.trans hi, findClass_of_methodNamed B.named, fun w hw => hts w (List.mem_cons_of_mem _ hw), hK, hbb⟩ s.heap [] _ 0 0 ⟨Nat.le_refl _, Nat.le_refl _, by rw [Nat.zero_add]; exact Nat.le_refl _, by rw [Nat.zero_add]; exact Nat.le_refl _⟩ hA va_S.rf (ax_lv_entry hlen)
  rw [Nat.zero_add, Nat.zero_add] at this
  exact this
/-! a step that touches no cell -/
theorem ax_step {M : ax_M} {d pc pc' : Nat} {lv lv' : ax_L} {st st' : List Value} {h : ax_H} {Q : Option Value → ax_H → Prop}
    (f : ∀ (p : Program) (l : Launch) (e : Env) (R : Room) (s : State) (m : MethodId) (args : Array Value) (below : List Frame) (meth : Method) (c : Code) (H : Heap) (locs : List Loc) (cells slots : Nat) (Qs : State → Prop) (ls : Array Slot) (b base : Nat),
      p.tables.exec = Jvm.exec → c.code = M.2.1 → s.vm.findClass M.1.cls = some m.cls → (∀ w ∈ ax_all, w.before args s = true) → ax_lv b base ls M.2.2.1 lv →
      (∀ ls' : Array Slot, ax_lv b base ls' M.2.2.1 lv' → W p l e R s m args below meth c H locs cells slots Qs (F0 m pc' ls' (st'.map (ax_v b base)))) → W p l e R s m args below meth c H locs cells slots Qs (F0 m pc ls (st.map (ax_v b base))))
    (k : ax_W M d pc' lv' st' h Q) : ax_W M d pc lv st h Q := by
  obtain ⟨r, h', hq, hp, k⟩ := k
  refine ⟨r, h', hq, hp, fun l D tc b base p e R s m args below meth c C H locs ls cells slots hR hA hS hl => ?_⟩
  have C' := C
  obtain ⟨hx, hb, hml, hr, hlk, hnm, how, hts, hK, hbb⟩ := C
  exact f p l e R s m args below meth c H locs cells slots _ ls b base hx hb how hts hl (fun ls' hl' => k l D tc b base p e R s m args below meth c C' H locs ls' cells slots hR hA hS hl')
/-! locals -/
theorem ax_lv_at {b base n i : Nat} {ls : Array Slot} {lv : ax_L} {v : Value} (h : ax_lv b base ls n lv) (hv : lv[i]? = some (some v)) : ls[i]? = some (.val (ax_v b base v)) := h.2.2 i v hv
def ax_c2 (lv : ax_L) (i : Nat) : Bool := match i with
  | 0 => false
  | j + 1 => match lv[j]? with
    | some (some v) => v.category == 2
    | _ => false
def ax_as (b base : Nat) (lv : ax_L) : List (Nat × Value) := lv.zipIdx.filterMap (fun q => q.1.map (fun v => (q.2, ax_v b base v)))
theorem ax_as_mem {b base : Nat} {lv : ax_L} {q : Nat × Value} : q ∈ ax_as b base lv ↔ ∃ v, lv[q.1]? = some (some v) ∧ q.2 = ax_v b base v := by
  unfold ax_as
  rw [List.mem_filterMap]
  constructor
  · rintro ⟨⟨x, i⟩, hx, hq⟩
    have h1 : lv[i]? = some x := List.mem_zipIdx_iff_getElem?.mp hx
    cases x with
    | none => simp at hq
    | some v =>
      have hq' : (i, ax_v b base v) = q := by simpa using hq
      subst hq'
      exact ⟨v, h1, rfl⟩
  · rintro ⟨v, h1, h2⟩
    obtain ⟨i, w⟩ := q
    refine ⟨(some v, i), List.mem_zipIdx_iff_getElem?.mpr h1, ?_⟩
    have h2' : w = ax_v b base v := h2
    rw [h2']
    rfl
theorem ax_lv_has {b base n : Nat} {ls : Array Slot} {lv : ax_L} (h : ax_lv b base ls n lv) : lv_has ls n (ax_as b base lv) := by
  refine ⟨h.1, h.2.1, fun q hq => ?_⟩
  obtain ⟨v, h1, h2⟩ := ax_as_mem.mp hq
  rw [h2]
  exact h.2.2 _ v h1
theorem ax_lv_st1 {b base n i : Nat} {ls : Array Slot} {lv : ax_L} {v : Value} (hc2 : ax_c2 lv i = false) (h : lv_has ls n ((i, ax_v b base v) :: (ax_as b base lv).filter (fun q => !(q.1 == i) && !(q.1 + 1 == i && q.2.category == 2)))) : ax_lv b base ls n (lv.set i (some v)) := by
  refine ⟨h.1, h.2.1, fun j w hw => ?_⟩
  rw [List.getElem?_set] at hw
  by_cases e : i = j
  · subst e
    rw [if_pos rfl] at hw
    split at hw
    · cases hw
      exact h.2.2 _ List.mem_cons_self
    · cases hw
  · rw [if_neg e] at hw
    refine h.2.2 (j, ax_v b base w) (List.mem_cons_of_mem _ (List.mem_filter.mpr ⟨ax_as_mem.mpr ⟨w, hw, rfl⟩, ?_⟩))
    have e1 : (j == i) = false := by simpa using Ne.symm e
    have e2 : (j + 1 == i && (ax_v b base w).category == 2) = false := by
      by_cases e3 : j + 1 = i
      · subst e3
        have : (w.category == 2) = false := by simpa [ax_c2, hw] using hc2
        rw [ax_v_cat, this, Bool.and_false]
      · rw [show (j + 1 == i) = false by simpa using e3, Bool.false_and]
    show (!(j == i) && !(j + 1 == i && (ax_v b base w).category == 2)) = true
    rw [e1, e2]
    rfl
theorem ax_lv_st2 {b base n i : Nat} {ls : Array Slot} {lv : ax_L} {v : Value} (hc2 : ax_c2 lv i = false) (h : lv_has ls n ((i, ax_v b base v) :: (ax_as b base lv).filter (fun q => !(q.1 == i) && (!(q.1 == i + 1) && !(q.1 + 1 == i && q.2.category == 2))))) : ax_lv b base ls n ((lv.set i (some v)).set (i + 1) none) := by
  refine ⟨h.1, h.2.1, fun j w hw => ?_⟩
  rw [List.getElem?_set] at hw
  by_cases e0 : i + 1 = j
  · rw [if_pos e0] at hw
    split at hw <;> simp at hw
  rw [if_neg e0, List.getElem?_set] at hw
  by_cases e : i = j
  · subst e
    rw [if_pos rfl] at hw
    split at hw
    · cases hw
      exact h.2.2 _ List.mem_cons_self
    · cases hw
  · rw [if_neg e] at hw
    refine h.2.2 (j, ax_v b base w) (List.mem_cons_of_mem _ (List.mem_filter.mpr ⟨ax_as_mem.mpr ⟨w, hw, rfl⟩, ?_⟩))
    have e1 : (j == i) = false := by simpa using Ne.symm e
    have e4 : (j == i + 1) = false := by simpa using Ne.symm e0
    have e2 : (j + 1 == i && (ax_v b base w).category == 2) = false := by
      by_cases e3 : j + 1 = i
      · subst e3
        have : (w.category == 2) = false := by simpa [ax_c2, hw] using hc2
        rw [ax_v_cat, this, Bool.and_false]
      · rw [show (j + 1 == i) = false by simpa using e3, Bool.false_and]
    show (!(j == i) && (!(j == i + 1) && !(j + 1 == i && (ax_v b base w).category == 2))) = true
    rw [e1, e2, e4]
    rfl
end
section
section AXR
variable {M : ax_M} {d pc : Nat} {lv : ax_L} {st : List Value} {h : ax_H} {Q : Option Value → ax_H → Prop}
theorem ax_iadd {x y : Int32} (hd : decode M.2.1 pc = .ok (.iadd, 1))  (k : ax_W M d (pc + 1) lv (.int (x + y) :: st) h Q) : ax_W M d pc lv (.int y :: .int x :: st) h Q :=
  ax_step (fun p l e R s m args below meth c H locs cells slots Qs ls b base hx hb ho ht hl k => lv_iadd hx hb hd (k ls hl)) k
theorem ax_isub {x y : Int32} (hd : decode M.2.1 pc = .ok (.isub, 1))  (k : ax_W M d (pc + 1) lv (.int (x - y) :: st) h Q) : ax_W M d pc lv (.int y :: .int x :: st) h Q :=
  ax_step (fun p l e R s m args below meth c H locs cells slots Qs ls b base hx hb ho ht hl k => lv_isub hx hb hd (k ls hl)) k
theorem ax_imul {x y : Int32} (hd : decode M.2.1 pc = .ok (.imul, 1))  (k : ax_W M d (pc + 1) lv (.int (x * y) :: st) h Q) : ax_W M d pc lv (.int y :: .int x :: st) h Q :=
  ax_step (fun p l e R s m args below meth c H locs cells slots Qs ls b base hx hb ho ht hl k => lv_imul hx hb hd (k ls hl)) k
theorem ax_iand {x y : Int32} (hd : decode M.2.1 pc = .ok (.iand, 1))  (k : ax_W M d (pc + 1) lv (.int (x &&& y) :: st) h Q) : ax_W M d pc lv (.int y :: .int x :: st) h Q :=
  ax_step (fun p l e R s m args below meth c H locs cells slots Qs ls b base hx hb ho ht hl k => lv_iand hx hb hd (k ls hl)) k
theorem ax_ior {x y : Int32} (hd : decode M.2.1 pc = .ok (.ior, 1))  (k : ax_W M d (pc + 1) lv (.int (x ||| y) :: st) h Q) : ax_W M d pc lv (.int y :: .int x :: st) h Q :=
  ax_step (fun p l e R s m args below meth c H locs cells slots Qs ls b base hx hb ho ht hl k => lv_ior hx hb hd (k ls hl)) k
theorem ax_ixor {x y : Int32} (hd : decode M.2.1 pc = .ok (.ixor, 1))  (k : ax_W M d (pc + 1) lv (.int (x ^^^ y) :: st) h Q) : ax_W M d pc lv (.int y :: .int x :: st) h Q :=
  ax_step (fun p l e R s m args below meth c H locs cells slots Qs ls b base hx hb ho ht hl k => lv_ixor hx hb hd (k ls hl)) k
theorem ax_idiv {x y : Int32} (hd : decode M.2.1 pc = .ok (.idiv, 1)) (hne : ¬ y = 0) (k : ax_W M d (pc + 1) lv (.int (x / y) :: st) h Q) : ax_W M d pc lv (.int y :: .int x :: st) h Q :=
  ax_step (fun p l e R s m args below meth c H locs cells slots Qs ls b base hx hb ho ht hl k => lv_idiv hx hb hd hne (k ls hl)) k
theorem ax_irem {x y : Int32} (hd : decode M.2.1 pc = .ok (.irem, 1)) (hne : ¬ y = 0) (k : ax_W M d (pc + 1) lv (.int (x - x / y * y) :: st) h Q) : ax_W M d pc lv (.int y :: .int x :: st) h Q :=
  ax_step (fun p l e R s m args below meth c H locs cells slots Qs ls b base hx hb ho ht hl k => lv_irem hx hb hd hne (k ls hl)) k
theorem ax_ineg {x : Int32} (hd : decode M.2.1 pc = .ok (.ineg, 1))  (k : ax_W M d (pc + 1) lv (.int (-x) :: st) h Q) : ax_W M d pc lv (.int x :: st) h Q :=
  ax_step (fun p l e R s m args below meth c H locs cells slots Qs ls b base hx hb ho ht hl k => lv_ineg hx hb hd (k ls hl)) k
theorem ax_ishl {x y : Int32} (hd : decode M.2.1 pc = .ok (.ishl, 1))  (k : ax_W M d (pc + 1) lv (.int (x <<< (y &&& 31)) :: st) h Q) : ax_W M d pc lv (.int y :: .int x :: st) h Q :=
  ax_step (fun p l e R s m args below meth c H locs cells slots Qs ls b base hx hb ho ht hl k => lv_ishl hx hb hd (k ls hl)) k
theorem ax_ishr {x y : Int32} (hd : decode M.2.1 pc = .ok (.ishr, 1))  (k : ax_W M d (pc + 1) lv (.int (x >>> (y &&& 31)) :: st) h Q) : ax_W M d pc lv (.int y :: .int x :: st) h Q :=
  ax_step (fun p l e R s m args below meth c H locs cells slots Qs ls b base hx hb ho ht hl k => lv_ishr hx hb hd (k ls hl)) k
theorem ax_iushr {x y : Int32} (hd : decode M.2.1 pc = .ok (.iushr, 1))  (k : ax_W M d (pc + 1) lv (.int ((x.toUInt32 >>> (y.toUInt32 &&& Int32.toUInt32 31)).toInt32) :: st) h Q) : ax_W M d pc lv (.int y :: .int x :: st) h Q :=
  ax_step (fun p l e R s m args below meth c H locs cells slots Qs ls b base hx hb ho ht hl k => lv_iushr hx hb hd rfl (k ls hl)) k
theorem ax_ladd {x y : Int64} (hd : decode M.2.1 pc = .ok (.ladd, 1))  (k : ax_W M d (pc + 1) lv (.long (x + y) :: st) h Q) : ax_W M d pc lv (.long y :: .long x :: st) h Q :=
  ax_step (fun p l e R s m args below meth c H locs cells slots Qs ls b base hx hb ho ht hl k => lv_ladd hx hb hd (k ls hl)) k
theorem ax_lsub {x y : Int64} (hd : decode M.2.1 pc = .ok (.lsub, 1))  (k : ax_W M d (pc + 1) lv (.long (x - y) :: st) h Q) : ax_W M d pc lv (.long y :: .long x :: st) h Q :=
  ax_step (fun p l e R s m args below meth c H locs cells slots Qs ls b base hx hb ho ht hl k => lv_lsub hx hb hd (k ls hl)) k
theorem ax_lmul {x y : Int64} (hd : decode M.2.1 pc = .ok (.lmul, 1))  (k : ax_W M d (pc + 1) lv (.long (x * y) :: st) h Q) : ax_W M d pc lv (.long y :: .long x :: st) h Q :=
  ax_step (fun p l e R s m args below meth c H locs cells slots Qs ls b base hx hb ho ht hl k => lv_lmul hx hb hd (k ls hl)) k
theorem ax_land {x y : Int64} (hd : decode M.2.1 pc = .ok (.land, 1))  (k : ax_W M d (pc + 1) lv (.long (x &&& y) :: st) h Q) : ax_W M d pc lv (.long y :: .long x :: st) h Q :=
  ax_step (fun p l e R s m args below meth c H locs cells slots Qs ls b base hx hb ho ht hl k => lv_land hx hb hd (k ls hl)) k
theorem ax_lor {x y : Int64} (hd : decode M.2.1 pc = .ok (.lor, 1))  (k : ax_W M d (pc + 1) lv (.long (x ||| y) :: st) h Q) : ax_W M d pc lv (.long y :: .long x :: st) h Q :=
  ax_step (fun p l e R s m args below meth c H locs cells slots Qs ls b base hx hb ho ht hl k => lv_lor hx hb hd (k ls hl)) k
theorem ax_lxor {x y : Int64} (hd : decode M.2.1 pc = .ok (.lxor, 1))  (k : ax_W M d (pc + 1) lv (.long (x ^^^ y) :: st) h Q) : ax_W M d pc lv (.long y :: .long x :: st) h Q :=
  ax_step (fun p l e R s m args below meth c H locs cells slots Qs ls b base hx hb ho ht hl k => lv_lxor hx hb hd (k ls hl)) k
theorem ax_lushr {x : Int64} {y : Int32} (hd : decode M.2.1 pc = .ok (.lushr, 1))  (k : ax_W M d (pc + 1) lv (.long ((x.toUInt64 >>> (y.toInt64.toUInt64 &&& Int64.toUInt64 63)).toInt64) :: st) h Q) : ax_W M d pc lv (.int y :: .long x :: st) h Q :=
  ax_step (fun p l e R s m args below meth c H locs cells slots Qs ls b base hx hb ho ht hl k => lv_lushr hx hb hd rfl (k ls hl)) k
theorem ax_lshl {x : Int64} {y : Int32} (hd : decode M.2.1 pc = .ok (.lshl, 1))  (k : ax_W M d (pc + 1) lv (.long (x <<< (y.toInt64 &&& 63)) :: st) h Q) : ax_W M d pc lv (.int y :: .long x :: st) h Q :=
  ax_step (fun p l e R s m args below meth c H locs cells slots Qs ls b base hx hb ho ht hl k => lv_lshl hx hb hd rfl (k ls hl)) k
theorem ax_lshr {x : Int64} {y : Int32} (hd : decode M.2.1 pc = .ok (.lshr, 1))  (k : ax_W M d (pc + 1) lv (.long (x >>> (y.toInt64 &&& 63)) :: st) h Q) : ax_W M d pc lv (.int y :: .long x :: st) h Q :=
  ax_step (fun p l e R s m args below meth c H locs cells slots Qs ls b base hx hb ho ht hl k => lv_lshr hx hb hd rfl (k ls hl)) k
theorem ax_i2l {x : Int32} (hd : decode M.2.1 pc = .ok (.i2l, 1))  (k : ax_W M d (pc + 1) lv (.long x.toInt64 :: st) h Q) : ax_W M d pc lv (.int x :: st) h Q :=
  ax_step (fun p l e R s m args below meth c H locs cells slots Qs ls b base hx hb ho ht hl k => lv_i2l hx hb hd rfl (k ls hl)) k
theorem ax_l2i {x : Int64} (hd : decode M.2.1 pc = .ok (.l2i, 1))  (k : ax_W M d (pc + 1) lv (.int x.toInt32 :: st) h Q) : ax_W M d pc lv (.long x :: st) h Q :=
  ax_step (fun p l e R s m args below meth c H locs cells slots Qs ls b base hx hb ho ht hl k => lv_l2i hx hb hd rfl (k ls hl)) k
theorem ax_lcmp {x y : Int64} (hd : decode M.2.1 pc = .ok (.lcmp, 1))  (k : ax_W M d (pc + 1) lv (.int (lg_cmp x y) :: st) h Q) : ax_W M d pc lv (.long y :: .long x :: st) h Q :=
  ax_step (fun p l e R s m args below meth c H locs cells slots Qs ls b base hx hb ho ht hl k => W.lcmp hx hb hd (k ls hl)) k
theorem ax_i2b {x : Int32} (hd : decode M.2.1 pc = .ok (.i2b, 1))  (k : ax_W M d (pc + 1) lv (.int x.toInt8.toInt32 :: st) h Q) : ax_W M d pc lv (.int x :: st) h Q :=
  ax_step (fun p l e R s m args below meth c H locs cells slots Qs ls b base hx hb ho ht hl k => lv_i2b hx hb hd rfl (k ls hl)) k
theorem ax_i2c {x : Int32} (hd : decode M.2.1 pc = .ok (.i2c, 1))  (k : ax_W M d (pc + 1) lv (.int (x.toUInt32 % 65536).toInt32 :: st) h Q) : ax_W M d pc lv (.int x :: st) h Q :=
  ax_step (fun p l e R s m args below meth c H locs cells slots Qs ls b base hx hb ho ht hl k => lv_i2c hx hb hd rfl (k ls hl)) k
theorem ax_iconst {n : Int} (v : Int32) (hd : decode M.2.1 pc = .ok (.iconst n, 1)) (hv : Int32.ofInt n = v) (k : ax_W M d (pc + 1) lv (.int v :: st) h Q) : ax_W M d pc lv (st) h Q :=
  ax_step (fun p l e R s m args below meth c H locs cells slots Qs ls b base hx hb ho ht hl k => lv_iconst hx hb hd hv (k ls hl)) k
theorem ax_bipush {n : Int} (v : Int32) (hd : decode M.2.1 pc = .ok (.bipush n, 2)) (hv : (Int8.ofInt n).toInt32 = v) (k : ax_W M d (pc + 2) lv (.int v :: st) h Q) : ax_W M d pc lv (st) h Q :=
  ax_step (fun p l e R s m args below meth c H locs cells slots Qs ls b base hx hb ho ht hl k => lv_bipush hx hb hd hv (k ls hl)) k
theorem ax_sipush {n : Int} (v : Int32) (hd : decode M.2.1 pc = .ok (.sipush n, 3)) (hv : (Int16.ofInt n).toInt32 = v) (k : ax_W M d (pc + 3) lv (.int v :: st) h Q) : ax_W M d pc lv (st) h Q :=
  ax_step (fun p l e R s m args below meth c H locs cells slots Qs ls b base hx hb ho ht hl k => lv_sipush hx hb hd hv (k ls hl)) k
theorem ax_lconst {n : Fin 2} (v : Int64) (hd : decode M.2.1 pc = .ok (.lconst n, 1)) (hv : Int64.ofNat (n : Nat) = v) (k : ax_W M d (pc + 1) lv (.long v :: st) h Q) : ax_W M d pc lv (st) h Q :=
  ax_step (fun p l e R s m args below meth c H locs cells slots Qs ls b base hx hb ho ht hl k => lv_lconst hx hb hd hv (k ls hl)) k
theorem ax_null  (hd : decode M.2.1 pc = .ok (.aconst_null, 1))  (k : ax_W M d (pc + 1) lv (.null :: st) h Q) : ax_W M d pc lv (st) h Q :=
  ax_step (fun p l e R s m args below meth c H locs cells slots Qs ls b base hx hb ho ht hl k => lv_null hx hb hd (k ls hl)) k
theorem ax_ldc {index : Nat} {v : Int32} (hd : decode M.2.1 pc = .ok (.ldc index, 2)) (hw : Cond.constant M.1.cls index v ∈ ax_all) (k : ax_W M d (pc + 2) lv (.int v :: st) h Q) : ax_W M d pc lv (st) h Q :=
  ax_step (fun p l e R s m args below meth c H locs cells slots Qs ls b base hx hb ho ht hl k => lv_ldc hx hb ho (ht _ hw) hd (k ls hl)) k
theorem ax_ldc2 {index : Nat} {v : Int64} (hd : decode M.2.1 pc = .ok (.ldc2_w index, 3)) (hw : Cond.constantLong M.1.cls index v ∈ ax_all) (k : ax_W M d (pc + 3) lv (.long v :: st) h Q) : ax_W M d pc lv (st) h Q :=
  ax_step (fun p l e R s m args below meth c H locs cells slots Qs ls b base hx hb ho ht hl k => lv_ldc2 hx hb ho (ht _ hw) hd (k ls hl)) k
theorem ax_iload_n {n : Fin 4} {x : Int32} (hd : decode M.2.1 pc = .ok (.iload_n n, 1)) (hl0 : lv[(n : Nat)]? = some (some (.int x))) (k : ax_W M d (pc + 1) lv (.int x :: st) h Q) : ax_W M d pc lv (st) h Q :=
  ax_step (fun p l e R s m args below meth c H locs cells slots Qs ls b base hx hb ho ht hl k => lv_iload_n hx hb hd rfl (ax_lv_at hl hl0) (k ls hl)) k
theorem ax_iload {n : Nat} {x : Int32} (hd : decode M.2.1 pc = .ok (.iload n, 2)) (hl0 : lv[n]? = some (some (.int x))) (k : ax_W M d (pc + 2) lv (.int x :: st) h Q) : ax_W M d pc lv (st) h Q :=
  ax_step (fun p l e R s m args below meth c H locs cells slots Qs ls b base hx hb ho ht hl k => lv_iload hx hb hd (ax_lv_at hl hl0) (k ls hl)) k
theorem ax_lload_n {n : Fin 4} {x : Int64} (hd : decode M.2.1 pc = .ok (.lload_n n, 1)) (hl0 : lv[(n : Nat)]? = some (some (.long x))) (k : ax_W M d (pc + 1) lv (.long x :: st) h Q) : ax_W M d pc lv (st) h Q :=
  ax_step (fun p l e R s m args below meth c H locs cells slots Qs ls b base hx hb ho ht hl k => lv_lload_n hx hb hd rfl (ax_lv_at hl hl0) (k ls hl)) k
theorem ax_lload {n : Nat} {x : Int64} (hd : decode M.2.1 pc = .ok (.lload n, 2)) (hl0 : lv[n]? = some (some (.long x))) (k : ax_W M d (pc + 2) lv (.long x :: st) h Q) : ax_W M d pc lv (st) h Q :=
  ax_step (fun p l e R s m args below meth c H locs cells slots Qs ls b base hx hb ho ht hl k => lv_lload hx hb hd (ax_lv_at hl hl0) (k ls hl)) k
theorem ax_aload_n {n : Fin 4} {x : Nat} (hd : decode M.2.1 pc = .ok (.aload_n n, 1)) (hl0 : lv[(n : Nat)]? = some (some (.ref x))) (k : ax_W M d (pc + 1) lv (.ref x :: st) h Q) : ax_W M d pc lv (st) h Q :=
  ax_step (fun p l e R s m args below meth c H locs cells slots Qs ls b base hx hb ho ht hl k => lv_aload_n hx hb hd rfl (ax_lv_at hl hl0) (k ls hl)) k
theorem ax_aload {n : Nat} {x : Nat} (hd : decode M.2.1 pc = .ok (.aload n, 2)) (hl0 : lv[n]? = some (some (.ref x))) (k : ax_W M d (pc + 2) lv (.ref x :: st) h Q) : ax_W M d pc lv (st) h Q :=
  ax_step (fun p l e R s m args below meth c H locs cells slots Qs ls b base hx hb ho ht hl k => lv_aload hx hb hd (ax_lv_at hl hl0) (k ls hl)) k
theorem ax_dup {v : Value} (hd : decode M.2.1 pc = .ok (.dup, 1)) (hv : v.category = 1) (k : ax_W M d (pc + 1) lv (v :: v :: st) h Q) : ax_W M d pc lv (v :: st) h Q :=
  ax_step (fun p l e R s m args below meth c H locs cells slots Qs ls b base hx hb ho ht hl k => lv_dup hx hb hd ((ax_v_cat b base v).trans hv) (k ls hl)) k
theorem ax_pop {v : Value} (hd : decode M.2.1 pc = .ok (.pop, 1)) (hv : v.category = 1) (k : ax_W M d (pc + 1) lv (st) h Q) : ax_W M d pc lv (v :: st) h Q :=
  ax_step (fun p l e R s m args below meth c H locs cells slots Qs ls b base hx hb ho ht hl k => lv_pop hx hb hd ((ax_v_cat b base v).trans hv) (k ls hl)) k
theorem ax_dup_x1 {v w : Value} (hd : decode M.2.1 pc = .ok (.dup_x1, 1)) (hv : v.category = 1) (hw : w.category = 1) (k : ax_W M d (pc + 1) lv (v :: w :: v :: st) h Q) : ax_W M d pc lv (v :: w :: st) h Q :=
  ax_step (fun p l e R s m args below meth c H locs cells slots Qs ls b base hx hb ho ht hl k => lv_dup_x1 hx hb hd ((ax_v_cat b base v).trans hv) ((ax_v_cat b base w).trans hw) (k ls hl)) k
theorem ax_dup_x2 {v w z : Value} (hd : decode M.2.1 pc = .ok (.dup_x2, 1)) (hv : v.category = 1) (hw : w.category = 1) (hz : z.category = 1) (k : ax_W M d (pc + 1) lv (v :: w :: z :: v :: st) h Q) : ax_W M d pc lv (v :: w :: z :: st) h Q :=
  ax_step (fun p l e R s m args below meth c H locs cells slots Qs ls b base hx hb ho ht hl k => lv_dup_x2 hx hb hd ((ax_v_cat b base v).trans hv) ((ax_v_cat b base w).trans hw) ((ax_v_cat b base z).trans hz) (k ls hl)) k
theorem ax_dup2 {v w : Value} (hd : decode M.2.1 pc = .ok (.dup2, 1)) (hv : v.category = 1) (hw : w.category = 1) (k : ax_W M d (pc + 1) lv (v :: w :: v :: w :: st) h Q) : ax_W M d pc lv (v :: w :: st) h Q :=
  ax_step (fun p l e R s m args below meth c H locs cells slots Qs ls b base hx hb ho ht hl k => lv_dup2_11 hx hb hd ((ax_v_cat b base v).trans hv) ((ax_v_cat b base w).trans hw) (k ls hl)) k
theorem ax_istore_n {n : Fin 4} {x : Int32} (hd : decode M.2.1 pc = .ok (.istore_n n, 1)) (hn : ((n : Nat)) < M.2.2.1) (hc : ax_c2 lv ((n : Nat)) = false) (k : ax_W M d (pc + 1) (lv.set ((n : Nat)) (some (.int x))) st h Q) : ax_W M d pc lv (.int x :: st) h Q :=
  ax_step (fun p l e R s m args below meth c H locs cells slots Qs ls b base hx hb ho ht hl k => lv_istore_n hx hb hd rfl (ax_lv_has hl) hn rfl (fun ls' hl' => k ls' (ax_lv_st1 (v := .int x) hc hl'))) k
theorem ax_istore {n : Nat} {x : Int32} (hd : decode M.2.1 pc = .ok (.istore n, 2)) (hn : (n) < M.2.2.1) (hc : ax_c2 lv (n) = false) (k : ax_W M d (pc + 2) (lv.set (n) (some (.int x))) st h Q) : ax_W M d pc lv (.int x :: st) h Q :=
  ax_step (fun p l e R s m args below meth c H locs cells slots Qs ls b base hx hb ho ht hl k => lv_istore hx hb hd (ax_lv_has hl) hn rfl (fun ls' hl' => k ls' (ax_lv_st1 (v := .int x) hc hl'))) k
theorem ax_astore_n {n : Fin 4} {x : Nat} (hd : decode M.2.1 pc = .ok (.astore_n n, 1)) (hn : ((n : Nat)) < M.2.2.1) (hc : ax_c2 lv ((n : Nat)) = false) (k : ax_W M d (pc + 1) (lv.set ((n : Nat)) (some (.ref x))) st h Q) : ax_W M d pc lv (.ref x :: st) h Q :=
  ax_step (fun p l e R s m args below meth c H locs cells slots Qs ls b base hx hb ho ht hl k => lv_astore_n hx hb hd rfl (ax_lv_has hl) hn rfl (fun ls' hl' => k ls' (ax_lv_st1 (v := .ref x) hc hl'))) k
theorem ax_astore {n : Nat} {x : Nat} (hd : decode M.2.1 pc = .ok (.astore n, 2)) (hn : (n) < M.2.2.1) (hc : ax_c2 lv (n) = false) (k : ax_W M d (pc + 2) (lv.set (n) (some (.ref x))) st h Q) : ax_W M d pc lv (.ref x :: st) h Q :=
  ax_step (fun p l e R s m args below meth c H locs cells slots Qs ls b base hx hb ho ht hl k => lv_astore hx hb hd (ax_lv_has hl) hn rfl (fun ls' hl' => k ls' (ax_lv_st1 (v := .ref x) hc hl'))) k
theorem ax_lstore_n {n : Fin 4} {x : Int64} (hd : decode M.2.1 pc = .ok (.lstore_n n, 1)) (hn : ((n : Nat)) + 1 < M.2.2.1) (hc : ax_c2 lv ((n : Nat)) = false) (k : ax_W M d (pc + 1) ((lv.set ((n : Nat)) (some (.long x))).set ((n : Nat) + 1) none) st h Q) : ax_W M d pc lv (.long x :: st) h Q :=
  ax_step (fun p l e R s m args below meth c H locs cells slots Qs ls b base hx hb ho ht hl k => lv_lstore_n hx hb hd rfl (ax_lv_has hl) hn rfl (fun ls' hl' => k ls' (ax_lv_st2 (v := .long x) hc hl'))) k
theorem ax_lstore {n : Nat} {x : Int64} (hd : decode M.2.1 pc = .ok (.lstore n, 2)) (hn : (n) + 1 < M.2.2.1) (hc : ax_c2 lv (n) = false) (k : ax_W M d (pc + 2) ((lv.set (n) (some (.long x))).set (n + 1) none) st h Q) : ax_W M d pc lv (.long x :: st) h Q :=
  ax_step (fun p l e R s m args below meth c H locs cells slots Qs ls b base hx hb ho ht hl k => lv_lstore hx hb hd (ax_lv_has hl) hn rfl (fun ls' hl' => k ls' (ax_lv_st2 (v := .long x) hc hl'))) k
theorem ax_iinc {n : Nat} {z : Int} {x : Int32} (v : Int32) (hd : decode M.2.1 pc = .ok (.iinc n z, 3)) (hl0 : lv[n]? = some (some (.int x))) (hv : x + Int32.ofInt z = v) (hn : n < M.2.2.1) (hc : ax_c2 lv n = false) (k : ax_W M d (pc + 3) (lv.set n (some (.int v))) st h Q) : ax_W M d pc lv st h Q := by
  refine ax_step (fun p l e R s m args below meth c H locs cells slots Qs ls b base hx hb ho ht hl k => ?_) k
  have hm : (n, Value.int x) ∈ ax_as b base lv := ax_as_mem.mpr ⟨.int x, hl0, rfl⟩
  obtain ⟨q, hq⟩ := List.getElem?_of_mem hm
  exact lv_iinc hx hb hd (ax_lv_has hl) hq hv hn rfl (fun ls' hl' => k ls' (ax_lv_st1 (v := .int v) hc hl'))
theorem ax_if_eq {x : Int32} {off : Int} (tgt : Nat) (hd : decode M.2.1 pc = .ok (.ifCond .eq off, 3)) (htg : (pc : Int) + off = (tgt : Int)) (kt : x = 0 → ax_W M d tgt lv st h Q) (kf : ¬ x = 0 → ax_W M d (pc + 3) lv st h Q) : ax_W M d pc lv (.int x :: st) h Q := by
  by_cases hc : x = 0
  · exact ax_step (fun p l e R s m args below meth c H locs cells slots Qs ls b base hx hb ho ht hl k => lv_if_eq hx hb hd htg (fun _ => k ls hl) (fun n => by first | exact absurd hc n | exact absurd n hc)) (kt hc)
  · exact ax_step (fun p l e R s m args below meth c H locs cells slots Qs ls b base hx hb ho ht hl k => lv_if_eq hx hb hd htg (fun n => absurd n hc) (fun _ => k ls hl)) (kf (by first | exact hc | exact Decidable.not_not.mp hc))
theorem ax_if_ne {x : Int32} {off : Int} (tgt : Nat) (hd : decode M.2.1 pc = .ok (.ifCond .ne off, 3)) (htg : (pc : Int) + off = (tgt : Int)) (kt : ¬ x = 0 → ax_W M d tgt lv st h Q) (kf : x = 0 → ax_W M d (pc + 3) lv st h Q) : ax_W M d pc lv (.int x :: st) h Q := by
  by_cases hc : ¬ x = 0
  · exact ax_step (fun p l e R s m args below meth c H locs cells slots Qs ls b base hx hb ho ht hl k => lv_if_ne hx hb hd htg (fun _ => k ls hl) (fun n => by first | exact absurd hc n | exact absurd n hc)) (kt hc)
  · exact ax_step (fun p l e R s m args below meth c H locs cells slots Qs ls b base hx hb ho ht hl k => lv_if_ne hx hb hd htg (fun n => absurd n hc) (fun _ => k ls hl)) (kf (by first | exact hc | exact Decidable.not_not.mp hc))
theorem ax_if_lt {x : Int32} {off : Int} (tgt : Nat) (hd : decode M.2.1 pc = .ok (.ifCond .lt off, 3)) (htg : (pc : Int) + off = (tgt : Int)) (kt : x < 0 → ax_W M d tgt lv st h Q) (kf : ¬ x < 0 → ax_W M d (pc + 3) lv st h Q) : ax_W M d pc lv (.int x :: st) h Q := by
  by_cases hc : x < 0
  · exact ax_step (fun p l e R s m args below meth c H locs cells slots Qs ls b base hx hb ho ht hl k => lv_if_lt hx hb hd htg (fun _ => k ls hl) (fun n => by first | exact absurd hc n | exact absurd n hc)) (kt hc)
  · exact ax_step (fun p l e R s m args below meth c H locs cells slots Qs ls b base hx hb ho ht hl k => lv_if_lt hx hb hd htg (fun n => absurd n hc) (fun _ => k ls hl)) (kf (by first | exact hc | exact Decidable.not_not.mp hc))
theorem ax_if_ge {x : Int32} {off : Int} (tgt : Nat) (hd : decode M.2.1 pc = .ok (.ifCond .ge off, 3)) (htg : (pc : Int) + off = (tgt : Int)) (kt : 0 ≤ x → ax_W M d tgt lv st h Q) (kf : ¬ 0 ≤ x → ax_W M d (pc + 3) lv st h Q) : ax_W M d pc lv (.int x :: st) h Q := by
  by_cases hc : 0 ≤ x
  · exact ax_step (fun p l e R s m args below meth c H locs cells slots Qs ls b base hx hb ho ht hl k => lv_if_ge hx hb hd htg (fun _ => k ls hl) (fun n => by first | exact absurd hc n | exact absurd n hc)) (kt hc)
  · exact ax_step (fun p l e R s m args below meth c H locs cells slots Qs ls b base hx hb ho ht hl k => lv_if_ge hx hb hd htg (fun n => absurd n hc) (fun _ => k ls hl)) (kf (by first | exact hc | exact Decidable.not_not.mp hc))
theorem ax_if_gt {x : Int32} {off : Int} (tgt : Nat) (hd : decode M.2.1 pc = .ok (.ifCond .gt off, 3)) (htg : (pc : Int) + off = (tgt : Int)) (kt : 0 < x → ax_W M d tgt lv st h Q) (kf : ¬ 0 < x → ax_W M d (pc + 3) lv st h Q) : ax_W M d pc lv (.int x :: st) h Q := by
  by_cases hc : 0 < x
  · exact ax_step (fun p l e R s m args below meth c H locs cells slots Qs ls b base hx hb ho ht hl k => lv_if_gt hx hb hd htg (fun _ => k ls hl) (fun n => by first | exact absurd hc n | exact absurd n hc)) (kt hc)
  · exact ax_step (fun p l e R s m args below meth c H locs cells slots Qs ls b base hx hb ho ht hl k => lv_if_gt hx hb hd htg (fun n => absurd n hc) (fun _ => k ls hl)) (kf (by first | exact hc | exact Decidable.not_not.mp hc))
theorem ax_if_le {x : Int32} {off : Int} (tgt : Nat) (hd : decode M.2.1 pc = .ok (.ifCond .le off, 3)) (htg : (pc : Int) + off = (tgt : Int)) (kt : x ≤ 0 → ax_W M d tgt lv st h Q) (kf : ¬ x ≤ 0 → ax_W M d (pc + 3) lv st h Q) : ax_W M d pc lv (.int x :: st) h Q := by
  by_cases hc : x ≤ 0
  · exact ax_step (fun p l e R s m args below meth c H locs cells slots Qs ls b base hx hb ho ht hl k => lv_if_le hx hb hd htg (fun _ => k ls hl) (fun n => by first | exact absurd hc n | exact absurd n hc)) (kt hc)
  · exact ax_step (fun p l e R s m args below meth c H locs cells slots Qs ls b base hx hb ho ht hl k => lv_if_le hx hb hd htg (fun n => absurd n hc) (fun _ => k ls hl)) (kf (by first | exact hc | exact Decidable.not_not.mp hc))
theorem ax_icmp_eq {x y : Int32} {off : Int} (tgt : Nat) (hd : decode M.2.1 pc = .ok (.if_icmp .eq off, 3)) (htg : (pc : Int) + off = (tgt : Int)) (kt : x = y → ax_W M d tgt lv st h Q) (kf : ¬ x = y → ax_W M d (pc + 3) lv st h Q) : ax_W M d pc lv (.int y :: .int x :: st) h Q := by
  by_cases hc : x = y
  · exact ax_step (fun p l e R s m args below meth c H locs cells slots Qs ls b base hx hb ho ht hl k => lv_icmp_eq hx hb hd htg (fun _ => k ls hl) (fun n => by first | exact absurd hc n | exact absurd n hc)) (kt hc)
  · exact ax_step (fun p l e R s m args below meth c H locs cells slots Qs ls b base hx hb ho ht hl k => lv_icmp_eq hx hb hd htg (fun n => absurd n hc) (fun _ => k ls hl)) (kf (by first | exact hc | exact Decidable.not_not.mp hc))
theorem ax_icmp_ne {x y : Int32} {off : Int} (tgt : Nat) (hd : decode M.2.1 pc = .ok (.if_icmp .ne off, 3)) (htg : (pc : Int) + off = (tgt : Int)) (kt : ¬ x = y → ax_W M d tgt lv st h Q) (kf : x = y → ax_W M d (pc + 3) lv st h Q) : ax_W M d pc lv (.int y :: .int x :: st) h Q := by
  by_cases hc : ¬ x = y
  · exact ax_step (fun p l e R s m args below meth c H locs cells slots Qs ls b base hx hb ho ht hl k => lv_icmp_ne hx hb hd htg (fun _ => k ls hl) (fun n => by first | exact absurd hc n | exact absurd n hc)) (kt hc)
  · exact ax_step (fun p l e R s m args below meth c H locs cells slots Qs ls b base hx hb ho ht hl k => lv_icmp_ne hx hb hd htg (fun n => absurd n hc) (fun _ => k ls hl)) (kf (by first | exact hc | exact Decidable.not_not.mp hc))
theorem ax_icmp_lt {x y : Int32} {off : Int} (tgt : Nat) (hd : decode M.2.1 pc = .ok (.if_icmp .lt off, 3)) (htg : (pc : Int) + off = (tgt : Int)) (kt : x < y → ax_W M d tgt lv st h Q) (kf : ¬ x < y → ax_W M d (pc + 3) lv st h Q) : ax_W M d pc lv (.int y :: .int x :: st) h Q := by
  by_cases hc : x < y
  · exact ax_step (fun p l e R s m args below meth c H locs cells slots Qs ls b base hx hb ho ht hl k => lv_icmp_lt hx hb hd htg (fun _ => k ls hl) (fun n => by first | exact absurd hc n | exact absurd n hc)) (kt hc)
  · exact ax_step (fun p l e R s m args below meth c H locs cells slots Qs ls b base hx hb ho ht hl k => lv_icmp_lt hx hb hd htg (fun n => absurd n hc) (fun _ => k ls hl)) (kf (by first | exact hc | exact Decidable.not_not.mp hc))
theorem ax_icmp_ge {x y : Int32} {off : Int} (tgt : Nat) (hd : decode M.2.1 pc = .ok (.if_icmp .ge off, 3)) (htg : (pc : Int) + off = (tgt : Int)) (kt : y ≤ x → ax_W M d tgt lv st h Q) (kf : ¬ y ≤ x → ax_W M d (pc + 3) lv st h Q) : ax_W M d pc lv (.int y :: .int x :: st) h Q := by
  by_cases hc : y ≤ x
  · exact ax_step (fun p l e R s m args below meth c H locs cells slots Qs ls b base hx hb ho ht hl k => lv_icmp_ge hx hb hd htg (fun _ => k ls hl) (fun n => by first | exact absurd hc n | exact absurd n hc)) (kt hc)
  · exact ax_step (fun p l e R s m args below meth c H locs cells slots Qs ls b base hx hb ho ht hl k => lv_icmp_ge hx hb hd htg (fun n => absurd n hc) (fun _ => k ls hl)) (kf (by first | exact hc | exact Decidable.not_not.mp hc))
theorem ax_icmp_gt {x y : Int32} {off : Int} (tgt : Nat) (hd : decode M.2.1 pc = .ok (.if_icmp .gt off, 3)) (htg : (pc : Int) + off = (tgt : Int)) (kt : y < x → ax_W M d tgt lv st h Q) (kf : ¬ y < x → ax_W M d (pc + 3) lv st h Q) : ax_W M d pc lv (.int y :: .int x :: st) h Q := by
  by_cases hc : y < x
  · exact ax_step (fun p l e R s m args below meth c H locs cells slots Qs ls b base hx hb ho ht hl k => lv_icmp_gt hx hb hd htg (fun _ => k ls hl) (fun n => by first | exact absurd hc n | exact absurd n hc)) (kt hc)
  · exact ax_step (fun p l e R s m args below meth c H locs cells slots Qs ls b base hx hb ho ht hl k => lv_icmp_gt hx hb hd htg (fun n => absurd n hc) (fun _ => k ls hl)) (kf (by first | exact hc | exact Decidable.not_not.mp hc))
theorem ax_icmp_le {x y : Int32} {off : Int} (tgt : Nat) (hd : decode M.2.1 pc = .ok (.if_icmp .le off, 3)) (htg : (pc : Int) + off = (tgt : Int)) (kt : x ≤ y → ax_W M d tgt lv st h Q) (kf : ¬ x ≤ y → ax_W M d (pc + 3) lv st h Q) : ax_W M d pc lv (.int y :: .int x :: st) h Q := by
  by_cases hc : x ≤ y
  · exact ax_step (fun p l e R s m args below meth c H locs cells slots Qs ls b base hx hb ho ht hl k => lv_icmp_le hx hb hd htg (fun _ => k ls hl) (fun n => by first | exact absurd hc n | exact absurd n hc)) (kt hc)
  · exact ax_step (fun p l e R s m args below meth c H locs cells slots Qs ls b base hx hb ho ht hl k => lv_icmp_le hx hb hd htg (fun n => absurd n hc) (fun _ => k ls hl)) (kf (by first | exact hc | exact Decidable.not_not.mp hc))
theorem ax_goto {off : Int} (tgt : Nat) (hd : decode M.2.1 pc = .ok (.goto off, 3)) (htg : (pc : Int) + off = (tgt : Int)) (k : ax_W M d tgt lv st h Q) : ax_W M d pc lv st h Q :=
  ax_step (fun p l e R s m args below meth c H locs cells slots Qs ls b base hx hb ho ht hl k => lv_goto hx hb hd htg (k ls hl)) k
end AXR
end
section
/-! rules that touch cells: reads, writes, new cells, calls, returns -/
def ax_cls (ci : Nat) (C : String) (T : u_T) (N : Nat) : Prop := vwCl[ci]? = some (C, T, N) ∧ ∀ w ∈ u_ws C T N, w ∈ ax_all
def ax_fL (own : String) (idx : Nat) (f : String × String × String × Bool) : Prop := Cond.fieldLink own idx f.1 f.2.1 f.2.2.1 ∈ ax_all ∨ ∃ host, Cond.fieldLinkNest own idx f.1 f.2.1 f.2.2.1 host ∈ ax_nest
/-- the pool's field idx in class own is field k of class ci -/
def ax_FG (own : String) (idx ci k : Nat) : Prop := ∃ (C : String) (T : u_T) (N : Nat), ax_cls ci C T N ∧ k < N ∧ ax_fL own idx (T k)
def ax_tyN (T : u_T) (N : Nat) (ty0 : Nat → FieldType) : Prop := (∀ k, k < N → parseFieldDescriptor (T k).2.2.1 = some (ty0 k)) ∧ ∀ a, a < N → ∀ b, b < N → a ≠ b → (T a).2.1 ≠ (T b).2.1
def ax_FP (own : String) (idx ci k : Nat) (ty : FieldType) : Prop := ∃ (C : String) (T : u_T) (N : Nat) (ty0 : Nat → FieldType), ax_cls ci C T N ∧ k < N ∧ ax_fL own idx (T k) ∧ ax_tyN T N ty0 ∧ (T k).2.2.2 = false ∧ parseFieldDescriptor (T k).2.2.1 = some ty
def ax_FF (own : String) (idx ci k : Nat) (ty : FieldType) : Prop := ∃ (C : String) (T : u_T) (N : Nat) (ty0 : Nat → FieldType), ax_cls ci C T N ∧ k < N ∧ Cond.fieldLink own idx (T k).1 (T k).2.1 (T k).2.2.1 ∈ ax_all ∧ ax_tyN T N ty0 ∧ (T k).2.2.2 = true ∧ (T k).1 = own ∧ parseFieldDescriptor (T k).2.2.1 = some ty
theorem ax_narrow {ty : FieldType} {v : Value} (b base : Nat) (h : narrow ty v = v) : narrow ty (ax_v b base v) = ax_v b base v := by
  cases v with
  | ref a => cases ty <;> rfl
  | _ => exact h
theorem ax_fits {ty : FieldType} {v : Value} (b base : Nat) (h : fits ty v = true) : fits ty (ax_v b base v) = true := by
  cases v with
  | ref a => cases ty <;> first | rfl | cases h
  | _ => exact h
theorem ax_pos {D : va_G} {tc : Nat → ClassId} {b base : Nat} {h : ax_H} {U : State} {H : Heap} {a : Nat} {o : Nat × List Value} (hA : ax_At D tc b base h U H) (ha : h[a]? = some (.inr o)) : ∃ i, a = i + 1 := by
  obtain ⟨-, -, L, xs, h0, -⟩ := hA
  cases a with
  | zero => rw [h0] at ha; cases ha
  | succ i => exact ⟨i, rfl⟩
theorem ax_stepH {M : ax_M} {d pc pc' : Nat} {lv : ax_L} {st st' : List Value} {h h2 : ax_H} {Q : Option Value → ax_H → Prop} (e1 : h2.length = h.length) (e2 : ax_sl h2 = ax_sl h)
    (f : ∀ (p : Program) (l : Launch) (e : Env) (R : Room) (s : State) (m : MethodId) (args : Array Value) (below : List Frame) (meth : Method) (c : Code) (H : Heap) (locs : List Loc) (cells slots : Nat) (Qs : State → Prop) (ls : Array Slot) (b base : Nat) (D : va_G) (tc : Nat → ClassId),
      ax_Cx M D tc b base p s m args meth c → ax_R R d cells slots → ax_At D tc b base h s H → va_S (fun q => base ≤ q) s.heap H locs → ls.size = M.2.2.1 →
      (∀ (H2 : Heap) (locs2 : List Loc), ax_At D tc b base h2 s H2 → va_S (fun q => base ≤ q) s.heap H2 locs2 → W p l e R s m args below meth c H2 locs2 cells slots Qs (F0 m pc' ls (st'.map (ax_v b base)))) → W p l e R s m args below meth c H locs cells slots Qs (F0 m pc ls (st.map (ax_v b base))))
    (k : ax_W M d pc' lv st' h2 Q) : ax_W M d pc lv st h Q := by
  obtain ⟨r, h', hq, ⟨m1, m2⟩, k⟩ := k
  rw [e1] at m1
  rw [e2] at m2
  refine ⟨r, h', hq, ⟨m1, m2⟩, fun l D tc b base p e R s m args below meth c C H locs ls cells slots hR hA hS hl => ?_⟩
  refine f p l e R s m args below meth c H locs cells slots _ ls b base D tc C ⟨hR.1, hR.2.1, Nat.le_trans (Nat.le_add_right _ _) hR.2.2.1, Nat.le_trans (Nat.le_add_right _ _) hR.2.2.2⟩ hA hS hl.1 (fun H2 locs2 hA2 hS2 => ?_)
  have := k l D tc b base p e R s m args below meth c C H2 locs2 ls cells slots (by rw [e1, e2]; exact hR) hA2 hS2 hl
  rw [e1, e2] at this
  exact this
section AXH
variable {M : ax_M} {d pc : Nat} {lv : ax_L} {st : List Value} {h : ax_H} {Q : Option Value → ax_H → Prop}
theorem ax_get {ci a k idx : Nat} {fs : List Value} {v : Value} (hd : decode M.2.1 pc = .ok (.getfield idx, 3)) (hF : ax_FG M.1.cls idx ci k) (ha : h[a]? = some (.inr (ci, fs))) (hv : fs[k]? = some v) (kk : ax_W M d (pc + 3) lv (v :: st) h Q) : ax_W M d pc lv (.ref a :: st) h Q := by
  refine ax_stepH rfl rfl (fun p l e R s m args below meth c H locs cells slots Qs ls b base D tc C hR hA hS hl kk => ?_) kk
  obtain ⟨hx, hb, hml, hr, hlk, hnm, how, hts, hK, hbb⟩ := C
  have kk := kk H locs hA hS
  obtain ⟨C, T, N, ⟨hci, hin⟩, hk, hF⟩ := hF
  obtain ⟨i, rfl⟩ := ax_pos hA ha
  have hw : (ax_w b base tc h)[i]? = some (base + i, .inr (ci, fs.map (ax_v b base))) := by rw [ax_w_at, ha]; rfl
  have hv' : (fs.map (ax_v b base))[k]? = some (ax_v b base v) := by rw [List.getElem?_map, hv]; rfl
  rcases hF with hF | ⟨host, hF⟩
  · exact va_get (ref := (T k).1) hx hb hts hin how hK.1 hA.1 i hw hci k hk (hts _ hF) (fun _ h9 => h9) hv' hd kk
  · exact va_getN (ref := (T k).1) (host := host) hx hb hts hin how hK.1 hA.1 i hw hci k hk (va_Nw.use (ax_nest_tab _ hF) (hK.2 _ hF)) (fun _ h9 => h9) hv' hd kk
/-- behind a write to a cell -/
theorem ax_wrote {D : va_G} {tc : Nat → ClassId} {b base i : Nat} {s : State} {H H1 : Heap} {c0 c1 : ax_C} (hA : ax_At D tc b base h s H) (hbb : b < base) (ha : h[i + 1]? = some c0) (he : va_at D vwCl (base + i, ax_e b base tc c1) H1) (z : H1.size = H.size) (oq : ∀ q, q ≠ base + i → H1[q]? = H[q]?) : ax_At D tc b base (h.set (i + 1) c1) s H1 := by
  have hw : (ax_w b base tc h)[i]? = some (base + i, ax_e b base tc c0) := by rw [ax_w_at, ha]; rfl
  obtain ⟨hP, hz, L, xs, h0, hX⟩ := hA
  refine ⟨?_, by rw [z, List.length_set]; exact hz, L, xs, ?_, hX.kept (oq b (by omega))⟩
  · rw [ax_w_set]
    exact hP.set ax_w_D hw he oq
  · rw [List.getElem?_set_ne (by omega)]
    exact h0
theorem ax_put {ci a k idx : Nat} {ty : FieldType} {fs : List Value} {v : Value} (hd : decode M.2.1 pc = .ok (.putfield idx, 3)) (hF : ax_FP M.1.cls idx ci k ty) (ha : h[a]? = some (.inr (ci, fs))) (hn : narrow ty v = v) (hfit : fits ty v = true) (hlf : k < fs.length) (kk : ax_W M d (pc + 3) lv st (h.set a (.inr (ci, fs.set k v))) Q) : ax_W M d pc lv (v :: .ref a :: st) h Q := by
  refine ax_stepH (by rw [List.length_set]) (ax_sl_set ha (by simp [ax_n])) (fun p l e R s m args below meth c H locs cells slots Qs ls b base D tc C hR hA hS hl kk => ?_) kk
  obtain ⟨hx, hb, hml, hr, hlk, hnm, how, hts, hK, hbb⟩ := C
  obtain ⟨C, T, N, ty0, ⟨hci, hin⟩, hk, hF, ⟨hty, hnn⟩, hfin, hdsc⟩ := hF
  obtain ⟨i, rfl⟩ := ax_pos hA ha
  have hw : (ax_w b base tc h)[i]? = some (base + i, .inr (ci, fs.map (ax_v b base))) := by rw [ax_w_at, ha]; rfl
  have hap := va_apart (own := M.1.cls) hts hin ty0 hty hnn hK.1 hci
  obtain ⟨rr, h1, cell, q1, q2, q3, q4⟩ := hA.1 i _ hw
  have hrr : rr = (C, T, N) := Option.some.inj (h1.symm.trans hci)
  subst hrr
  obtain ⟨hSl, hfc, kC, hkC, hkind⟩ := hK.1.1 ci _ hci
  obtain ⟨cf, kf, fi, f, hi, hsl⟩ := hSl k hk
  have hlay := hts _ (hin _ (u_in_lay hk))
  unfold u_lay at hlay
  rw [if_neg (by rw [hfin]; decide)] at hlay
  have hst := (u_facts hfc hkC (u_lays hts hin hk) hi).1
  have h6 := u_store hfc hkC hkind hlay hi hdsc (ax_narrow b base hn) (ax_fits b base hfit)
  have fin : ∀ H' : Heap, H'[base + i]? = some (cell.setSlot f.slot (ax_v b base v)) → H'.size = H.size → (∀ q, q ≠ base + i → H'[q]? = H[q]?) → W p l e R s m args below meth c H' (locs ++ [⟨base + i, f.slot⟩]) cells slots Qs (F0 m (pc + 3) ls (st.map (ax_v b base))) := by
    intro H' e1 e2 e3
    refine kk H' _ (ax_wrote hA hbb ha ?_ e2 e3) (hS.put e2 e3 (Nat.le_add_right _ _))
    rw [hsl] at e1
    refine ⟨_, hci, t_OB.to (V := updV (vp_V (fs.map (ax_v b base))) k (ax_v b base v)) ⟨_, e1, q2, q3, t_set q4 hap hk (ax_v b base v)⟩ (fun j _ => ?_)⟩
    rw [vp_updV_set (by rw [List.length_map]; exact hlf), List.map_set]
  rcases hF with hF | ⟨host, hF⟩
  · exact W.putK hx hb (f := f) ⟨how, hts _ hF, ⟨_, _, _, hi⟩, hst⟩ (by rw [q2]; exact h6) q1 q3 (by rw [hsl]; exact k2_hasslot (q4 k hk)) rfl rfl hd fin
  · exact va_WputK hx hb (f := f) how (va_Nw.use (ax_nest_tab _ hF) (hK.2 _ hF)) hi hst (by rw [q2]; exact h6) q1 q3 (by rw [hsl]; exact k2_hasslot (q4 k hk)) rfl rfl hd fin
theorem ax_putF {ci a k idx : Nat} {ty : FieldType} {fs : List Value} {v : Value} (hd : decode M.2.1 pc = .ok (.putfield idx, 3)) (hF : ax_FF M.1.cls idx ci k ty) (hini : M.1.name = "<init>") (ha : h[a]? = some (.inr (ci, fs))) (hn : narrow ty v = v) (hfit : fits ty v = true) (hlf : k < fs.length) (kk : ax_W M d (pc + 3) lv st (h.set a (.inr (ci, fs.set k v))) Q) : ax_W M d pc lv (v :: .ref a :: st) h Q := by
  refine ax_stepH (by rw [List.length_set]) (ax_sl_set ha (by simp [ax_n])) (fun p l e R s m args below meth c H locs cells slots Qs ls b base D tc C hR hA hS hl kk => ?_) kk
  obtain ⟨hx, hb, hml, hr, hlk, hnm, how, hts, hK, hbb⟩ := C
  obtain ⟨C, T, N, ty0, ⟨hci, hin⟩, hk, hF, ⟨hty, hnn⟩, hfin, hdecl, hdsc⟩ := hF
  obtain ⟨i, rfl⟩ := ax_pos hA ha
  have hw : (ax_w b base tc h)[i]? = some (base + i, .inr (ci, fs.map (ax_v b base))) := by rw [ax_w_at, ha]; rfl
  have hap := va_apart (own := M.1.cls) hts hin ty0 hty hnn hK.1 hci
  obtain ⟨rr, h1, cell, q1, q2, q3, q4⟩ := hA.1 i _ hw
  have hrr : rr = (C, T, N) := Option.some.inj (h1.symm.trans hci)
  subst hrr
  obtain ⟨hSl, hfc, kC, hkC, hkind⟩ := hK.1.1 ci _ hci
  obtain ⟨cf, kf, fi, f, hi, hsl⟩ := hSl k hk
  have hlay := hts _ (hin _ (u_in_lay hk))
  unfold u_lay at hlay
  rw [if_pos hfin] at hlay
  have hst := (u_facts hfc hkC (u_lays hts hin hk) hi).1
  have hcf : m.cls = cf := by
    obtain ⟨_, _, c', _, _, _, -, -, hf', -, -, -, hown2, -⟩ := Cond.laysFinal_spec hlay
    have e1 : c' = cf := by have := hi.symm.trans hf'; simp at this; exact this.1.symm
    rw [hdecl] at hown2
    rw [← e1]; exact Option.some.inj (how.symm.trans hown2)
  have h6 := u_fits hfc hkC hkind (Or.inr hlay) hi hdsc (ax_narrow b base hn) (ax_fits b base hfit)
  refine W.putFinK hx hb how (hts _ hF) hi hst hcf (hnm hini) (by rw [q2]; exact h6) q1 q3 (by rw [hsl]; exact k2_hasslot (q4 k hk)) rfl rfl hd fun H' e1 e2 e3 => ?_
  refine kk H' _ (ax_wrote hA hbb ha ?_ e2 e3) (hS.put e2 e3 (Nat.le_add_right _ _))
  rw [hsl] at e1
  refine ⟨_, hci, t_OB.to (V := updV (vp_V (fs.map (ax_v b base))) k (ax_v b base v)) ⟨_, e1, q2, q3, t_set q4 hap hk (ax_v b base v)⟩ (fun j _ => ?_)⟩
  rw [vp_updV_set (by rw [List.length_map]; exact hlf), List.map_set]
theorem ax_iald {a n : Nat} {f : Nat → Int32} {i : Int32} (hd : decode M.2.1 pc = .ok (.iaload, 1)) (ha : h[a]? = some (.inl (0, n, .inl f))) (hin : vp_in i n) (kk : ax_W M d (pc + 1) lv (.int (f i.toNatClampNeg) :: st) h Q) : ax_W M d pc lv (.int i :: .ref a :: st) h Q := by
  refine ax_stepH rfl rfl (fun p l e R s m args below meth c H locs cells slots Qs ls b base D tc C hR hA hS hl kk => ?_) kk
  obtain ⟨hx, hb, hml, hr, hlk, hnm, how, hts, hK, hbb⟩ := C
  have kk := kk H locs hA hS
  cases a with
  | zero =>
    obtain ⟨-, -, L, xs, h0, scr, h1, h2, h3, h4, h5⟩ := hA
    rw [h0] at ha
    cases ha
    have hlt : i.toNatClampNeg < n := Nat.not_le.mp fun q => hin (Or.inr q)
    exact W.iald (v := .int (f i.toNatClampNeg)) hx hb h1 h2 h3 (by rw [h4]; exact hin) (h5 _ hlt) rfl rfl hd kk
  | succ a =>
    have hw : (ax_w b base tc h)[a]? = some (base + a, .inl (tc 0, n, .inl f)) := by rw [ax_w_at, ha]; rfl
    exact va_iald hx hb hK.1 hA.1 a 0 hw (ax_tys_at rfl) hin hd kk
theorem ax_alen {a t n : Nat} {f : Nat → Int32} {ty : FieldType} (hd : decode M.2.1 pc = .ok (.arraylength, 1)) (ha : h[a]? = some (.inl (t, n, .inl f))) (ht : ax_ty[t]? = some ty) (kk : ax_W M d (pc + 1) lv (.int (Int32.ofNat n) :: st) h Q) : ax_W M d pc lv (.ref a :: st) h Q := by
  refine ax_stepH rfl rfl (fun p l e R s m args below meth c H locs cells slots Qs ls b base D tc C hR hA hS hl kk => ?_) kk
  obtain ⟨hx, hb, hml, hr, hlk, hnm, how, hts, hK, hbb⟩ := C
  have kk := kk H locs hA hS
  cases a with
  | zero =>
    obtain ⟨-, -, L, xs, h0, scr, h1, h2, h3, h4, h5⟩ := hA
    rw [h0] at ha
    cases ha
    exact W.alen (n := Int32.ofNat n) hx hb h1 h2 (by rw [h4] <;> rfl) rfl rfl hd kk
  | succ a =>
    have hw : (ax_w b base tc h)[a]? = some (base + a, .inl (tc t, n, .inl f)) := by rw [ax_w_at, ha]; rfl
    exact va_alen hx hb hK.1 hA.1 a t hw (ax_tys_at ht) rfl hd kk
theorem ax_iast {a n : Nat} {f : Nat → Int32} {i x : Int32} (hd : decode M.2.1 pc = .ok (.iastore, 1)) (ha : h[a]? = some (.inl (0, n, .inl f))) (h0 : 0 < a) (hin : vp_in i n) (kk : ax_W M d (pc + 1) lv st (h.set a (.inl (0, n, .inl (upd f i.toNatClampNeg x)))) Q) : ax_W M d pc lv (.int x :: .int i :: .ref a :: st) h Q := by
  refine ax_stepH (by rw [List.length_set]) (by exact ax_sl_set ha rfl) (fun p l e R s m args below meth c H locs cells slots Qs ls b base D tc C hR hA hS hl kk => ?_) kk
  obtain ⟨hx, hb, hml, hr, hlk, hnm, how, hts, hK, hbb⟩ := C
  obtain ⟨q0, rfl⟩ : ∃ q, a = q + 1 := ⟨a - 1, by omega⟩
  have hw : (ax_w b base tc h)[q0]? = some (base + q0, .inl (tc 0, n, .inl f)) := by rw [ax_w_at, ha]; rfl
  refine W.iast hx hb (hA.1 q0 _ hw) ((hK.1.2 0 _ (ax_tys_at rfl)).1 n (fun j => .int (f j))) (fun q => by cases q) (by show ¬ (i < 0 ∨ (arrV _ _ _).slots.size ≤ _); rw [arrV_size]; exact hin) rfl rfl hd fun H1 e z oq => ?_
  refine kk H1 _ (ax_wrote hA hbb ha ?_ z oq) (hS.put z oq (Nat.le_add_right _ _))
  show H1[base + q0]? = some (vp_cell _ _)
  rw [e]
  show some ((vp_cell (tc 0) (n, .inl f)).setSlot _ _) = some (vp_cell (tc 0) (n, .inl _))
  rw [vp_cell_i, vp_cell_i, arrV_store]
  congr 2
  funext q
  by_cases hq : q = i.toNatClampNeg
  · subst hq
    simp [updV, upd]
  · simp [updV, upd, hq]
/-! new cells -/
theorem ax_ad_len {D : va_G} {tc : Nat → ClassId} {b base : Nat} {s : State} {H : Heap} (hA : ax_At D tc b base h s H) : ax_ad b base h.length = H.size ∧ H.size = base + (h.length - 1) ∧ 1 ≤ h.length := by
  obtain ⟨-, hz, L, xs, h0, -⟩ := hA
  have hl := (List.getElem?_eq_some_iff.mp h0).1
  obtain ⟨n, hn⟩ : ∃ n, h.length = n + 1 := ⟨h.length - 1, by omega⟩
  rw [hn] at hz ⊢
  refine ⟨?_, by omega, by omega⟩
  show base + n = H.size
  omega
theorem ax_made {D : va_G} {tc : Nat → ClassId} {b base : Nat} {s : State} {H H1 : Heap} {c1 : ax_C} (hA : ax_At D tc b base h s H) (hbb : b < base) (he : va_at D vwCl (H.size, ax_e b base tc c1) H1) (z : H1.size = H.size + 1) (oq : ∀ q, q < H.size → H1[q]? = H[q]?) : ax_At D tc b base (h ++ [c1]) s H1 := by
  obtain ⟨e1, e2, e3⟩ := ax_ad_len hA
  obtain ⟨hP, hz, L, xs, h0, hX⟩ := hA
  refine ⟨?_, by rw [z, List.length_append]; simp; omega, L, xs, ?_, hX.kept (oq b (by omega))⟩
  · rw [ax_w_push e3, ← e2]
    refine va_P.app (hP.kept (fun k q hq => oq _ (hP k q hq).lt)) (fun k x hx => ?_)
    have hz2 : k < 1 := (List.getElem?_eq_some_iff.mp hx).1
    rw [show k = 0 by omega] at hx
    cases hx
    exact he
  · rw [List.getElem?_append_left (by omega)]
    exact h0
theorem ax_S_new {base : Nat} {s : State} {H H1 : Heap} {locs : List Loc} (hS : va_S (fun q => base ≤ q) s.heap H locs) (z : H1.size = H.size + 1) (oq : ∀ q, q < H.size → H1[q]? = H[q]?) : va_S (fun q => base ≤ q) s.heap H1 locs :=
  ⟨Nat.le_trans hS.1 (by omega), fun x h1 h2 => (oq x (Nat.lt_of_lt_of_le h1 hS.1)).trans (hS.2.1 x h1 h2), hS.2.2⟩
theorem ax_stepN {pc' : Nat} {st' : List Value} {c1 : ax_C}
    (f : ∀ (p : Program) (l : Launch) (e : Env) (R : Room) (s : State) (m : MethodId) (args : Array Value) (below : List Frame) (meth : Method) (c : Code) (H : Heap) (locs : List Loc) (cells slots : Nat) (Qs : State → Prop) (ls : Array Slot) (b base : Nat) (D : va_G) (tc : Nat → ClassId),
      ax_Cx M D tc b base p s m args meth c → cells + 1 ≤ R.cells → slots + ax_n c1 ≤ R.slots → ax_At D tc b base h s H → va_S (fun q => base ≤ q) s.heap H locs →
      (∀ (H2 : Heap) (locs2 : List Loc), ax_At D tc b base (h ++ [c1]) s H2 → va_S (fun q => base ≤ q) s.heap H2 locs2 → W p l e R s m args below meth c H2 locs2 (cells + 1) (slots + ax_n c1) Qs (F0 m pc' ls (st'.map (ax_v b base)))) → W p l e R s m args below meth c H locs cells slots Qs (F0 m pc ls (st.map (ax_v b base))))
    (k : ax_W M d pc' lv st' (h ++ [c1]) Q) : ax_W M d pc lv st h Q := by
  obtain ⟨r, h', hq, ⟨m1, m2⟩, k⟩ := k
  have e1 : (h ++ [c1]).length = h.length + 1 := by simp
  have e2 : ax_sl (h ++ [c1]) = ax_sl h + ax_n c1 := ax_sl_push
  rw [e1] at m1
  rw [e2] at m2
  refine ⟨r, h', hq, ⟨by omega, by omega⟩, fun l D tc b base p e R s m args below meth c C H locs ls cells slots hR hA hS hl => ?_⟩
  have q1 : cells + 1 + (h'.length - (h.length + 1)) = cells + (h'.length - h.length) := by omega
  have q2 : slots + ax_n c1 + (ax_sl h' - (ax_sl h + ax_n c1)) = slots + (ax_sl h' - ax_sl h) := by omega
  refine f p l e R s m args below meth c H locs cells slots _ ls b base D tc C (Nat.le_trans (by omega) hR.2.2.1) (Nat.le_trans (by omega) hR.2.2.2) hA hS (fun H2 locs2 hA2 hS2 => ?_)
  have := k l D tc b base p e R s m args below meth c C H2 locs2 ls (cells + 1) (slots + ax_n c1) (by rw [e1, e2, q1, q2]; exact hR) hA2 hS2 hl
  rw [e1, e2, q1, q2] at this
  exact this
def ax_NW (own : String) (idx ci : Nat) (fs : List Value) : Prop := ∃ (C : String) (T : u_T) (N : Nat) (ty : Nat → FieldType), ax_cls ci C T N ∧ (∀ k, k < N → parseFieldDescriptor (T k).2.2.1 = some (ty k)) ∧ Cond.classLink own idx C ∈ ax_all ∧ Cond.instantiable C N ∈ ax_all ∧ Cond.initialized C ∈ ax_all ∧ fs.length = N ∧ (∀ j, j < N → defaultValue (ty j) = vp_V fs j) ∧ ∀ b base, fs.map (ax_v b base) = fs
theorem ax_new {ci idx : Nat} (fs : List Value) (hd : decode M.2.1 pc = .ok (.new idx, 3)) (hN : ax_NW M.1.cls idx ci fs) (kk : ax_W M d (pc + 3) lv (.ref h.length :: st) (h ++ [.inr (ci, fs)]) Q) : ax_W M d pc lv st h Q := by
  refine ax_stepN (fun p l e R s m args below meth c H locs cells slots Qs ls b base D tc C hc hs hA hS kk => ?_) kk
  obtain ⟨hx, hb, hml, hr, hlk, hnm, how, hts, hK, hbb⟩ := C
  obtain ⟨C, T, N, ty, ⟨hci, hin⟩, hty, hcl, hinst, hini, hlen, hfs, hmp⟩ := hN
  have hKn := hK.1.1 ci _ hci
  have hn : ax_n (.inr (ci, fs)) = N := hlen
  rw [hn] at hs kk
  obtain ⟨a1, a2, a3⟩ := ax_ad_len hA
  refine W.newcK hx hb how (hts _ hcl) (hts _ hinst) (hts _ hini) rfl hd hc hs hKn.2.1 rfl fun H1 kC hkC e1 z1 o1 => ?_
  have K := kk H1 locs (ax_made hA hbb ?_ z1 o1) (ax_S_new hS z1 o1)
  · have e9 : ((Value.ref h.length :: st).map (ax_v b base)) = .ref H.size :: st.map (ax_v b base) := by
      show Value.ref (ax_ad b base h.length) :: _ = _
      rw [a1]
    rw [e9] at K
    exact K
  · refine ⟨_, hci, ?_⟩
    show t_OB H.size _ N _ H1 (vp_V (fs.map (ax_v b base)))
    rw [hmp]
    exact (u_born ty hts hin hKn hkC e1 hty).to hfs
theorem ax_newI {n : Int32} (N : Nat) (hd : decode M.2.1 pc = .ok (.newarray .int, 2)) (hn : ¬ n < 0) (hN : n.toNatClampNeg = N) (hb8 : N ≤ 100000000) (hw : Cond.arrayClass .int ∈ ax_all) (kk : ax_W M d (pc + 2) lv (.ref h.length :: st) (h ++ [.inl (0, N, .inl (fun _ => 0))]) Q) : ax_W M d pc lv (.int n :: st) h Q := by
  refine ax_stepN (fun p l e R s m args below meth c H locs cells slots Qs ls b base D tc C hc hs hA hS kk => ?_) kk
  obtain ⟨hx, hb, hml, hr, hlk, hnm, how, hts, hK, hbb⟩ := C
  obtain ⟨a1, a2, a3⟩ := ax_ad_len hA
  have hs : slots + N ≤ R.slots := hs
  refine va_newaK (atype := .int) hx hb (hts _ hw) rfl hd rfl hn hN (by show N * 4 ≤ 536870912; omega) hc hs rfl fun H1 cA e1 z1 o1 hAr hNm => ?_
  have hcA : cA = tc 0 := by
    have h2 : s.vm.findClass ("[" ++ FieldType.toString .int) = some (tc 0) := (hK.1.2 0 _ (ax_tys_at rfl)).2
    exact Option.some.inj (hNm.symm.trans h2)
  subst hcA
  have K := kk H1 locs (ax_made hA hbb ?_ z1 o1) (ax_S_new hS z1 o1)
  · have e9 : ((Value.ref h.length :: st).map (ax_v b base)) = .ref H.size :: st.map (ax_v b base) := by
      show Value.ref (ax_ad b base h.length) :: _ = _
      rw [a1]
    rw [e9] at K
    exact K
  · show H1[H.size]? = some (vp_cell _ _)
    rw [e1]
    rfl
/-! returns -/
theorem ax_ret_At {D : va_G} {tc : Nat → ClassId} {b base : Nat} {s t : State} {H : Heap} (hA : ax_At D tc b base h s H) (ht : t.heap = H) (hW : s.WarmedH t.vm) : ax_At D tc b base h t t.heap := by
  obtain ⟨h1, h2, L, xs, h3, h4⟩ := hA
  rw [ht]
  exact ⟨h1, h2, L, xs, h3, h4.moved hW.alike⟩
theorem ax_iret {x : Int32} (hd : decode M.2.1 pc = .ok (.ireturn, 1)) (hr0 : M.2.2.2 = some .int) (hq : Q (some (.int x)) h) : ax_W M d pc lv [.int x] h Q := by
  refine ⟨some (.int x), h, hq, ax_mono.rf, fun l D tc b base p e R s m args below meth c C H locs ls cells slots hR hA hS hl => ?_⟩
  obtain ⟨hx, hb, hml, hr, hlk, hnm, how, hts, hK, hbb⟩ := C
  rw [Nat.sub_self, Nat.add_zero, Nat.sub_self, Nat.add_zero]
  exact W.iret hx hb (hr.trans hr0) (fun t ht hW => ⟨rfl, ax_ret_At hA ht hW, hS.F ht⟩) hS.2.2 hd hlk
theorem ax_zret {x : Int32} (hd : decode M.2.1 pc = .ok (.ireturn, 1)) (hr0 : M.2.2.2 = some .boolean) (hx01 : x &&& 1 = x) (hq : Q (some (.int x)) h) : ax_W M d pc lv [.int x] h Q := by
  refine ⟨some (.int x), h, hq, ax_mono.rf, fun l D tc b base p e R s m args below meth c C H locs ls cells slots hR hA hS hl => ?_⟩
  obtain ⟨hx, hb, hml, hr, hlk, hnm, how, hts, hK, hbb⟩ := C
  rw [Nat.sub_self, Nat.add_zero, Nat.sub_self, Nat.add_zero]
  exact W.zret hx hb (hr.trans hr0) (by show Value.int (x &&& 1) = _; rw [hx01]) (fun t ht hW => ⟨rfl, ax_ret_At hA ht hW, hS.F ht⟩) hS.2.2 hd hlk
theorem ax_vret (hd : decode M.2.1 pc = .ok (.return_, 1)) (hr0 : M.2.2.2 = none) (hq : Q none h) : ax_W M d pc lv [] h Q := by
  refine ⟨none, h, hq, ax_mono.rf, fun l D tc b base p e R s m args below meth c C H locs ls cells slots hR hA hS hl => ?_⟩
  obtain ⟨hx, hb, hml, hr, hlk, hnm, how, hts, hK, hbb⟩ := C
  rw [Nat.sub_self, Nat.add_zero, Nat.sub_self, Nat.add_zero]
  exact W.vret hx hb (hr.trans hr0) (fun t ht hW => ⟨rfl, ax_ret_At hA ht hW, hS.F ht⟩) hS.2.2 hd hlk
/-! calls -/
theorem ax_cats (b base : Nat) (st : List Value) : ((st.map (ax_v b base)).map fun v => v.category).sum = (st.map fun v => v.category).sum := by
  rw [List.map_map]
  congr 1
  apply List.map_congr_left
  intro v _
  exact ax_v_cat b base v
theorem ax_objInit {a idx : Nat} (hd : decode M.2.1 pc = .ok (.invokespecial idx, 3)) (hl : Cond.methodLink M.1.cls idx Lib.objectInit ∈ ax_all) (hi : Cond.instanceMethod Lib.objectInit ∈ ax_all) (hc : Cond.code Lib.objectInit ⟨#[0xb1]⟩ 1 none ∈ ax_all) (hd1 : 1 ≤ d) (hcat : (st.map fun v => v.category).sum ≤ 8) (kk : ax_W M d (pc + 3) lv st h Q) : ax_W M d pc lv (.ref a :: st) h Q := by
  refine ax_stepH rfl rfl (fun p l e R s m args below meth c H locs cells slots Qs ls b base D tc C hR hA hS hls kk => ?_) kk
  obtain ⟨hx, hb, hml, hr, hlk, hnm, how, hts, hK, hbb⟩ := C
  have e1 := ax_cats b base st
  exact W.objInit hx hb how (hts _ hl) (hts _ hi) (hts _ hc) rfl (by show ls.size = _; rw [hls, hml]) rfl hd (Nat.le_trans hd1 hR.1) (by show 2 * 0 + _ + 12 ≤ _; rw [e1]; have := hR.2.1; omega) (kk H locs hA hS)
theorem ax_blind {av : List Value} {D : va_G} {tc : Nat → ClassId} {b base : Nat} : FrameBlind (va_Pc (av.map (ax_v b base)) (fun U => ax_At D tc b base h U U.heap ∧ ax_K D tc U)) := by
  intro a U g mk q
  obtain ⟨q0, ⟨q1, q2, L, xs, q3, q4⟩, qK, qN⟩ := q
  exact ⟨q0, ⟨q1, q2, L, xs, q3, va_X.moved (u := U) (U := U.calling g mk a) (Vm.Alike.refl U.vm) q4⟩, va_K.moved (u := U) (U := U.calling g mk a) (Vm.Alike.refl U.vm) qK, fun w hw => va_Nw.same (u := U) (U := U.calling g mk a) (ax_nest_tab w hw) rfl (qN w hw)⟩
theorem ax_pre {av : List Value} {D : va_G} {tc : Nat → ClassId} {b base : Nat} {s : State} {H : Heap} (hA : ax_At D tc b base h s H) (hK : ax_K D tc s) : PreS s H (va_Pc (av.map (ax_v b base)) (fun U => ax_At D tc b base h U U.heap ∧ ax_K D tc U)) (av.map (ax_v b base)) :=
  ⟨ax_blind, fun U hU hW => ⟨rfl, ax_ret_At hA hU hW, va_K.moved hW.alike hK.1, fun w hw => ax_nest_warm w hw hW (hK.2 w hw)⟩⟩
theorem ax_back {p : Program} {l : Launch} {e : Env} {R : Room} {s : State} {m : MethodId} {args : Array Value} {below : List Frame} {meth : Method} {c : Code} {H : Heap} {locs : List Loc} {cells slots mc ms b base : Nat} {Qs : State → Prop} {D : va_G} {tc : Nat → ClassId} {ls : Array Slot} {st0 rest : List Value} {r : Option Value} {h1 : ax_H} {a : Array Value}
    (hr : va_Run p l e R s m args below meth c H locs cells slots mc ms (F0 m pc ls st0) rest (ax_Q D tc b base r h1 a) (fun q => base ≤ q)) (hS : va_S (fun q => base ≤ q) s.heap H locs)
    (kk : ∀ (H1 : Heap) (locs1 : List Loc), ax_At D tc b base h1 s H1 → va_S (fun q => base ≤ q) s.heap H1 locs1 → W p l e R s m args below meth c H1 locs1 (cells + mc) (slots + ms) Qs (F0 m (pc + 3) ls ((r.map (ax_v b base)).toList ++ rest))) : W p l e R s m args below meth c H locs cells slots Qs (F0 m pc ls st0) := by
  intro T hT X
  obtain ⟨v, st₀, t, T', L, h0, X', hL, e1, e2, ⟨hv, ⟨hP, hz, Ln, xs, h3, h4⟩, hF1, hF2⟩, st⟩ := hr T hT X
  cases hv
  rw [h0] at hF1 hF2
  have hal : t.vm.Alike s.vm := by rw [← e2]; exact X'.warmed.alike.symm
  obtain ⟨t2, a1, b1⟩ := kk T'.heap (locs ++ L) (by rw [e1]; exact ⟨hP, hz, Ln, xs, h3, h4.moved hal⟩) ⟨Nat.le_trans hS.1 (by rw [e1]; exact hF1), fun q g1 g2 => by rw [e1, hF2 q (Nat.lt_of_lt_of_le g1 hS.1) g2]; exact hS.2.1 q g1 g2, fun q hq => by
      rcases List.mem_append.mp hq with h | h
      · exact hS.2.2 q h
      · exact hL q h⟩ T' rfl X'
  exact ⟨t2, st t2 a1, b1⟩
def ax_okM (N : ax_M) (n : Nat) : Prop := ax_cd N ∈ ax_all ∧ Cond.initialized N.1.cls ∈ ax_all ∧ N.1.cls ≠ "java/lang/invoke/MethodHandle" ∧ N.1.cls ≠ "java/lang/invoke/VarHandle" ∧ (parseMethodDescriptor N.1.desc).map (fun d => d.parameters.length) = some n ∧ N.2.2.1 ≤ 26
def ax_lk (own : String) (idx : Nat) (y : MethodName) : Prop := Cond.methodLink own idx y ∈ ax_all ∨ ∃ host, Cond.methodLinkNest own idx y host ∈ ax_nest
theorem ax_call0 {N : ax_M} {d' : Nat} {As rest st0 : List Value} (hdd : d' + 1 ≤ d)
    (f : ∀ (p : Program) (l : Launch) (e : Env) (R : Room) (s : State) (m : MethodId) (args : Array Value) (below : List Frame) (meth : Method) (c : Code) (H : Heap) (locs : List Loc) (cells slots : Nat) (ls : Array Slot) (b base : Nat) (D : va_G) (tc : Nat → ClassId) (r1 : Option Value) (h1 : ax_H),
      ax_Cx M D tc b base p s m args meth c → ax_At D tc b base h s H → ls.size = M.2.2.1 → (d' + 1 ≤ R.frames ∧ 45 * d ≤ R.locals) → Met l N.1 (ax_ws N) (ax_rm d' (h1.length - h.length) (ax_sl h1 - ax_sl h)) (va_Pc (As.map (ax_v b base)) (fun U => ax_At D tc b base h U U.heap ∧ ax_K D tc U)) (ax_Q D tc b base r1 h1) (h1.length - h.length) (ax_sl h1 - ax_sl h) (fun q => base ≤ q) →
      (cells + (h1.length - h.length) ≤ R.cells ∧ slots + (ax_sl h1 - ax_sl h) ≤ R.slots) →
      va_Run p l e R s m args below meth c H locs cells slots (h1.length - h.length) (ax_sl h1 - ax_sl h) (F0 m pc ls (st0.map (ax_v b base))) (rest.map (ax_v b base)) (ax_Q D tc b base r1 h1 (As.map (ax_v b base)).toArray) (fun q => base ≤ q))
    (k : ax_Cl N d' As h (fun r h1 => ax_W M d (pc + 3) lv (r.toList ++ rest) h1 Q)) : ax_W M d pc lv st0 h Q := by
  obtain ⟨r1, h1, ⟨r, h', hq, hm2, k⟩, hm1, hM⟩ := k
  refine ⟨r, h', hq, hm1.tr hm2, fun l D tc b base p e R s m args below meth c C H locs ls cells slots hR hA hS hl => ?_⟩
  obtain ⟨m11, m12⟩ := hm1
  obtain ⟨m21, m22⟩ := hm2
  have hbb : b < base := C.2.2.2.2.2.2.2.2.2
  have q1 : cells + (h1.length - h.length) + (h'.length - h1.length) = cells + (h'.length - h.length) := by omega
  have q2 : slots + (ax_sl h1 - ax_sl h) + (ax_sl h' - ax_sl h1) = slots + (ax_sl h' - ax_sl h) := by omega
  have run := f p l e R s m args below meth c H locs cells slots ls b base D tc r1 h1 C hA hl.1 ⟨Nat.le_trans hdd hR.1, hR.2.1⟩ (hM l D tc b base hbb) ⟨Nat.le_trans (by omega) hR.2.2.1, Nat.le_trans (by omega) hR.2.2.2⟩
  refine ax_back run hS (fun H1 locs1 hA1 hS1 => ?_)
  have K := k l D tc b base p e R s m args below meth c C H1 locs1 ls (cells + (h1.length - h.length)) (slots + (ax_sl h1 - ax_sl h)) (by rw [q1, q2]; exact hR) hA1 hS1 hl
  rw [q1, q2] at K
  have e9 : (r1.toList ++ rest).map (ax_v b base) = (r1.map (ax_v b base)).toList ++ rest.map (ax_v b base) := by cases r1 <;> simp
  rw [e9] at K
  exact K
theorem ax_callS {N : ax_M} {d' idx n : Nat} {As rest : List Value} (hd : decode M.2.1 pc = .ok (.invokestatic idx, 3)) (hN : ax_okM N n) (hst : Cond.static N.1 ∈ ax_all) (hL : ax_lk M.1.cls idx N.1) (hn : As.length = n) (hdd : d' + 1 ≤ d) (hcat : (rest.map fun v => v.category).sum ≤ 8)
    (k : ax_Cl N d' As h (fun r h1 => ax_W M d (pc + 3) lv (r.toList ++ rest) h1 Q)) : ax_W M d pc lv (As.reverse ++ rest) h Q := by
  refine ax_call0 hdd (fun p l e R s m args below meth c H locs cells slots ls b base D tc r1 h1 C hA hls hR hM hf => ?_) k
  obtain ⟨hx, hb, hml, hr, hlk, hnm, how, hts, hK, hbb⟩ := C
  obtain ⟨hcd, hini, hy1, hy2, hpar, hmL⟩ := hN
  have e1 : (As.reverse ++ rest).map (ax_v b base) = (As.map (ax_v b base)).reverse ++ rest.map (ax_v b base) := by rw [List.map_append, List.map_reverse]
  have hR1 : (ax_rm d' (h1.length - h.length) (ax_sl h1 - ax_sl h)).frames + 1 ≤ R.frames ∧ 8 + (N.2.2.1 + 11) + (ax_rm d' (h1.length - h.length) (ax_sl h1 - ax_sl h)).locals ≤ R.locals := ⟨hR.1, by show 8 + (N.2.2.1 + 11) + 45 * d' ≤ _; have := hR.2; omega⟩
  have hca : ((rest.map (ax_v b base)).map fun v => v.category).sum ≤ 8 := by rw [ax_cats]; exact hcat
  rcases hL with hL | ⟨host, hL⟩
  · exact va_runS (Ts := ax_all) (nL := M.2.2.1) (n := n) ⟨hx, hb, hml, how, hts⟩ hM ⟨callB_of n hts (ax_goodIn hcd) rfl rfl rfl (hts _ hini) (hts _ hL) ⟨hy1, hy2, hpar⟩ hR1, hts _ hst⟩ (ax_pre hA hK) rfl (by rw [List.length_map]; exact hn) hls e1 (lv_room hca) hd hf
  · exact va_runSN (Ts := ax_all) (nL := M.2.2.1) (n := n) (host := host) ⟨hx, hb, hml, how, hts⟩ hM ⟨va_cnB n hts (ax_goodIn hcd) rfl rfl rfl (hK.2 _ hL) (hts _ hini) ⟨hy1, hy2, hpar⟩ hR1, hts _ hst, trivial⟩ (ax_pre hA hK) rfl (by rw [List.length_map]; exact hn) hls e1 (lv_room hca) hd hf
theorem ax_callI {N : ax_M} {d' idx n a : Nat} {As rest : List Value} (hd : decode M.2.1 pc = .ok (.invokespecial idx, 3)) (hN : ax_okM N n) (hret : N.2.2.2 = none) (hi : N.1.name = "<init>") (hst : Cond.instanceMethod N.1 ∈ ax_all) (hL : ax_lk M.1.cls idx N.1) (hn : As.length = n) (hdd : d' + 1 ≤ d) (hcat : (rest.map fun v => v.category).sum ≤ 8)
    (k : ax_Cl N d' (.ref a :: As) h (fun r h1 => ax_W M d (pc + 3) lv (r.toList ++ rest) h1 Q)) : ax_W M d pc lv (As.reverse ++ .ref a :: rest) h Q := by
  refine ax_call0 hdd (fun p l e R s m args below meth c H locs cells slots ls b base D tc r1 h1 C hA hls hR hM hf => ?_) k
  obtain ⟨hx, hb, hml, hr, hlk, hnm, how, hts, hK, hbb⟩ := C
  obtain ⟨hcd, hini, hy1, hy2, hpar, hmL⟩ := hN
  have e1 : (As.reverse ++ .ref a :: rest).map (ax_v b base) = (As.map (ax_v b base)).reverse ++ .ref (ax_ad b base a) :: rest.map (ax_v b base) := by rw [List.map_append, List.map_reverse]; rfl
  have hR1 : (ax_rm d' (h1.length - h.length) (ax_sl h1 - ax_sl h)).frames + 1 ≤ R.frames ∧ 8 + (N.2.2.1 + 11) + (ax_rm d' (h1.length - h.length) (ax_sl h1 - ax_sl h)).locals ≤ R.locals := ⟨hR.1, by show 8 + (N.2.2.1 + 11) + 45 * d' ≤ _; have := hR.2; omega⟩
  have hca : ((rest.map (ax_v b base)).map fun v => v.category).sum ≤ 8 := by rw [ax_cats]; exact hcat
  have hcd2 : ax_ws N = Cond.code N.1 N.2.1 N.2.2.1 none :: ax_all := by rw [← hret]; rfl
  rcases hL with hL | ⟨host, hL⟩
  · exact va_runI (Ts := ax_all) (nL := M.2.2.1) (n := n) ⟨hx, hb, hml, how, hts⟩ hM ⟨callB_of n hts (ax_goodIn hcd) hcd2 rfl rfl (hts _ hini) (hts _ hL) ⟨hy1, hy2, hpar⟩ hR1, hi, hts _ hst⟩ (ax_pre (av := .ref a :: As) hA hK) rfl (by rw [List.length_map]; exact hn) hls e1 (lv_room hca) hd hf
  · exact va_runIN (Ts := ax_all) (nL := M.2.2.1) (n := n) (host := host) ⟨hx, hb, hml, how, hts⟩ hM ⟨va_cnB n hts (ax_goodIn hcd) hcd2 rfl rfl (hK.2 _ hL) (hts _ hini) ⟨hy1, hy2, hpar⟩ hR1, hi, hts _ hst⟩ (ax_pre (av := .ref a :: As) hA hK) rfl (by rw [List.length_map]; exact hn) hls e1 (lv_room hca) hd hf
theorem ax_callV {N : ax_M} {d' idx n a ci : Nat} {fs As rest : List Value} {C : vw_C} (hd : decode M.2.1 pc = .ok (.invokevirtual idx, 3)) (hN : ax_okM N n) (hst : Cond.instanceMethod N.1 ∈ ax_all) (hse : Cond.selects N.1.cls N.1 N.1 ∈ ax_all) (hL : ax_lk M.1.cls idx N.1) (hci : vwCl[ci]? = some C) (hC : C.1 = N.1.cls) (ha : h[a]? = some (.inr (ci, fs))) (hn : As.length = n) (hdd : d' + 1 ≤ d) (hcat : (rest.map fun v => v.category).sum ≤ 8)
    (k : ax_Cl N d' (.ref a :: As) h (fun r h1 => ax_W M d (pc + 3) lv (r.toList ++ rest) h1 Q)) : ax_W M d pc lv (As.reverse ++ .ref a :: rest) h Q := by
  refine ax_call0 hdd (fun p l e R s m args below meth c H locs cells slots ls b base D tc r1 h1 C hA hls hR hM hf => ?_) k
  obtain ⟨hx, hb, hml, hr, hlk, hnm, how, hts, hK, hbb⟩ := C
  obtain ⟨hcd, hini, hy1, hy2, hpar, hmL⟩ := hN
  obtain ⟨i, rfl⟩ := ax_pos hA ha
  have e1 : (As.reverse ++ .ref (i + 1) :: rest).map (ax_v b base) = (As.map (ax_v b base)).reverse ++ .ref (base + i) :: rest.map (ax_v b base) := by rw [List.map_append, List.map_reverse]; rfl
  have hR1 : (ax_rm d' (h1.length - h.length) (ax_sl h1 - ax_sl h)).frames + 1 ≤ R.frames ∧ 8 + (N.2.2.1 + 11) + (ax_rm d' (h1.length - h.length) (ax_sl h1 - ax_sl h)).locals ≤ R.locals := ⟨hR.1, by show 8 + (N.2.2.1 + 11) + 45 * d' ≤ _; have := hR.2; omega⟩
  have hca : ((rest.map (ax_v b base)).map fun v => v.category).sum ≤ 8 := by rw [ax_cats]; exact hcat
  have hw : (ax_w b base tc h)[i]? = some (base + i, .inr (ci, fs.map (ax_v b base))) := by rw [ax_w_at, ha]; rfl
  have hpr := ax_pre (av := .ref (i + 1) :: As) hA hK
  have hrc := va_recv hK.1 hA.1 hci hw
  rw [hC] at hrc
  rcases hL with hL | ⟨host, hL⟩
  · exact va_runV (Ts := ax_all) (nL := M.2.2.1) (n := n) (C := N.1.cls) ⟨hx, hb, hml, how, hts⟩ hM ⟨callB_of n hts (ax_goodIn hcd) rfl rfl rfl (hts _ hini) (hts _ hL) ⟨hy1, hy2, hpar⟩ hR1, hts _ hst, hts _ hse⟩ ⟨hpr.1, hrc, hpr.2⟩ rfl (by rw [List.length_map]; exact hn) hls e1 (lv_room hca) hd hf
  · exact va_runVN (Ts := ax_all) (nL := M.2.2.1) (n := n) (C := N.1.cls) (host := host) ⟨hx, hb, hml, how, hts⟩ hM ⟨va_cnB n hts (ax_goodIn hcd) rfl rfl rfl (hK.2 _ hL) (hts _ hini) ⟨hy1, hy2, hpar⟩ hR1, hts _ hst, hts _ hse⟩ ⟨hpr.1, hrc, hpr.2⟩ rfl (by rw [List.length_map]; exact hn) hls e1 (lv_room hca) hd hf
theorem ax_mmax {x y : Int32} {idx : Nat} (hd : decode M.2.1 pc = .ok (.invokestatic idx, 3)) (hl : Cond.methodLink M.1.cls idx Lib.Math.max.name ∈ ax_all) (hst : Cond.static Lib.Math.max.name ∈ ax_all) (hini : Cond.initialized "java/lang/Math" ∈ ax_all) (hc : Cond.code Lib.Math.max.name Lib.Math.max.code 2 (some .int) ∈ ax_all) (hd1 : 1 ≤ d) (hcat : (st.map fun v => v.category).sum ≤ 8) (kk : ax_W M d (pc + 3) lv (.int (if x < y then y else x) :: st) h Q) : ax_W M d pc lv (.int y :: .int x :: st) h Q := by
  refine ax_stepH rfl rfl (fun p l e R s m args below meth c H locs cells slots Qs ls b base D tc C hR hA hS hls kk => ?_) kk
  obtain ⟨hx, hb, hml, hr, hlk, hnm, how, hts, hK, hbb⟩ := C
  have e1 := ax_cats b base st
  exact va_mmax hx hb (hml.trans hls.symm) how (hts _ hl) (hts _ hst) (hts _ hini) (hts _ hc) (Nat.le_trans hd1 hR.1) (by rw [e1]; have := hR.2.1; omega) hR.2.2.1 hR.2.2.2 hd (kk H locs hA hS)
theorem ax_mmin {x y : Int32} {idx : Nat} (hd : decode M.2.1 pc = .ok (.invokestatic idx, 3)) (hl : Cond.methodLink M.1.cls idx Lib.Math.min.name ∈ ax_all) (hst : Cond.static Lib.Math.min.name ∈ ax_all) (hini : Cond.initialized "java/lang/Math" ∈ ax_all) (hc : Cond.code Lib.Math.min.name Lib.Math.min.code 2 (some .int) ∈ ax_all) (hd1 : 1 ≤ d) (hcat : (st.map fun v => v.category).sum ≤ 8) (kk : ax_W M d (pc + 3) lv (.int (if y < x then y else x) :: st) h Q) : ax_W M d pc lv (.int y :: .int x :: st) h Q := by
  refine ax_stepH rfl rfl (fun p l e R s m args below meth c H locs cells slots Qs ls b base D tc C hR hA hS hls kk => ?_) kk
  obtain ⟨hx, hb, hml, hr, hlk, hnm, how, hts, hK, hbb⟩ := C
  have e1 := ax_cats b base st
  exact va_mmin hx hb (hml.trans hls.symm) how (hts _ hl) (hts _ hst) (hts _ hini) (hts _ hc) (Nat.le_trans hd1 hR.1) (by rw [e1]; have := hR.2.1; omega) hR.2.2.1 hR.2.2.2 hd (kk H locs hA hS)
end AXH
end
section
/-! ints as Int: iv z; arrays of ints as ia n g -/
def iv (z : Int) : Int32 := Int32.ofInt z
theorem iv_add (a b : Int) : iv a + iv b = iv (a + b) := (Int32.ofInt_add a b).symm
theorem iv_sub (a b : Int) : iv a - iv b = iv (a - b) := (Int32.ofInt_sub a b).symm
theorem iv_mul (a b : Int) : iv a * iv b = iv (a * b) := (Int32.ofInt_mul a b).symm
theorem iv_neg (a : Int) : -iv a = iv (-a) := (Int32.ofInt_neg a).symm
theorem iv_of (x : Int32) : iv x.toInt = x := Int32.ofInt_toInt x
theorem iv_ex (x : Int32) : ∃ z : Int, x = iv z ∧ -2147483648 ≤ z ∧ z < 2147483648 := ⟨x.toInt, (iv_of x).symm, by have := Int32.le_toInt x; omega, by have := Int32.toInt_lt x; omega⟩
theorem iv_toInt {z : Int} (h : -2147483648 ≤ z ∧ z < 2147483648) : (iv z).toInt = z := Int32.toInt_ofInt_of_le (by omega) (by omega)
theorem iv_nat (n : Nat) : iv (n : Int) = nI n := Int32.ofInt_eq_ofNat
theorem iv_lt {a b : Int} (ha : -2147483648 ≤ a ∧ a < 2147483648) (hb : -2147483648 ≤ b ∧ b < 2147483648) : iv a < iv b ↔ a < b := by
  rw [Int32.lt_iff_toInt_lt, iv_toInt ha, iv_toInt hb]
theorem iv_le {a b : Int} (ha : -2147483648 ≤ a ∧ a < 2147483648) (hb : -2147483648 ≤ b ∧ b < 2147483648) : iv a ≤ iv b ↔ a ≤ b := by
  rw [Int32.le_iff_toInt_le, iv_toInt ha, iv_toInt hb]
theorem iv_eq {a b : Int} (ha : -2147483648 ≤ a ∧ a < 2147483648) (hb : -2147483648 ≤ b ∧ b < 2147483648) : iv a = iv b ↔ a = b := by
  rw [← Int32.toInt_inj, iv_toInt ha, iv_toInt hb]
theorem iv_0 : (0 : Int32) = iv 0 := rfl
theorem iv_cl {z : Int} (h : -2147483648 ≤ z ∧ z < 2147483648) : (iv z).toNatClampNeg = z.toNat := Int32.toNatClampNeg_ofInt_of_le (by omega) (by omega)
theorem iv_in {z : Int} {n : Nat} (h0 : 0 ≤ z) (h1 : z < n) (hn : n ≤ 100000000) : vp_in (iv z) n := by
  rw [vp_in_iff, iv_toInt (by omega)]
  exact ⟨h0, h1⟩
theorem iv_div {a b : Int} (ha : 0 ≤ a ∧ a < 2147483648) (hb : 0 < b ∧ b < 2147483648) : iv a / iv b = iv (a / b) := by
  obtain ⟨m, rfl⟩ := Int.eq_ofNat_of_zero_le ha.1
  obtain ⟨n, rfl⟩ := Int.eq_ofNat_of_zero_le (Int.le_of_lt hb.1)
  rw [iv_nat, iv_nat, pk_div (by omega) (by omega) (by omega), ← iv_nat]
  rfl
theorem iv_rem {a b : Int} (ha : 0 ≤ a ∧ a < 2147483648) (hb : 0 < b ∧ b < 2147483648) : iv a - iv a / iv b * iv b = iv (a % b) := by
  obtain ⟨m, rfl⟩ := Int.eq_ofNat_of_zero_le ha.1
  obtain ⟨n, rfl⟩ := Int.eq_ofNat_of_zero_le (Int.le_of_lt hb.1)
  rw [iv_nat, iv_nat, pk_rem (by omega) (by omega) (by omega), ← iv_nat]
  rfl
abbrev ia (n : Nat) (g : Nat → Int) : ax_C := .inl (0, n, .inl (fun j => iv (g j)))
abbrev ob (ci : Nat) (fs : List Value) : ax_C := .inr (ci, fs)
def up (g : Nat → Int) (k : Nat) (x : Int) : Nat → Int := fun j => if j = k then x else g j
theorem up_at (g : Nat → Int) (k : Nat) (x : Int) : up g k x k = x := if_pos rfl
theorem up_ne {g : Nat → Int} {k j : Nat} {x : Int} (h : j ≠ k) : up g k x j = g j := if_neg h
theorem ia_up (n : Nat) (g : Nat → Int) (k : Nat) (x : Int) : (Sum.inl (0, n, Sum.inl (upd (fun j => iv (g j)) k (iv x))) : ax_C) = ia n (up g k x) := by
  unfold ia
  congr 4
  funext j
  unfold upd up
  split <;> rfl
section AXZ
variable {M : ax_M} {d pc : Nat} {lv : ax_L} {st : List Value} {h : ax_H} {Q : Option Value → ax_H → Prop}
theorem az_iadd {a b : Int} (hd : decode M.2.1 pc = .ok (.iadd, 1)) (k : ax_W M d (pc + 1) lv (.int (iv (a + b)) :: st) h Q) : ax_W M d pc lv (.int (iv b) :: .int (iv a) :: st) h Q := ax_iadd hd (by rw [iv_add]; exact k)
theorem az_isub {a b : Int} (hd : decode M.2.1 pc = .ok (.isub, 1)) (k : ax_W M d (pc + 1) lv (.int (iv (a - b)) :: st) h Q) : ax_W M d pc lv (.int (iv b) :: .int (iv a) :: st) h Q := ax_isub hd (by rw [iv_sub]; exact k)
theorem az_imul {a b : Int} (hd : decode M.2.1 pc = .ok (.imul, 1)) (k : ax_W M d (pc + 1) lv (.int (iv (a * b)) :: st) h Q) : ax_W M d pc lv (.int (iv b) :: .int (iv a) :: st) h Q := ax_imul hd (by rw [iv_mul]; exact k)
theorem az_ineg {a : Int} (hd : decode M.2.1 pc = .ok (.ineg, 1)) (k : ax_W M d (pc + 1) lv (.int (iv (-a)) :: st) h Q) : ax_W M d pc lv (.int (iv a) :: st) h Q := ax_ineg hd (by rw [iv_neg]; exact k)
theorem az_idiv {a b : Int} (hd : decode M.2.1 pc = .ok (.idiv, 1)) (ha : 0 ≤ a ∧ a < 2147483648) (hb : 0 < b ∧ b < 2147483648) (k : ax_W M d (pc + 1) lv (.int (iv (a / b)) :: st) h Q) : ax_W M d pc lv (.int (iv b) :: .int (iv a) :: st) h Q := ax_idiv hd (by rw [iv_0, iv_eq (by omega) (by omega)]; omega) (by rw [iv_div ha hb]; exact k)
theorem az_irem {a b : Int} (hd : decode M.2.1 pc = .ok (.irem, 1)) (ha : 0 ≤ a ∧ a < 2147483648) (hb : 0 < b ∧ b < 2147483648) (k : ax_W M d (pc + 1) lv (.int (iv (a % b)) :: st) h Q) : ax_W M d pc lv (.int (iv b) :: .int (iv a) :: st) h Q := ax_irem hd (by rw [iv_0, iv_eq (by omega) (by omega)]; omega) (by rw [iv_rem ha hb]; exact k)
theorem az_iconst {n : Int} (hd : decode M.2.1 pc = .ok (.iconst n, 1)) (k : ax_W M d (pc + 1) lv (.int (iv n) :: st) h Q) : ax_W M d pc lv st h Q := ax_iconst (iv n) hd rfl k
theorem az_bipush (n : Int) (hd : decode M.2.1 pc = .ok (.bipush n, 2)) (hv : (Int8.ofInt n).toInt32 = iv n) (k : ax_W M d (pc + 2) lv (.int (iv n) :: st) h Q) : ax_W M d pc lv st h Q := ax_bipush (iv n) hd hv k
theorem az_sipush (n : Int) (hd : decode M.2.1 pc = .ok (.sipush n, 3)) (hv : (Int16.ofInt n).toInt32 = iv n) (k : ax_W M d (pc + 3) lv (.int (iv n) :: st) h Q) : ax_W M d pc lv st h Q := ax_sipush (iv n) hd hv k
theorem az_iinc {n : Nat} {z a : Int} (hd : decode M.2.1 pc = .ok (.iinc n z, 3)) (hl0 : lv[n]? = some (some (.int (iv a)))) (hn : n < M.2.2.1) (hc : ax_c2 lv n = false) (k : ax_W M d (pc + 3) (lv.set n (some (.int (iv (a + z))))) st h Q) : ax_W M d pc lv st h Q := ax_iinc (iv (a + z)) hd hl0 (iv_add a z) hn hc k
theorem az_icmp_eq {a b off : Int} (tgt : Nat) (hd : decode M.2.1 pc = .ok (.if_icmp .eq off, 3)) (htg : (pc : Int) + off = (tgt : Int)) (ha : -2147483648 ≤ a ∧ a < 2147483648) (hb : -2147483648 ≤ b ∧ b < 2147483648) (kt : a = b → ax_W M d tgt lv st h Q) (kf : a ≠ b → ax_W M d (pc + 3) lv st h Q) : ax_W M d pc lv (.int (iv b) :: .int (iv a) :: st) h Q := ax_icmp_eq tgt hd htg (fun c => kt ((iv_eq ha hb).mp c)) (fun c => kf (fun q => c ((iv_eq ha hb).mpr q)))
theorem az_icmp_ne {a b off : Int} (tgt : Nat) (hd : decode M.2.1 pc = .ok (.if_icmp .ne off, 3)) (htg : (pc : Int) + off = (tgt : Int)) (ha : -2147483648 ≤ a ∧ a < 2147483648) (hb : -2147483648 ≤ b ∧ b < 2147483648) (kt : a ≠ b → ax_W M d tgt lv st h Q) (kf : a = b → ax_W M d (pc + 3) lv st h Q) : ax_W M d pc lv (.int (iv b) :: .int (iv a) :: st) h Q := ax_icmp_ne tgt hd htg (fun c => kt (fun q => c ((iv_eq ha hb).mpr q))) (fun c => kf ((iv_eq ha hb).mp c))
theorem az_icmp_lt {a b off : Int} (tgt : Nat) (hd : decode M.2.1 pc = .ok (.if_icmp .lt off, 3)) (htg : (pc : Int) + off = (tgt : Int)) (ha : -2147483648 ≤ a ∧ a < 2147483648) (hb : -2147483648 ≤ b ∧ b < 2147483648) (kt : a < b → ax_W M d tgt lv st h Q) (kf : b ≤ a → ax_W M d (pc + 3) lv st h Q) : ax_W M d pc lv (.int (iv b) :: .int (iv a) :: st) h Q := ax_icmp_lt tgt hd htg (fun c => kt ((iv_lt ha hb).mp c)) (fun c => kf (by have := mt (iv_lt ha hb).mpr c; omega))
theorem az_icmp_ge {a b off : Int} (tgt : Nat) (hd : decode M.2.1 pc = .ok (.if_icmp .ge off, 3)) (htg : (pc : Int) + off = (tgt : Int)) (ha : -2147483648 ≤ a ∧ a < 2147483648) (hb : -2147483648 ≤ b ∧ b < 2147483648) (kt : b ≤ a → ax_W M d tgt lv st h Q) (kf : a < b → ax_W M d (pc + 3) lv st h Q) : ax_W M d pc lv (.int (iv b) :: .int (iv a) :: st) h Q := ax_icmp_ge tgt hd htg (fun c => kt ((iv_le hb ha).mp c)) (fun c => kf (by have := mt (iv_le hb ha).mpr c; omega))
theorem az_icmp_gt {a b off : Int} (tgt : Nat) (hd : decode M.2.1 pc = .ok (.if_icmp .gt off, 3)) (htg : (pc : Int) + off = (tgt : Int)) (ha : -2147483648 ≤ a ∧ a < 2147483648) (hb : -2147483648 ≤ b ∧ b < 2147483648) (kt : b < a → ax_W M d tgt lv st h Q) (kf : a ≤ b → ax_W M d (pc + 3) lv st h Q) : ax_W M d pc lv (.int (iv b) :: .int (iv a) :: st) h Q := ax_icmp_gt tgt hd htg (fun c => kt ((iv_lt hb ha).mp c)) (fun c => kf (by have := mt (iv_lt hb ha).mpr c; omega))
theorem az_icmp_le {a b off : Int} (tgt : Nat) (hd : decode M.2.1 pc = .ok (.if_icmp .le off, 3)) (htg : (pc : Int) + off = (tgt : Int)) (ha : -2147483648 ≤ a ∧ a < 2147483648) (hb : -2147483648 ≤ b ∧ b < 2147483648) (kt : a ≤ b → ax_W M d tgt lv st h Q) (kf : b < a → ax_W M d (pc + 3) lv st h Q) : ax_W M d pc lv (.int (iv b) :: .int (iv a) :: st) h Q := ax_icmp_le tgt hd htg (fun c => kt ((iv_le ha hb).mp c)) (fun c => kf (by have := mt (iv_le ha hb).mpr c; omega))
theorem az_if_eq {a off : Int} (tgt : Nat) (hd : decode M.2.1 pc = .ok (.ifCond .eq off, 3)) (htg : (pc : Int) + off = (tgt : Int)) (ha : -2147483648 ≤ a ∧ a < 2147483648) (kt : a = 0 → ax_W M d tgt lv st h Q) (kf : a ≠ 0 → ax_W M d (pc + 3) lv st h Q) : ax_W M d pc lv (.int (iv a) :: st) h Q := by
  have hb : -2147483648 ≤ (0 : Int) ∧ (0 : Int) < 2147483648 := by omega
  exact ax_if_eq tgt hd htg (fun c => kt ((iv_eq ha hb).mp c)) (fun c => kf (fun q => c ((iv_eq ha hb).mpr q)))
theorem az_if_ne {a off : Int} (tgt : Nat) (hd : decode M.2.1 pc = .ok (.ifCond .ne off, 3)) (htg : (pc : Int) + off = (tgt : Int)) (ha : -2147483648 ≤ a ∧ a < 2147483648) (kt : a ≠ 0 → ax_W M d tgt lv st h Q) (kf : a = 0 → ax_W M d (pc + 3) lv st h Q) : ax_W M d pc lv (.int (iv a) :: st) h Q := by
  have hb : -2147483648 ≤ (0 : Int) ∧ (0 : Int) < 2147483648 := by omega
  exact ax_if_ne tgt hd htg (fun c => kt (fun q => c ((iv_eq ha hb).mpr q))) (fun c => kf ((iv_eq ha hb).mp c))
theorem az_if_lt {a off : Int} (tgt : Nat) (hd : decode M.2.1 pc = .ok (.ifCond .lt off, 3)) (htg : (pc : Int) + off = (tgt : Int)) (ha : -2147483648 ≤ a ∧ a < 2147483648) (kt : a < 0 → ax_W M d tgt lv st h Q) (kf : 0 ≤ a → ax_W M d (pc + 3) lv st h Q) : ax_W M d pc lv (.int (iv a) :: st) h Q := by
  have hb : -2147483648 ≤ (0 : Int) ∧ (0 : Int) < 2147483648 := by omega
  exact ax_if_lt tgt hd htg (fun c => kt ((iv_lt ha hb).mp c)) (fun c => kf (by have := mt (iv_lt ha hb).mpr c; omega))
theorem az_if_ge {a off : Int} (tgt : Nat) (hd : decode M.2.1 pc = .ok (.ifCond .ge off, 3)) (htg : (pc : Int) + off = (tgt : Int)) (ha : -2147483648 ≤ a ∧ a < 2147483648) (kt : 0 ≤ a → ax_W M d tgt lv st h Q) (kf : a < 0 → ax_W M d (pc + 3) lv st h Q) : ax_W M d pc lv (.int (iv a) :: st) h Q := by
  have hb : -2147483648 ≤ (0 : Int) ∧ (0 : Int) < 2147483648 := by omega
  exact ax_if_ge tgt hd htg (fun c => kt ((iv_le hb ha).mp c)) (fun c => kf (by have := mt (iv_le hb ha).mpr c; omega))
theorem az_if_gt {a off : Int} (tgt : Nat) (hd : decode M.2.1 pc = .ok (.ifCond .gt off, 3)) (htg : (pc : Int) + off = (tgt : Int)) (ha : -2147483648 ≤ a ∧ a < 2147483648) (kt : 0 < a → ax_W M d tgt lv st h Q) (kf : a ≤ 0 → ax_W M d (pc + 3) lv st h Q) : ax_W M d pc lv (.int (iv a) :: st) h Q := by
  have hb : -2147483648 ≤ (0 : Int) ∧ (0 : Int) < 2147483648 := by omega
  exact ax_if_gt tgt hd htg (fun c => kt ((iv_lt hb ha).mp c)) (fun c => kf (by have := mt (iv_lt hb ha).mpr c; omega))
theorem az_if_le {a off : Int} (tgt : Nat) (hd : decode M.2.1 pc = .ok (.ifCond .le off, 3)) (htg : (pc : Int) + off = (tgt : Int)) (ha : -2147483648 ≤ a ∧ a < 2147483648) (kt : a ≤ 0 → ax_W M d tgt lv st h Q) (kf : 0 < a → ax_W M d (pc + 3) lv st h Q) : ax_W M d pc lv (.int (iv a) :: st) h Q := by
  have hb : -2147483648 ≤ (0 : Int) ∧ (0 : Int) < 2147483648 := by omega
  exact ax_if_le tgt hd htg (fun c => kt ((iv_le ha hb).mp c)) (fun c => kf (by have := mt (iv_le ha hb).mpr c; omega))
theorem az_iald {a n : Nat} {g : Nat → Int} {z : Int} (hd : decode M.2.1 pc = .ok (.iaload, 1)) (ha : h[a]? = some (ia n g)) (h0 : 0 ≤ z) (h1 : z < n) (hn : n ≤ 100000000) (kk : ax_W M d (pc + 1) lv (.int (iv (g z.toNat)) :: st) h Q) : ax_W M d pc lv (.int (iv z) :: .ref a :: st) h Q :=
  ax_iald hd ha (iv_in h0 h1 hn) (by rw [iv_cl (by omega)]; exact kk)
theorem az_iast {a n : Nat} {g : Nat → Int} {z x : Int} (hd : decode M.2.1 pc = .ok (.iastore, 1)) (ha : h[a]? = some (ia n g)) (ha0 : 0 < a) (h0 : 0 ≤ z) (h1 : z < n) (hn : n ≤ 100000000) (kk : ax_W M d (pc + 1) lv st (h.set a (ia n (up g z.toNat x))) Q) : ax_W M d pc lv (.int (iv x) :: .int (iv z) :: .ref a :: st) h Q :=
  ax_iast hd ha ha0 (iv_in h0 h1 hn) (by rw [iv_cl (by omega), ia_up]; exact kk)
theorem az_alen {a n : Nat} {g : Nat → Int} (hd : decode M.2.1 pc = .ok (.arraylength, 1)) (ha : h[a]? = some (ia n g)) (kk : ax_W M d (pc + 1) lv (.int (iv n) :: st) h Q) : ax_W M d pc lv (.ref a :: st) h Q :=
  ax_alen (ty := .int) hd ha rfl (by have e : iv (n : Int) = Int32.ofNat n := Int32.ofInt_eq_ofNat; rw [e] at kk; exact kk)
end AXZ
end
section
/-! counting below a bound -/
def cnt (P : Nat → Bool) : Nat → Nat
  | 0 => 0
  | n + 1 => cnt P n + (if P n = true then 1 else 0)
theorem cnt_le (P : Nat → Bool) : ∀ n, cnt P n ≤ n
  | 0 => Nat.le_refl _
  | n + 1 => by
    have := cnt_le P n
    simp only [cnt]
    split <;> omega
theorem cnt_congr {P Q : Nat → Bool} : ∀ {n : Nat}, (∀ i, i < n → P i = Q i) → cnt P n = cnt Q n
  | 0, _ => rfl
  | n + 1, h => by
    simp only [cnt]
    rw [cnt_congr (fun i hi => h i (by omega)), h n (by omega)]
theorem cnt_mono {P Q : Nat → Bool} : ∀ {n : Nat}, (∀ i, i < n → P i = true → Q i = true) → cnt P n ≤ cnt Q n
  | 0, _ => Nat.le_refl _
  | n + 1, h => by
    have h1 := cnt_mono (n := n) (fun i hi => h i (by omega))
    have h2 := h n (by omega)
    simp only [cnt]
    by_cases hp : P n = true
    · rw [if_pos hp, if_pos (h2 hp)]; omega
    · rw [if_neg hp]; split <;> omega
theorem cnt_lt {P Q : Nat → Bool} : ∀ {n : Nat}, (∀ i, i < n → P i = true → Q i = true) → ∀ j, j < n → P j = false → Q j = true → cnt P n < cnt Q n
  | 0, _, j, hj, _, _ => by omega
  | n + 1, h, j, hj, hp, hq => by
    have h2 := h n (by omega)
    simp only [cnt]
    by_cases e : j = n
    · subst e
      have h1 := cnt_mono (n := j) (fun i hi => h i (by omega))
      rw [if_neg (by rw [hp]; decide), if_pos hq]; omega
    · have h1 := cnt_lt (n := n) (fun i hi => h i (by omega)) j (by omega) hp hq
      by_cases hpn : P n = true
      · rw [if_pos hpn, if_pos (h2 hpn)]; omega
      · rw [if_neg hpn]; split <;> omega
theorem cnt_true : ∀ n, cnt (fun _ => true) n = n
  | 0 => rfl
  | n + 1 => by simp only [cnt]; rw [cnt_true n]; simp
theorem cnt_false {P : Nat → Bool} : ∀ {n : Nat}, (∀ i, i < n → P i = false) → cnt P n = 0
  | 0, _ => rfl
  | n + 1, h => by
    simp only [cnt]
    rw [cnt_false (fun i hi => h i (by omega)), if_neg (by rw [h n (by omega)]; decide)]
theorem cnt_lt_n {P : Nat → Bool} {n j : Nat} (hj : j < n) (hp : P j = false) : cnt P n < n := by
  have := cnt_lt (P := P) (Q := fun _ => true) (n := n) (fun _ _ _ => rfl) j hj hp rfl
  rw [cnt_true] at this
  exact this
theorem cnt_or {P Q : Nat → Bool} : ∀ {n : Nat}, (∀ i, i < n → P i = true → Q i = false) → cnt (fun i => P i || Q i) n = cnt P n + cnt Q n
  | 0, _ => rfl
  | n + 1, h => by
    simp only [cnt]
    rw [cnt_or (fun i hi => h i (by omega))]
    have := h n (by omega)
    by_cases hp : P n = true
    · have hq := this hp
      simp [hp, hq]; omega
    · by_cases hq : Q n = true
      · simp [hp, hq]; omega
      · simp [hp, hq]
theorem cnt_split (P : Nat → Bool) (m : Nat) : ∀ n, m ≤ n → cnt P n = cnt P m + cnt (fun i => decide (m ≤ i) && P i) n
  | 0, h => by
    have : m = 0 := by omega
    subst this; rfl
  | n + 1, h => by
    by_cases e : m = n + 1
    · subst e
      have : cnt (fun i => decide (n + 1 ≤ i) && P i) (n + 1) = 0 := cnt_false (fun i hi => by
        have : ¬ n + 1 ≤ i := by omega
        simp [this])
      omega
    · have h1 := cnt_split P m n (by omega)
      simp only [cnt]
      have : decide (m ≤ n) = true := by simp; omega
      simp only [h1, this, Bool.true_and]
      omega
/-! pigeons -/
theorem pig : ∀ (n : Nat) (f : Nat → Nat), (∀ i, i < n → f i < n) → (∀ i j, i < n → j < n → f i = f j → i = j) → ∀ k, k < n → ∃ i, i < n ∧ f i = k
  | 0, _, _, _, k, hk => by omega
  | n + 1, f, hf, inj, k, hk => by
    by_cases hex : ∃ i, i < n + 1 ∧ f i = k
    · exact hex
    exfalso
    have hne : ∀ i, i < n + 1 → f i ≠ k := fun i hi e => hex ⟨i, hi, e⟩
    -- squeeze the values above k down by one
    let g : Nat → Nat := fun i => if f i < k then f i else f i - 1
    have hg : ∀ i, i < n → g i < n := by
      intro i hi
      have h1 := hf i (by omega)
      have h2 := hne i (by omega)
      show (if f i < k then f i else f i - 1) < n
      split <;> omega
    have ginj : ∀ i j, i < n + 1 → j < n + 1 → g i = g j → i = j := by
      intro i j hi hj e
      have h1 := hne i hi
      have h2 := hne j hj
      have e' : (if f i < k then f i else f i - 1) = (if f j < k then f j else f j - 1) := e
      apply inj i j hi hj
      split at e' <;> split at e' <;> omega
    have hgn : g n < n ∨ n = 0 := by
      have h1 := hf n (by omega)
      have h2 := hne n (by omega)
      by_cases hn : n = 0
      · exact Or.inr hn
      · left
        show (if f n < k then f n else f n - 1) < n
        split <;> omega
    rcases hgn with hgn | hn
    · obtain ⟨i, hi, e⟩ := pig n g hg (fun i j hi hj => ginj i j (by omega) (by omega)) (g n) hgn
      have := ginj i n (by omega) (by omega) e
      omega
    · subst hn
      have h1 := hf 0 (by omega)
      have h2 := hne 0 (by omega)
      omega
/-! places in a strict order of the numbers below n -/
def ord_ok (lt : Nat → Nat → Bool) (n : Nat) : Prop := (∀ p, p < n → lt p p = false) ∧ (∀ p q r, p < n → q < n → r < n → lt p q = true → lt q r = true → lt p r = true) ∧ ∀ p q, p < n → q < n → p ≠ q → lt p q = true ∨ lt q p = true
def plc (lt : Nat → Nat → Bool) (n p : Nat) : Nat := cnt (fun q => lt q p) n
theorem plc_lt_n {lt : Nat → Nat → Bool} {n p : Nat} (h : ord_ok lt n) (hp : p < n) : plc lt n p < n := cnt_lt_n hp (h.1 p hp)
theorem plc_mono {lt : Nat → Nat → Bool} {n p q : Nat} (h : ord_ok lt n) (hp : p < n) (hq : q < n) (hl : lt p q = true) : plc lt n p < plc lt n q :=
  cnt_lt (fun i hi hip => h.2.1 i p q hi hp hq hip hl) p hp (h.1 p hp) hl
theorem plc_iff {lt : Nat → Nat → Bool} {n p q : Nat} (h : ord_ok lt n) (hp : p < n) (hq : q < n) : plc lt n p < plc lt n q ↔ lt p q = true := by
  constructor
  · intro hl
    by_cases e : p = q
    · subst e; omega
    · rcases h.2.2 p q hp hq e with h1 | h1
      · exact h1
      · have := plc_mono h hq hp h1; omega
  · exact plc_mono h hp hq
theorem plc_inj {lt : Nat → Nat → Bool} {n p q : Nat} (h : ord_ok lt n) (hp : p < n) (hq : q < n) (e : plc lt n p = plc lt n q) : p = q := by
  by_cases hpq : p = q
  · exact hpq
  · rcases h.2.2 p q hp hq hpq with h1 | h1
    · have := plc_mono h hp hq h1; omega
    · have := plc_mono h hq hp h1; omega
theorem plc_onto {lt : Nat → Nat → Bool} {n k : Nat} (h : ord_ok lt n) (hk : k < n) : ∃ p, p < n ∧ plc lt n p = k :=
  pig n (plc lt n) (fun _ hi => plc_lt_n h hi) (fun _ _ hi hj e => plc_inj h hi hj e) k hk
end
section
theorem d_S_init_0 : decode prog_1_method_1_code 0 = .ok (.aload_n 0, 1) := by decide +kernel
theorem d_S_init_1 : decode prog_1_method_1_code 1 = .ok (.invokespecial 3, 3) := by decide +kernel
theorem d_S_init_4 : decode prog_1_method_1_code 4 = .ok (.aload_n 0, 1) := by decide +kernel
theorem d_S_init_5 : decode prog_1_method_1_code 5 = .ok (.new 9, 3) := by decide +kernel
theorem d_S_init_8 : decode prog_1_method_1_code 8 = .ok (.dup, 1) := by decide +kernel
theorem d_S_init_9 : decode prog_1_method_1_code 9 = .ok (.sipush 600, 3) := by decide +kernel
theorem d_S_init_12 : decode prog_1_method_1_code 12 = .ok (.invokespecial 11, 3) := by decide +kernel
theorem d_S_init_15 : decode prog_1_method_1_code 15 = .ok (.putfield 14, 3) := by decide +kernel
theorem d_S_init_18 : decode prog_1_method_1_code 18 = .ok (.aload_n 0, 1) := by decide +kernel
theorem d_S_init_19 : decode prog_1_method_1_code 19 = .ok (.new 9, 3) := by decide +kernel
theorem d_S_init_22 : decode prog_1_method_1_code 22 = .ok (.dup, 1) := by decide +kernel
theorem d_S_init_23 : decode prog_1_method_1_code 23 = .ok (.sipush 750, 3) := by decide +kernel
theorem d_S_init_26 : decode prog_1_method_1_code 26 = .ok (.invokespecial 11, 3) := by decide +kernel
theorem d_S_init_29 : decode prog_1_method_1_code 29 = .ok (.putfield 18, 3) := by decide +kernel
theorem d_S_init_32 : decode prog_1_method_1_code 32 = .ok (.aload_n 0, 1) := by decide +kernel
theorem d_S_init_33 : decode prog_1_method_1_code 33 = .ok (.new 21, 3) := by decide +kernel
theorem d_S_init_36 : decode prog_1_method_1_code 36 = .ok (.dup, 1) := by decide +kernel
theorem d_S_init_37 : decode prog_1_method_1_code 37 = .ok (.invokespecial 23, 3) := by decide +kernel
theorem d_S_init_40 : decode prog_1_method_1_code 40 = .ok (.putfield 24, 3) := by decide +kernel
theorem d_S_init_43 : decode prog_1_method_1_code 43 = .ok (.aload_n 0, 1) := by decide +kernel
theorem d_S_init_44 : decode prog_1_method_1_code 44 = .ok (.new 28, 3) := by decide +kernel
theorem d_S_init_47 : decode prog_1_method_1_code 47 = .ok (.dup, 1) := by decide +kernel
theorem d_S_init_48 : decode prog_1_method_1_code 48 = .ok (.invokespecial 30, 3) := by decide +kernel
theorem d_S_init_51 : decode prog_1_method_1_code 51 = .ok (.putfield 31, 3) := by decide +kernel
theorem d_S_init_54 : decode prog_1_method_1_code 54 = .ok (.aload_n 0, 1) := by decide +kernel
theorem d_S_init_55 : decode prog_1_method_1_code 55 = .ok (.new 35, 3) := by decide +kernel
theorem d_S_init_58 : decode prog_1_method_1_code 58 = .ok (.dup, 1) := by decide +kernel
theorem d_S_init_59 : decode prog_1_method_1_code 59 = .ok (.invokespecial 37, 3) := by decide +kernel
theorem d_S_init_62 : decode prog_1_method_1_code 62 = .ok (.putfield 38, 3) := by decide +kernel
theorem d_S_init_65 : decode prog_1_method_1_code 65 = .ok (.return_, 1) := by decide +kernel
theorem d_S_feed_0 : decode prog_1_method_2_code 0 = .ok (.aload_n 0, 1) := by decide +kernel
theorem d_S_feed_1 : decode prog_1_method_2_code 1 = .ok (.getfield 14, 3) := by decide +kernel
theorem d_S_feed_4 : decode prog_1_method_2_code 4 = .ok (.lload_n 1, 1) := by decide +kernel
theorem d_S_feed_5 : decode prog_1_method_2_code 5 = .ok (.iload_n 3, 1) := by decide +kernel
theorem d_S_feed_6 : decode prog_1_method_2_code 6 = .ok (.invokestatic 42, 3) := by decide +kernel
theorem d_S_feed_9 : decode prog_1_method_2_code 9 = .ok (.istore 4, 2) := by decide +kernel
theorem d_S_feed_11 : decode prog_1_method_2_code 11 = .ok (.iload 4, 2) := by decide +kernel
theorem d_S_feed_13 : decode prog_1_method_2_code 13 = .ok (.ifCond .le 7, 3) := by decide +kernel
theorem d_S_feed_16 : decode prog_1_method_2_code 16 = .ok (.aload_n 0, 1) := by decide +kernel
theorem d_S_feed_17 : decode prog_1_method_2_code 17 = .ok (.invokevirtual 46, 3) := by decide +kernel
theorem d_S_feed_20 : decode prog_1_method_2_code 20 = .ok (.iload 4, 2) := by decide +kernel
theorem d_S_feed_22 : decode prog_1_method_2_code 22 = .ok (.ireturn, 1) := by decide +kernel
theorem d_S_fill_0 : decode prog_1_method_3_code 0 = .ok (.iload_n 1, 1) := by decide +kernel
theorem d_S_fill_1 : decode prog_1_method_3_code 1 = .ok (.iconst 1, 1) := by decide +kernel
theorem d_S_fill_2 : decode prog_1_method_3_code 2 = .ok (.if_icmp .lt 17, 3) := by decide +kernel
theorem d_S_fill_5 : decode prog_1_method_3_code 5 = .ok (.iload_n 1, 1) := by decide +kernel
theorem d_S_fill_6 : decode prog_1_method_3_code 6 = .ok (.sipush 600, 3) := by decide +kernel
theorem d_S_fill_9 : decode prog_1_method_3_code 9 = .ok (.if_icmp .gt 10, 3) := by decide +kernel
theorem d_S_fill_12 : decode prog_1_method_3_code 12 = .ok (.iload_n 2, 1) := by decide +kernel
theorem d_S_fill_13 : decode prog_1_method_3_code 13 = .ok (.invokestatic 49, 3) := by decide +kernel
theorem d_S_fill_16 : decode prog_1_method_3_code 16 = .ok (.ifCond .ne 5, 3) := by decide +kernel
theorem d_S_fill_19 : decode prog_1_method_3_code 19 = .ok (.iconst (-1), 1) := by decide +kernel
theorem d_S_fill_20 : decode prog_1_method_3_code 20 = .ok (.ireturn, 1) := by decide +kernel
theorem d_S_fill_21 : decode prog_1_method_3_code 21 = .ok (.aload_n 0, 1) := by decide +kernel
theorem d_S_fill_22 : decode prog_1_method_3_code 22 = .ok (.getfield 14, 3) := by decide +kernel
theorem d_S_fill_25 : decode prog_1_method_3_code 25 = .ok (.iload_n 1, 1) := by decide +kernel
theorem d_S_fill_26 : decode prog_1_method_3_code 26 = .ok (.invokevirtual 53, 3) := by decide +kernel
theorem d_S_fill_29 : decode prog_1_method_3_code 29 = .ok (.ifCond .ne 6, 3) := by decide +kernel
theorem d_S_fill_32 : decode prog_1_method_3_code 32 = .ok (.bipush (-3), 2) := by decide +kernel
theorem d_S_fill_34 : decode prog_1_method_3_code 34 = .ok (.ireturn, 1) := by decide +kernel
theorem d_S_fill_35 : decode prog_1_method_3_code 35 = .ok (.aload_n 0, 1) := by decide +kernel
theorem d_S_fill_36 : decode prog_1_method_3_code 36 = .ok (.getfield 14, 3) := by decide +kernel
theorem d_S_fill_39 : decode prog_1_method_3_code 39 = .ok (.iload_n 1, 1) := by decide +kernel
theorem d_S_fill_40 : decode prog_1_method_3_code 40 = .ok (.iload_n 2, 1) := by decide +kernel
theorem d_S_fill_41 : decode prog_1_method_3_code 41 = .ok (.invokevirtual 56, 3) := by decide +kernel
theorem d_S_fill_44 : decode prog_1_method_3_code 44 = .ok (.aload_n 0, 1) := by decide +kernel
theorem d_S_fill_45 : decode prog_1_method_3_code 45 = .ok (.invokevirtual 46, 3) := by decide +kernel
theorem d_S_fill_48 : decode prog_1_method_3_code 48 = .ok (.aload_n 0, 1) := by decide +kernel
theorem d_S_fill_49 : decode prog_1_method_3_code 49 = .ok (.getfield 14, 3) := by decide +kernel
theorem d_S_fill_52 : decode prog_1_method_3_code 52 = .ok (.getfield 60, 3) := by decide +kernel
theorem d_S_fill_55 : decode prog_1_method_3_code 55 = .ok (.ireturn, 1) := by decide +kernel
theorem d_S_clear_0 : decode prog_1_method_4_code 0 = .ok (.aload_n 0, 1) := by decide +kernel
theorem d_S_clear_1 : decode prog_1_method_4_code 1 = .ok (.getfield 14, 3) := by decide +kernel
theorem d_S_clear_4 : decode prog_1_method_4_code 4 = .ok (.getfield 60, 3) := by decide +kernel
theorem d_S_clear_7 : decode prog_1_method_4_code 7 = .ok (.istore_n 1, 1) := by decide +kernel
theorem d_S_clear_8 : decode prog_1_method_4_code 8 = .ok (.aload_n 0, 1) := by decide +kernel
theorem d_S_clear_9 : decode prog_1_method_4_code 9 = .ok (.getfield 14, 3) := by decide +kernel
theorem d_S_clear_12 : decode prog_1_method_4_code 12 = .ok (.iconst 0, 1) := by decide +kernel
theorem d_S_clear_13 : decode prog_1_method_4_code 13 = .ok (.invokevirtual 64, 3) := by decide +kernel
theorem d_S_clear_16 : decode prog_1_method_4_code 16 = .ok (.aload_n 0, 1) := by decide +kernel
theorem d_S_clear_17 : decode prog_1_method_4_code 17 = .ok (.invokevirtual 46, 3) := by decide +kernel
theorem d_S_clear_20 : decode prog_1_method_4_code 20 = .ok (.iload_n 1, 1) := by decide +kernel
theorem d_S_clear_21 : decode prog_1_method_4_code 21 = .ok (.ireturn, 1) := by decide +kernel
theorem d_S_octet_0 : decode prog_1_method_5_code 0 = .ok (.aload_n 0, 1) := by decide +kernel
theorem d_S_octet_1 : decode prog_1_method_5_code 1 = .ok (.getfield 14, 3) := by decide +kernel
theorem d_S_octet_4 : decode prog_1_method_5_code 4 = .ok (.iload_n 1, 1) := by decide +kernel
theorem d_S_octet_5 : decode prog_1_method_5_code 5 = .ok (.invokevirtual 67, 3) := by decide +kernel
theorem d_S_octet_8 : decode prog_1_method_5_code 8 = .ok (.ireturn, 1) := by decide +kernel
theorem d_S_pack_0 : decode prog_1_method_6_code 0 = .ok (.aload_n 0, 1) := by decide +kernel
theorem d_S_pack_1 : decode prog_1_method_6_code 1 = .ok (.invokevirtual 71, 3) := by decide +kernel
theorem d_S_pack_4 : decode prog_1_method_6_code 4 = .ok (.aload_n 0, 1) := by decide +kernel
theorem d_S_pack_5 : decode prog_1_method_6_code 5 = .ok (.getfield 18, 3) := by decide +kernel
theorem d_S_pack_8 : decode prog_1_method_6_code 8 = .ok (.getfield 60, 3) := by decide +kernel
theorem d_S_pack_11 : decode prog_1_method_6_code 11 = .ok (.ireturn, 1) := by decide +kernel
theorem d_S_packed_0 : decode prog_1_method_7_code 0 = .ok (.aload_n 0, 1) := by decide +kernel
theorem d_S_packed_1 : decode prog_1_method_7_code 1 = .ok (.invokevirtual 71, 3) := by decide +kernel
theorem d_S_packed_4 : decode prog_1_method_7_code 4 = .ok (.aload_n 0, 1) := by decide +kernel
theorem d_S_packed_5 : decode prog_1_method_7_code 5 = .ok (.getfield 18, 3) := by decide +kernel
theorem d_S_packed_8 : decode prog_1_method_7_code 8 = .ok (.iload_n 1, 1) := by decide +kernel
theorem d_S_packed_9 : decode prog_1_method_7_code 9 = .ok (.invokevirtual 67, 3) := by decide +kernel
theorem d_S_packed_12 : decode prog_1_method_7_code 12 = .ok (.ireturn, 1) := by decide +kernel
theorem d_S_order_0 : decode prog_1_method_8_code 0 = .ok (.aload_n 0, 1) := by decide +kernel
theorem d_S_order_1 : decode prog_1_method_8_code 1 = .ok (.invokevirtual 74, 3) := by decide +kernel
theorem d_S_order_4 : decode prog_1_method_8_code 4 = .ok (.aload_n 0, 1) := by decide +kernel
theorem d_S_order_5 : decode prog_1_method_8_code 5 = .ok (.getfield 24, 3) := by decide +kernel
theorem d_S_order_8 : decode prog_1_method_8_code 8 = .ok (.getfield 77, 3) := by decide +kernel
theorem d_S_order_11 : decode prog_1_method_8_code 11 = .ok (.iload_n 1, 1) := by decide +kernel
theorem d_S_order_12 : decode prog_1_method_8_code 12 = .ok (.invokevirtual 81, 3) := by decide +kernel
theorem d_S_order_15 : decode prog_1_method_8_code 15 = .ok (.ireturn, 1) := by decide +kernel
theorem d_S_last_0 : decode prog_1_method_9_code 0 = .ok (.aload_n 0, 1) := by decide +kernel
theorem d_S_last_1 : decode prog_1_method_9_code 1 = .ok (.invokevirtual 74, 3) := by decide +kernel
theorem d_S_last_4 : decode prog_1_method_9_code 4 = .ok (.aload_n 0, 1) := by decide +kernel
theorem d_S_last_5 : decode prog_1_method_9_code 5 = .ok (.getfield 24, 3) := by decide +kernel
theorem d_S_last_8 : decode prog_1_method_9_code 8 = .ok (.getfield 77, 3) := by decide +kernel
theorem d_S_last_11 : decode prog_1_method_9_code 11 = .ok (.getfield 86, 3) := by decide +kernel
theorem d_S_last_14 : decode prog_1_method_9_code 14 = .ok (.iload_n 1, 1) := by decide +kernel
theorem d_S_last_15 : decode prog_1_method_9_code 15 = .ok (.invokevirtual 67, 3) := by decide +kernel
theorem d_S_last_18 : decode prog_1_method_9_code 18 = .ok (.ireturn, 1) := by decide +kernel
theorem d_S_origin_0 : decode prog_1_method_10_code 0 = .ok (.aload_n 0, 1) := by decide +kernel
theorem d_S_origin_1 : decode prog_1_method_10_code 1 = .ok (.invokevirtual 74, 3) := by decide +kernel
theorem d_S_origin_4 : decode prog_1_method_10_code 4 = .ok (.aload_n 0, 1) := by decide +kernel
theorem d_S_origin_5 : decode prog_1_method_10_code 5 = .ok (.getfield 24, 3) := by decide +kernel
theorem d_S_origin_8 : decode prog_1_method_10_code 8 = .ok (.getfield 77, 3) := by decide +kernel
theorem d_S_origin_11 : decode prog_1_method_10_code 11 = .ok (.iconst 0, 1) := by decide +kernel
theorem d_S_origin_12 : decode prog_1_method_10_code 12 = .ok (.invokevirtual 89, 3) := by decide +kernel
theorem d_S_origin_15 : decode prog_1_method_10_code 15 = .ok (.ireturn, 1) := by decide +kernel
theorem d_S_rounds_0 : decode prog_1_method_11_code 0 = .ok (.aload_n 0, 1) := by decide +kernel
theorem d_S_rounds_1 : decode prog_1_method_11_code 1 = .ok (.getfield 14, 3) := by decide +kernel
theorem d_S_rounds_4 : decode prog_1_method_11_code 4 = .ok (.getfield 60, 3) := by decide +kernel
theorem d_S_rounds_7 : decode prog_1_method_11_code 7 = .ok (.ifCond .ne 6, 3) := by decide +kernel
theorem d_S_rounds_10 : decode prog_1_method_11_code 10 = .ok (.bipush (-2), 2) := by decide +kernel
theorem d_S_rounds_12 : decode prog_1_method_11_code 12 = .ok (.ireturn, 1) := by decide +kernel
theorem d_S_rounds_13 : decode prog_1_method_11_code 13 = .ok (.aload_n 0, 1) := by decide +kernel
theorem d_S_rounds_14 : decode prog_1_method_11_code 14 = .ok (.invokevirtual 74, 3) := by decide +kernel
theorem d_S_rounds_17 : decode prog_1_method_11_code 17 = .ok (.aload_n 0, 1) := by decide +kernel
theorem d_S_rounds_18 : decode prog_1_method_11_code 18 = .ok (.getfield 24, 3) := by decide +kernel
theorem d_S_rounds_21 : decode prog_1_method_11_code 21 = .ok (.getfield 77, 3) := by decide +kernel
theorem d_S_rounds_24 : decode prog_1_method_11_code 24 = .ok (.getfield 92, 3) := by decide +kernel
theorem d_S_rounds_27 : decode prog_1_method_11_code 27 = .ok (.ireturn, 1) := by decide +kernel
theorem d_S_start_0 : decode prog_1_method_12_code 0 = .ok (.iload_n 1, 1) := by decide +kernel
theorem d_S_start_1 : decode prog_1_method_12_code 1 = .ok (.iconst 1, 1) := by decide +kernel
theorem d_S_start_2 : decode prog_1_method_12_code 2 = .ok (.if_icmp .lt 18, 3) := by decide +kernel
theorem d_S_start_5 : decode prog_1_method_12_code 5 = .ok (.iload_n 1, 1) := by decide +kernel
theorem d_S_start_6 : decode prog_1_method_12_code 6 = .ok (.bipush 64, 2) := by decide +kernel
theorem d_S_start_8 : decode prog_1_method_12_code 8 = .ok (.if_icmp .gt 12, 3) := by decide +kernel
theorem d_S_start_11 : decode prog_1_method_12_code 11 = .ok (.iload_n 2, 1) := by decide +kernel
theorem d_S_start_12 : decode prog_1_method_12_code 12 = .ok (.ifCond .lt 8, 3) := by decide +kernel
theorem d_S_start_15 : decode prog_1_method_12_code 15 = .ok (.iload_n 2, 1) := by decide +kernel
theorem d_S_start_16 : decode prog_1_method_12_code 16 = .ok (.iload_n 1, 1) := by decide +kernel
theorem d_S_start_17 : decode prog_1_method_12_code 17 = .ok (.if_icmp .lt 5, 3) := by decide +kernel
theorem d_S_start_20 : decode prog_1_method_12_code 20 = .ok (.iconst (-1), 1) := by decide +kernel
theorem d_S_start_21 : decode prog_1_method_12_code 21 = .ok (.ireturn, 1) := by decide +kernel
theorem d_S_start_22 : decode prog_1_method_12_code 22 = .ok (.aload_n 0, 1) := by decide +kernel
theorem d_S_start_23 : decode prog_1_method_12_code 23 = .ok (.invokevirtual 74, 3) := by decide +kernel
theorem d_S_start_26 : decode prog_1_method_12_code 26 = .ok (.aload_n 0, 1) := by decide +kernel
theorem d_S_start_27 : decode prog_1_method_12_code 27 = .ok (.getfield 24, 3) := by decide +kernel
theorem d_S_start_30 : decode prog_1_method_12_code 30 = .ok (.getfield 77, 3) := by decide +kernel
theorem d_S_start_33 : decode prog_1_method_12_code 33 = .ok (.iload_n 2, 1) := by decide +kernel
theorem d_S_start_34 : decode prog_1_method_12_code 34 = .ok (.aload_n 0, 1) := by decide +kernel
theorem d_S_start_35 : decode prog_1_method_12_code 35 = .ok (.getfield 14, 3) := by decide +kernel
theorem d_S_start_38 : decode prog_1_method_12_code 38 = .ok (.getfield 60, 3) := by decide +kernel
theorem d_S_start_41 : decode prog_1_method_12_code 41 = .ok (.imul, 1) := by decide +kernel
theorem d_S_start_42 : decode prog_1_method_12_code 42 = .ok (.iload_n 1, 1) := by decide +kernel
theorem d_S_start_43 : decode prog_1_method_12_code 43 = .ok (.idiv, 1) := by decide +kernel
theorem d_S_start_44 : decode prog_1_method_12_code 44 = .ok (.invokevirtual 89, 3) := by decide +kernel
theorem d_S_start_47 : decode prog_1_method_12_code 47 = .ok (.ireturn, 1) := by decide +kernel
theorem d_S_steps_0 : decode prog_1_method_13_code 0 = .ok (.iload_n 3, 1) := by decide +kernel
theorem d_S_steps_1 : decode prog_1_method_13_code 1 = .ok (.iconst 1, 1) := by decide +kernel
theorem d_S_steps_2 : decode prog_1_method_13_code 2 = .ok (.if_icmp .lt 20, 3) := by decide +kernel
theorem d_S_steps_5 : decode prog_1_method_13_code 5 = .ok (.iload_n 3, 1) := by decide +kernel
theorem d_S_steps_6 : decode prog_1_method_13_code 6 = .ok (.bipush 8, 2) := by decide +kernel
theorem d_S_steps_8 : decode prog_1_method_13_code 8 = .ok (.if_icmp .gt 14, 3) := by decide +kernel
theorem d_S_steps_11 : decode prog_1_method_13_code 11 = .ok (.iload 4, 2) := by decide +kernel
theorem d_S_steps_13 : decode prog_1_method_13_code 13 = .ok (.ifCond .lt 9, 3) := by decide +kernel
theorem d_S_steps_16 : decode prog_1_method_13_code 16 = .ok (.iload 4, 2) := by decide +kernel
theorem d_S_steps_18 : decode prog_1_method_13_code 18 = .ok (.iconst 2, 1) := by decide +kernel
theorem d_S_steps_19 : decode prog_1_method_13_code 19 = .ok (.if_icmp .le 5, 3) := by decide +kernel
theorem d_S_steps_22 : decode prog_1_method_13_code 22 = .ok (.iconst (-1), 1) := by decide +kernel
theorem d_S_steps_23 : decode prog_1_method_13_code 23 = .ok (.ireturn, 1) := by decide +kernel
theorem d_S_steps_24 : decode prog_1_method_13_code 24 = .ok (.aload_n 0, 1) := by decide +kernel
theorem d_S_steps_25 : decode prog_1_method_13_code 25 = .ok (.invokevirtual 74, 3) := by decide +kernel
theorem d_S_steps_28 : decode prog_1_method_13_code 28 = .ok (.bipush (-2), 2) := by decide +kernel
theorem d_S_steps_30 : decode prog_1_method_13_code 30 = .ok (.istore 5, 2) := by decide +kernel
theorem d_S_steps_32 : decode prog_1_method_13_code 32 = .ok (.iconst 0, 1) := by decide +kernel
theorem d_S_steps_33 : decode prog_1_method_13_code 33 = .ok (.istore 6, 2) := by decide +kernel
theorem d_S_steps_35 : decode prog_1_method_13_code 35 = .ok (.iconst 0, 1) := by decide +kernel
theorem d_S_steps_36 : decode prog_1_method_13_code 36 = .ok (.istore 7, 2) := by decide +kernel
theorem d_S_steps_38 : decode prog_1_method_13_code 38 = .ok (.iload 7, 2) := by decide +kernel
theorem d_S_steps_40 : decode prog_1_method_13_code 40 = .ok (.aload_n 0, 1) := by decide +kernel
theorem d_S_steps_41 : decode prog_1_method_13_code 41 = .ok (.getfield 14, 3) := by decide +kernel
theorem d_S_steps_44 : decode prog_1_method_13_code 44 = .ok (.getfield 60, 3) := by decide +kernel
theorem d_S_steps_47 : decode prog_1_method_13_code 47 = .ok (.if_icmp .ge 47, 3) := by decide +kernel
theorem d_S_steps_50 : decode prog_1_method_13_code 50 = .ok (.aload_n 0, 1) := by decide +kernel
theorem d_S_steps_51 : decode prog_1_method_13_code 51 = .ok (.aload_n 0, 1) := by decide +kernel
theorem d_S_steps_52 : decode prog_1_method_13_code 52 = .ok (.getfield 24, 3) := by decide +kernel
theorem d_S_steps_55 : decode prog_1_method_13_code 55 = .ok (.getfield 77, 3) := by decide +kernel
theorem d_S_steps_58 : decode prog_1_method_13_code 58 = .ok (.iload 7, 2) := by decide +kernel
theorem d_S_steps_60 : decode prog_1_method_13_code 60 = .ok (.invokevirtual 81, 3) := by decide +kernel
theorem d_S_steps_63 : decode prog_1_method_13_code 63 = .ok (.lload_n 1, 1) := by decide +kernel
theorem d_S_steps_64 : decode prog_1_method_13_code 64 = .ok (.iload_n 3, 1) := by decide +kernel
theorem d_S_steps_65 : decode prog_1_method_13_code 65 = .ok (.invokevirtual 95, 3) := by decide +kernel
theorem d_S_steps_68 : decode prog_1_method_13_code 68 = .ok (.ifCond .eq 20, 3) := by decide +kernel
theorem d_S_steps_71 : decode prog_1_method_13_code 71 = .ok (.iload 6, 2) := by decide +kernel
theorem d_S_steps_73 : decode prog_1_method_13_code 73 = .ok (.ifCond .ne 8, 3) := by decide +kernel
theorem d_S_steps_76 : decode prog_1_method_13_code 76 = .ok (.iload 7, 2) := by decide +kernel
theorem d_S_steps_78 : decode prog_1_method_13_code 78 = .ok (.goto 5, 3) := by decide +kernel
theorem d_S_steps_81 : decode prog_1_method_13_code 81 = .ok (.iload 5, 2) := by decide +kernel
theorem d_S_steps_83 : decode prog_1_method_13_code 83 = .ok (.istore 5, 2) := by decide +kernel
theorem d_S_steps_85 : decode prog_1_method_13_code 85 = .ok (.iinc 6 1, 3) := by decide +kernel
theorem d_S_steps_88 : decode prog_1_method_13_code 88 = .ok (.iinc 7 1, 3) := by decide +kernel
theorem d_S_steps_91 : decode prog_1_method_13_code 91 = .ok (.goto (-53), 3) := by decide +kernel
theorem d_S_steps_94 : decode prog_1_method_13_code 94 = .ok (.iload 4, 2) := by decide +kernel
theorem d_S_steps_96 : decode prog_1_method_13_code 96 = .ok (.iconst 2, 1) := by decide +kernel
theorem d_S_steps_97 : decode prog_1_method_13_code 97 = .ok (.if_icmp .ne 6, 3) := by decide +kernel
theorem d_S_steps_100 : decode prog_1_method_13_code 100 = .ok (.iload 6, 2) := by decide +kernel
theorem d_S_steps_102 : decode prog_1_method_13_code 102 = .ok (.ireturn, 1) := by decide +kernel
theorem d_S_steps_103 : decode prog_1_method_13_code 103 = .ok (.iload 4, 2) := by decide +kernel
theorem d_S_steps_105 : decode prog_1_method_13_code 105 = .ok (.ifCond .eq 8, 3) := by decide +kernel
theorem d_S_steps_108 : decode prog_1_method_13_code 108 = .ok (.iload 6, 2) := by decide +kernel
theorem d_S_steps_110 : decode prog_1_method_13_code 110 = .ok (.ifCond .ne 8, 3) := by decide +kernel
theorem d_S_steps_113 : decode prog_1_method_13_code 113 = .ok (.iload 5, 2) := by decide +kernel
theorem d_S_steps_115 : decode prog_1_method_13_code 115 = .ok (.goto 8, 3) := by decide +kernel
theorem d_S_steps_118 : decode prog_1_method_13_code 118 = .ok (.iload 5, 2) := by decide +kernel
theorem d_S_steps_120 : decode prog_1_method_13_code 120 = .ok (.iload 6, 2) := by decide +kernel
theorem d_S_steps_122 : decode prog_1_method_13_code 122 = .ok (.iadd, 1) := by decide +kernel
theorem d_S_steps_123 : decode prog_1_method_13_code 123 = .ok (.ireturn, 1) := by decide +kernel
theorem d_S_back_0 : decode prog_1_method_14_code 0 = .ok (.aload_n 0, 1) := by decide +kernel
theorem d_S_back_1 : decode prog_1_method_14_code 1 = .ok (.getfield 14, 3) := by decide +kernel
theorem d_S_back_4 : decode prog_1_method_14_code 4 = .ok (.getfield 60, 3) := by decide +kernel
theorem d_S_back_7 : decode prog_1_method_14_code 7 = .ok (.ifCond .ne 6, 3) := by decide +kernel
theorem d_S_back_10 : decode prog_1_method_14_code 10 = .ok (.bipush (-2), 2) := by decide +kernel
theorem d_S_back_12 : decode prog_1_method_14_code 12 = .ok (.ireturn, 1) := by decide +kernel
theorem d_S_back_13 : decode prog_1_method_14_code 13 = .ok (.aload_n 0, 1) := by decide +kernel
theorem d_S_back_14 : decode prog_1_method_14_code 14 = .ok (.getfield 14, 3) := by decide +kernel
theorem d_S_back_17 : decode prog_1_method_14_code 17 = .ok (.iload_n 1, 1) := by decide +kernel
theorem d_S_back_18 : decode prog_1_method_14_code 18 = .ok (.invokevirtual 99, 3) := by decide +kernel
theorem d_S_back_21 : decode prog_1_method_14_code 21 = .ok (.ifCond .ne 5, 3) := by decide +kernel
theorem d_S_back_24 : decode prog_1_method_14_code 24 = .ok (.iconst (-1), 1) := by decide +kernel
theorem d_S_back_25 : decode prog_1_method_14_code 25 = .ok (.ireturn, 1) := by decide +kernel
theorem d_S_back_26 : decode prog_1_method_14_code 26 = .ok (.aload_n 0, 1) := by decide +kernel
theorem d_S_back_27 : decode prog_1_method_14_code 27 = .ok (.getfield 24, 3) := by decide +kernel
theorem d_S_back_30 : decode prog_1_method_14_code 30 = .ok (.aload_n 0, 1) := by decide +kernel
theorem d_S_back_31 : decode prog_1_method_14_code 31 = .ok (.getfield 14, 3) := by decide +kernel
theorem d_S_back_34 : decode prog_1_method_14_code 34 = .ok (.iload_n 1, 1) := by decide +kernel
theorem d_S_back_35 : decode prog_1_method_14_code 35 = .ok (.invokevirtual 102, 3) := by decide +kernel
theorem d_S_back_38 : decode prog_1_method_14_code 38 = .ok (.istore_n 2, 1) := by decide +kernel
theorem d_S_back_39 : decode prog_1_method_14_code 39 = .ok (.aload_n 0, 1) := by decide +kernel
theorem d_S_back_40 : decode prog_1_method_14_code 40 = .ok (.getfield 14, 3) := by decide +kernel
theorem d_S_back_43 : decode prog_1_method_14_code 43 = .ok (.aload_n 0, 1) := by decide +kernel
theorem d_S_back_44 : decode prog_1_method_14_code 44 = .ok (.getfield 24, 3) := by decide +kernel
theorem d_S_back_47 : decode prog_1_method_14_code 47 = .ok (.getfield 106, 3) := by decide +kernel
theorem d_S_back_50 : decode prog_1_method_14_code 50 = .ok (.invokevirtual 109, 3) := by decide +kernel
theorem d_S_back_53 : decode prog_1_method_14_code 53 = .ok (.aload_n 0, 1) := by decide +kernel
theorem d_S_back_54 : decode prog_1_method_14_code 54 = .ok (.invokevirtual 46, 3) := by decide +kernel
theorem d_S_back_57 : decode prog_1_method_14_code 57 = .ok (.iload_n 2, 1) := by decide +kernel
theorem d_S_back_58 : decode prog_1_method_14_code 58 = .ok (.ifCond .eq 7, 3) := by decide +kernel
theorem d_S_back_61 : decode prog_1_method_14_code 61 = .ok (.iconst 1, 1) := by decide +kernel
theorem d_S_back_62 : decode prog_1_method_14_code 62 = .ok (.goto 4, 3) := by decide +kernel
theorem d_S_back_65 : decode prog_1_method_14_code 65 = .ok (.iconst 0, 1) := by decide +kernel
theorem d_S_back_66 : decode prog_1_method_14_code 66 = .ok (.ireturn, 1) := by decide +kernel
theorem d_S_ring_0 : decode prog_1_method_15_code 0 = .ok (.aload_n 0, 1) := by decide +kernel
theorem d_S_ring_1 : decode prog_1_method_15_code 1 = .ok (.getfield 14, 3) := by decide +kernel
theorem d_S_ring_4 : decode prog_1_method_15_code 4 = .ok (.iload_n 1, 1) := by decide +kernel
theorem d_S_ring_5 : decode prog_1_method_15_code 5 = .ok (.invokevirtual 99, 3) := by decide +kernel
theorem d_S_ring_8 : decode prog_1_method_15_code 8 = .ok (.ifCond .ne 5, 3) := by decide +kernel
theorem d_S_ring_11 : decode prog_1_method_15_code 11 = .ok (.iconst (-1), 1) := by decide +kernel
theorem d_S_ring_12 : decode prog_1_method_15_code 12 = .ok (.ireturn, 1) := by decide +kernel
theorem d_S_ring_13 : decode prog_1_method_15_code 13 = .ok (.aload_n 0, 1) := by decide +kernel
theorem d_S_ring_14 : decode prog_1_method_15_code 14 = .ok (.getfield 24, 3) := by decide +kernel
theorem d_S_ring_17 : decode prog_1_method_15_code 17 = .ok (.getfield 113, 3) := by decide +kernel
theorem d_S_ring_20 : decode prog_1_method_15_code 20 = .ok (.aload_n 0, 1) := by decide +kernel
theorem d_S_ring_21 : decode prog_1_method_15_code 21 = .ok (.getfield 14, 3) := by decide +kernel
theorem d_S_ring_24 : decode prog_1_method_15_code 24 = .ok (.invokevirtual 117, 3) := by decide +kernel
theorem d_S_ring_27 : decode prog_1_method_15_code 27 = .ok (.aload_n 0, 1) := by decide +kernel
theorem d_S_ring_28 : decode prog_1_method_15_code 28 = .ok (.getfield 24, 3) := by decide +kernel
theorem d_S_ring_31 : decode prog_1_method_15_code 31 = .ok (.getfield 113, 3) := by decide +kernel
theorem d_S_ring_34 : decode prog_1_method_15_code 34 = .ok (.iload_n 1, 1) := by decide +kernel
theorem d_S_ring_35 : decode prog_1_method_15_code 35 = .ok (.invokevirtual 122, 3) := by decide +kernel
theorem d_S_ring_38 : decode prog_1_method_15_code 38 = .ok (.ireturn, 1) := by decide +kernel
theorem d_S_symbol_0 : decode prog_1_method_16_code 0 = .ok (.aload_n 0, 1) := by decide +kernel
theorem d_S_symbol_1 : decode prog_1_method_16_code 1 = .ok (.invokevirtual 125, 3) := by decide +kernel
theorem d_S_symbol_4 : decode prog_1_method_16_code 4 = .ok (.aload_n 0, 1) := by decide +kernel
theorem d_S_symbol_5 : decode prog_1_method_16_code 5 = .ok (.getfield 24, 3) := by decide +kernel
theorem d_S_symbol_8 : decode prog_1_method_16_code 8 = .ok (.getfield 128, 3) := by decide +kernel
theorem d_S_symbol_11 : decode prog_1_method_16_code 11 = .ok (.iload_n 1, 1) := by decide +kernel
theorem d_S_symbol_12 : decode prog_1_method_16_code 12 = .ok (.invokevirtual 132, 3) := by decide +kernel
theorem d_S_symbol_15 : decode prog_1_method_16_code 15 = .ok (.ireturn, 1) := by decide +kernel
theorem d_S_code_0 : decode prog_1_method_17_code 0 = .ok (.aload_n 0, 1) := by decide +kernel
theorem d_S_code_1 : decode prog_1_method_17_code 1 = .ok (.invokevirtual 125, 3) := by decide +kernel
theorem d_S_code_4 : decode prog_1_method_17_code 4 = .ok (.aload_n 0, 1) := by decide +kernel
theorem d_S_code_5 : decode prog_1_method_17_code 5 = .ok (.getfield 24, 3) := by decide +kernel
theorem d_S_code_8 : decode prog_1_method_17_code 8 = .ok (.getfield 135, 3) := by decide +kernel
theorem d_S_code_11 : decode prog_1_method_17_code 11 = .ok (.astore_n 3, 1) := by decide +kernel
theorem d_S_code_12 : decode prog_1_method_17_code 12 = .ok (.aload_n 3, 1) := by decide +kernel
theorem d_S_code_13 : decode prog_1_method_17_code 13 = .ok (.iload_n 1, 1) := by decide +kernel
theorem d_S_code_14 : decode prog_1_method_17_code 14 = .ok (.invokevirtual 139, 3) := by decide +kernel
theorem d_S_code_17 : decode prog_1_method_17_code 17 = .ok (.ifCond .eq 12, 3) := by decide +kernel
theorem d_S_code_20 : decode prog_1_method_17_code 20 = .ok (.iload_n 2, 1) := by decide +kernel
theorem d_S_code_21 : decode prog_1_method_17_code 21 = .ok (.ifCond .lt 8, 3) := by decide +kernel
theorem d_S_code_24 : decode prog_1_method_17_code 24 = .ok (.iload_n 2, 1) := by decide +kernel
theorem d_S_code_25 : decode prog_1_method_17_code 25 = .ok (.iconst 1, 1) := by decide +kernel
theorem d_S_code_26 : decode prog_1_method_17_code 26 = .ok (.if_icmp .le 5, 3) := by decide +kernel
theorem d_S_code_29 : decode prog_1_method_17_code 29 = .ok (.iconst (-1), 1) := by decide +kernel
theorem d_S_code_30 : decode prog_1_method_17_code 30 = .ok (.ireturn, 1) := by decide +kernel
theorem d_S_code_31 : decode prog_1_method_17_code 31 = .ok (.iload_n 2, 1) := by decide +kernel
theorem d_S_code_32 : decode prog_1_method_17_code 32 = .ok (.ifCond .ne 11, 3) := by decide +kernel
theorem d_S_code_35 : decode prog_1_method_17_code 35 = .ok (.aload_n 3, 1) := by decide +kernel
theorem d_S_code_36 : decode prog_1_method_17_code 36 = .ok (.iload_n 1, 1) := by decide +kernel
theorem d_S_code_37 : decode prog_1_method_17_code 37 = .ok (.invokevirtual 142, 3) := by decide +kernel
theorem d_S_code_40 : decode prog_1_method_17_code 40 = .ok (.goto 8, 3) := by decide +kernel
theorem d_S_code_43 : decode prog_1_method_17_code 43 = .ok (.aload_n 3, 1) := by decide +kernel
theorem d_S_code_44 : decode prog_1_method_17_code 44 = .ok (.iload_n 1, 1) := by decide +kernel
theorem d_S_code_45 : decode prog_1_method_17_code 45 = .ok (.invokevirtual 145, 3) := by decide +kernel
theorem d_S_code_48 : decode prog_1_method_17_code 48 = .ok (.ireturn, 1) := by decide +kernel
theorem d_S_bits_0 : decode prog_1_method_18_code 0 = .ok (.aload_n 0, 1) := by decide +kernel
theorem d_S_bits_1 : decode prog_1_method_18_code 1 = .ok (.invokevirtual 125, 3) := by decide +kernel
theorem d_S_bits_4 : decode prog_1_method_18_code 4 = .ok (.iconst 0, 1) := by decide +kernel
theorem d_S_bits_5 : decode prog_1_method_18_code 5 = .ok (.istore_n 1, 1) := by decide +kernel
theorem d_S_bits_6 : decode prog_1_method_18_code 6 = .ok (.iconst 0, 1) := by decide +kernel
theorem d_S_bits_7 : decode prog_1_method_18_code 7 = .ok (.istore_n 2, 1) := by decide +kernel
theorem d_S_bits_8 : decode prog_1_method_18_code 8 = .ok (.iload_n 2, 1) := by decide +kernel
theorem d_S_bits_9 : decode prog_1_method_18_code 9 = .ok (.aload_n 0, 1) := by decide +kernel
theorem d_S_bits_10 : decode prog_1_method_18_code 10 = .ok (.getfield 24, 3) := by decide +kernel
theorem d_S_bits_13 : decode prog_1_method_18_code 13 = .ok (.getfield 128, 3) := by decide +kernel
theorem d_S_bits_16 : decode prog_1_method_18_code 16 = .ok (.getfield 148, 3) := by decide +kernel
theorem d_S_bits_19 : decode prog_1_method_18_code 19 = .ok (.if_icmp .ge 33, 3) := by decide +kernel
theorem d_S_bits_22 : decode prog_1_method_18_code 22 = .ok (.iload_n 1, 1) := by decide +kernel
theorem d_S_bits_23 : decode prog_1_method_18_code 23 = .ok (.aload_n 0, 1) := by decide +kernel
theorem d_S_bits_24 : decode prog_1_method_18_code 24 = .ok (.getfield 24, 3) := by decide +kernel
theorem d_S_bits_27 : decode prog_1_method_18_code 27 = .ok (.getfield 135, 3) := by decide +kernel
theorem d_S_bits_30 : decode prog_1_method_18_code 30 = .ok (.aload_n 0, 1) := by decide +kernel
theorem d_S_bits_31 : decode prog_1_method_18_code 31 = .ok (.getfield 24, 3) := by decide +kernel
theorem d_S_bits_34 : decode prog_1_method_18_code 34 = .ok (.getfield 128, 3) := by decide +kernel
theorem d_S_bits_37 : decode prog_1_method_18_code 37 = .ok (.iload_n 2, 1) := by decide +kernel
theorem d_S_bits_38 : decode prog_1_method_18_code 38 = .ok (.invokevirtual 132, 3) := by decide +kernel
theorem d_S_bits_41 : decode prog_1_method_18_code 41 = .ok (.invokevirtual 142, 3) := by decide +kernel
theorem d_S_bits_44 : decode prog_1_method_18_code 44 = .ok (.iadd, 1) := by decide +kernel
theorem d_S_bits_45 : decode prog_1_method_18_code 45 = .ok (.istore_n 1, 1) := by decide +kernel
theorem d_S_bits_46 : decode prog_1_method_18_code 46 = .ok (.iinc 2 1, 3) := by decide +kernel
theorem d_S_bits_49 : decode prog_1_method_18_code 49 = .ok (.goto (-41), 3) := by decide +kernel
theorem d_S_bits_52 : decode prog_1_method_18_code 52 = .ok (.iload_n 1, 1) := by decide +kernel
theorem d_S_bits_53 : decode prog_1_method_18_code 53 = .ok (.ireturn, 1) := by decide +kernel
theorem d_S_write_0 : decode prog_1_method_19_code 0 = .ok (.aload_n 0, 1) := by decide +kernel
theorem d_S_write_1 : decode prog_1_method_19_code 1 = .ok (.invokevirtual 71, 3) := by decide +kernel
theorem d_S_write_4 : decode prog_1_method_19_code 4 = .ok (.aload_n 0, 1) := by decide +kernel
theorem d_S_write_5 : decode prog_1_method_19_code 5 = .ok (.getfield 31, 3) := by decide +kernel
theorem d_S_write_8 : decode prog_1_method_19_code 8 = .ok (.aload_n 0, 1) := by decide +kernel
theorem d_S_write_9 : decode prog_1_method_19_code 9 = .ok (.getfield 18, 3) := by decide +kernel
theorem d_S_write_12 : decode prog_1_method_19_code 12 = .ok (.aload_n 0, 1) := by decide +kernel
theorem d_S_write_13 : decode prog_1_method_19_code 13 = .ok (.getfield 14, 3) := by decide +kernel
theorem d_S_write_16 : decode prog_1_method_19_code 16 = .ok (.invokestatic 151, 3) := by decide +kernel
theorem d_S_write_19 : decode prog_1_method_19_code 19 = .ok (.aload_n 0, 1) := by decide +kernel
theorem d_S_write_20 : decode prog_1_method_19_code 20 = .ok (.getfield 24, 3) := by decide +kernel
theorem d_S_write_23 : decode prog_1_method_19_code 23 = .ok (.invokevirtual 155, 3) := by decide +kernel
theorem d_S_write_26 : decode prog_1_method_19_code 26 = .ok (.aload_n 0, 1) := by decide +kernel
theorem d_S_write_27 : decode prog_1_method_19_code 27 = .ok (.invokevirtual 159, 3) := by decide +kernel
theorem d_S_write_30 : decode prog_1_method_19_code 30 = .ok (.aload_n 0, 1) := by decide +kernel
theorem d_S_write_31 : decode prog_1_method_19_code 31 = .ok (.getfield 31, 3) := by decide +kernel
theorem d_S_write_34 : decode prog_1_method_19_code 34 = .ok (.getfield 162, 3) := by decide +kernel
theorem d_S_write_37 : decode prog_1_method_19_code 37 = .ok (.getfield 60, 3) := by decide +kernel
theorem d_S_write_40 : decode prog_1_method_19_code 40 = .ok (.ireturn, 1) := by decide +kernel
theorem d_S_out_0 : decode prog_1_method_20_code 0 = .ok (.aload_n 0, 1) := by decide +kernel
theorem d_S_out_1 : decode prog_1_method_20_code 1 = .ok (.getfield 31, 3) := by decide +kernel
theorem d_S_out_4 : decode prog_1_method_20_code 4 = .ok (.getfield 162, 3) := by decide +kernel
theorem d_S_out_7 : decode prog_1_method_20_code 7 = .ok (.iload_n 1, 1) := by decide +kernel
theorem d_S_out_8 : decode prog_1_method_20_code 8 = .ok (.invokevirtual 67, 3) := by decide +kernel
theorem d_S_out_11 : decode prog_1_method_20_code 11 = .ok (.ireturn, 1) := by decide +kernel
theorem d_S_tape_0 : decode prog_1_method_21_code 0 = .ok (.aload_n 0, 1) := by decide +kernel
theorem d_S_tape_1 : decode prog_1_method_21_code 1 = .ok (.getfield 38, 3) := by decide +kernel
theorem d_S_tape_4 : decode prog_1_method_21_code 4 = .ok (.getfield 165, 3) := by decide +kernel
theorem d_S_tape_7 : decode prog_1_method_21_code 7 = .ok (.lload_n 1, 1) := by decide +kernel
theorem d_S_tape_8 : decode prog_1_method_21_code 8 = .ok (.iload_n 3, 1) := by decide +kernel
theorem d_S_tape_9 : decode prog_1_method_21_code 9 = .ok (.invokestatic 42, 3) := by decide +kernel
theorem d_S_tape_12 : decode prog_1_method_21_code 12 = .ok (.ireturn, 1) := by decide +kernel
theorem d_S_take_0 : decode prog_1_method_22_code 0 = .ok (.aload_n 0, 1) := by decide +kernel
theorem d_S_take_1 : decode prog_1_method_22_code 1 = .ok (.getfield 38, 3) := by decide +kernel
theorem d_S_take_4 : decode prog_1_method_22_code 4 = .ok (.getfield 165, 3) := by decide +kernel
theorem d_S_take_7 : decode prog_1_method_22_code 7 = .ok (.aload_n 0, 1) := by decide +kernel
theorem d_S_take_8 : decode prog_1_method_22_code 8 = .ok (.getfield 31, 3) := by decide +kernel
theorem d_S_take_11 : decode prog_1_method_22_code 11 = .ok (.getfield 162, 3) := by decide +kernel
theorem d_S_take_14 : decode prog_1_method_22_code 14 = .ok (.invokevirtual 109, 3) := by decide +kernel
theorem d_S_take_17 : decode prog_1_method_22_code 17 = .ok (.aload_n 0, 1) := by decide +kernel
theorem d_S_take_18 : decode prog_1_method_22_code 18 = .ok (.getfield 38, 3) := by decide +kernel
theorem d_S_take_21 : decode prog_1_method_22_code 21 = .ok (.getfield 165, 3) := by decide +kernel
theorem d_S_take_24 : decode prog_1_method_22_code 24 = .ok (.getfield 60, 3) := by decide +kernel
theorem d_S_take_27 : decode prog_1_method_22_code 27 = .ok (.ireturn, 1) := by decide +kernel
theorem d_S_spoil_0 : decode prog_1_method_23_code 0 = .ok (.aload_n 0, 1) := by decide +kernel
theorem d_S_spoil_1 : decode prog_1_method_23_code 1 = .ok (.getfield 38, 3) := by decide +kernel
theorem d_S_spoil_4 : decode prog_1_method_23_code 4 = .ok (.getfield 165, 3) := by decide +kernel
theorem d_S_spoil_7 : decode prog_1_method_23_code 7 = .ok (.iload_n 1, 1) := by decide +kernel
theorem d_S_spoil_8 : decode prog_1_method_23_code 8 = .ok (.invokevirtual 99, 3) := by decide +kernel
theorem d_S_spoil_11 : decode prog_1_method_23_code 11 = .ok (.ifCond .eq 10, 3) := by decide +kernel
theorem d_S_spoil_14 : decode prog_1_method_23_code 14 = .ok (.iload_n 2, 1) := by decide +kernel
theorem d_S_spoil_15 : decode prog_1_method_23_code 15 = .ok (.invokestatic 49, 3) := by decide +kernel
theorem d_S_spoil_18 : decode prog_1_method_23_code 18 = .ok (.ifCond .ne 5, 3) := by decide +kernel
theorem d_S_spoil_21 : decode prog_1_method_23_code 21 = .ok (.iconst (-1), 1) := by decide +kernel
theorem d_S_spoil_22 : decode prog_1_method_23_code 22 = .ok (.ireturn, 1) := by decide +kernel
theorem d_S_spoil_23 : decode prog_1_method_23_code 23 = .ok (.aload_n 0, 1) := by decide +kernel
theorem d_S_spoil_24 : decode prog_1_method_23_code 24 = .ok (.getfield 38, 3) := by decide +kernel
theorem d_S_spoil_27 : decode prog_1_method_23_code 27 = .ok (.getfield 165, 3) := by decide +kernel
theorem d_S_spoil_30 : decode prog_1_method_23_code 30 = .ok (.iload_n 1, 1) := by decide +kernel
theorem d_S_spoil_31 : decode prog_1_method_23_code 31 = .ok (.iload_n 2, 1) := by decide +kernel
theorem d_S_spoil_32 : decode prog_1_method_23_code 32 = .ok (.invokevirtual 168, 3) := by decide +kernel
theorem d_S_spoil_35 : decode prog_1_method_23_code 35 = .ok (.aload_n 0, 1) := by decide +kernel
theorem d_S_spoil_36 : decode prog_1_method_23_code 36 = .ok (.getfield 38, 3) := by decide +kernel
theorem d_S_spoil_39 : decode prog_1_method_23_code 39 = .ok (.getfield 165, 3) := by decide +kernel
theorem d_S_spoil_42 : decode prog_1_method_23_code 42 = .ok (.iload_n 1, 1) := by decide +kernel
theorem d_S_spoil_43 : decode prog_1_method_23_code 43 = .ok (.invokevirtual 67, 3) := by decide +kernel
theorem d_S_spoil_46 : decode prog_1_method_23_code 46 = .ok (.ireturn, 1) := by decide +kernel
theorem d_S_cut_0 : decode prog_1_method_24_code 0 = .ok (.aload_n 0, 1) := by decide +kernel
theorem d_S_cut_1 : decode prog_1_method_24_code 1 = .ok (.getfield 38, 3) := by decide +kernel
theorem d_S_cut_4 : decode prog_1_method_24_code 4 = .ok (.getfield 165, 3) := by decide +kernel
theorem d_S_cut_7 : decode prog_1_method_24_code 7 = .ok (.getfield 60, 3) := by decide +kernel
theorem d_S_cut_10 : decode prog_1_method_24_code 10 = .ok (.istore_n 2, 1) := by decide +kernel
theorem d_S_cut_11 : decode prog_1_method_24_code 11 = .ok (.iload_n 1, 1) := by decide +kernel
theorem d_S_cut_12 : decode prog_1_method_24_code 12 = .ok (.ifCond .lt 8, 3) := by decide +kernel
theorem d_S_cut_15 : decode prog_1_method_24_code 15 = .ok (.iload_n 1, 1) := by decide +kernel
theorem d_S_cut_16 : decode prog_1_method_24_code 16 = .ok (.iload_n 2, 1) := by decide +kernel
theorem d_S_cut_17 : decode prog_1_method_24_code 17 = .ok (.if_icmp .le 5, 3) := by decide +kernel
theorem d_S_cut_20 : decode prog_1_method_24_code 20 = .ok (.iconst (-1), 1) := by decide +kernel
theorem d_S_cut_21 : decode prog_1_method_24_code 21 = .ok (.ireturn, 1) := by decide +kernel
theorem d_S_cut_22 : decode prog_1_method_24_code 22 = .ok (.aload_n 0, 1) := by decide +kernel
theorem d_S_cut_23 : decode prog_1_method_24_code 23 = .ok (.getfield 38, 3) := by decide +kernel
theorem d_S_cut_26 : decode prog_1_method_24_code 26 = .ok (.getfield 165, 3) := by decide +kernel
theorem d_S_cut_29 : decode prog_1_method_24_code 29 = .ok (.iload_n 1, 1) := by decide +kernel
theorem d_S_cut_30 : decode prog_1_method_24_code 30 = .ok (.invokevirtual 64, 3) := by decide +kernel
theorem d_S_cut_33 : decode prog_1_method_24_code 33 = .ok (.iload_n 2, 1) := by decide +kernel
theorem d_S_cut_34 : decode prog_1_method_24_code 34 = .ok (.ireturn, 1) := by decide +kernel
theorem d_S_read_0 : decode prog_1_method_25_code 0 = .ok (.aload_n 0, 1) := by decide +kernel
theorem d_S_read_1 : decode prog_1_method_25_code 1 = .ok (.getfield 38, 3) := by decide +kernel
theorem d_S_read_4 : decode prog_1_method_25_code 4 = .ok (.aload_n 0, 1) := by decide +kernel
theorem d_S_read_5 : decode prog_1_method_25_code 5 = .ok (.getfield 24, 3) := by decide +kernel
theorem d_S_read_8 : decode prog_1_method_25_code 8 = .ok (.invokevirtual 171, 3) := by decide +kernel
theorem d_S_read_11 : decode prog_1_method_25_code 11 = .ok (.istore_n 1, 1) := by decide +kernel
theorem d_S_read_12 : decode prog_1_method_25_code 12 = .ok (.aload_n 0, 1) := by decide +kernel
theorem d_S_read_13 : decode prog_1_method_25_code 13 = .ok (.invokevirtual 159, 3) := by decide +kernel
theorem d_S_read_16 : decode prog_1_method_25_code 16 = .ok (.aload_n 0, 1) := by decide +kernel
theorem d_S_read_17 : decode prog_1_method_25_code 17 = .ok (.getfield 38, 3) := by decide +kernel
theorem d_S_read_20 : decode prog_1_method_25_code 20 = .ok (.getfield 165, 3) := by decide +kernel
theorem d_S_read_23 : decode prog_1_method_25_code 23 = .ok (.iconst 0, 1) := by decide +kernel
theorem d_S_read_24 : decode prog_1_method_25_code 24 = .ok (.invokevirtual 64, 3) := by decide +kernel
theorem d_S_read_27 : decode prog_1_method_25_code 27 = .ok (.iload_n 1, 1) := by decide +kernel
theorem d_S_read_28 : decode prog_1_method_25_code 28 = .ok (.ifCond .ne 14, 3) := by decide +kernel
theorem d_S_read_31 : decode prog_1_method_25_code 31 = .ok (.bipush (-10), 2) := by decide +kernel
theorem d_S_read_33 : decode prog_1_method_25_code 33 = .ok (.aload_n 0, 1) := by decide +kernel
theorem d_S_read_34 : decode prog_1_method_25_code 34 = .ok (.getfield 38, 3) := by decide +kernel
theorem d_S_read_37 : decode prog_1_method_25_code 37 = .ok (.getfield 175, 3) := by decide +kernel
theorem d_S_read_40 : decode prog_1_method_25_code 40 = .ok (.isub, 1) := by decide +kernel
theorem d_S_read_41 : decode prog_1_method_25_code 41 = .ok (.ireturn, 1) := by decide +kernel
theorem d_S_read_42 : decode prog_1_method_25_code 42 = .ok (.aload_n 0, 1) := by decide +kernel
theorem d_S_read_43 : decode prog_1_method_25_code 43 = .ok (.getfield 14, 3) := by decide +kernel
theorem d_S_read_46 : decode prog_1_method_25_code 46 = .ok (.aload_n 0, 1) := by decide +kernel
theorem d_S_read_47 : decode prog_1_method_25_code 47 = .ok (.getfield 24, 3) := by decide +kernel
theorem d_S_read_50 : decode prog_1_method_25_code 50 = .ok (.getfield 178, 3) := by decide +kernel
theorem d_S_read_53 : decode prog_1_method_25_code 53 = .ok (.invokevirtual 109, 3) := by decide +kernel
theorem d_S_read_56 : decode prog_1_method_25_code 56 = .ok (.aload_n 0, 1) := by decide +kernel
theorem d_S_read_57 : decode prog_1_method_25_code 57 = .ok (.invokevirtual 46, 3) := by decide +kernel
theorem d_S_read_60 : decode prog_1_method_25_code 60 = .ok (.aload_n 0, 1) := by decide +kernel
theorem d_S_read_61 : decode prog_1_method_25_code 61 = .ok (.getfield 14, 3) := by decide +kernel
theorem d_S_read_64 : decode prog_1_method_25_code 64 = .ok (.getfield 60, 3) := by decide +kernel
theorem d_S_read_67 : decode prog_1_method_25_code 67 = .ok (.ireturn, 1) := by decide +kernel
theorem d_S_faultAt_0 : decode prog_1_method_26_code 0 = .ok (.aload_n 0, 1) := by decide +kernel
theorem d_S_faultAt_1 : decode prog_1_method_26_code 1 = .ok (.getfield 38, 3) := by decide +kernel
theorem d_S_faultAt_4 : decode prog_1_method_26_code 4 = .ok (.getfield 181, 3) := by decide +kernel
theorem d_S_faultAt_7 : decode prog_1_method_26_code 7 = .ok (.ireturn, 1) := by decide +kernel
theorem d_S_check_0 : decode prog_1_method_27_code 0 = .ok (.aload_n 0, 1) := by decide +kernel
theorem d_S_check_1 : decode prog_1_method_27_code 1 = .ok (.getfield 14, 3) := by decide +kernel
theorem d_S_check_4 : decode prog_1_method_27_code 4 = .ok (.invokestatic 151, 3) := by decide +kernel
theorem d_S_check_7 : decode prog_1_method_27_code 7 = .ok (.ireturn, 1) := by decide +kernel
theorem d_S_blockChanged_0 : decode prog_1_method_28_code 0 = .ok (.aload_n 0, 1) := by decide +kernel
theorem d_S_blockChanged_1 : decode prog_1_method_28_code 1 = .ok (.iconst 0, 1) := by decide +kernel
theorem d_S_blockChanged_2 : decode prog_1_method_28_code 2 = .ok (.putfield 184, 3) := by decide +kernel
theorem d_S_blockChanged_5 : decode prog_1_method_28_code 5 = .ok (.aload_n 0, 1) := by decide +kernel
theorem d_S_blockChanged_6 : decode prog_1_method_28_code 6 = .ok (.invokevirtual 159, 3) := by decide +kernel
theorem d_S_blockChanged_9 : decode prog_1_method_28_code 9 = .ok (.return_, 1) := by decide +kernel
theorem d_S_benchUsed_0 : decode prog_1_method_29_code 0 = .ok (.aload_n 0, 1) := by decide +kernel
theorem d_S_benchUsed_1 : decode prog_1_method_29_code 1 = .ok (.iconst 0, 1) := by decide +kernel
theorem d_S_benchUsed_2 : decode prog_1_method_29_code 2 = .ok (.putfield 188, 3) := by decide +kernel
theorem d_S_benchUsed_5 : decode prog_1_method_29_code 5 = .ok (.aload_n 0, 1) := by decide +kernel
theorem d_S_benchUsed_6 : decode prog_1_method_29_code 6 = .ok (.iconst 0, 1) := by decide +kernel
theorem d_S_benchUsed_7 : decode prog_1_method_29_code 7 = .ok (.putfield 191, 3) := by decide +kernel
theorem d_S_benchUsed_10 : decode prog_1_method_29_code 10 = .ok (.return_, 1) := by decide +kernel
theorem d_S_freshenPack_0 : decode prog_1_method_30_code 0 = .ok (.aload_n 0, 1) := by decide +kernel
theorem d_S_freshenPack_1 : decode prog_1_method_30_code 1 = .ok (.getfield 184, 3) := by decide +kernel
theorem d_S_freshenPack_4 : decode prog_1_method_30_code 4 = .ok (.ifCond .ne 19, 3) := by decide +kernel
theorem d_S_freshenPack_7 : decode prog_1_method_30_code 7 = .ok (.aload_n 0, 1) := by decide +kernel
theorem d_S_freshenPack_8 : decode prog_1_method_30_code 8 = .ok (.getfield 14, 3) := by decide +kernel
theorem d_S_freshenPack_11 : decode prog_1_method_30_code 11 = .ok (.aload_n 0, 1) := by decide +kernel
theorem d_S_freshenPack_12 : decode prog_1_method_30_code 12 = .ok (.getfield 18, 3) := by decide +kernel
theorem d_S_freshenPack_15 : decode prog_1_method_30_code 15 = .ok (.invokestatic 194, 3) := by decide +kernel
theorem d_S_freshenPack_18 : decode prog_1_method_30_code 18 = .ok (.aload_n 0, 1) := by decide +kernel
theorem d_S_freshenPack_19 : decode prog_1_method_30_code 19 = .ok (.iconst 1, 1) := by decide +kernel
theorem d_S_freshenPack_20 : decode prog_1_method_30_code 20 = .ok (.putfield 184, 3) := by decide +kernel
theorem d_S_freshenPack_23 : decode prog_1_method_30_code 23 = .ok (.return_, 1) := by decide +kernel
theorem d_S_freshenTurns_0 : decode prog_1_method_31_code 0 = .ok (.aload_n 0, 1) := by decide +kernel
theorem d_S_freshenTurns_1 : decode prog_1_method_31_code 1 = .ok (.getfield 188, 3) := by decide +kernel
theorem d_S_freshenTurns_4 : decode prog_1_method_31_code 4 = .ok (.ifCond .ne 22, 3) := by decide +kernel
theorem d_S_freshenTurns_7 : decode prog_1_method_31_code 7 = .ok (.aload_n 0, 1) := by decide +kernel
theorem d_S_freshenTurns_8 : decode prog_1_method_31_code 8 = .ok (.getfield 24, 3) := by decide +kernel
theorem d_S_freshenTurns_11 : decode prog_1_method_31_code 11 = .ok (.getfield 77, 3) := by decide +kernel
theorem d_S_freshenTurns_14 : decode prog_1_method_31_code 14 = .ok (.aload_n 0, 1) := by decide +kernel
theorem d_S_freshenTurns_15 : decode prog_1_method_31_code 15 = .ok (.getfield 14, 3) := by decide +kernel
theorem d_S_freshenTurns_18 : decode prog_1_method_31_code 18 = .ok (.invokevirtual 198, 3) := by decide +kernel
theorem d_S_freshenTurns_21 : decode prog_1_method_31_code 21 = .ok (.aload_n 0, 1) := by decide +kernel
theorem d_S_freshenTurns_22 : decode prog_1_method_31_code 22 = .ok (.iconst 1, 1) := by decide +kernel
theorem d_S_freshenTurns_23 : decode prog_1_method_31_code 23 = .ok (.putfield 188, 3) := by decide +kernel
theorem d_S_freshenTurns_26 : decode prog_1_method_31_code 26 = .ok (.return_, 1) := by decide +kernel
theorem d_S_freshenCodes_0 : decode prog_1_method_32_code 0 = .ok (.aload_n 0, 1) := by decide +kernel
theorem d_S_freshenCodes_1 : decode prog_1_method_32_code 1 = .ok (.getfield 191, 3) := by decide +kernel
theorem d_S_freshenCodes_4 : decode prog_1_method_32_code 4 = .ok (.ifCond .ne 39, 3) := by decide +kernel
theorem d_S_freshenCodes_7 : decode prog_1_method_32_code 7 = .ok (.aload_n 0, 1) := by decide +kernel
theorem d_S_freshenCodes_8 : decode prog_1_method_32_code 8 = .ok (.getfield 24, 3) := by decide +kernel
theorem d_S_freshenCodes_11 : decode prog_1_method_32_code 11 = .ok (.getfield 128, 3) := by decide +kernel
theorem d_S_freshenCodes_14 : decode prog_1_method_32_code 14 = .ok (.aload_n 0, 1) := by decide +kernel
theorem d_S_freshenCodes_15 : decode prog_1_method_32_code 15 = .ok (.getfield 14, 3) := by decide +kernel
theorem d_S_freshenCodes_18 : decode prog_1_method_32_code 18 = .ok (.invokevirtual 201, 3) := by decide +kernel
theorem d_S_freshenCodes_21 : decode prog_1_method_32_code 21 = .ok (.aload_n 0, 1) := by decide +kernel
theorem d_S_freshenCodes_22 : decode prog_1_method_32_code 22 = .ok (.getfield 24, 3) := by decide +kernel
theorem d_S_freshenCodes_25 : decode prog_1_method_32_code 25 = .ok (.getfield 135, 3) := by decide +kernel
theorem d_S_freshenCodes_28 : decode prog_1_method_32_code 28 = .ok (.aload_n 0, 1) := by decide +kernel
theorem d_S_freshenCodes_29 : decode prog_1_method_32_code 29 = .ok (.getfield 24, 3) := by decide +kernel
theorem d_S_freshenCodes_32 : decode prog_1_method_32_code 32 = .ok (.getfield 128, 3) := by decide +kernel
theorem d_S_freshenCodes_35 : decode prog_1_method_32_code 35 = .ok (.invokevirtual 204, 3) := by decide +kernel
theorem d_S_freshenCodes_38 : decode prog_1_method_32_code 38 = .ok (.aload_n 0, 1) := by decide +kernel
theorem d_S_freshenCodes_39 : decode prog_1_method_32_code 39 = .ok (.iconst 1, 1) := by decide +kernel
theorem d_S_freshenCodes_40 : decode prog_1_method_32_code 40 = .ok (.putfield 191, 3) := by decide +kernel
theorem d_S_freshenCodes_43 : decode prog_1_method_32_code 43 = .ok (.return_, 1) := by decide +kernel
theorem d_S_turnBegins_0 : decode prog_1_method_33_code 0 = .ok (.iload 4, 2) := by decide +kernel
theorem d_S_turnBegins_2 : decode prog_1_method_33_code 2 = .ok (.aload_n 0, 1) := by decide +kernel
theorem d_S_turnBegins_3 : decode prog_1_method_33_code 3 = .ok (.getfield 14, 3) := by decide +kernel
theorem d_S_turnBegins_6 : decode prog_1_method_33_code 6 = .ok (.getfield 60, 3) := by decide +kernel
theorem d_S_turnBegins_9 : decode prog_1_method_33_code 9 = .ok (.if_icmp .le 5, 3) := by decide +kernel
theorem d_S_turnBegins_12 : decode prog_1_method_33_code 12 = .ok (.iconst 0, 1) := by decide +kernel
theorem d_S_turnBegins_13 : decode prog_1_method_33_code 13 = .ok (.ireturn, 1) := by decide +kernel
theorem d_S_turnBegins_14 : decode prog_1_method_33_code 14 = .ok (.iconst 0, 1) := by decide +kernel
theorem d_S_turnBegins_15 : decode prog_1_method_33_code 15 = .ok (.istore 5, 2) := by decide +kernel
theorem d_S_turnBegins_17 : decode prog_1_method_33_code 17 = .ok (.iload 5, 2) := by decide +kernel
theorem d_S_turnBegins_19 : decode prog_1_method_33_code 19 = .ok (.iload 4, 2) := by decide +kernel
theorem d_S_turnBegins_21 : decode prog_1_method_33_code 21 = .ok (.if_icmp .ge 69, 3) := by decide +kernel
theorem d_S_turnBegins_24 : decode prog_1_method_33_code 24 = .ok (.iload_n 1, 1) := by decide +kernel
theorem d_S_turnBegins_25 : decode prog_1_method_33_code 25 = .ok (.iload 5, 2) := by decide +kernel
theorem d_S_turnBegins_27 : decode prog_1_method_33_code 27 = .ok (.iadd, 1) := by decide +kernel
theorem d_S_turnBegins_28 : decode prog_1_method_33_code 28 = .ok (.aload_n 0, 1) := by decide +kernel
theorem d_S_turnBegins_29 : decode prog_1_method_33_code 29 = .ok (.getfield 14, 3) := by decide +kernel
theorem d_S_turnBegins_32 : decode prog_1_method_33_code 32 = .ok (.getfield 60, 3) := by decide +kernel
theorem d_S_turnBegins_35 : decode prog_1_method_33_code 35 = .ok (.if_icmp .ge 10, 3) := by decide +kernel
theorem d_S_turnBegins_38 : decode prog_1_method_33_code 38 = .ok (.iload_n 1, 1) := by decide +kernel
theorem d_S_turnBegins_39 : decode prog_1_method_33_code 39 = .ok (.iload 5, 2) := by decide +kernel
theorem d_S_turnBegins_41 : decode prog_1_method_33_code 41 = .ok (.iadd, 1) := by decide +kernel
theorem d_S_turnBegins_42 : decode prog_1_method_33_code 42 = .ok (.goto 15, 3) := by decide +kernel
theorem d_S_turnBegins_45 : decode prog_1_method_33_code 45 = .ok (.iload_n 1, 1) := by decide +kernel
theorem d_S_turnBegins_46 : decode prog_1_method_33_code 46 = .ok (.iload 5, 2) := by decide +kernel
theorem d_S_turnBegins_48 : decode prog_1_method_33_code 48 = .ok (.iadd, 1) := by decide +kernel
theorem d_S_turnBegins_49 : decode prog_1_method_33_code 49 = .ok (.aload_n 0, 1) := by decide +kernel
theorem d_S_turnBegins_50 : decode prog_1_method_33_code 50 = .ok (.getfield 14, 3) := by decide +kernel
theorem d_S_turnBegins_53 : decode prog_1_method_33_code 53 = .ok (.getfield 60, 3) := by decide +kernel
theorem d_S_turnBegins_56 : decode prog_1_method_33_code 56 = .ok (.isub, 1) := by decide +kernel
theorem d_S_turnBegins_57 : decode prog_1_method_33_code 57 = .ok (.istore 6, 2) := by decide +kernel
theorem d_S_turnBegins_59 : decode prog_1_method_33_code 59 = .ok (.aload_n 0, 1) := by decide +kernel
theorem d_S_turnBegins_60 : decode prog_1_method_33_code 60 = .ok (.getfield 14, 3) := by decide +kernel
theorem d_S_turnBegins_63 : decode prog_1_method_33_code 63 = .ok (.iload 6, 2) := by decide +kernel
theorem d_S_turnBegins_65 : decode prog_1_method_33_code 65 = .ok (.invokevirtual 67, 3) := by decide +kernel
theorem d_S_turnBegins_68 : decode prog_1_method_33_code 68 = .ok (.lload_n 2, 1) := by decide +kernel
theorem d_S_turnBegins_69 : decode prog_1_method_33_code 69 = .ok (.iload 4, 2) := by decide +kernel
theorem d_S_turnBegins_71 : decode prog_1_method_33_code 71 = .ok (.iconst 1, 1) := by decide +kernel
theorem d_S_turnBegins_72 : decode prog_1_method_33_code 72 = .ok (.isub, 1) := by decide +kernel
theorem d_S_turnBegins_73 : decode prog_1_method_33_code 73 = .ok (.iload 5, 2) := by decide +kernel
theorem d_S_turnBegins_75 : decode prog_1_method_33_code 75 = .ok (.isub, 1) := by decide +kernel
theorem d_S_turnBegins_76 : decode prog_1_method_33_code 76 = .ok (.invokestatic 207, 3) := by decide +kernel
theorem d_S_turnBegins_79 : decode prog_1_method_33_code 79 = .ok (.if_icmp .eq 5, 3) := by decide +kernel
theorem d_S_turnBegins_82 : decode prog_1_method_33_code 82 = .ok (.iconst 0, 1) := by decide +kernel
theorem d_S_turnBegins_83 : decode prog_1_method_33_code 83 = .ok (.ireturn, 1) := by decide +kernel
theorem d_S_turnBegins_84 : decode prog_1_method_33_code 84 = .ok (.iinc 5 1, 3) := by decide +kernel
theorem d_S_turnBegins_87 : decode prog_1_method_33_code 87 = .ok (.goto (-70), 3) := by decide +kernel
theorem d_S_turnBegins_90 : decode prog_1_method_33_code 90 = .ok (.iconst 1, 1) := by decide +kernel
theorem d_S_turnBegins_91 : decode prog_1_method_33_code 91 = .ok (.ireturn, 1) := by decide +kernel
theorem d_S_addLowest_0 : decode prog_1_method_34_code 0 = .ok (.iload_n 3, 1) := by decide +kernel
theorem d_S_addLowest_1 : decode prog_1_method_34_code 1 = .ok (.iconst 1, 1) := by decide +kernel
theorem d_S_addLowest_2 : decode prog_1_method_34_code 2 = .ok (.if_icmp .lt 9, 3) := by decide +kernel
theorem d_S_addLowest_5 : decode prog_1_method_34_code 5 = .ok (.iload_n 3, 1) := by decide +kernel
theorem d_S_addLowest_6 : decode prog_1_method_34_code 6 = .ok (.bipush 8, 2) := by decide +kernel
theorem d_S_addLowest_8 : decode prog_1_method_34_code 8 = .ok (.if_icmp .le 5, 3) := by decide +kernel
theorem d_S_addLowest_11 : decode prog_1_method_34_code 11 = .ok (.iconst (-1), 1) := by decide +kernel
theorem d_S_addLowest_12 : decode prog_1_method_34_code 12 = .ok (.ireturn, 1) := by decide +kernel
theorem d_S_addLowest_13 : decode prog_1_method_34_code 13 = .ok (.aload_n 0, 1) := by decide +kernel
theorem d_S_addLowest_14 : decode prog_1_method_34_code 14 = .ok (.iload_n 3, 1) := by decide +kernel
theorem d_S_addLowest_15 : decode prog_1_method_34_code 15 = .ok (.invokevirtual 53, 3) := by decide +kernel
theorem d_S_addLowest_18 : decode prog_1_method_34_code 18 = .ok (.ifCond .ne 6, 3) := by decide +kernel
theorem d_S_addLowest_21 : decode prog_1_method_34_code 21 = .ok (.bipush (-3), 2) := by decide +kernel
theorem d_S_addLowest_23 : decode prog_1_method_34_code 23 = .ok (.ireturn, 1) := by decide +kernel
theorem d_S_addLowest_24 : decode prog_1_method_34_code 24 = .ok (.iconst 0, 1) := by decide +kernel
theorem d_S_addLowest_25 : decode prog_1_method_34_code 25 = .ok (.istore 4, 2) := by decide +kernel
theorem d_S_addLowest_27 : decode prog_1_method_34_code 27 = .ok (.iload 4, 2) := by decide +kernel
theorem d_S_addLowest_29 : decode prog_1_method_34_code 29 = .ok (.iload_n 3, 1) := by decide +kernel
theorem d_S_addLowest_30 : decode prog_1_method_34_code 30 = .ok (.if_icmp .ge 19, 3) := by decide +kernel
theorem d_S_addLowest_33 : decode prog_1_method_34_code 33 = .ok (.aload_n 0, 1) := by decide +kernel
theorem d_S_addLowest_34 : decode prog_1_method_34_code 34 = .ok (.lload_n 1, 1) := by decide +kernel
theorem d_S_addLowest_35 : decode prog_1_method_34_code 35 = .ok (.iload 4, 2) := by decide +kernel
theorem d_S_addLowest_37 : decode prog_1_method_34_code 37 = .ok (.invokestatic 207, 3) := by decide +kernel
theorem d_S_addLowest_40 : decode prog_1_method_34_code 40 = .ok (.invokevirtual 211, 3) := by decide +kernel
theorem d_S_addLowest_43 : decode prog_1_method_34_code 43 = .ok (.iinc 4 1, 3) := by decide +kernel
theorem d_S_addLowest_46 : decode prog_1_method_34_code 46 = .ok (.goto (-19), 3) := by decide +kernel
theorem d_S_addLowest_49 : decode prog_1_method_34_code 49 = .ok (.aload_n 0, 1) := by decide +kernel
theorem d_S_addLowest_50 : decode prog_1_method_34_code 50 = .ok (.getfield 60, 3) := by decide +kernel
theorem d_S_addLowest_53 : decode prog_1_method_34_code 53 = .ok (.ireturn, 1) := by decide +kernel
end
section
theorem d_S_byteOf_0 : decode prog_1_method_35_code 0 = .ok (.lload_n 0, 1) := by decide +kernel
theorem d_S_byteOf_1 : decode prog_1_method_35_code 1 = .ok (.bipush 8, 2) := by decide +kernel
theorem d_S_byteOf_3 : decode prog_1_method_35_code 3 = .ok (.iload_n 2, 1) := by decide +kernel
theorem d_S_byteOf_4 : decode prog_1_method_35_code 4 = .ok (.imul, 1) := by decide +kernel
theorem d_S_byteOf_5 : decode prog_1_method_35_code 5 = .ok (.lushr, 1) := by decide +kernel
theorem d_S_byteOf_6 : decode prog_1_method_35_code 6 = .ok (.l2i, 1) := by decide +kernel
theorem d_S_byteOf_7 : decode prog_1_method_35_code 7 = .ok (.sipush 255, 3) := by decide +kernel
theorem d_S_byteOf_10 : decode prog_1_method_35_code 10 = .ok (.iand, 1) := by decide +kernel
theorem d_S_byteOf_11 : decode prog_1_method_35_code 11 = .ok (.ireturn, 1) := by decide +kernel
theorem d_S_isByte_0 : decode prog_1_method_36_code 0 = .ok (.iload_n 0, 1) := by decide +kernel
theorem d_S_isByte_1 : decode prog_1_method_36_code 1 = .ok (.ifCond .lt 14, 3) := by decide +kernel
theorem d_S_isByte_4 : decode prog_1_method_36_code 4 = .ok (.iload_n 0, 1) := by decide +kernel
theorem d_S_isByte_5 : decode prog_1_method_36_code 5 = .ok (.sipush 256, 3) := by decide +kernel
theorem d_S_isByte_8 : decode prog_1_method_36_code 8 = .ok (.if_icmp .ge 7, 3) := by decide +kernel
theorem d_S_isByte_11 : decode prog_1_method_36_code 11 = .ok (.iconst 1, 1) := by decide +kernel
theorem d_S_isByte_12 : decode prog_1_method_36_code 12 = .ok (.goto 4, 3) := by decide +kernel
theorem d_S_isByte_15 : decode prog_1_method_36_code 15 = .ok (.iconst 0, 1) := by decide +kernel
theorem d_S_isByte_16 : decode prog_1_method_36_code 16 = .ok (.ireturn, 1) := by decide +kernel
theorem d_S_checkOf_0 : decode prog_1_method_37_code 0 = .ok (.iconst (-1), 1) := by decide +kernel
theorem d_S_checkOf_1 : decode prog_1_method_37_code 1 = .ok (.istore_n 1, 1) := by decide +kernel
theorem d_S_checkOf_2 : decode prog_1_method_37_code 2 = .ok (.iconst 0, 1) := by decide +kernel
theorem d_S_checkOf_3 : decode prog_1_method_37_code 3 = .ok (.istore_n 2, 1) := by decide +kernel
theorem d_S_checkOf_4 : decode prog_1_method_37_code 4 = .ok (.iload_n 2, 1) := by decide +kernel
theorem d_S_checkOf_5 : decode prog_1_method_37_code 5 = .ok (.aload_n 0, 1) := by decide +kernel
theorem d_S_checkOf_6 : decode prog_1_method_37_code 6 = .ok (.getfield 60, 3) := by decide +kernel
theorem d_S_checkOf_9 : decode prog_1_method_37_code 9 = .ok (.if_icmp .ge 51, 3) := by decide +kernel
theorem d_S_checkOf_12 : decode prog_1_method_37_code 12 = .ok (.iload_n 1, 1) := by decide +kernel
theorem d_S_checkOf_13 : decode prog_1_method_37_code 13 = .ok (.aload_n 0, 1) := by decide +kernel
theorem d_S_checkOf_14 : decode prog_1_method_37_code 14 = .ok (.iload_n 2, 1) := by decide +kernel
theorem d_S_checkOf_15 : decode prog_1_method_37_code 15 = .ok (.invokevirtual 67, 3) := by decide +kernel
theorem d_S_checkOf_18 : decode prog_1_method_37_code 18 = .ok (.bipush 24, 2) := by decide +kernel
theorem d_S_checkOf_20 : decode prog_1_method_37_code 20 = .ok (.ishl, 1) := by decide +kernel
theorem d_S_checkOf_21 : decode prog_1_method_37_code 21 = .ok (.ixor, 1) := by decide +kernel
theorem d_S_checkOf_22 : decode prog_1_method_37_code 22 = .ok (.istore_n 1, 1) := by decide +kernel
theorem d_S_checkOf_23 : decode prog_1_method_37_code 23 = .ok (.iconst 0, 1) := by decide +kernel
theorem d_S_checkOf_24 : decode prog_1_method_37_code 24 = .ok (.istore_n 3, 1) := by decide +kernel
theorem d_S_checkOf_25 : decode prog_1_method_37_code 25 = .ok (.iload_n 3, 1) := by decide +kernel
theorem d_S_checkOf_26 : decode prog_1_method_37_code 26 = .ok (.bipush 8, 2) := by decide +kernel
theorem d_S_checkOf_28 : decode prog_1_method_37_code 28 = .ok (.if_icmp .ge 26, 3) := by decide +kernel
theorem d_S_checkOf_31 : decode prog_1_method_37_code 31 = .ok (.iload_n 1, 1) := by decide +kernel
theorem d_S_checkOf_32 : decode prog_1_method_37_code 32 = .ok (.ifCond .ge 12, 3) := by decide +kernel
theorem d_S_checkOf_35 : decode prog_1_method_37_code 35 = .ok (.iload_n 1, 1) := by decide +kernel
theorem d_S_checkOf_36 : decode prog_1_method_37_code 36 = .ok (.iconst 1, 1) := by decide +kernel
theorem d_S_checkOf_37 : decode prog_1_method_37_code 37 = .ok (.ishl, 1) := by decide +kernel
theorem d_S_checkOf_38 : decode prog_1_method_37_code 38 = .ok (.ldc 214, 2) := by decide +kernel
theorem d_S_checkOf_40 : decode prog_1_method_37_code 40 = .ok (.ixor, 1) := by decide +kernel
theorem d_S_checkOf_41 : decode prog_1_method_37_code 41 = .ok (.goto 6, 3) := by decide +kernel
theorem d_S_checkOf_44 : decode prog_1_method_37_code 44 = .ok (.iload_n 1, 1) := by decide +kernel
theorem d_S_checkOf_45 : decode prog_1_method_37_code 45 = .ok (.iconst 1, 1) := by decide +kernel
theorem d_S_checkOf_46 : decode prog_1_method_37_code 46 = .ok (.ishl, 1) := by decide +kernel
theorem d_S_checkOf_47 : decode prog_1_method_37_code 47 = .ok (.istore_n 1, 1) := by decide +kernel
theorem d_S_checkOf_48 : decode prog_1_method_37_code 48 = .ok (.iinc 3 1, 3) := by decide +kernel
theorem d_S_checkOf_51 : decode prog_1_method_37_code 51 = .ok (.goto (-26), 3) := by decide +kernel
theorem d_S_checkOf_54 : decode prog_1_method_37_code 54 = .ok (.iinc 2 1, 3) := by decide +kernel
theorem d_S_checkOf_57 : decode prog_1_method_37_code 57 = .ok (.goto (-53), 3) := by decide +kernel
theorem d_S_checkOf_60 : decode prog_1_method_37_code 60 = .ok (.iload_n 1, 1) := by decide +kernel
theorem d_S_checkOf_61 : decode prog_1_method_37_code 61 = .ok (.iconst (-1), 1) := by decide +kernel
theorem d_S_checkOf_62 : decode prog_1_method_37_code 62 = .ok (.ixor, 1) := by decide +kernel
theorem d_S_checkOf_63 : decode prog_1_method_37_code 63 = .ok (.ireturn, 1) := by decide +kernel
theorem d_S_packInto_0 : decode prog_1_method_38_code 0 = .ok (.aload_n 1, 1) := by decide +kernel
theorem d_S_packInto_1 : decode prog_1_method_38_code 1 = .ok (.iconst 0, 1) := by decide +kernel
theorem d_S_packInto_2 : decode prog_1_method_38_code 2 = .ok (.invokevirtual 64, 3) := by decide +kernel
theorem d_S_packInto_5 : decode prog_1_method_38_code 5 = .ok (.iconst 0, 1) := by decide +kernel
theorem d_S_packInto_6 : decode prog_1_method_38_code 6 = .ok (.istore_n 2, 1) := by decide +kernel
theorem d_S_packInto_7 : decode prog_1_method_38_code 7 = .ok (.iconst 0, 1) := by decide +kernel
theorem d_S_packInto_8 : decode prog_1_method_38_code 8 = .ok (.istore_n 3, 1) := by decide +kernel
theorem d_S_packInto_9 : decode prog_1_method_38_code 9 = .ok (.iload_n 3, 1) := by decide +kernel
theorem d_S_packInto_10 : decode prog_1_method_38_code 10 = .ok (.aload_n 0, 1) := by decide +kernel
theorem d_S_packInto_11 : decode prog_1_method_38_code 11 = .ok (.getfield 60, 3) := by decide +kernel
theorem d_S_packInto_14 : decode prog_1_method_38_code 14 = .ok (.if_icmp .ge 71, 3) := by decide +kernel
theorem d_S_packInto_17 : decode prog_1_method_38_code 17 = .ok (.aload_n 0, 1) := by decide +kernel
theorem d_S_packInto_18 : decode prog_1_method_38_code 18 = .ok (.iload_n 3, 1) := by decide +kernel
theorem d_S_packInto_19 : decode prog_1_method_38_code 19 = .ok (.invokevirtual 67, 3) := by decide +kernel
theorem d_S_packInto_22 : decode prog_1_method_38_code 22 = .ok (.istore 4, 2) := by decide +kernel
theorem d_S_packInto_24 : decode prog_1_method_38_code 24 = .ok (.iload 4, 2) := by decide +kernel
theorem d_S_packInto_26 : decode prog_1_method_38_code 26 = .ok (.aload_n 0, 1) := by decide +kernel
theorem d_S_packInto_27 : decode prog_1_method_38_code 27 = .ok (.iload_n 3, 1) := by decide +kernel
theorem d_S_packInto_28 : decode prog_1_method_38_code 28 = .ok (.iconst 1, 1) := by decide +kernel
theorem d_S_packInto_29 : decode prog_1_method_38_code 29 = .ok (.isub, 1) := by decide +kernel
theorem d_S_packInto_30 : decode prog_1_method_38_code 30 = .ok (.invokevirtual 67, 3) := by decide +kernel
theorem d_S_packInto_33 : decode prog_1_method_38_code 33 = .ok (.if_icmp .ne 9, 3) := by decide +kernel
theorem d_S_packInto_36 : decode prog_1_method_38_code 36 = .ok (.iload_n 2, 1) := by decide +kernel
theorem d_S_packInto_37 : decode prog_1_method_38_code 37 = .ok (.iconst 1, 1) := by decide +kernel
theorem d_S_packInto_38 : decode prog_1_method_38_code 38 = .ok (.iadd, 1) := by decide +kernel
theorem d_S_packInto_39 : decode prog_1_method_38_code 39 = .ok (.goto 4, 3) := by decide +kernel
theorem d_S_packInto_42 : decode prog_1_method_38_code 42 = .ok (.iconst 1, 1) := by decide +kernel
theorem d_S_packInto_43 : decode prog_1_method_38_code 43 = .ok (.istore_n 2, 1) := by decide +kernel
theorem d_S_packInto_44 : decode prog_1_method_38_code 44 = .ok (.aload_n 1, 1) := by decide +kernel
theorem d_S_packInto_45 : decode prog_1_method_38_code 45 = .ok (.iload 4, 2) := by decide +kernel
theorem d_S_packInto_47 : decode prog_1_method_38_code 47 = .ok (.invokevirtual 211, 3) := by decide +kernel
theorem d_S_packInto_50 : decode prog_1_method_38_code 50 = .ok (.iload_n 2, 1) := by decide +kernel
theorem d_S_packInto_51 : decode prog_1_method_38_code 51 = .ok (.iconst 4, 1) := by decide +kernel
theorem d_S_packInto_52 : decode prog_1_method_38_code 52 = .ok (.if_icmp .ne 27, 3) := by decide +kernel
theorem d_S_packInto_55 : decode prog_1_method_38_code 55 = .ok (.aload_n 0, 1) := by decide +kernel
theorem d_S_packInto_56 : decode prog_1_method_38_code 56 = .ok (.iload_n 3, 1) := by decide +kernel
theorem d_S_packInto_57 : decode prog_1_method_38_code 57 = .ok (.iconst 1, 1) := by decide +kernel
theorem d_S_packInto_58 : decode prog_1_method_38_code 58 = .ok (.iadd, 1) := by decide +kernel
theorem d_S_packInto_59 : decode prog_1_method_38_code 59 = .ok (.iload 4, 2) := by decide +kernel
theorem d_S_packInto_61 : decode prog_1_method_38_code 61 = .ok (.invokestatic 215, 3) := by decide +kernel
theorem d_S_packInto_64 : decode prog_1_method_38_code 64 = .ok (.istore 5, 2) := by decide +kernel
theorem d_S_packInto_66 : decode prog_1_method_38_code 66 = .ok (.aload_n 1, 1) := by decide +kernel
theorem d_S_packInto_67 : decode prog_1_method_38_code 67 = .ok (.iload 5, 2) := by decide +kernel
theorem d_S_packInto_69 : decode prog_1_method_38_code 69 = .ok (.invokevirtual 211, 3) := by decide +kernel
theorem d_S_packInto_72 : decode prog_1_method_38_code 72 = .ok (.iload_n 3, 1) := by decide +kernel
theorem d_S_packInto_73 : decode prog_1_method_38_code 73 = .ok (.iload 5, 2) := by decide +kernel
theorem d_S_packInto_75 : decode prog_1_method_38_code 75 = .ok (.iadd, 1) := by decide +kernel
theorem d_S_packInto_76 : decode prog_1_method_38_code 76 = .ok (.istore_n 3, 1) := by decide +kernel
theorem d_S_packInto_77 : decode prog_1_method_38_code 77 = .ok (.iconst 0, 1) := by decide +kernel
theorem d_S_packInto_78 : decode prog_1_method_38_code 78 = .ok (.istore_n 2, 1) := by decide +kernel
theorem d_S_packInto_79 : decode prog_1_method_38_code 79 = .ok (.iinc 3 1, 3) := by decide +kernel
theorem d_S_packInto_82 : decode prog_1_method_38_code 82 = .ok (.goto (-73), 3) := by decide +kernel
theorem d_S_packInto_85 : decode prog_1_method_38_code 85 = .ok (.return_, 1) := by decide +kernel
theorem d_S_countMore_0 : decode prog_1_method_39_code 0 = .ok (.iconst 0, 1) := by decide +kernel
theorem d_S_countMore_1 : decode prog_1_method_39_code 1 = .ok (.istore_n 3, 1) := by decide +kernel
theorem d_S_countMore_2 : decode prog_1_method_39_code 2 = .ok (.iload_n 3, 1) := by decide +kernel
theorem d_S_countMore_3 : decode prog_1_method_39_code 3 = .ok (.sipush 251, 3) := by decide +kernel
theorem d_S_countMore_6 : decode prog_1_method_39_code 6 = .ok (.if_icmp .ge 20, 3) := by decide +kernel
theorem d_S_countMore_9 : decode prog_1_method_39_code 9 = .ok (.aload_n 0, 1) := by decide +kernel
theorem d_S_countMore_10 : decode prog_1_method_39_code 10 = .ok (.iload_n 1, 1) := by decide +kernel
theorem d_S_countMore_11 : decode prog_1_method_39_code 11 = .ok (.iload_n 3, 1) := by decide +kernel
theorem d_S_countMore_12 : decode prog_1_method_39_code 12 = .ok (.iadd, 1) := by decide +kernel
theorem d_S_countMore_13 : decode prog_1_method_39_code 13 = .ok (.invokevirtual 67, 3) := by decide +kernel
theorem d_S_countMore_16 : decode prog_1_method_39_code 16 = .ok (.iload_n 2, 1) := by decide +kernel
theorem d_S_countMore_17 : decode prog_1_method_39_code 17 = .ok (.if_icmp .ne 9, 3) := by decide +kernel
theorem d_S_countMore_20 : decode prog_1_method_39_code 20 = .ok (.iinc 3 1, 3) := by decide +kernel
theorem d_S_countMore_23 : decode prog_1_method_39_code 23 = .ok (.goto (-21), 3) := by decide +kernel
theorem d_S_countMore_26 : decode prog_1_method_39_code 26 = .ok (.iload_n 3, 1) := by decide +kernel
theorem d_S_countMore_27 : decode prog_1_method_39_code 27 = .ok (.ireturn, 1) := by decide +kernel
theorem d_S_unpackInto_0 : decode prog_1_method_40_code 0 = .ok (.aload_n 1, 1) := by decide +kernel
theorem d_S_unpackInto_1 : decode prog_1_method_40_code 1 = .ok (.iconst 0, 1) := by decide +kernel
theorem d_S_unpackInto_2 : decode prog_1_method_40_code 2 = .ok (.invokevirtual 64, 3) := by decide +kernel
theorem d_S_unpackInto_5 : decode prog_1_method_40_code 5 = .ok (.iconst 0, 1) := by decide +kernel
theorem d_S_unpackInto_6 : decode prog_1_method_40_code 6 = .ok (.istore_n 2, 1) := by decide +kernel
theorem d_S_unpackInto_7 : decode prog_1_method_40_code 7 = .ok (.iconst 0, 1) := by decide +kernel
theorem d_S_unpackInto_8 : decode prog_1_method_40_code 8 = .ok (.istore_n 3, 1) := by decide +kernel
theorem d_S_unpackInto_9 : decode prog_1_method_40_code 9 = .ok (.iload_n 3, 1) := by decide +kernel
theorem d_S_unpackInto_10 : decode prog_1_method_40_code 10 = .ok (.aload_n 0, 1) := by decide +kernel
theorem d_S_unpackInto_11 : decode prog_1_method_40_code 11 = .ok (.getfield 60, 3) := by decide +kernel
theorem d_S_unpackInto_14 : decode prog_1_method_40_code 14 = .ok (.if_icmp .ge 105, 3) := by decide +kernel
theorem d_S_unpackInto_17 : decode prog_1_method_40_code 17 = .ok (.aload_n 0, 1) := by decide +kernel
theorem d_S_unpackInto_18 : decode prog_1_method_40_code 18 = .ok (.iload_n 3, 1) := by decide +kernel
theorem d_S_unpackInto_19 : decode prog_1_method_40_code 19 = .ok (.invokevirtual 67, 3) := by decide +kernel
theorem d_S_unpackInto_22 : decode prog_1_method_40_code 22 = .ok (.istore 4, 2) := by decide +kernel
theorem d_S_unpackInto_24 : decode prog_1_method_40_code 24 = .ok (.iload_n 2, 1) := by decide +kernel
theorem d_S_unpackInto_25 : decode prog_1_method_40_code 25 = .ok (.iconst 4, 1) := by decide +kernel
theorem d_S_unpackInto_26 : decode prog_1_method_40_code 26 = .ok (.if_icmp .ne 7, 3) := by decide +kernel
theorem d_S_unpackInto_29 : decode prog_1_method_40_code 29 = .ok (.iconst 1, 1) := by decide +kernel
theorem d_S_unpackInto_30 : decode prog_1_method_40_code 30 = .ok (.goto 4, 3) := by decide +kernel
theorem d_S_unpackInto_33 : decode prog_1_method_40_code 33 = .ok (.iconst 0, 1) := by decide +kernel
theorem d_S_unpackInto_34 : decode prog_1_method_40_code 34 = .ok (.istore 5, 2) := by decide +kernel
theorem d_S_unpackInto_36 : decode prog_1_method_40_code 36 = .ok (.iload 5, 2) := by decide +kernel
theorem d_S_unpackInto_38 : decode prog_1_method_40_code 38 = .ok (.ifCond .eq 8, 3) := by decide +kernel
theorem d_S_unpackInto_41 : decode prog_1_method_40_code 41 = .ok (.iload 4, 2) := by decide +kernel
theorem d_S_unpackInto_43 : decode prog_1_method_40_code 43 = .ok (.goto 4, 3) := by decide +kernel
theorem d_S_unpackInto_46 : decode prog_1_method_40_code 46 = .ok (.iconst 1, 1) := by decide +kernel
theorem d_S_unpackInto_47 : decode prog_1_method_40_code 47 = .ok (.istore 6, 2) := by decide +kernel
theorem d_S_unpackInto_49 : decode prog_1_method_40_code 49 = .ok (.aload_n 1, 1) := by decide +kernel
theorem d_S_unpackInto_50 : decode prog_1_method_40_code 50 = .ok (.iload 6, 2) := by decide +kernel
theorem d_S_unpackInto_52 : decode prog_1_method_40_code 52 = .ok (.invokevirtual 53, 3) := by decide +kernel
theorem d_S_unpackInto_55 : decode prog_1_method_40_code 55 = .ok (.ifCond .ne 5, 3) := by decide +kernel
theorem d_S_unpackInto_58 : decode prog_1_method_40_code 58 = .ok (.iconst 0, 1) := by decide +kernel
theorem d_S_unpackInto_59 : decode prog_1_method_40_code 59 = .ok (.ireturn, 1) := by decide +kernel
theorem d_S_unpackInto_60 : decode prog_1_method_40_code 60 = .ok (.aload_n 1, 1) := by decide +kernel
theorem d_S_unpackInto_61 : decode prog_1_method_40_code 61 = .ok (.iload 6, 2) := by decide +kernel
theorem d_S_unpackInto_63 : decode prog_1_method_40_code 63 = .ok (.iload 5, 2) := by decide +kernel
theorem d_S_unpackInto_65 : decode prog_1_method_40_code 65 = .ok (.ifCond .eq 13, 3) := by decide +kernel
theorem d_S_unpackInto_68 : decode prog_1_method_40_code 68 = .ok (.aload_n 0, 1) := by decide +kernel
theorem d_S_unpackInto_69 : decode prog_1_method_40_code 69 = .ok (.iload_n 3, 1) := by decide +kernel
theorem d_S_unpackInto_70 : decode prog_1_method_40_code 70 = .ok (.iconst 1, 1) := by decide +kernel
theorem d_S_unpackInto_71 : decode prog_1_method_40_code 71 = .ok (.isub, 1) := by decide +kernel
theorem d_S_unpackInto_72 : decode prog_1_method_40_code 72 = .ok (.invokevirtual 67, 3) := by decide +kernel
theorem d_S_unpackInto_75 : decode prog_1_method_40_code 75 = .ok (.goto 5, 3) := by decide +kernel
theorem d_S_unpackInto_78 : decode prog_1_method_40_code 78 = .ok (.iload 4, 2) := by decide +kernel
theorem d_S_unpackInto_80 : decode prog_1_method_40_code 80 = .ok (.invokevirtual 56, 3) := by decide +kernel
theorem d_S_unpackInto_83 : decode prog_1_method_40_code 83 = .ok (.iload 5, 2) := by decide +kernel
theorem d_S_unpackInto_85 : decode prog_1_method_40_code 85 = .ok (.ifCond .eq 8, 3) := by decide +kernel
theorem d_S_unpackInto_88 : decode prog_1_method_40_code 88 = .ok (.iconst 0, 1) := by decide +kernel
theorem d_S_unpackInto_89 : decode prog_1_method_40_code 89 = .ok (.istore_n 2, 1) := by decide +kernel
theorem d_S_unpackInto_90 : decode prog_1_method_40_code 90 = .ok (.goto 23, 3) := by decide +kernel
theorem d_S_unpackInto_93 : decode prog_1_method_40_code 93 = .ok (.iload 4, 2) := by decide +kernel
theorem d_S_unpackInto_95 : decode prog_1_method_40_code 95 = .ok (.aload_n 0, 1) := by decide +kernel
theorem d_S_unpackInto_96 : decode prog_1_method_40_code 96 = .ok (.iload_n 3, 1) := by decide +kernel
theorem d_S_unpackInto_97 : decode prog_1_method_40_code 97 = .ok (.iconst 1, 1) := by decide +kernel
theorem d_S_unpackInto_98 : decode prog_1_method_40_code 98 = .ok (.isub, 1) := by decide +kernel
theorem d_S_unpackInto_99 : decode prog_1_method_40_code 99 = .ok (.invokevirtual 67, 3) := by decide +kernel
theorem d_S_unpackInto_102 : decode prog_1_method_40_code 102 = .ok (.if_icmp .ne 9, 3) := by decide +kernel
theorem d_S_unpackInto_105 : decode prog_1_method_40_code 105 = .ok (.iload_n 2, 1) := by decide +kernel
theorem d_S_unpackInto_106 : decode prog_1_method_40_code 106 = .ok (.iconst 1, 1) := by decide +kernel
theorem d_S_unpackInto_107 : decode prog_1_method_40_code 107 = .ok (.iadd, 1) := by decide +kernel
theorem d_S_unpackInto_108 : decode prog_1_method_40_code 108 = .ok (.goto 4, 3) := by decide +kernel
theorem d_S_unpackInto_111 : decode prog_1_method_40_code 111 = .ok (.iconst 1, 1) := by decide +kernel
theorem d_S_unpackInto_112 : decode prog_1_method_40_code 112 = .ok (.istore_n 2, 1) := by decide +kernel
theorem d_S_unpackInto_113 : decode prog_1_method_40_code 113 = .ok (.iinc 3 1, 3) := by decide +kernel
theorem d_S_unpackInto_116 : decode prog_1_method_40_code 116 = .ok (.goto (-107), 3) := by decide +kernel
theorem d_S_unpackInto_119 : decode prog_1_method_40_code 119 = .ok (.iconst 1, 1) := by decide +kernel
theorem d_S_unpackInto_120 : decode prog_1_method_40_code 120 = .ok (.ireturn, 1) := by decide +kernel
theorem d_Mo_init_0 : decode prog_13_method_1_code 0 = .ok (.aload_n 0, 1) := by decide +kernel
theorem d_Mo_init_1 : decode prog_13_method_1_code 1 = .ok (.invokespecial 1, 3) := by decide +kernel
theorem d_Mo_init_4 : decode prog_13_method_1_code 4 = .ok (.aload_n 0, 1) := by decide +kernel
theorem d_Mo_init_5 : decode prog_13_method_1_code 5 = .ok (.sipush 600, 3) := by decide +kernel
theorem d_Mo_init_8 : decode prog_13_method_1_code 8 = .ok (.newarray .int, 2) := by decide +kernel
theorem d_Mo_init_10 : decode prog_13_method_1_code 10 = .ok (.putfield 7, 3) := by decide +kernel
theorem d_Mo_init_13 : decode prog_13_method_1_code 13 = .ok (.aload_n 0, 1) := by decide +kernel
theorem d_Mo_init_14 : decode prog_13_method_1_code 14 = .ok (.sipush 900, 3) := by decide +kernel
theorem d_Mo_init_17 : decode prog_13_method_1_code 17 = .ok (.newarray .int, 2) := by decide +kernel
theorem d_Mo_init_19 : decode prog_13_method_1_code 19 = .ok (.putfield 13, 3) := by decide +kernel
theorem d_Mo_init_22 : decode prog_13_method_1_code 22 = .ok (.aload_n 0, 1) := by decide +kernel
theorem d_Mo_init_23 : decode prog_13_method_1_code 23 = .ok (.sipush 900, 3) := by decide +kernel
theorem d_Mo_init_26 : decode prog_13_method_1_code 26 = .ok (.newarray .int, 2) := by decide +kernel
theorem d_Mo_init_28 : decode prog_13_method_1_code 28 = .ok (.putfield 16, 3) := by decide +kernel
theorem d_Mo_init_31 : decode prog_13_method_1_code 31 = .ok (.aload_n 0, 1) := by decide +kernel
theorem d_Mo_init_32 : decode prog_13_method_1_code 32 = .ok (.sipush 900, 3) := by decide +kernel
theorem d_Mo_init_35 : decode prog_13_method_1_code 35 = .ok (.newarray .int, 2) := by decide +kernel
theorem d_Mo_init_37 : decode prog_13_method_1_code 37 = .ok (.putfield 19, 3) := by decide +kernel
theorem d_Mo_init_40 : decode prog_13_method_1_code 40 = .ok (.aload_n 0, 1) := by decide +kernel
theorem d_Mo_init_41 : decode prog_13_method_1_code 41 = .ok (.sipush 600, 3) := by decide +kernel
theorem d_Mo_init_44 : decode prog_13_method_1_code 44 = .ok (.newarray .int, 2) := by decide +kernel
theorem d_Mo_init_46 : decode prog_13_method_1_code 46 = .ok (.putfield 22, 3) := by decide +kernel
theorem d_Mo_init_49 : decode prog_13_method_1_code 49 = .ok (.aload_n 0, 1) := by decide +kernel
theorem d_Mo_init_50 : decode prog_13_method_1_code 50 = .ok (.sipush 900, 3) := by decide +kernel
theorem d_Mo_init_53 : decode prog_13_method_1_code 53 = .ok (.newarray .int, 2) := by decide +kernel
theorem d_Mo_init_55 : decode prog_13_method_1_code 55 = .ok (.putfield 25, 3) := by decide +kernel
theorem d_Mo_init_58 : decode prog_13_method_1_code 58 = .ok (.aload_n 0, 1) := by decide +kernel
theorem d_Mo_init_59 : decode prog_13_method_1_code 59 = .ok (.sipush 900, 3) := by decide +kernel
theorem d_Mo_init_62 : decode prog_13_method_1_code 62 = .ok (.newarray .int, 2) := by decide +kernel
theorem d_Mo_init_64 : decode prog_13_method_1_code 64 = .ok (.putfield 28, 3) := by decide +kernel
theorem d_Mo_init_67 : decode prog_13_method_1_code 67 = .ok (.aload_n 0, 1) := by decide +kernel
theorem d_Mo_init_68 : decode prog_13_method_1_code 68 = .ok (.sipush 256, 3) := by decide +kernel
theorem d_Mo_init_71 : decode prog_13_method_1_code 71 = .ok (.newarray .int, 2) := by decide +kernel
theorem d_Mo_init_73 : decode prog_13_method_1_code 73 = .ok (.putfield 31, 3) := by decide +kernel
theorem d_Mo_init_76 : decode prog_13_method_1_code 76 = .ok (.aload_n 0, 1) := by decide +kernel
theorem d_Mo_init_77 : decode prog_13_method_1_code 77 = .ok (.sipush 902, 3) := by decide +kernel
theorem d_Mo_init_80 : decode prog_13_method_1_code 80 = .ok (.newarray .int, 2) := by decide +kernel
theorem d_Mo_init_82 : decode prog_13_method_1_code 82 = .ok (.putfield 34, 3) := by decide +kernel
theorem d_Mo_init_85 : decode prog_13_method_1_code 85 = .ok (.aload_n 0, 1) := by decide +kernel
theorem d_Mo_init_86 : decode prog_13_method_1_code 86 = .ok (.sipush 258, 3) := by decide +kernel
theorem d_Mo_init_89 : decode prog_13_method_1_code 89 = .ok (.newarray .int, 2) := by decide +kernel
theorem d_Mo_init_91 : decode prog_13_method_1_code 91 = .ok (.putfield 37, 3) := by decide +kernel
theorem d_Mo_init_94 : decode prog_13_method_1_code 94 = .ok (.aload_n 0, 1) := by decide +kernel
theorem d_Mo_init_95 : decode prog_13_method_1_code 95 = .ok (.sipush 258, 3) := by decide +kernel
theorem d_Mo_init_98 : decode prog_13_method_1_code 98 = .ok (.newarray .int, 2) := by decide +kernel
theorem d_Mo_init_100 : decode prog_13_method_1_code 100 = .ok (.putfield 40, 3) := by decide +kernel
theorem d_Mo_init_103 : decode prog_13_method_1_code 103 = .ok (.aload_n 0, 1) := by decide +kernel
theorem d_Mo_init_104 : decode prog_13_method_1_code 104 = .ok (.sipush 515, 3) := by decide +kernel
theorem d_Mo_init_107 : decode prog_13_method_1_code 107 = .ok (.newarray .long, 2) := by decide +kernel
theorem d_Mo_init_109 : decode prog_13_method_1_code 109 = .ok (.putfield 43, 3) := by decide +kernel
theorem d_Mo_init_112 : decode prog_13_method_1_code 112 = .ok (.aload_n 0, 1) := by decide +kernel
theorem d_Mo_init_113 : decode prog_13_method_1_code 113 = .ok (.sipush 515, 3) := by decide +kernel
theorem d_Mo_init_116 : decode prog_13_method_1_code 116 = .ok (.newarray .int, 2) := by decide +kernel
theorem d_Mo_init_118 : decode prog_13_method_1_code 118 = .ok (.putfield 47, 3) := by decide +kernel
theorem d_Mo_init_121 : decode prog_13_method_1_code 121 = .ok (.aload_n 0, 1) := by decide +kernel
theorem d_Mo_init_122 : decode prog_13_method_1_code 122 = .ok (.sipush 515, 3) := by decide +kernel
theorem d_Mo_init_125 : decode prog_13_method_1_code 125 = .ok (.newarray .int, 2) := by decide +kernel
theorem d_Mo_init_127 : decode prog_13_method_1_code 127 = .ok (.putfield 50, 3) := by decide +kernel
theorem d_Mo_init_130 : decode prog_13_method_1_code 130 = .ok (.aload_n 0, 1) := by decide +kernel
theorem d_Mo_init_131 : decode prog_13_method_1_code 131 = .ok (.sipush 258, 3) := by decide +kernel
theorem d_Mo_init_134 : decode prog_13_method_1_code 134 = .ok (.newarray .long, 2) := by decide +kernel
theorem d_Mo_init_136 : decode prog_13_method_1_code 136 = .ok (.putfield 53, 3) := by decide +kernel
theorem d_Mo_init_139 : decode prog_13_method_1_code 139 = .ok (.aload_n 0, 1) := by decide +kernel
theorem d_Mo_init_140 : decode prog_13_method_1_code 140 = .ok (.sipush 3000, 3) := by decide +kernel
theorem d_Mo_init_143 : decode prog_13_method_1_code 143 = .ok (.newarray .byte, 2) := by decide +kernel
theorem d_Mo_init_145 : decode prog_13_method_1_code 145 = .ok (.putfield 56, 3) := by decide +kernel
theorem d_Mo_init_148 : decode prog_13_method_1_code 148 = .ok (.aload_n 0, 1) := by decide +kernel
theorem d_Mo_init_149 : decode prog_13_method_1_code 149 = .ok (.sipush 3000, 3) := by decide +kernel
theorem d_Mo_init_152 : decode prog_13_method_1_code 152 = .ok (.newarray .byte, 2) := by decide +kernel
theorem d_Mo_init_154 : decode prog_13_method_1_code 154 = .ok (.putfield 60, 3) := by decide +kernel
theorem d_Mo_init_157 : decode prog_13_method_1_code 157 = .ok (.aload_n 0, 1) := by decide +kernel
theorem d_Mo_init_158 : decode prog_13_method_1_code 158 = .ok (.bipush (-2), 2) := by decide +kernel
theorem d_Mo_init_160 : decode prog_13_method_1_code 160 = .ok (.putfield 63, 3) := by decide +kernel
theorem d_Mo_init_163 : decode prog_13_method_1_code 163 = .ok (.aload_n 0, 1) := by decide +kernel
theorem d_Mo_init_164 : decode prog_13_method_1_code 164 = .ok (.sipush 600, 3) := by decide +kernel
theorem d_Mo_init_167 : decode prog_13_method_1_code 167 = .ok (.newarray .int, 2) := by decide +kernel
theorem d_Mo_init_169 : decode prog_13_method_1_code 169 = .ok (.putfield 67, 3) := by decide +kernel
theorem d_Mo_init_172 : decode prog_13_method_1_code 172 = .ok (.return_, 1) := by decide +kernel
theorem d_Mo_isIn_0 : decode prog_13_method_2_code 0 = .ok (.lload_n 0, 1) := by decide +kernel
theorem d_Mo_isIn_1 : decode prog_13_method_2_code 1 = .ok (.lload_n 2, 1) := by decide +kernel
theorem d_Mo_isIn_2 : decode prog_13_method_2_code 2 = .ok (.lcmp, 1) := by decide +kernel
theorem d_Mo_isIn_3 : decode prog_13_method_2_code 3 = .ok (.ifCond .lt 14, 3) := by decide +kernel
theorem d_Mo_isIn_6 : decode prog_13_method_2_code 6 = .ok (.lload_n 0, 1) := by decide +kernel
theorem d_Mo_isIn_7 : decode prog_13_method_2_code 7 = .ok (.lload 4, 2) := by decide +kernel
theorem d_Mo_isIn_9 : decode prog_13_method_2_code 9 = .ok (.lcmp, 1) := by decide +kernel
theorem d_Mo_isIn_10 : decode prog_13_method_2_code 10 = .ok (.ifCond .gt 7, 3) := by decide +kernel
theorem d_Mo_isIn_13 : decode prog_13_method_2_code 13 = .ok (.iconst 1, 1) := by decide +kernel
theorem d_Mo_isIn_14 : decode prog_13_method_2_code 14 = .ok (.goto 4, 3) := by decide +kernel
theorem d_Mo_isIn_17 : decode prog_13_method_2_code 17 = .ok (.iconst 0, 1) := by decide +kernel
theorem d_Mo_isIn_18 : decode prog_13_method_2_code 18 = .ok (.ireturn, 1) := by decide +kernel
theorem d_Mo_feed_0 : decode prog_13_method_3_code 0 = .ok (.iload_n 3, 1) := by decide +kernel
theorem d_Mo_feed_1 : decode prog_13_method_3_code 1 = .ok (.i2l, 1) := by decide +kernel
theorem d_Mo_feed_2 : decode prog_13_method_3_code 2 = .ok (.lconst 1, 1) := by decide +kernel
theorem d_Mo_feed_3 : decode prog_13_method_3_code 3 = .ok (.ldc2_w 70, 3) := by decide +kernel
theorem d_Mo_feed_6 : decode prog_13_method_3_code 6 = .ok (.invokestatic 72, 3) := by decide +kernel
theorem d_Mo_feed_9 : decode prog_13_method_3_code 9 = .ok (.ifCond .ne 5, 3) := by decide +kernel
theorem d_Mo_feed_12 : decode prog_13_method_3_code 12 = .ok (.iconst (-1), 1) := by decide +kernel
theorem d_Mo_feed_13 : decode prog_13_method_3_code 13 = .ok (.ireturn, 1) := by decide +kernel
theorem d_Mo_feed_14 : decode prog_13_method_3_code 14 = .ok (.aload_n 0, 1) := by decide +kernel
theorem d_Mo_feed_15 : decode prog_13_method_3_code 15 = .ok (.getfield 76, 3) := by decide +kernel
theorem d_Mo_feed_18 : decode prog_13_method_3_code 18 = .ok (.iload_n 3, 1) := by decide +kernel
theorem d_Mo_feed_19 : decode prog_13_method_3_code 19 = .ok (.iadd, 1) := by decide +kernel
theorem d_Mo_feed_20 : decode prog_13_method_3_code 20 = .ok (.sipush 600, 3) := by decide +kernel
theorem d_Mo_feed_23 : decode prog_13_method_3_code 23 = .ok (.if_icmp .le 6, 3) := by decide +kernel
theorem d_Mo_feed_26 : decode prog_13_method_3_code 26 = .ok (.bipush (-3), 2) := by decide +kernel
theorem d_Mo_feed_28 : decode prog_13_method_3_code 28 = .ok (.ireturn, 1) := by decide +kernel
theorem d_Mo_feed_29 : decode prog_13_method_3_code 29 = .ok (.iconst 0, 1) := by decide +kernel
theorem d_Mo_feed_30 : decode prog_13_method_3_code 30 = .ok (.istore 4, 2) := by decide +kernel
theorem d_Mo_feed_32 : decode prog_13_method_3_code 32 = .ok (.iload 4, 2) := by decide +kernel
theorem d_Mo_feed_34 : decode prog_13_method_3_code 34 = .ok (.iload_n 3, 1) := by decide +kernel
theorem d_Mo_feed_35 : decode prog_13_method_3_code 35 = .ok (.if_icmp .ge 37, 3) := by decide +kernel
theorem d_Mo_feed_38 : decode prog_13_method_3_code 38 = .ok (.aload_n 0, 1) := by decide +kernel
theorem d_Mo_feed_39 : decode prog_13_method_3_code 39 = .ok (.getfield 7, 3) := by decide +kernel
theorem d_Mo_feed_42 : decode prog_13_method_3_code 42 = .ok (.aload_n 0, 1) := by decide +kernel
theorem d_Mo_feed_43 : decode prog_13_method_3_code 43 = .ok (.dup, 1) := by decide +kernel
theorem d_Mo_feed_44 : decode prog_13_method_3_code 44 = .ok (.getfield 76, 3) := by decide +kernel
theorem d_Mo_feed_47 : decode prog_13_method_3_code 47 = .ok (.dup_x1, 1) := by decide +kernel
theorem d_Mo_feed_48 : decode prog_13_method_3_code 48 = .ok (.iconst 1, 1) := by decide +kernel
theorem d_Mo_feed_49 : decode prog_13_method_3_code 49 = .ok (.iadd, 1) := by decide +kernel
theorem d_Mo_feed_50 : decode prog_13_method_3_code 50 = .ok (.putfield 76, 3) := by decide +kernel
theorem d_Mo_feed_53 : decode prog_13_method_3_code 53 = .ok (.lload_n 1, 1) := by decide +kernel
theorem d_Mo_feed_54 : decode prog_13_method_3_code 54 = .ok (.bipush 8, 2) := by decide +kernel
theorem d_Mo_feed_56 : decode prog_13_method_3_code 56 = .ok (.iload 4, 2) := by decide +kernel
theorem d_Mo_feed_58 : decode prog_13_method_3_code 58 = .ok (.imul, 1) := by decide +kernel
theorem d_Mo_feed_59 : decode prog_13_method_3_code 59 = .ok (.lushr, 1) := by decide +kernel
theorem d_Mo_feed_60 : decode prog_13_method_3_code 60 = .ok (.ldc2_w 79, 3) := by decide +kernel
theorem d_Mo_feed_63 : decode prog_13_method_3_code 63 = .ok (.land, 1) := by decide +kernel
theorem d_Mo_feed_64 : decode prog_13_method_3_code 64 = .ok (.l2i, 1) := by decide +kernel
theorem d_Mo_feed_65 : decode prog_13_method_3_code 65 = .ok (.iastore, 1) := by decide +kernel
theorem d_Mo_feed_66 : decode prog_13_method_3_code 66 = .ok (.iinc 4 1, 3) := by decide +kernel
theorem d_Mo_feed_69 : decode prog_13_method_3_code 69 = .ok (.goto (-37), 3) := by decide +kernel
theorem d_Mo_feed_72 : decode prog_13_method_3_code 72 = .ok (.aload_n 0, 1) := by decide +kernel
theorem d_Mo_feed_73 : decode prog_13_method_3_code 73 = .ok (.iconst 0, 1) := by decide +kernel
theorem d_Mo_feed_74 : decode prog_13_method_3_code 74 = .ok (.putfield 81, 3) := by decide +kernel
theorem d_Mo_feed_77 : decode prog_13_method_3_code 77 = .ok (.aload_n 0, 1) := by decide +kernel
theorem d_Mo_feed_78 : decode prog_13_method_3_code 78 = .ok (.getfield 76, 3) := by decide +kernel
theorem d_Mo_feed_81 : decode prog_13_method_3_code 81 = .ok (.ireturn, 1) := by decide +kernel
theorem d_Mo_fill_0 : decode prog_13_method_4_code 0 = .ok (.iload_n 1, 1) := by decide +kernel
theorem d_Mo_fill_1 : decode prog_13_method_4_code 1 = .ok (.i2l, 1) := by decide +kernel
theorem d_Mo_fill_2 : decode prog_13_method_4_code 2 = .ok (.lconst 1, 1) := by decide +kernel
theorem d_Mo_fill_3 : decode prog_13_method_4_code 3 = .ok (.ldc2_w 85, 3) := by decide +kernel
theorem d_Mo_fill_6 : decode prog_13_method_4_code 6 = .ok (.invokestatic 72, 3) := by decide +kernel
theorem d_Mo_fill_9 : decode prog_13_method_4_code 9 = .ok (.ifCond .eq 15, 3) := by decide +kernel
theorem d_Mo_fill_12 : decode prog_13_method_4_code 12 = .ok (.iload_n 2, 1) := by decide +kernel
theorem d_Mo_fill_13 : decode prog_13_method_4_code 13 = .ok (.i2l, 1) := by decide +kernel
theorem d_Mo_fill_14 : decode prog_13_method_4_code 14 = .ok (.lconst 0, 1) := by decide +kernel
theorem d_Mo_fill_15 : decode prog_13_method_4_code 15 = .ok (.ldc2_w 79, 3) := by decide +kernel
theorem d_Mo_fill_18 : decode prog_13_method_4_code 18 = .ok (.invokestatic 72, 3) := by decide +kernel
theorem d_Mo_fill_21 : decode prog_13_method_4_code 21 = .ok (.ifCond .ne 5, 3) := by decide +kernel
theorem d_Mo_fill_24 : decode prog_13_method_4_code 24 = .ok (.iconst (-1), 1) := by decide +kernel
theorem d_Mo_fill_25 : decode prog_13_method_4_code 25 = .ok (.ireturn, 1) := by decide +kernel
theorem d_Mo_fill_26 : decode prog_13_method_4_code 26 = .ok (.aload_n 0, 1) := by decide +kernel
theorem d_Mo_fill_27 : decode prog_13_method_4_code 27 = .ok (.getfield 76, 3) := by decide +kernel
theorem d_Mo_fill_30 : decode prog_13_method_4_code 30 = .ok (.iload_n 1, 1) := by decide +kernel
theorem d_Mo_fill_31 : decode prog_13_method_4_code 31 = .ok (.iadd, 1) := by decide +kernel
theorem d_Mo_fill_32 : decode prog_13_method_4_code 32 = .ok (.sipush 600, 3) := by decide +kernel
theorem d_Mo_fill_35 : decode prog_13_method_4_code 35 = .ok (.if_icmp .le 6, 3) := by decide +kernel
theorem d_Mo_fill_38 : decode prog_13_method_4_code 38 = .ok (.bipush (-3), 2) := by decide +kernel
theorem d_Mo_fill_40 : decode prog_13_method_4_code 40 = .ok (.ireturn, 1) := by decide +kernel
theorem d_Mo_fill_41 : decode prog_13_method_4_code 41 = .ok (.iconst 0, 1) := by decide +kernel
theorem d_Mo_fill_42 : decode prog_13_method_4_code 42 = .ok (.istore_n 3, 1) := by decide +kernel
theorem d_Mo_fill_43 : decode prog_13_method_4_code 43 = .ok (.iload_n 3, 1) := by decide +kernel
theorem d_Mo_fill_44 : decode prog_13_method_4_code 44 = .ok (.iload_n 1, 1) := by decide +kernel
theorem d_Mo_fill_45 : decode prog_13_method_4_code 45 = .ok (.if_icmp .ge 26, 3) := by decide +kernel
theorem d_Mo_fill_48 : decode prog_13_method_4_code 48 = .ok (.aload_n 0, 1) := by decide +kernel
theorem d_Mo_fill_49 : decode prog_13_method_4_code 49 = .ok (.getfield 7, 3) := by decide +kernel
theorem d_Mo_fill_52 : decode prog_13_method_4_code 52 = .ok (.aload_n 0, 1) := by decide +kernel
theorem d_Mo_fill_53 : decode prog_13_method_4_code 53 = .ok (.dup, 1) := by decide +kernel
theorem d_Mo_fill_54 : decode prog_13_method_4_code 54 = .ok (.getfield 76, 3) := by decide +kernel
theorem d_Mo_fill_57 : decode prog_13_method_4_code 57 = .ok (.dup_x1, 1) := by decide +kernel
theorem d_Mo_fill_58 : decode prog_13_method_4_code 58 = .ok (.iconst 1, 1) := by decide +kernel
theorem d_Mo_fill_59 : decode prog_13_method_4_code 59 = .ok (.iadd, 1) := by decide +kernel
theorem d_Mo_fill_60 : decode prog_13_method_4_code 60 = .ok (.putfield 76, 3) := by decide +kernel
theorem d_Mo_fill_63 : decode prog_13_method_4_code 63 = .ok (.iload_n 2, 1) := by decide +kernel
theorem d_Mo_fill_64 : decode prog_13_method_4_code 64 = .ok (.iastore, 1) := by decide +kernel
theorem d_Mo_fill_65 : decode prog_13_method_4_code 65 = .ok (.iinc 3 1, 3) := by decide +kernel
theorem d_Mo_fill_68 : decode prog_13_method_4_code 68 = .ok (.goto (-25), 3) := by decide +kernel
theorem d_Mo_fill_71 : decode prog_13_method_4_code 71 = .ok (.aload_n 0, 1) := by decide +kernel
theorem d_Mo_fill_72 : decode prog_13_method_4_code 72 = .ok (.iconst 0, 1) := by decide +kernel
theorem d_Mo_fill_73 : decode prog_13_method_4_code 73 = .ok (.putfield 81, 3) := by decide +kernel
theorem d_Mo_fill_76 : decode prog_13_method_4_code 76 = .ok (.aload_n 0, 1) := by decide +kernel
theorem d_Mo_fill_77 : decode prog_13_method_4_code 77 = .ok (.getfield 76, 3) := by decide +kernel
theorem d_Mo_fill_80 : decode prog_13_method_4_code 80 = .ok (.ireturn, 1) := by decide +kernel
theorem d_Mo_clear_0 : decode prog_13_method_5_code 0 = .ok (.aload_n 0, 1) := by decide +kernel
theorem d_Mo_clear_1 : decode prog_13_method_5_code 1 = .ok (.getfield 76, 3) := by decide +kernel
theorem d_Mo_clear_4 : decode prog_13_method_5_code 4 = .ok (.istore_n 1, 1) := by decide +kernel
theorem d_Mo_clear_5 : decode prog_13_method_5_code 5 = .ok (.aload_n 0, 1) := by decide +kernel
theorem d_Mo_clear_6 : decode prog_13_method_5_code 6 = .ok (.iconst 0, 1) := by decide +kernel
theorem d_Mo_clear_7 : decode prog_13_method_5_code 7 = .ok (.putfield 76, 3) := by decide +kernel
theorem d_Mo_clear_10 : decode prog_13_method_5_code 10 = .ok (.aload_n 0, 1) := by decide +kernel
theorem d_Mo_clear_11 : decode prog_13_method_5_code 11 = .ok (.iconst 0, 1) := by decide +kernel
theorem d_Mo_clear_12 : decode prog_13_method_5_code 12 = .ok (.putfield 81, 3) := by decide +kernel
theorem d_Mo_clear_15 : decode prog_13_method_5_code 15 = .ok (.iload_n 1, 1) := by decide +kernel
theorem d_Mo_clear_16 : decode prog_13_method_5_code 16 = .ok (.ireturn, 1) := by decide +kernel
theorem d_Mo_octet_0 : decode prog_13_method_6_code 0 = .ok (.iload_n 1, 1) := by decide +kernel
theorem d_Mo_octet_1 : decode prog_13_method_6_code 1 = .ok (.i2l, 1) := by decide +kernel
theorem d_Mo_octet_2 : decode prog_13_method_6_code 2 = .ok (.lconst 0, 1) := by decide +kernel
theorem d_Mo_octet_3 : decode prog_13_method_6_code 3 = .ok (.aload_n 0, 1) := by decide +kernel
theorem d_Mo_octet_4 : decode prog_13_method_6_code 4 = .ok (.getfield 76, 3) := by decide +kernel
theorem d_Mo_octet_7 : decode prog_13_method_6_code 7 = .ok (.iconst 1, 1) := by decide +kernel
theorem d_Mo_octet_8 : decode prog_13_method_6_code 8 = .ok (.isub, 1) := by decide +kernel
theorem d_Mo_octet_9 : decode prog_13_method_6_code 9 = .ok (.i2l, 1) := by decide +kernel
theorem d_Mo_octet_10 : decode prog_13_method_6_code 10 = .ok (.invokestatic 72, 3) := by decide +kernel
theorem d_Mo_octet_13 : decode prog_13_method_6_code 13 = .ok (.ifCond .eq 12, 3) := by decide +kernel
theorem d_Mo_octet_16 : decode prog_13_method_6_code 16 = .ok (.aload_n 0, 1) := by decide +kernel
theorem d_Mo_octet_17 : decode prog_13_method_6_code 17 = .ok (.getfield 7, 3) := by decide +kernel
theorem d_Mo_octet_20 : decode prog_13_method_6_code 20 = .ok (.iload_n 1, 1) := by decide +kernel
theorem d_Mo_octet_21 : decode prog_13_method_6_code 21 = .ok (.iaload, 1) := by decide +kernel
theorem d_Mo_octet_22 : decode prog_13_method_6_code 22 = .ok (.goto 5, 3) := by decide +kernel
theorem d_Mo_octet_25 : decode prog_13_method_6_code 25 = .ok (.bipush (-2), 2) := by decide +kernel
theorem d_Mo_octet_27 : decode prog_13_method_6_code 27 = .ok (.ireturn, 1) := by decide +kernel
theorem d_Mo_takeBlock_0 : decode prog_13_method_7_code 0 = .ok (.aload_n 0, 1) := by decide +kernel
theorem d_Mo_takeBlock_1 : decode prog_13_method_7_code 1 = .ok (.aload_n 0, 1) := by decide +kernel
theorem d_Mo_takeBlock_2 : decode prog_13_method_7_code 2 = .ok (.getfield 76, 3) := by decide +kernel
theorem d_Mo_takeBlock_5 : decode prog_13_method_7_code 5 = .ok (.putfield 87, 3) := by decide +kernel
theorem d_Mo_takeBlock_8 : decode prog_13_method_7_code 8 = .ok (.iconst 0, 1) := by decide +kernel
theorem d_Mo_takeBlock_9 : decode prog_13_method_7_code 9 = .ok (.istore_n 1, 1) := by decide +kernel
theorem d_Mo_takeBlock_10 : decode prog_13_method_7_code 10 = .ok (.iload_n 1, 1) := by decide +kernel
theorem d_Mo_takeBlock_11 : decode prog_13_method_7_code 11 = .ok (.aload_n 0, 1) := by decide +kernel
theorem d_Mo_takeBlock_12 : decode prog_13_method_7_code 12 = .ok (.getfield 76, 3) := by decide +kernel
theorem d_Mo_takeBlock_15 : decode prog_13_method_7_code 15 = .ok (.if_icmp .ge 21, 3) := by decide +kernel
theorem d_Mo_takeBlock_18 : decode prog_13_method_7_code 18 = .ok (.aload_n 0, 1) := by decide +kernel
theorem d_Mo_takeBlock_19 : decode prog_13_method_7_code 19 = .ok (.getfield 13, 3) := by decide +kernel
theorem d_Mo_takeBlock_22 : decode prog_13_method_7_code 22 = .ok (.iload_n 1, 1) := by decide +kernel
theorem d_Mo_takeBlock_23 : decode prog_13_method_7_code 23 = .ok (.aload_n 0, 1) := by decide +kernel
theorem d_Mo_takeBlock_24 : decode prog_13_method_7_code 24 = .ok (.getfield 7, 3) := by decide +kernel
theorem d_Mo_takeBlock_27 : decode prog_13_method_7_code 27 = .ok (.iload_n 1, 1) := by decide +kernel
theorem d_Mo_takeBlock_28 : decode prog_13_method_7_code 28 = .ok (.iaload, 1) := by decide +kernel
theorem d_Mo_takeBlock_29 : decode prog_13_method_7_code 29 = .ok (.iastore, 1) := by decide +kernel
theorem d_Mo_takeBlock_30 : decode prog_13_method_7_code 30 = .ok (.iinc 1 1, 3) := by decide +kernel
theorem d_Mo_takeBlock_33 : decode prog_13_method_7_code 33 = .ok (.goto (-23), 3) := by decide +kernel
theorem d_Mo_takeBlock_36 : decode prog_13_method_7_code 36 = .ok (.return_, 1) := by decide +kernel
theorem d_Mo_packBlock_0 : decode prog_13_method_8_code 0 = .ok (.aload_n 0, 1) := by decide +kernel
theorem d_Mo_packBlock_1 : decode prog_13_method_8_code 1 = .ok (.iconst 0, 1) := by decide +kernel
theorem d_Mo_packBlock_2 : decode prog_13_method_8_code 2 = .ok (.putfield 87, 3) := by decide +kernel
theorem d_Mo_packBlock_5 : decode prog_13_method_8_code 5 = .ok (.iconst 0, 1) := by decide +kernel
theorem d_Mo_packBlock_6 : decode prog_13_method_8_code 6 = .ok (.istore_n 1, 1) := by decide +kernel
theorem d_Mo_packBlock_7 : decode prog_13_method_8_code 7 = .ok (.iconst 0, 1) := by decide +kernel
theorem d_Mo_packBlock_8 : decode prog_13_method_8_code 8 = .ok (.istore_n 2, 1) := by decide +kernel
theorem d_Mo_packBlock_9 : decode prog_13_method_8_code 9 = .ok (.iload_n 2, 1) := by decide +kernel
theorem d_Mo_packBlock_10 : decode prog_13_method_8_code 10 = .ok (.aload_n 0, 1) := by decide +kernel
theorem d_Mo_packBlock_11 : decode prog_13_method_8_code 11 = .ok (.getfield 76, 3) := by decide +kernel
theorem d_Mo_packBlock_14 : decode prog_13_method_8_code 14 = .ok (.if_icmp .ge 136, 3) := by decide +kernel
theorem d_Mo_packBlock_17 : decode prog_13_method_8_code 17 = .ok (.iload_n 1, 1) := by decide +kernel
theorem d_Mo_packBlock_18 : decode prog_13_method_8_code 18 = .ok (.ifCond .le 29, 3) := by decide +kernel
theorem d_Mo_packBlock_21 : decode prog_13_method_8_code 21 = .ok (.aload_n 0, 1) := by decide +kernel
theorem d_Mo_packBlock_22 : decode prog_13_method_8_code 22 = .ok (.getfield 7, 3) := by decide +kernel
theorem d_Mo_packBlock_25 : decode prog_13_method_8_code 25 = .ok (.iload_n 2, 1) := by decide +kernel
theorem d_Mo_packBlock_26 : decode prog_13_method_8_code 26 = .ok (.iaload, 1) := by decide +kernel
theorem d_Mo_packBlock_27 : decode prog_13_method_8_code 27 = .ok (.aload_n 0, 1) := by decide +kernel
theorem d_Mo_packBlock_28 : decode prog_13_method_8_code 28 = .ok (.getfield 13, 3) := by decide +kernel
theorem d_Mo_packBlock_31 : decode prog_13_method_8_code 31 = .ok (.aload_n 0, 1) := by decide +kernel
theorem d_Mo_packBlock_32 : decode prog_13_method_8_code 32 = .ok (.getfield 87, 3) := by decide +kernel
theorem d_Mo_packBlock_35 : decode prog_13_method_8_code 35 = .ok (.iconst 1, 1) := by decide +kernel
theorem d_Mo_packBlock_36 : decode prog_13_method_8_code 36 = .ok (.isub, 1) := by decide +kernel
theorem d_Mo_packBlock_37 : decode prog_13_method_8_code 37 = .ok (.iaload, 1) := by decide +kernel
theorem d_Mo_packBlock_38 : decode prog_13_method_8_code 38 = .ok (.if_icmp .ne 9, 3) := by decide +kernel
theorem d_Mo_packBlock_41 : decode prog_13_method_8_code 41 = .ok (.iload_n 1, 1) := by decide +kernel
theorem d_Mo_packBlock_42 : decode prog_13_method_8_code 42 = .ok (.iconst 1, 1) := by decide +kernel
theorem d_Mo_packBlock_43 : decode prog_13_method_8_code 43 = .ok (.iadd, 1) := by decide +kernel
theorem d_Mo_packBlock_44 : decode prog_13_method_8_code 44 = .ok (.goto 4, 3) := by decide +kernel
theorem d_Mo_packBlock_47 : decode prog_13_method_8_code 47 = .ok (.iconst 1, 1) := by decide +kernel
theorem d_Mo_packBlock_48 : decode prog_13_method_8_code 48 = .ok (.istore_n 1, 1) := by decide +kernel
theorem d_Mo_packBlock_49 : decode prog_13_method_8_code 49 = .ok (.aload_n 0, 1) := by decide +kernel
theorem d_Mo_packBlock_50 : decode prog_13_method_8_code 50 = .ok (.getfield 13, 3) := by decide +kernel
theorem d_Mo_packBlock_53 : decode prog_13_method_8_code 53 = .ok (.aload_n 0, 1) := by decide +kernel
theorem d_Mo_packBlock_54 : decode prog_13_method_8_code 54 = .ok (.dup, 1) := by decide +kernel
theorem d_Mo_packBlock_55 : decode prog_13_method_8_code 55 = .ok (.getfield 87, 3) := by decide +kernel
theorem d_Mo_packBlock_58 : decode prog_13_method_8_code 58 = .ok (.dup_x1, 1) := by decide +kernel
theorem d_Mo_packBlock_59 : decode prog_13_method_8_code 59 = .ok (.iconst 1, 1) := by decide +kernel
theorem d_Mo_packBlock_60 : decode prog_13_method_8_code 60 = .ok (.iadd, 1) := by decide +kernel
theorem d_Mo_packBlock_61 : decode prog_13_method_8_code 61 = .ok (.putfield 87, 3) := by decide +kernel
theorem d_Mo_packBlock_64 : decode prog_13_method_8_code 64 = .ok (.aload_n 0, 1) := by decide +kernel
theorem d_Mo_packBlock_65 : decode prog_13_method_8_code 65 = .ok (.getfield 7, 3) := by decide +kernel
theorem d_Mo_packBlock_68 : decode prog_13_method_8_code 68 = .ok (.iload_n 2, 1) := by decide +kernel
theorem d_Mo_packBlock_69 : decode prog_13_method_8_code 69 = .ok (.iinc 2 1, 3) := by decide +kernel
theorem d_Mo_packBlock_72 : decode prog_13_method_8_code 72 = .ok (.iaload, 1) := by decide +kernel
theorem d_Mo_packBlock_73 : decode prog_13_method_8_code 73 = .ok (.iastore, 1) := by decide +kernel
theorem d_Mo_packBlock_74 : decode prog_13_method_8_code 74 = .ok (.iload_n 1, 1) := by decide +kernel
theorem d_Mo_packBlock_75 : decode prog_13_method_8_code 75 = .ok (.iconst 4, 1) := by decide +kernel
theorem d_Mo_packBlock_76 : decode prog_13_method_8_code 76 = .ok (.if_icmp .ge 6, 3) := by decide +kernel
theorem d_Mo_packBlock_79 : decode prog_13_method_8_code 79 = .ok (.goto (-70), 3) := by decide +kernel
theorem d_Mo_packBlock_82 : decode prog_13_method_8_code 82 = .ok (.iconst 0, 1) := by decide +kernel
theorem d_Mo_packBlock_83 : decode prog_13_method_8_code 83 = .ok (.istore_n 3, 1) := by decide +kernel
theorem d_Mo_packBlock_84 : decode prog_13_method_8_code 84 = .ok (.iload_n 3, 1) := by decide +kernel
theorem d_Mo_packBlock_85 : decode prog_13_method_8_code 85 = .ok (.sipush 251, 3) := by decide +kernel
theorem d_Mo_packBlock_88 : decode prog_13_method_8_code 88 = .ok (.if_icmp .ge 40, 3) := by decide +kernel
theorem d_Mo_packBlock_91 : decode prog_13_method_8_code 91 = .ok (.iload_n 2, 1) := by decide +kernel
theorem d_Mo_packBlock_92 : decode prog_13_method_8_code 92 = .ok (.aload_n 0, 1) := by decide +kernel
theorem d_Mo_packBlock_93 : decode prog_13_method_8_code 93 = .ok (.getfield 76, 3) := by decide +kernel
theorem d_Mo_packBlock_96 : decode prog_13_method_8_code 96 = .ok (.if_icmp .ge 32, 3) := by decide +kernel
theorem d_Mo_packBlock_99 : decode prog_13_method_8_code 99 = .ok (.aload_n 0, 1) := by decide +kernel
theorem d_Mo_packBlock_100 : decode prog_13_method_8_code 100 = .ok (.getfield 7, 3) := by decide +kernel
theorem d_Mo_packBlock_103 : decode prog_13_method_8_code 103 = .ok (.iload_n 2, 1) := by decide +kernel
theorem d_Mo_packBlock_104 : decode prog_13_method_8_code 104 = .ok (.iaload, 1) := by decide +kernel
theorem d_Mo_packBlock_105 : decode prog_13_method_8_code 105 = .ok (.aload_n 0, 1) := by decide +kernel
theorem d_Mo_packBlock_106 : decode prog_13_method_8_code 106 = .ok (.getfield 13, 3) := by decide +kernel
theorem d_Mo_packBlock_109 : decode prog_13_method_8_code 109 = .ok (.aload_n 0, 1) := by decide +kernel
theorem d_Mo_packBlock_110 : decode prog_13_method_8_code 110 = .ok (.getfield 87, 3) := by decide +kernel
theorem d_Mo_packBlock_113 : decode prog_13_method_8_code 113 = .ok (.iconst 1, 1) := by decide +kernel
theorem d_Mo_packBlock_114 : decode prog_13_method_8_code 114 = .ok (.isub, 1) := by decide +kernel
theorem d_Mo_packBlock_115 : decode prog_13_method_8_code 115 = .ok (.iaload, 1) := by decide +kernel
theorem d_Mo_packBlock_116 : decode prog_13_method_8_code 116 = .ok (.if_icmp .ne 12, 3) := by decide +kernel
theorem d_Mo_packBlock_119 : decode prog_13_method_8_code 119 = .ok (.iinc 3 1, 3) := by decide +kernel
theorem d_Mo_packBlock_122 : decode prog_13_method_8_code 122 = .ok (.iinc 2 1, 3) := by decide +kernel
theorem d_Mo_packBlock_125 : decode prog_13_method_8_code 125 = .ok (.goto (-41), 3) := by decide +kernel
theorem d_Mo_packBlock_128 : decode prog_13_method_8_code 128 = .ok (.aload_n 0, 1) := by decide +kernel
theorem d_Mo_packBlock_129 : decode prog_13_method_8_code 129 = .ok (.getfield 13, 3) := by decide +kernel
theorem d_Mo_packBlock_132 : decode prog_13_method_8_code 132 = .ok (.aload_n 0, 1) := by decide +kernel
theorem d_Mo_packBlock_133 : decode prog_13_method_8_code 133 = .ok (.dup, 1) := by decide +kernel
theorem d_Mo_packBlock_134 : decode prog_13_method_8_code 134 = .ok (.getfield 87, 3) := by decide +kernel
theorem d_Mo_packBlock_137 : decode prog_13_method_8_code 137 = .ok (.dup_x1, 1) := by decide +kernel
theorem d_Mo_packBlock_138 : decode prog_13_method_8_code 138 = .ok (.iconst 1, 1) := by decide +kernel
theorem d_Mo_packBlock_139 : decode prog_13_method_8_code 139 = .ok (.iadd, 1) := by decide +kernel
theorem d_Mo_packBlock_140 : decode prog_13_method_8_code 140 = .ok (.putfield 87, 3) := by decide +kernel
theorem d_Mo_packBlock_143 : decode prog_13_method_8_code 143 = .ok (.iload_n 3, 1) := by decide +kernel
theorem d_Mo_packBlock_144 : decode prog_13_method_8_code 144 = .ok (.iastore, 1) := by decide +kernel
theorem d_Mo_packBlock_145 : decode prog_13_method_8_code 145 = .ok (.iconst 0, 1) := by decide +kernel
theorem d_Mo_packBlock_146 : decode prog_13_method_8_code 146 = .ok (.istore_n 1, 1) := by decide +kernel
theorem d_Mo_packBlock_147 : decode prog_13_method_8_code 147 = .ok (.goto (-138), 3) := by decide +kernel
theorem d_Mo_packBlock_150 : decode prog_13_method_8_code 150 = .ok (.return_, 1) := by decide +kernel
theorem d_Mo_pack_0 : decode prog_13_method_9_code 0 = .ok (.aload_n 0, 1) := by decide +kernel
theorem d_Mo_pack_1 : decode prog_13_method_9_code 1 = .ok (.invokevirtual 90, 3) := by decide +kernel
theorem d_Mo_pack_4 : decode prog_13_method_9_code 4 = .ok (.aload_n 0, 1) := by decide +kernel
theorem d_Mo_pack_5 : decode prog_13_method_9_code 5 = .ok (.getfield 87, 3) := by decide +kernel
theorem d_Mo_pack_8 : decode prog_13_method_9_code 8 = .ok (.ireturn, 1) := by decide +kernel
theorem d_Mo_packed_0 : decode prog_13_method_10_code 0 = .ok (.aload_n 0, 1) := by decide +kernel
theorem d_Mo_packed_1 : decode prog_13_method_10_code 1 = .ok (.invokevirtual 90, 3) := by decide +kernel
theorem d_Mo_packed_4 : decode prog_13_method_10_code 4 = .ok (.iload_n 1, 1) := by decide +kernel
theorem d_Mo_packed_5 : decode prog_13_method_10_code 5 = .ok (.i2l, 1) := by decide +kernel
theorem d_Mo_packed_6 : decode prog_13_method_10_code 6 = .ok (.lconst 0, 1) := by decide +kernel
theorem d_Mo_packed_7 : decode prog_13_method_10_code 7 = .ok (.aload_n 0, 1) := by decide +kernel
theorem d_Mo_packed_8 : decode prog_13_method_10_code 8 = .ok (.getfield 87, 3) := by decide +kernel
theorem d_Mo_packed_11 : decode prog_13_method_10_code 11 = .ok (.iconst 1, 1) := by decide +kernel
theorem d_Mo_packed_12 : decode prog_13_method_10_code 12 = .ok (.isub, 1) := by decide +kernel
theorem d_Mo_packed_13 : decode prog_13_method_10_code 13 = .ok (.i2l, 1) := by decide +kernel
theorem d_Mo_packed_14 : decode prog_13_method_10_code 14 = .ok (.invokestatic 72, 3) := by decide +kernel
theorem d_Mo_packed_17 : decode prog_13_method_10_code 17 = .ok (.ifCond .eq 12, 3) := by decide +kernel
theorem d_Mo_packed_20 : decode prog_13_method_10_code 20 = .ok (.aload_n 0, 1) := by decide +kernel
theorem d_Mo_packed_21 : decode prog_13_method_10_code 21 = .ok (.getfield 13, 3) := by decide +kernel
theorem d_Mo_packed_24 : decode prog_13_method_10_code 24 = .ok (.iload_n 1, 1) := by decide +kernel
theorem d_Mo_packed_25 : decode prog_13_method_10_code 25 = .ok (.iaload, 1) := by decide +kernel
theorem d_Mo_packed_26 : decode prog_13_method_10_code 26 = .ok (.goto 5, 3) := by decide +kernel
theorem d_Mo_packed_29 : decode prog_13_method_10_code 29 = .ok (.bipush (-2), 2) := by decide +kernel
theorem d_Mo_packed_31 : decode prog_13_method_10_code 31 = .ok (.ireturn, 1) := by decide +kernel
theorem d_Mo_parts_0 : decode prog_13_method_11_code 0 = .ok (.iconst 0, 1) := by decide +kernel
theorem d_Mo_parts_1 : decode prog_13_method_11_code 1 = .ok (.istore_n 3, 1) := by decide +kernel
theorem d_Mo_parts_2 : decode prog_13_method_11_code 2 = .ok (.iload_n 3, 1) := by decide +kernel
theorem d_Mo_parts_3 : decode prog_13_method_11_code 3 = .ok (.aload_n 0, 1) := by decide +kernel
theorem d_Mo_parts_4 : decode prog_13_method_11_code 4 = .ok (.getfield 87, 3) := by decide +kernel
theorem d_Mo_parts_7 : decode prog_13_method_11_code 7 = .ok (.if_icmp .ge 38, 3) := by decide +kernel
theorem d_Mo_parts_10 : decode prog_13_method_11_code 10 = .ok (.aload_n 0, 1) := by decide +kernel
theorem d_Mo_parts_11 : decode prog_13_method_11_code 11 = .ok (.getfield 13, 3) := by decide +kernel
theorem d_Mo_parts_14 : decode prog_13_method_11_code 14 = .ok (.iload_n 1, 1) := by decide +kernel
theorem d_Mo_parts_15 : decode prog_13_method_11_code 15 = .ok (.iload_n 3, 1) := by decide +kernel
theorem d_Mo_parts_16 : decode prog_13_method_11_code 16 = .ok (.iadd, 1) := by decide +kernel
theorem d_Mo_parts_17 : decode prog_13_method_11_code 17 = .ok (.aload_n 0, 1) := by decide +kernel
theorem d_Mo_parts_18 : decode prog_13_method_11_code 18 = .ok (.getfield 87, 3) := by decide +kernel
theorem d_Mo_parts_21 : decode prog_13_method_11_code 21 = .ok (.irem, 1) := by decide +kernel
theorem d_Mo_parts_22 : decode prog_13_method_11_code 22 = .ok (.iaload, 1) := by decide +kernel
theorem d_Mo_parts_23 : decode prog_13_method_11_code 23 = .ok (.aload_n 0, 1) := by decide +kernel
theorem d_Mo_parts_24 : decode prog_13_method_11_code 24 = .ok (.getfield 13, 3) := by decide +kernel
theorem d_Mo_parts_27 : decode prog_13_method_11_code 27 = .ok (.iload_n 2, 1) := by decide +kernel
theorem d_Mo_parts_28 : decode prog_13_method_11_code 28 = .ok (.iload_n 3, 1) := by decide +kernel
theorem d_Mo_parts_29 : decode prog_13_method_11_code 29 = .ok (.iadd, 1) := by decide +kernel
theorem d_Mo_parts_30 : decode prog_13_method_11_code 30 = .ok (.aload_n 0, 1) := by decide +kernel
theorem d_Mo_parts_31 : decode prog_13_method_11_code 31 = .ok (.getfield 87, 3) := by decide +kernel
theorem d_Mo_parts_34 : decode prog_13_method_11_code 34 = .ok (.irem, 1) := by decide +kernel
theorem d_Mo_parts_35 : decode prog_13_method_11_code 35 = .ok (.iaload, 1) := by decide +kernel
theorem d_Mo_parts_36 : decode prog_13_method_11_code 36 = .ok (.if_icmp .ne 9, 3) := by decide +kernel
theorem d_Mo_parts_39 : decode prog_13_method_11_code 39 = .ok (.iinc 3 1, 3) := by decide +kernel
theorem d_Mo_parts_42 : decode prog_13_method_11_code 42 = .ok (.goto (-40), 3) := by decide +kernel
theorem d_Mo_parts_45 : decode prog_13_method_11_code 45 = .ok (.iload_n 3, 1) := by decide +kernel
theorem d_Mo_parts_46 : decode prog_13_method_11_code 46 = .ok (.ireturn, 1) := by decide +kernel
theorem d_Mo_isAbove_0 : decode prog_13_method_12_code 0 = .ok (.aload_n 0, 1) := by decide +kernel
theorem d_Mo_isAbove_1 : decode prog_13_method_12_code 1 = .ok (.iload_n 1, 1) := by decide +kernel
theorem d_Mo_isAbove_2 : decode prog_13_method_12_code 2 = .ok (.iload_n 2, 1) := by decide +kernel
theorem d_Mo_isAbove_3 : decode prog_13_method_12_code 3 = .ok (.invokevirtual 93, 3) := by decide +kernel
theorem d_Mo_isAbove_6 : decode prog_13_method_12_code 6 = .ok (.istore_n 3, 1) := by decide +kernel
theorem d_Mo_isAbove_7 : decode prog_13_method_12_code 7 = .ok (.iload_n 3, 1) := by decide +kernel
theorem d_Mo_isAbove_8 : decode prog_13_method_12_code 8 = .ok (.aload_n 0, 1) := by decide +kernel
theorem d_Mo_isAbove_9 : decode prog_13_method_12_code 9 = .ok (.getfield 87, 3) := by decide +kernel
theorem d_Mo_isAbove_12 : decode prog_13_method_12_code 12 = .ok (.if_icmp .ge 36, 3) := by decide +kernel
theorem d_Mo_isAbove_15 : decode prog_13_method_12_code 15 = .ok (.aload_n 0, 1) := by decide +kernel
theorem d_Mo_isAbove_16 : decode prog_13_method_12_code 16 = .ok (.getfield 13, 3) := by decide +kernel
theorem d_Mo_isAbove_19 : decode prog_13_method_12_code 19 = .ok (.iload_n 1, 1) := by decide +kernel
theorem d_Mo_isAbove_20 : decode prog_13_method_12_code 20 = .ok (.iload_n 3, 1) := by decide +kernel
theorem d_Mo_isAbove_21 : decode prog_13_method_12_code 21 = .ok (.iadd, 1) := by decide +kernel
theorem d_Mo_isAbove_22 : decode prog_13_method_12_code 22 = .ok (.aload_n 0, 1) := by decide +kernel
theorem d_Mo_isAbove_23 : decode prog_13_method_12_code 23 = .ok (.getfield 87, 3) := by decide +kernel
theorem d_Mo_isAbove_26 : decode prog_13_method_12_code 26 = .ok (.irem, 1) := by decide +kernel
theorem d_Mo_isAbove_27 : decode prog_13_method_12_code 27 = .ok (.iaload, 1) := by decide +kernel
theorem d_Mo_isAbove_28 : decode prog_13_method_12_code 28 = .ok (.aload_n 0, 1) := by decide +kernel
theorem d_Mo_isAbove_29 : decode prog_13_method_12_code 29 = .ok (.getfield 13, 3) := by decide +kernel
theorem d_Mo_isAbove_32 : decode prog_13_method_12_code 32 = .ok (.iload_n 2, 1) := by decide +kernel
theorem d_Mo_isAbove_33 : decode prog_13_method_12_code 33 = .ok (.iload_n 3, 1) := by decide +kernel
theorem d_Mo_isAbove_34 : decode prog_13_method_12_code 34 = .ok (.iadd, 1) := by decide +kernel
theorem d_Mo_isAbove_35 : decode prog_13_method_12_code 35 = .ok (.aload_n 0, 1) := by decide +kernel
theorem d_Mo_isAbove_36 : decode prog_13_method_12_code 36 = .ok (.getfield 87, 3) := by decide +kernel
theorem d_Mo_isAbove_39 : decode prog_13_method_12_code 39 = .ok (.irem, 1) := by decide +kernel
theorem d_Mo_isAbove_40 : decode prog_13_method_12_code 40 = .ok (.iaload, 1) := by decide +kernel
theorem d_Mo_isAbove_41 : decode prog_13_method_12_code 41 = .ok (.if_icmp .le 7, 3) := by decide +kernel
theorem d_Mo_isAbove_44 : decode prog_13_method_12_code 44 = .ok (.iconst 1, 1) := by decide +kernel
theorem d_Mo_isAbove_45 : decode prog_13_method_12_code 45 = .ok (.goto 4, 3) := by decide +kernel
theorem d_Mo_isAbove_48 : decode prog_13_method_12_code 48 = .ok (.iconst 0, 1) := by decide +kernel
theorem d_Mo_isAbove_49 : decode prog_13_method_12_code 49 = .ok (.ireturn, 1) := by decide +kernel
end
section
theorem d_Mo_putInOrder_0 : decode prog_13_method_13_code 0 = .ok (.iconst 0, 1) := by decide +kernel
theorem d_Mo_putInOrder_1 : decode prog_13_method_13_code 1 = .ok (.istore_n 1, 1) := by decide +kernel
theorem d_Mo_putInOrder_2 : decode prog_13_method_13_code 2 = .ok (.iload_n 1, 1) := by decide +kernel
theorem d_Mo_putInOrder_3 : decode prog_13_method_13_code 3 = .ok (.aload_n 0, 1) := by decide +kernel
theorem d_Mo_putInOrder_4 : decode prog_13_method_13_code 4 = .ok (.getfield 87, 3) := by decide +kernel
theorem d_Mo_putInOrder_7 : decode prog_13_method_13_code 7 = .ok (.if_icmp .ge 16, 3) := by decide +kernel
theorem d_Mo_putInOrder_10 : decode prog_13_method_13_code 10 = .ok (.aload_n 0, 1) := by decide +kernel
theorem d_Mo_putInOrder_11 : decode prog_13_method_13_code 11 = .ok (.getfield 16, 3) := by decide +kernel
theorem d_Mo_putInOrder_14 : decode prog_13_method_13_code 14 = .ok (.iload_n 1, 1) := by decide +kernel
theorem d_Mo_putInOrder_15 : decode prog_13_method_13_code 15 = .ok (.iload_n 1, 1) := by decide +kernel
theorem d_Mo_putInOrder_16 : decode prog_13_method_13_code 16 = .ok (.iastore, 1) := by decide +kernel
theorem d_Mo_putInOrder_17 : decode prog_13_method_13_code 17 = .ok (.iinc 1 1, 3) := by decide +kernel
theorem d_Mo_putInOrder_20 : decode prog_13_method_13_code 20 = .ok (.goto (-18), 3) := by decide +kernel
theorem d_Mo_putInOrder_23 : decode prog_13_method_13_code 23 = .ok (.iconst 1, 1) := by decide +kernel
theorem d_Mo_putInOrder_24 : decode prog_13_method_13_code 24 = .ok (.istore_n 1, 1) := by decide +kernel
theorem d_Mo_putInOrder_25 : decode prog_13_method_13_code 25 = .ok (.iload_n 1, 1) := by decide +kernel
theorem d_Mo_putInOrder_26 : decode prog_13_method_13_code 26 = .ok (.aload_n 0, 1) := by decide +kernel
theorem d_Mo_putInOrder_27 : decode prog_13_method_13_code 27 = .ok (.getfield 87, 3) := by decide +kernel
theorem d_Mo_putInOrder_30 : decode prog_13_method_13_code 30 = .ok (.if_icmp .ge 199, 3) := by decide +kernel
theorem d_Mo_putInOrder_33 : decode prog_13_method_13_code 33 = .ok (.iconst 0, 1) := by decide +kernel
theorem d_Mo_putInOrder_34 : decode prog_13_method_13_code 34 = .ok (.istore_n 2, 1) := by decide +kernel
theorem d_Mo_putInOrder_35 : decode prog_13_method_13_code 35 = .ok (.iload_n 2, 1) := by decide +kernel
theorem d_Mo_putInOrder_36 : decode prog_13_method_13_code 36 = .ok (.aload_n 0, 1) := by decide +kernel
theorem d_Mo_putInOrder_37 : decode prog_13_method_13_code 37 = .ok (.getfield 87, 3) := by decide +kernel
theorem d_Mo_putInOrder_40 : decode prog_13_method_13_code 40 = .ok (.if_icmp .ge 154, 3) := by decide +kernel
theorem d_Mo_putInOrder_43 : decode prog_13_method_13_code 43 = .ok (.iload_n 2, 1) := by decide +kernel
theorem d_Mo_putInOrder_44 : decode prog_13_method_13_code 44 = .ok (.istore_n 3, 1) := by decide +kernel
theorem d_Mo_putInOrder_45 : decode prog_13_method_13_code 45 = .ok (.iload_n 2, 1) := by decide +kernel
theorem d_Mo_putInOrder_46 : decode prog_13_method_13_code 46 = .ok (.iload_n 1, 1) := by decide +kernel
theorem d_Mo_putInOrder_47 : decode prog_13_method_13_code 47 = .ok (.iadd, 1) := by decide +kernel
theorem d_Mo_putInOrder_48 : decode prog_13_method_13_code 48 = .ok (.aload_n 0, 1) := by decide +kernel
theorem d_Mo_putInOrder_49 : decode prog_13_method_13_code 49 = .ok (.getfield 87, 3) := by decide +kernel
theorem d_Mo_putInOrder_52 : decode prog_13_method_13_code 52 = .ok (.if_icmp .ge 9, 3) := by decide +kernel
theorem d_Mo_putInOrder_55 : decode prog_13_method_13_code 55 = .ok (.iload_n 2, 1) := by decide +kernel
theorem d_Mo_putInOrder_56 : decode prog_13_method_13_code 56 = .ok (.iload_n 1, 1) := by decide +kernel
theorem d_Mo_putInOrder_57 : decode prog_13_method_13_code 57 = .ok (.iadd, 1) := by decide +kernel
theorem d_Mo_putInOrder_58 : decode prog_13_method_13_code 58 = .ok (.goto 7, 3) := by decide +kernel
theorem d_Mo_putInOrder_61 : decode prog_13_method_13_code 61 = .ok (.aload_n 0, 1) := by decide +kernel
theorem d_Mo_putInOrder_62 : decode prog_13_method_13_code 62 = .ok (.getfield 87, 3) := by decide +kernel
theorem d_Mo_putInOrder_65 : decode prog_13_method_13_code 65 = .ok (.istore 4, 2) := by decide +kernel
theorem d_Mo_putInOrder_67 : decode prog_13_method_13_code 67 = .ok (.iload 4, 2) := by decide +kernel
theorem d_Mo_putInOrder_69 : decode prog_13_method_13_code 69 = .ok (.istore 5, 2) := by decide +kernel
theorem d_Mo_putInOrder_71 : decode prog_13_method_13_code 71 = .ok (.iload 4, 2) := by decide +kernel
theorem d_Mo_putInOrder_73 : decode prog_13_method_13_code 73 = .ok (.iload_n 1, 1) := by decide +kernel
theorem d_Mo_putInOrder_74 : decode prog_13_method_13_code 74 = .ok (.iadd, 1) := by decide +kernel
theorem d_Mo_putInOrder_75 : decode prog_13_method_13_code 75 = .ok (.aload_n 0, 1) := by decide +kernel
theorem d_Mo_putInOrder_76 : decode prog_13_method_13_code 76 = .ok (.getfield 87, 3) := by decide +kernel
theorem d_Mo_putInOrder_79 : decode prog_13_method_13_code 79 = .ok (.if_icmp .ge 10, 3) := by decide +kernel
theorem d_Mo_putInOrder_82 : decode prog_13_method_13_code 82 = .ok (.iload 4, 2) := by decide +kernel
theorem d_Mo_putInOrder_84 : decode prog_13_method_13_code 84 = .ok (.iload_n 1, 1) := by decide +kernel
theorem d_Mo_putInOrder_85 : decode prog_13_method_13_code 85 = .ok (.iadd, 1) := by decide +kernel
theorem d_Mo_putInOrder_86 : decode prog_13_method_13_code 86 = .ok (.goto 7, 3) := by decide +kernel
theorem d_Mo_putInOrder_89 : decode prog_13_method_13_code 89 = .ok (.aload_n 0, 1) := by decide +kernel
theorem d_Mo_putInOrder_90 : decode prog_13_method_13_code 90 = .ok (.getfield 87, 3) := by decide +kernel
theorem d_Mo_putInOrder_93 : decode prog_13_method_13_code 93 = .ok (.istore 6, 2) := by decide +kernel
theorem d_Mo_putInOrder_95 : decode prog_13_method_13_code 95 = .ok (.iload_n 2, 1) := by decide +kernel
theorem d_Mo_putInOrder_96 : decode prog_13_method_13_code 96 = .ok (.istore 7, 2) := by decide +kernel
theorem d_Mo_putInOrder_98 : decode prog_13_method_13_code 98 = .ok (.iload 7, 2) := by decide +kernel
theorem d_Mo_putInOrder_100 : decode prog_13_method_13_code 100 = .ok (.iload 6, 2) := by decide +kernel
theorem d_Mo_putInOrder_102 : decode prog_13_method_13_code 102 = .ok (.if_icmp .ge 83, 3) := by decide +kernel
theorem d_Mo_putInOrder_105 : decode prog_13_method_13_code 105 = .ok (.iload_n 3, 1) := by decide +kernel
theorem d_Mo_putInOrder_106 : decode prog_13_method_13_code 106 = .ok (.iload 4, 2) := by decide +kernel
theorem d_Mo_putInOrder_108 : decode prog_13_method_13_code 108 = .ok (.if_icmp .ge 34, 3) := by decide +kernel
theorem d_Mo_putInOrder_111 : decode prog_13_method_13_code 111 = .ok (.iload 5, 2) := by decide +kernel
theorem d_Mo_putInOrder_113 : decode prog_13_method_13_code 113 = .ok (.iload 6, 2) := by decide +kernel
theorem d_Mo_putInOrder_115 : decode prog_13_method_13_code 115 = .ok (.if_icmp .ge 23, 3) := by decide +kernel
theorem d_Mo_putInOrder_118 : decode prog_13_method_13_code 118 = .ok (.aload_n 0, 1) := by decide +kernel
theorem d_Mo_putInOrder_119 : decode prog_13_method_13_code 119 = .ok (.aload_n 0, 1) := by decide +kernel
theorem d_Mo_putInOrder_120 : decode prog_13_method_13_code 120 = .ok (.getfield 16, 3) := by decide +kernel
theorem d_Mo_putInOrder_123 : decode prog_13_method_13_code 123 = .ok (.iload_n 3, 1) := by decide +kernel
theorem d_Mo_putInOrder_124 : decode prog_13_method_13_code 124 = .ok (.iaload, 1) := by decide +kernel
theorem d_Mo_putInOrder_125 : decode prog_13_method_13_code 125 = .ok (.aload_n 0, 1) := by decide +kernel
theorem d_Mo_putInOrder_126 : decode prog_13_method_13_code 126 = .ok (.getfield 16, 3) := by decide +kernel
theorem d_Mo_putInOrder_129 : decode prog_13_method_13_code 129 = .ok (.iload 5, 2) := by decide +kernel
theorem d_Mo_putInOrder_131 : decode prog_13_method_13_code 131 = .ok (.iaload, 1) := by decide +kernel
theorem d_Mo_putInOrder_132 : decode prog_13_method_13_code 132 = .ok (.invokevirtual 97, 3) := by decide +kernel
theorem d_Mo_putInOrder_135 : decode prog_13_method_13_code 135 = .ok (.ifCond .ne 7, 3) := by decide +kernel
theorem d_Mo_putInOrder_138 : decode prog_13_method_13_code 138 = .ok (.iconst 1, 1) := by decide +kernel
theorem d_Mo_putInOrder_139 : decode prog_13_method_13_code 139 = .ok (.goto 4, 3) := by decide +kernel
theorem d_Mo_putInOrder_142 : decode prog_13_method_13_code 142 = .ok (.iconst 0, 1) := by decide +kernel
theorem d_Mo_putInOrder_143 : decode prog_13_method_13_code 143 = .ok (.istore 8, 2) := by decide +kernel
theorem d_Mo_putInOrder_145 : decode prog_13_method_13_code 145 = .ok (.aload_n 0, 1) := by decide +kernel
theorem d_Mo_putInOrder_146 : decode prog_13_method_13_code 146 = .ok (.getfield 19, 3) := by decide +kernel
theorem d_Mo_putInOrder_149 : decode prog_13_method_13_code 149 = .ok (.iload 7, 2) := by decide +kernel
theorem d_Mo_putInOrder_151 : decode prog_13_method_13_code 151 = .ok (.iload 8, 2) := by decide +kernel
theorem d_Mo_putInOrder_153 : decode prog_13_method_13_code 153 = .ok (.ifCond .eq 15, 3) := by decide +kernel
theorem d_Mo_putInOrder_156 : decode prog_13_method_13_code 156 = .ok (.aload_n 0, 1) := by decide +kernel
theorem d_Mo_putInOrder_157 : decode prog_13_method_13_code 157 = .ok (.getfield 16, 3) := by decide +kernel
theorem d_Mo_putInOrder_160 : decode prog_13_method_13_code 160 = .ok (.iload_n 3, 1) := by decide +kernel
theorem d_Mo_putInOrder_161 : decode prog_13_method_13_code 161 = .ok (.iinc 3 1, 3) := by decide +kernel
theorem d_Mo_putInOrder_164 : decode prog_13_method_13_code 164 = .ok (.iaload, 1) := by decide +kernel
theorem d_Mo_putInOrder_165 : decode prog_13_method_13_code 165 = .ok (.goto 13, 3) := by decide +kernel
theorem d_Mo_putInOrder_168 : decode prog_13_method_13_code 168 = .ok (.aload_n 0, 1) := by decide +kernel
theorem d_Mo_putInOrder_169 : decode prog_13_method_13_code 169 = .ok (.getfield 16, 3) := by decide +kernel
theorem d_Mo_putInOrder_172 : decode prog_13_method_13_code 172 = .ok (.iload 5, 2) := by decide +kernel
theorem d_Mo_putInOrder_174 : decode prog_13_method_13_code 174 = .ok (.iinc 5 1, 3) := by decide +kernel
theorem d_Mo_putInOrder_177 : decode prog_13_method_13_code 177 = .ok (.iaload, 1) := by decide +kernel
theorem d_Mo_putInOrder_178 : decode prog_13_method_13_code 178 = .ok (.iastore, 1) := by decide +kernel
theorem d_Mo_putInOrder_179 : decode prog_13_method_13_code 179 = .ok (.iinc 7 1, 3) := by decide +kernel
theorem d_Mo_putInOrder_182 : decode prog_13_method_13_code 182 = .ok (.goto (-84), 3) := by decide +kernel
theorem d_Mo_putInOrder_185 : decode prog_13_method_13_code 185 = .ok (.iload_n 2, 1) := by decide +kernel
theorem d_Mo_putInOrder_186 : decode prog_13_method_13_code 186 = .ok (.iconst 2, 1) := by decide +kernel
theorem d_Mo_putInOrder_187 : decode prog_13_method_13_code 187 = .ok (.iload_n 1, 1) := by decide +kernel
theorem d_Mo_putInOrder_188 : decode prog_13_method_13_code 188 = .ok (.imul, 1) := by decide +kernel
theorem d_Mo_putInOrder_189 : decode prog_13_method_13_code 189 = .ok (.iadd, 1) := by decide +kernel
theorem d_Mo_putInOrder_190 : decode prog_13_method_13_code 190 = .ok (.istore_n 2, 1) := by decide +kernel
theorem d_Mo_putInOrder_191 : decode prog_13_method_13_code 191 = .ok (.goto (-156), 3) := by decide +kernel
theorem d_Mo_putInOrder_194 : decode prog_13_method_13_code 194 = .ok (.iconst 0, 1) := by decide +kernel
theorem d_Mo_putInOrder_195 : decode prog_13_method_13_code 195 = .ok (.istore_n 2, 1) := by decide +kernel
theorem d_Mo_putInOrder_196 : decode prog_13_method_13_code 196 = .ok (.iload_n 2, 1) := by decide +kernel
theorem d_Mo_putInOrder_197 : decode prog_13_method_13_code 197 = .ok (.aload_n 0, 1) := by decide +kernel
theorem d_Mo_putInOrder_198 : decode prog_13_method_13_code 198 = .ok (.getfield 87, 3) := by decide +kernel
theorem d_Mo_putInOrder_201 : decode prog_13_method_13_code 201 = .ok (.if_icmp .ge 21, 3) := by decide +kernel
theorem d_Mo_putInOrder_204 : decode prog_13_method_13_code 204 = .ok (.aload_n 0, 1) := by decide +kernel
theorem d_Mo_putInOrder_205 : decode prog_13_method_13_code 205 = .ok (.getfield 16, 3) := by decide +kernel
theorem d_Mo_putInOrder_208 : decode prog_13_method_13_code 208 = .ok (.iload_n 2, 1) := by decide +kernel
theorem d_Mo_putInOrder_209 : decode prog_13_method_13_code 209 = .ok (.aload_n 0, 1) := by decide +kernel
theorem d_Mo_putInOrder_210 : decode prog_13_method_13_code 210 = .ok (.getfield 19, 3) := by decide +kernel
theorem d_Mo_putInOrder_213 : decode prog_13_method_13_code 213 = .ok (.iload_n 2, 1) := by decide +kernel
theorem d_Mo_putInOrder_214 : decode prog_13_method_13_code 214 = .ok (.iaload, 1) := by decide +kernel
theorem d_Mo_putInOrder_215 : decode prog_13_method_13_code 215 = .ok (.iastore, 1) := by decide +kernel
theorem d_Mo_putInOrder_216 : decode prog_13_method_13_code 216 = .ok (.iinc 2 1, 3) := by decide +kernel
theorem d_Mo_putInOrder_219 : decode prog_13_method_13_code 219 = .ok (.goto (-23), 3) := by decide +kernel
theorem d_Mo_putInOrder_222 : decode prog_13_method_13_code 222 = .ok (.iload_n 1, 1) := by decide +kernel
theorem d_Mo_putInOrder_223 : decode prog_13_method_13_code 223 = .ok (.iconst 2, 1) := by decide +kernel
theorem d_Mo_putInOrder_224 : decode prog_13_method_13_code 224 = .ok (.imul, 1) := by decide +kernel
theorem d_Mo_putInOrder_225 : decode prog_13_method_13_code 225 = .ok (.istore_n 1, 1) := by decide +kernel
theorem d_Mo_putInOrder_226 : decode prog_13_method_13_code 226 = .ok (.goto (-201), 3) := by decide +kernel
theorem d_Mo_putInOrder_229 : decode prog_13_method_13_code 229 = .ok (.return_, 1) := by decide +kernel
theorem d_Mo_lastAt_0 : decode prog_13_method_14_code 0 = .ok (.aload_n 0, 1) := by decide +kernel
theorem d_Mo_lastAt_1 : decode prog_13_method_14_code 1 = .ok (.getfield 13, 3) := by decide +kernel
theorem d_Mo_lastAt_4 : decode prog_13_method_14_code 4 = .ok (.aload_n 0, 1) := by decide +kernel
theorem d_Mo_lastAt_5 : decode prog_13_method_14_code 5 = .ok (.getfield 16, 3) := by decide +kernel
theorem d_Mo_lastAt_8 : decode prog_13_method_14_code 8 = .ok (.iload_n 1, 1) := by decide +kernel
theorem d_Mo_lastAt_9 : decode prog_13_method_14_code 9 = .ok (.iaload, 1) := by decide +kernel
theorem d_Mo_lastAt_10 : decode prog_13_method_14_code 10 = .ok (.aload_n 0, 1) := by decide +kernel
theorem d_Mo_lastAt_11 : decode prog_13_method_14_code 11 = .ok (.getfield 87, 3) := by decide +kernel
theorem d_Mo_lastAt_14 : decode prog_13_method_14_code 14 = .ok (.iadd, 1) := by decide +kernel
theorem d_Mo_lastAt_15 : decode prog_13_method_14_code 15 = .ok (.iconst 1, 1) := by decide +kernel
theorem d_Mo_lastAt_16 : decode prog_13_method_14_code 16 = .ok (.isub, 1) := by decide +kernel
theorem d_Mo_lastAt_17 : decode prog_13_method_14_code 17 = .ok (.aload_n 0, 1) := by decide +kernel
theorem d_Mo_lastAt_18 : decode prog_13_method_14_code 18 = .ok (.getfield 87, 3) := by decide +kernel
theorem d_Mo_lastAt_21 : decode prog_13_method_14_code 21 = .ok (.irem, 1) := by decide +kernel
theorem d_Mo_lastAt_22 : decode prog_13_method_14_code 22 = .ok (.iaload, 1) := by decide +kernel
theorem d_Mo_lastAt_23 : decode prog_13_method_14_code 23 = .ok (.ireturn, 1) := by decide +kernel
theorem d_Mo_originOf_0 : decode prog_13_method_15_code 0 = .ok (.iconst 0, 1) := by decide +kernel
theorem d_Mo_originOf_1 : decode prog_13_method_15_code 1 = .ok (.istore_n 1, 1) := by decide +kernel
theorem d_Mo_originOf_2 : decode prog_13_method_15_code 2 = .ok (.iload_n 1, 1) := by decide +kernel
theorem d_Mo_originOf_3 : decode prog_13_method_15_code 3 = .ok (.aload_n 0, 1) := by decide +kernel
theorem d_Mo_originOf_4 : decode prog_13_method_15_code 4 = .ok (.getfield 87, 3) := by decide +kernel
theorem d_Mo_originOf_7 : decode prog_13_method_15_code 7 = .ok (.if_icmp .ge 20, 3) := by decide +kernel
theorem d_Mo_originOf_10 : decode prog_13_method_15_code 10 = .ok (.aload_n 0, 1) := by decide +kernel
theorem d_Mo_originOf_11 : decode prog_13_method_15_code 11 = .ok (.getfield 16, 3) := by decide +kernel
theorem d_Mo_originOf_14 : decode prog_13_method_15_code 14 = .ok (.iload_n 1, 1) := by decide +kernel
theorem d_Mo_originOf_15 : decode prog_13_method_15_code 15 = .ok (.iaload, 1) := by decide +kernel
theorem d_Mo_originOf_16 : decode prog_13_method_15_code 16 = .ok (.ifCond .ne 5, 3) := by decide +kernel
theorem d_Mo_originOf_19 : decode prog_13_method_15_code 19 = .ok (.iload_n 1, 1) := by decide +kernel
theorem d_Mo_originOf_20 : decode prog_13_method_15_code 20 = .ok (.ireturn, 1) := by decide +kernel
theorem d_Mo_originOf_21 : decode prog_13_method_15_code 21 = .ok (.iinc 1 1, 3) := by decide +kernel
theorem d_Mo_originOf_24 : decode prog_13_method_15_code 24 = .ok (.goto (-22), 3) := by decide +kernel
theorem d_Mo_originOf_27 : decode prog_13_method_15_code 27 = .ok (.bipush (-2), 2) := by decide +kernel
theorem d_Mo_originOf_29 : decode prog_13_method_15_code 29 = .ok (.ireturn, 1) := by decide +kernel
theorem d_Mo_lay_0 : decode prog_13_method_16_code 0 = .ok (.aload_n 0, 1) := by decide +kernel
theorem d_Mo_lay_1 : decode prog_13_method_16_code 1 = .ok (.getfield 81, 3) := by decide +kernel
theorem d_Mo_lay_4 : decode prog_13_method_16_code 4 = .ok (.ifCond .eq 4, 3) := by decide +kernel
theorem d_Mo_lay_7 : decode prog_13_method_16_code 7 = .ok (.return_, 1) := by decide +kernel
theorem d_Mo_lay_8 : decode prog_13_method_16_code 8 = .ok (.aload_n 0, 1) := by decide +kernel
theorem d_Mo_lay_9 : decode prog_13_method_16_code 9 = .ok (.invokevirtual 101, 3) := by decide +kernel
theorem d_Mo_lay_12 : decode prog_13_method_16_code 12 = .ok (.aload_n 0, 1) := by decide +kernel
theorem d_Mo_lay_13 : decode prog_13_method_16_code 13 = .ok (.invokevirtual 104, 3) := by decide +kernel
theorem d_Mo_lay_16 : decode prog_13_method_16_code 16 = .ok (.aload_n 0, 1) := by decide +kernel
theorem d_Mo_lay_17 : decode prog_13_method_16_code 17 = .ok (.aload_n 0, 1) := by decide +kernel
theorem d_Mo_lay_18 : decode prog_13_method_16_code 18 = .ok (.invokevirtual 107, 3) := by decide +kernel
theorem d_Mo_lay_21 : decode prog_13_method_16_code 21 = .ok (.putfield 111, 3) := by decide +kernel
theorem d_Mo_lay_24 : decode prog_13_method_16_code 24 = .ok (.iconst 0, 1) := by decide +kernel
theorem d_Mo_lay_25 : decode prog_13_method_16_code 25 = .ok (.istore_n 1, 1) := by decide +kernel
theorem d_Mo_lay_26 : decode prog_13_method_16_code 26 = .ok (.iconst 0, 1) := by decide +kernel
theorem d_Mo_lay_27 : decode prog_13_method_16_code 27 = .ok (.istore_n 2, 1) := by decide +kernel
theorem d_Mo_lay_28 : decode prog_13_method_16_code 28 = .ok (.iload_n 2, 1) := by decide +kernel
theorem d_Mo_lay_29 : decode prog_13_method_16_code 29 = .ok (.aload_n 0, 1) := by decide +kernel
theorem d_Mo_lay_30 : decode prog_13_method_16_code 30 = .ok (.getfield 87, 3) := by decide +kernel
theorem d_Mo_lay_33 : decode prog_13_method_16_code 33 = .ok (.if_icmp .ge 70, 3) := by decide +kernel
theorem d_Mo_lay_36 : decode prog_13_method_16_code 36 = .ok (.aload_n 0, 1) := by decide +kernel
theorem d_Mo_lay_37 : decode prog_13_method_16_code 37 = .ok (.getfield 22, 3) := by decide +kernel
theorem d_Mo_lay_40 : decode prog_13_method_16_code 40 = .ok (.iload_n 2, 1) := by decide +kernel
theorem d_Mo_lay_41 : decode prog_13_method_16_code 41 = .ok (.aload_n 0, 1) := by decide +kernel
theorem d_Mo_lay_42 : decode prog_13_method_16_code 42 = .ok (.getfield 16, 3) := by decide +kernel
theorem d_Mo_lay_45 : decode prog_13_method_16_code 45 = .ok (.iload_n 2, 1) := by decide +kernel
theorem d_Mo_lay_46 : decode prog_13_method_16_code 46 = .ok (.iaload, 1) := by decide +kernel
theorem d_Mo_lay_47 : decode prog_13_method_16_code 47 = .ok (.iastore, 1) := by decide +kernel
theorem d_Mo_lay_48 : decode prog_13_method_16_code 48 = .ok (.iload_n 2, 1) := by decide +kernel
theorem d_Mo_lay_49 : decode prog_13_method_16_code 49 = .ok (.ifCond .ne 10, 3) := by decide +kernel
theorem d_Mo_lay_52 : decode prog_13_method_16_code 52 = .ok (.aload_n 0, 1) := by decide +kernel
theorem d_Mo_lay_53 : decode prog_13_method_16_code 53 = .ok (.getfield 87, 3) := by decide +kernel
theorem d_Mo_lay_56 : decode prog_13_method_16_code 56 = .ok (.goto 21, 3) := by decide +kernel
theorem d_Mo_lay_59 : decode prog_13_method_16_code 59 = .ok (.aload_n 0, 1) := by decide +kernel
theorem d_Mo_lay_60 : decode prog_13_method_16_code 60 = .ok (.aload_n 0, 1) := by decide +kernel
theorem d_Mo_lay_61 : decode prog_13_method_16_code 61 = .ok (.getfield 16, 3) := by decide +kernel
theorem d_Mo_lay_64 : decode prog_13_method_16_code 64 = .ok (.iload_n 2, 1) := by decide +kernel
theorem d_Mo_lay_65 : decode prog_13_method_16_code 65 = .ok (.iconst 1, 1) := by decide +kernel
theorem d_Mo_lay_66 : decode prog_13_method_16_code 66 = .ok (.isub, 1) := by decide +kernel
theorem d_Mo_lay_67 : decode prog_13_method_16_code 67 = .ok (.iaload, 1) := by decide +kernel
theorem d_Mo_lay_68 : decode prog_13_method_16_code 68 = .ok (.aload_n 0, 1) := by decide +kernel
theorem d_Mo_lay_69 : decode prog_13_method_16_code 69 = .ok (.getfield 16, 3) := by decide +kernel
theorem d_Mo_lay_72 : decode prog_13_method_16_code 72 = .ok (.iload_n 2, 1) := by decide +kernel
theorem d_Mo_lay_73 : decode prog_13_method_16_code 73 = .ok (.iaload, 1) := by decide +kernel
theorem d_Mo_lay_74 : decode prog_13_method_16_code 74 = .ok (.invokevirtual 93, 3) := by decide +kernel
theorem d_Mo_lay_77 : decode prog_13_method_16_code 77 = .ok (.istore_n 3, 1) := by decide +kernel
theorem d_Mo_lay_78 : decode prog_13_method_16_code 78 = .ok (.iload_n 3, 1) := by decide +kernel
theorem d_Mo_lay_79 : decode prog_13_method_16_code 79 = .ok (.aload_n 0, 1) := by decide +kernel
theorem d_Mo_lay_80 : decode prog_13_method_16_code 80 = .ok (.getfield 87, 3) := by decide +kernel
theorem d_Mo_lay_83 : decode prog_13_method_16_code 83 = .ok (.if_icmp .ge 14, 3) := by decide +kernel
theorem d_Mo_lay_86 : decode prog_13_method_16_code 86 = .ok (.iload_n 3, 1) := by decide +kernel
theorem d_Mo_lay_87 : decode prog_13_method_16_code 87 = .ok (.iconst 1, 1) := by decide +kernel
theorem d_Mo_lay_88 : decode prog_13_method_16_code 88 = .ok (.iadd, 1) := by decide +kernel
theorem d_Mo_lay_89 : decode prog_13_method_16_code 89 = .ok (.iload_n 1, 1) := by decide +kernel
theorem d_Mo_lay_90 : decode prog_13_method_16_code 90 = .ok (.if_icmp .le 7, 3) := by decide +kernel
theorem d_Mo_lay_93 : decode prog_13_method_16_code 93 = .ok (.iload_n 3, 1) := by decide +kernel
theorem d_Mo_lay_94 : decode prog_13_method_16_code 94 = .ok (.iconst 1, 1) := by decide +kernel
theorem d_Mo_lay_95 : decode prog_13_method_16_code 95 = .ok (.iadd, 1) := by decide +kernel
theorem d_Mo_lay_96 : decode prog_13_method_16_code 96 = .ok (.istore_n 1, 1) := by decide +kernel
theorem d_Mo_lay_97 : decode prog_13_method_16_code 97 = .ok (.iinc 2 1, 3) := by decide +kernel
theorem d_Mo_lay_100 : decode prog_13_method_16_code 100 = .ok (.goto (-72), 3) := by decide +kernel
theorem d_Mo_lay_103 : decode prog_13_method_16_code 103 = .ok (.aload_n 0, 1) := by decide +kernel
theorem d_Mo_lay_104 : decode prog_13_method_16_code 104 = .ok (.iconst 0, 1) := by decide +kernel
theorem d_Mo_lay_105 : decode prog_13_method_16_code 105 = .ok (.putfield 114, 3) := by decide +kernel
theorem d_Mo_lay_108 : decode prog_13_method_16_code 108 = .ok (.iconst 1, 1) := by decide +kernel
theorem d_Mo_lay_109 : decode prog_13_method_16_code 109 = .ok (.aload_n 0, 1) := by decide +kernel
theorem d_Mo_lay_110 : decode prog_13_method_16_code 110 = .ok (.getfield 114, 3) := by decide +kernel
theorem d_Mo_lay_113 : decode prog_13_method_16_code 113 = .ok (.ishl, 1) := by decide +kernel
theorem d_Mo_lay_114 : decode prog_13_method_16_code 114 = .ok (.iload_n 1, 1) := by decide +kernel
theorem d_Mo_lay_115 : decode prog_13_method_16_code 115 = .ok (.if_icmp .ge 16, 3) := by decide +kernel
theorem d_Mo_lay_118 : decode prog_13_method_16_code 118 = .ok (.aload_n 0, 1) := by decide +kernel
theorem d_Mo_lay_119 : decode prog_13_method_16_code 119 = .ok (.dup, 1) := by decide +kernel
theorem d_Mo_lay_120 : decode prog_13_method_16_code 120 = .ok (.getfield 114, 3) := by decide +kernel
theorem d_Mo_lay_123 : decode prog_13_method_16_code 123 = .ok (.iconst 1, 1) := by decide +kernel
theorem d_Mo_lay_124 : decode prog_13_method_16_code 124 = .ok (.iadd, 1) := by decide +kernel
theorem d_Mo_lay_125 : decode prog_13_method_16_code 125 = .ok (.putfield 114, 3) := by decide +kernel
theorem d_Mo_lay_128 : decode prog_13_method_16_code 128 = .ok (.goto (-20), 3) := by decide +kernel
theorem d_Mo_lay_131 : decode prog_13_method_16_code 131 = .ok (.aload_n 0, 1) := by decide +kernel
theorem d_Mo_lay_132 : decode prog_13_method_16_code 132 = .ok (.iconst 1, 1) := by decide +kernel
theorem d_Mo_lay_133 : decode prog_13_method_16_code 133 = .ok (.putfield 81, 3) := by decide +kernel
theorem d_Mo_lay_136 : decode prog_13_method_16_code 136 = .ok (.return_, 1) := by decide +kernel
theorem d_Mo_order_0 : decode prog_13_method_17_code 0 = .ok (.aload_n 0, 1) := by decide +kernel
theorem d_Mo_order_1 : decode prog_13_method_17_code 1 = .ok (.invokevirtual 117, 3) := by decide +kernel
theorem d_Mo_order_4 : decode prog_13_method_17_code 4 = .ok (.iload_n 1, 1) := by decide +kernel
theorem d_Mo_order_5 : decode prog_13_method_17_code 5 = .ok (.i2l, 1) := by decide +kernel
theorem d_Mo_order_6 : decode prog_13_method_17_code 6 = .ok (.lconst 0, 1) := by decide +kernel
theorem d_Mo_order_7 : decode prog_13_method_17_code 7 = .ok (.aload_n 0, 1) := by decide +kernel
theorem d_Mo_order_8 : decode prog_13_method_17_code 8 = .ok (.getfield 76, 3) := by decide +kernel
theorem d_Mo_order_11 : decode prog_13_method_17_code 11 = .ok (.iconst 1, 1) := by decide +kernel
theorem d_Mo_order_12 : decode prog_13_method_17_code 12 = .ok (.isub, 1) := by decide +kernel
theorem d_Mo_order_13 : decode prog_13_method_17_code 13 = .ok (.i2l, 1) := by decide +kernel
theorem d_Mo_order_14 : decode prog_13_method_17_code 14 = .ok (.invokestatic 72, 3) := by decide +kernel
theorem d_Mo_order_17 : decode prog_13_method_17_code 17 = .ok (.ifCond .eq 12, 3) := by decide +kernel
theorem d_Mo_order_20 : decode prog_13_method_17_code 20 = .ok (.aload_n 0, 1) := by decide +kernel
theorem d_Mo_order_21 : decode prog_13_method_17_code 21 = .ok (.getfield 22, 3) := by decide +kernel
theorem d_Mo_order_24 : decode prog_13_method_17_code 24 = .ok (.iload_n 1, 1) := by decide +kernel
theorem d_Mo_order_25 : decode prog_13_method_17_code 25 = .ok (.iaload, 1) := by decide +kernel
theorem d_Mo_order_26 : decode prog_13_method_17_code 26 = .ok (.goto 5, 3) := by decide +kernel
theorem d_Mo_order_29 : decode prog_13_method_17_code 29 = .ok (.bipush (-2), 2) := by decide +kernel
theorem d_Mo_order_31 : decode prog_13_method_17_code 31 = .ok (.ireturn, 1) := by decide +kernel
theorem d_Mo_last_0 : decode prog_13_method_18_code 0 = .ok (.aload_n 0, 1) := by decide +kernel
theorem d_Mo_last_1 : decode prog_13_method_18_code 1 = .ok (.invokevirtual 117, 3) := by decide +kernel
theorem d_Mo_last_4 : decode prog_13_method_18_code 4 = .ok (.iload_n 1, 1) := by decide +kernel
theorem d_Mo_last_5 : decode prog_13_method_18_code 5 = .ok (.i2l, 1) := by decide +kernel
theorem d_Mo_last_6 : decode prog_13_method_18_code 6 = .ok (.lconst 0, 1) := by decide +kernel
theorem d_Mo_last_7 : decode prog_13_method_18_code 7 = .ok (.aload_n 0, 1) := by decide +kernel
theorem d_Mo_last_8 : decode prog_13_method_18_code 8 = .ok (.getfield 76, 3) := by decide +kernel
theorem d_Mo_last_11 : decode prog_13_method_18_code 11 = .ok (.iconst 1, 1) := by decide +kernel
theorem d_Mo_last_12 : decode prog_13_method_18_code 12 = .ok (.isub, 1) := by decide +kernel
theorem d_Mo_last_13 : decode prog_13_method_18_code 13 = .ok (.i2l, 1) := by decide +kernel
theorem d_Mo_last_14 : decode prog_13_method_18_code 14 = .ok (.invokestatic 72, 3) := by decide +kernel
theorem d_Mo_last_17 : decode prog_13_method_18_code 17 = .ok (.ifCond .eq 29, 3) := by decide +kernel
theorem d_Mo_last_20 : decode prog_13_method_18_code 20 = .ok (.aload_n 0, 1) := by decide +kernel
theorem d_Mo_last_21 : decode prog_13_method_18_code 21 = .ok (.getfield 7, 3) := by decide +kernel
theorem d_Mo_last_24 : decode prog_13_method_18_code 24 = .ok (.aload_n 0, 1) := by decide +kernel
theorem d_Mo_last_25 : decode prog_13_method_18_code 25 = .ok (.getfield 22, 3) := by decide +kernel
theorem d_Mo_last_28 : decode prog_13_method_18_code 28 = .ok (.iload_n 1, 1) := by decide +kernel
theorem d_Mo_last_29 : decode prog_13_method_18_code 29 = .ok (.iaload, 1) := by decide +kernel
theorem d_Mo_last_30 : decode prog_13_method_18_code 30 = .ok (.aload_n 0, 1) := by decide +kernel
theorem d_Mo_last_31 : decode prog_13_method_18_code 31 = .ok (.getfield 76, 3) := by decide +kernel
theorem d_Mo_last_34 : decode prog_13_method_18_code 34 = .ok (.iadd, 1) := by decide +kernel
theorem d_Mo_last_35 : decode prog_13_method_18_code 35 = .ok (.iconst 1, 1) := by decide +kernel
theorem d_Mo_last_36 : decode prog_13_method_18_code 36 = .ok (.isub, 1) := by decide +kernel
theorem d_Mo_last_37 : decode prog_13_method_18_code 37 = .ok (.aload_n 0, 1) := by decide +kernel
theorem d_Mo_last_38 : decode prog_13_method_18_code 38 = .ok (.getfield 76, 3) := by decide +kernel
theorem d_Mo_last_41 : decode prog_13_method_18_code 41 = .ok (.irem, 1) := by decide +kernel
theorem d_Mo_last_42 : decode prog_13_method_18_code 42 = .ok (.iaload, 1) := by decide +kernel
theorem d_Mo_last_43 : decode prog_13_method_18_code 43 = .ok (.goto 5, 3) := by decide +kernel
theorem d_Mo_last_46 : decode prog_13_method_18_code 46 = .ok (.bipush (-2), 2) := by decide +kernel
theorem d_Mo_last_48 : decode prog_13_method_18_code 48 = .ok (.ireturn, 1) := by decide +kernel
theorem d_Mo_origin_0 : decode prog_13_method_19_code 0 = .ok (.aload_n 0, 1) := by decide +kernel
theorem d_Mo_origin_1 : decode prog_13_method_19_code 1 = .ok (.invokevirtual 117, 3) := by decide +kernel
theorem d_Mo_origin_4 : decode prog_13_method_19_code 4 = .ok (.aload_n 0, 1) := by decide +kernel
theorem d_Mo_origin_5 : decode prog_13_method_19_code 5 = .ok (.getfield 76, 3) := by decide +kernel
theorem d_Mo_origin_8 : decode prog_13_method_19_code 8 = .ok (.ifCond .ne 8, 3) := by decide +kernel
theorem d_Mo_origin_11 : decode prog_13_method_19_code 11 = .ok (.bipush (-2), 2) := by decide +kernel
theorem d_Mo_origin_13 : decode prog_13_method_19_code 13 = .ok (.goto 7, 3) := by decide +kernel
theorem d_Mo_origin_16 : decode prog_13_method_19_code 16 = .ok (.aload_n 0, 1) := by decide +kernel
theorem d_Mo_origin_17 : decode prog_13_method_19_code 17 = .ok (.getfield 111, 3) := by decide +kernel
theorem d_Mo_origin_20 : decode prog_13_method_19_code 20 = .ok (.ireturn, 1) := by decide +kernel
theorem d_Mo_rounds_0 : decode prog_13_method_20_code 0 = .ok (.aload_n 0, 1) := by decide +kernel
theorem d_Mo_rounds_1 : decode prog_13_method_20_code 1 = .ok (.invokevirtual 117, 3) := by decide +kernel
theorem d_Mo_rounds_4 : decode prog_13_method_20_code 4 = .ok (.aload_n 0, 1) := by decide +kernel
theorem d_Mo_rounds_5 : decode prog_13_method_20_code 5 = .ok (.getfield 76, 3) := by decide +kernel
theorem d_Mo_rounds_8 : decode prog_13_method_20_code 8 = .ok (.ifCond .ne 8, 3) := by decide +kernel
theorem d_Mo_rounds_11 : decode prog_13_method_20_code 11 = .ok (.bipush (-2), 2) := by decide +kernel
theorem d_Mo_rounds_13 : decode prog_13_method_20_code 13 = .ok (.goto 7, 3) := by decide +kernel
theorem d_Mo_rounds_16 : decode prog_13_method_20_code 16 = .ok (.aload_n 0, 1) := by decide +kernel
theorem d_Mo_rounds_17 : decode prog_13_method_20_code 17 = .ok (.getfield 114, 3) := by decide +kernel
theorem d_Mo_rounds_20 : decode prog_13_method_20_code 20 = .ok (.ireturn, 1) := by decide +kernel
theorem d_Mo_start_0 : decode prog_13_method_21_code 0 = .ok (.iload_n 1, 1) := by decide +kernel
theorem d_Mo_start_1 : decode prog_13_method_21_code 1 = .ok (.i2l, 1) := by decide +kernel
theorem d_Mo_start_2 : decode prog_13_method_21_code 2 = .ok (.lconst 1, 1) := by decide +kernel
theorem d_Mo_start_3 : decode prog_13_method_21_code 3 = .ok (.ldc2_w 120, 3) := by decide +kernel
theorem d_Mo_start_6 : decode prog_13_method_21_code 6 = .ok (.invokestatic 72, 3) := by decide +kernel
theorem d_Mo_start_9 : decode prog_13_method_21_code 9 = .ok (.ifCond .eq 16, 3) := by decide +kernel
theorem d_Mo_start_12 : decode prog_13_method_21_code 12 = .ok (.iload_n 2, 1) := by decide +kernel
theorem d_Mo_start_13 : decode prog_13_method_21_code 13 = .ok (.i2l, 1) := by decide +kernel
theorem d_Mo_start_14 : decode prog_13_method_21_code 14 = .ok (.lconst 0, 1) := by decide +kernel
theorem d_Mo_start_15 : decode prog_13_method_21_code 15 = .ok (.iload_n 1, 1) := by decide +kernel
theorem d_Mo_start_16 : decode prog_13_method_21_code 16 = .ok (.iconst 1, 1) := by decide +kernel
theorem d_Mo_start_17 : decode prog_13_method_21_code 17 = .ok (.isub, 1) := by decide +kernel
theorem d_Mo_start_18 : decode prog_13_method_21_code 18 = .ok (.i2l, 1) := by decide +kernel
theorem d_Mo_start_19 : decode prog_13_method_21_code 19 = .ok (.invokestatic 72, 3) := by decide +kernel
theorem d_Mo_start_22 : decode prog_13_method_21_code 22 = .ok (.ifCond .ne 5, 3) := by decide +kernel
theorem d_Mo_start_25 : decode prog_13_method_21_code 25 = .ok (.iconst (-1), 1) := by decide +kernel
theorem d_Mo_start_26 : decode prog_13_method_21_code 26 = .ok (.ireturn, 1) := by decide +kernel
theorem d_Mo_start_27 : decode prog_13_method_21_code 27 = .ok (.aload_n 0, 1) := by decide +kernel
theorem d_Mo_start_28 : decode prog_13_method_21_code 28 = .ok (.getfield 76, 3) := by decide +kernel
theorem d_Mo_start_31 : decode prog_13_method_21_code 31 = .ok (.ifCond .ne 6, 3) := by decide +kernel
theorem d_Mo_start_34 : decode prog_13_method_21_code 34 = .ok (.bipush (-2), 2) := by decide +kernel
theorem d_Mo_start_36 : decode prog_13_method_21_code 36 = .ok (.ireturn, 1) := by decide +kernel
theorem d_Mo_start_37 : decode prog_13_method_21_code 37 = .ok (.aload_n 0, 1) := by decide +kernel
theorem d_Mo_start_38 : decode prog_13_method_21_code 38 = .ok (.invokevirtual 117, 3) := by decide +kernel
theorem d_Mo_start_41 : decode prog_13_method_21_code 41 = .ok (.iload_n 2, 1) := by decide +kernel
theorem d_Mo_start_42 : decode prog_13_method_21_code 42 = .ok (.aload_n 0, 1) := by decide +kernel
theorem d_Mo_start_43 : decode prog_13_method_21_code 43 = .ok (.getfield 76, 3) := by decide +kernel
theorem d_Mo_start_46 : decode prog_13_method_21_code 46 = .ok (.imul, 1) := by decide +kernel
theorem d_Mo_start_47 : decode prog_13_method_21_code 47 = .ok (.iload_n 1, 1) := by decide +kernel
theorem d_Mo_start_48 : decode prog_13_method_21_code 48 = .ok (.idiv, 1) := by decide +kernel
theorem d_Mo_start_49 : decode prog_13_method_21_code 49 = .ok (.istore_n 3, 1) := by decide +kernel
theorem d_Mo_start_50 : decode prog_13_method_21_code 50 = .ok (.iconst 0, 1) := by decide +kernel
theorem d_Mo_start_51 : decode prog_13_method_21_code 51 = .ok (.istore 4, 2) := by decide +kernel
theorem d_Mo_start_53 : decode prog_13_method_21_code 53 = .ok (.iload 4, 2) := by decide +kernel
theorem d_Mo_start_55 : decode prog_13_method_21_code 55 = .ok (.aload_n 0, 1) := by decide +kernel
theorem d_Mo_start_56 : decode prog_13_method_21_code 56 = .ok (.getfield 76, 3) := by decide +kernel
theorem d_Mo_start_59 : decode prog_13_method_21_code 59 = .ok (.if_icmp .ge 23, 3) := by decide +kernel
theorem d_Mo_start_62 : decode prog_13_method_21_code 62 = .ok (.aload_n 0, 1) := by decide +kernel
theorem d_Mo_start_63 : decode prog_13_method_21_code 63 = .ok (.getfield 22, 3) := by decide +kernel
theorem d_Mo_start_66 : decode prog_13_method_21_code 66 = .ok (.iload 4, 2) := by decide +kernel
theorem d_Mo_start_68 : decode prog_13_method_21_code 68 = .ok (.iaload, 1) := by decide +kernel
theorem d_Mo_start_69 : decode prog_13_method_21_code 69 = .ok (.iload_n 3, 1) := by decide +kernel
theorem d_Mo_start_70 : decode prog_13_method_21_code 70 = .ok (.if_icmp .ne 6, 3) := by decide +kernel
theorem d_Mo_start_73 : decode prog_13_method_21_code 73 = .ok (.iload 4, 2) := by decide +kernel
theorem d_Mo_start_75 : decode prog_13_method_21_code 75 = .ok (.ireturn, 1) := by decide +kernel
theorem d_Mo_start_76 : decode prog_13_method_21_code 76 = .ok (.iinc 4 1, 3) := by decide +kernel
theorem d_Mo_start_79 : decode prog_13_method_21_code 79 = .ok (.goto (-26), 3) := by decide +kernel
theorem d_Mo_start_82 : decode prog_13_method_21_code 82 = .ok (.bipush (-2), 2) := by decide +kernel
theorem d_Mo_start_84 : decode prog_13_method_21_code 84 = .ok (.ireturn, 1) := by decide +kernel
theorem d_Mo_steps_0 : decode prog_13_method_22_code 0 = .ok (.iload_n 3, 1) := by decide +kernel
theorem d_Mo_steps_1 : decode prog_13_method_22_code 1 = .ok (.i2l, 1) := by decide +kernel
theorem d_Mo_steps_2 : decode prog_13_method_22_code 2 = .ok (.lconst 1, 1) := by decide +kernel
theorem d_Mo_steps_3 : decode prog_13_method_22_code 3 = .ok (.ldc2_w 70, 3) := by decide +kernel
theorem d_Mo_steps_6 : decode prog_13_method_22_code 6 = .ok (.invokestatic 72, 3) := by decide +kernel
theorem d_Mo_steps_9 : decode prog_13_method_22_code 9 = .ok (.ifCond .eq 16, 3) := by decide +kernel
theorem d_Mo_steps_12 : decode prog_13_method_22_code 12 = .ok (.iload 4, 2) := by decide +kernel
theorem d_Mo_steps_14 : decode prog_13_method_22_code 14 = .ok (.i2l, 1) := by decide +kernel
theorem d_Mo_steps_15 : decode prog_13_method_22_code 15 = .ok (.lconst 0, 1) := by decide +kernel
theorem d_Mo_steps_16 : decode prog_13_method_22_code 16 = .ok (.ldc2_w 122, 3) := by decide +kernel
theorem d_Mo_steps_19 : decode prog_13_method_22_code 19 = .ok (.invokestatic 72, 3) := by decide +kernel
theorem d_Mo_steps_22 : decode prog_13_method_22_code 22 = .ok (.ifCond .ne 5, 3) := by decide +kernel
theorem d_Mo_steps_25 : decode prog_13_method_22_code 25 = .ok (.iconst (-1), 1) := by decide +kernel
theorem d_Mo_steps_26 : decode prog_13_method_22_code 26 = .ok (.ireturn, 1) := by decide +kernel
theorem d_Mo_steps_27 : decode prog_13_method_22_code 27 = .ok (.aload_n 0, 1) := by decide +kernel
theorem d_Mo_steps_28 : decode prog_13_method_22_code 28 = .ok (.invokevirtual 117, 3) := by decide +kernel
theorem d_Mo_steps_31 : decode prog_13_method_22_code 31 = .ok (.bipush (-2), 2) := by decide +kernel
theorem d_Mo_steps_33 : decode prog_13_method_22_code 33 = .ok (.istore 5, 2) := by decide +kernel
theorem d_Mo_steps_35 : decode prog_13_method_22_code 35 = .ok (.iconst 0, 1) := by decide +kernel
theorem d_Mo_steps_36 : decode prog_13_method_22_code 36 = .ok (.istore 6, 2) := by decide +kernel
theorem d_Mo_steps_38 : decode prog_13_method_22_code 38 = .ok (.iconst 0, 1) := by decide +kernel
theorem d_Mo_steps_39 : decode prog_13_method_22_code 39 = .ok (.istore 7, 2) := by decide +kernel
theorem d_Mo_steps_41 : decode prog_13_method_22_code 41 = .ok (.iload 7, 2) := by decide +kernel
theorem d_Mo_steps_43 : decode prog_13_method_22_code 43 = .ok (.aload_n 0, 1) := by decide +kernel
theorem d_Mo_steps_44 : decode prog_13_method_22_code 44 = .ok (.getfield 76, 3) := by decide +kernel
theorem d_Mo_steps_47 : decode prog_13_method_22_code 47 = .ok (.if_icmp .ge 119, 3) := by decide +kernel
theorem d_Mo_steps_50 : decode prog_13_method_22_code 50 = .ok (.iload_n 3, 1) := by decide +kernel
theorem d_Mo_steps_51 : decode prog_13_method_22_code 51 = .ok (.aload_n 0, 1) := by decide +kernel
theorem d_Mo_steps_52 : decode prog_13_method_22_code 52 = .ok (.getfield 76, 3) := by decide +kernel
theorem d_Mo_steps_55 : decode prog_13_method_22_code 55 = .ok (.if_icmp .gt 7, 3) := by decide +kernel
theorem d_Mo_steps_58 : decode prog_13_method_22_code 58 = .ok (.iconst 1, 1) := by decide +kernel
theorem d_Mo_steps_59 : decode prog_13_method_22_code 59 = .ok (.goto 4, 3) := by decide +kernel
theorem d_Mo_steps_62 : decode prog_13_method_22_code 62 = .ok (.iconst 0, 1) := by decide +kernel
theorem d_Mo_steps_63 : decode prog_13_method_22_code 63 = .ok (.istore 8, 2) := by decide +kernel
theorem d_Mo_steps_65 : decode prog_13_method_22_code 65 = .ok (.iconst 0, 1) := by decide +kernel
theorem d_Mo_steps_66 : decode prog_13_method_22_code 66 = .ok (.istore 9, 2) := by decide +kernel
theorem d_Mo_steps_68 : decode prog_13_method_22_code 68 = .ok (.iload 9, 2) := by decide +kernel
theorem d_Mo_steps_70 : decode prog_13_method_22_code 70 = .ok (.iload_n 3, 1) := by decide +kernel
theorem d_Mo_steps_71 : decode prog_13_method_22_code 71 = .ok (.if_icmp .ge 60, 3) := by decide +kernel
theorem d_Mo_steps_74 : decode prog_13_method_22_code 74 = .ok (.iload 8, 2) := by decide +kernel
theorem d_Mo_steps_76 : decode prog_13_method_22_code 76 = .ok (.ifCond .eq 55, 3) := by decide +kernel
theorem d_Mo_steps_79 : decode prog_13_method_22_code 79 = .ok (.aload_n 0, 1) := by decide +kernel
theorem d_Mo_steps_80 : decode prog_13_method_22_code 80 = .ok (.getfield 7, 3) := by decide +kernel
theorem d_Mo_steps_83 : decode prog_13_method_22_code 83 = .ok (.aload_n 0, 1) := by decide +kernel
theorem d_Mo_steps_84 : decode prog_13_method_22_code 84 = .ok (.getfield 22, 3) := by decide +kernel
theorem d_Mo_steps_87 : decode prog_13_method_22_code 87 = .ok (.iload 7, 2) := by decide +kernel
theorem d_Mo_steps_89 : decode prog_13_method_22_code 89 = .ok (.iaload, 1) := by decide +kernel
theorem d_Mo_steps_90 : decode prog_13_method_22_code 90 = .ok (.iload 9, 2) := by decide +kernel
theorem d_Mo_steps_92 : decode prog_13_method_22_code 92 = .ok (.iadd, 1) := by decide +kernel
theorem d_Mo_steps_93 : decode prog_13_method_22_code 93 = .ok (.aload_n 0, 1) := by decide +kernel
theorem d_Mo_steps_94 : decode prog_13_method_22_code 94 = .ok (.getfield 76, 3) := by decide +kernel
theorem d_Mo_steps_97 : decode prog_13_method_22_code 97 = .ok (.irem, 1) := by decide +kernel
theorem d_Mo_steps_98 : decode prog_13_method_22_code 98 = .ok (.iaload, 1) := by decide +kernel
theorem d_Mo_steps_99 : decode prog_13_method_22_code 99 = .ok (.lload_n 1, 1) := by decide +kernel
theorem d_Mo_steps_100 : decode prog_13_method_22_code 100 = .ok (.bipush 8, 2) := by decide +kernel
theorem d_Mo_steps_102 : decode prog_13_method_22_code 102 = .ok (.iload_n 3, 1) := by decide +kernel
theorem d_Mo_steps_103 : decode prog_13_method_22_code 103 = .ok (.iconst 1, 1) := by decide +kernel
theorem d_Mo_steps_104 : decode prog_13_method_22_code 104 = .ok (.isub, 1) := by decide +kernel
theorem d_Mo_steps_105 : decode prog_13_method_22_code 105 = .ok (.iload 9, 2) := by decide +kernel
theorem d_Mo_steps_107 : decode prog_13_method_22_code 107 = .ok (.isub, 1) := by decide +kernel
theorem d_Mo_steps_108 : decode prog_13_method_22_code 108 = .ok (.imul, 1) := by decide +kernel
theorem d_Mo_steps_109 : decode prog_13_method_22_code 109 = .ok (.lushr, 1) := by decide +kernel
theorem d_Mo_steps_110 : decode prog_13_method_22_code 110 = .ok (.ldc2_w 79, 3) := by decide +kernel
theorem d_Mo_steps_113 : decode prog_13_method_22_code 113 = .ok (.land, 1) := by decide +kernel
theorem d_Mo_steps_114 : decode prog_13_method_22_code 114 = .ok (.l2i, 1) := by decide +kernel
theorem d_Mo_steps_115 : decode prog_13_method_22_code 115 = .ok (.if_icmp .ne 7, 3) := by decide +kernel
theorem d_Mo_steps_118 : decode prog_13_method_22_code 118 = .ok (.iconst 1, 1) := by decide +kernel
theorem d_Mo_steps_119 : decode prog_13_method_22_code 119 = .ok (.goto 4, 3) := by decide +kernel
theorem d_Mo_steps_122 : decode prog_13_method_22_code 122 = .ok (.iconst 0, 1) := by decide +kernel
theorem d_Mo_steps_123 : decode prog_13_method_22_code 123 = .ok (.istore 8, 2) := by decide +kernel
theorem d_Mo_steps_125 : decode prog_13_method_22_code 125 = .ok (.iinc 9 1, 3) := by decide +kernel
theorem d_Mo_steps_128 : decode prog_13_method_22_code 128 = .ok (.goto (-60), 3) := by decide +kernel
theorem d_Mo_steps_131 : decode prog_13_method_22_code 131 = .ok (.iload 8, 2) := by decide +kernel
theorem d_Mo_steps_133 : decode prog_13_method_22_code 133 = .ok (.ifCond .eq 12, 3) := by decide +kernel
theorem d_Mo_steps_136 : decode prog_13_method_22_code 136 = .ok (.iload 6, 2) := by decide +kernel
theorem d_Mo_steps_138 : decode prog_13_method_22_code 138 = .ok (.ifCond .ne 7, 3) := by decide +kernel
theorem d_Mo_steps_141 : decode prog_13_method_22_code 141 = .ok (.iload 7, 2) := by decide +kernel
theorem d_Mo_steps_143 : decode prog_13_method_22_code 143 = .ok (.istore 5, 2) := by decide +kernel
theorem d_Mo_steps_145 : decode prog_13_method_22_code 145 = .ok (.iload 6, 2) := by decide +kernel
theorem d_Mo_steps_147 : decode prog_13_method_22_code 147 = .ok (.iload 8, 2) := by decide +kernel
theorem d_Mo_steps_149 : decode prog_13_method_22_code 149 = .ok (.ifCond .eq 7, 3) := by decide +kernel
theorem d_Mo_steps_152 : decode prog_13_method_22_code 152 = .ok (.iconst 1, 1) := by decide +kernel
theorem d_Mo_steps_153 : decode prog_13_method_22_code 153 = .ok (.goto 4, 3) := by decide +kernel
theorem d_Mo_steps_156 : decode prog_13_method_22_code 156 = .ok (.iconst 0, 1) := by decide +kernel
theorem d_Mo_steps_157 : decode prog_13_method_22_code 157 = .ok (.iadd, 1) := by decide +kernel
theorem d_Mo_steps_158 : decode prog_13_method_22_code 158 = .ok (.istore 6, 2) := by decide +kernel
theorem d_Mo_steps_160 : decode prog_13_method_22_code 160 = .ok (.iinc 7 1, 3) := by decide +kernel
theorem d_Mo_steps_163 : decode prog_13_method_22_code 163 = .ok (.goto (-122), 3) := by decide +kernel
theorem d_Mo_steps_166 : decode prog_13_method_22_code 166 = .ok (.iload 4, 2) := by decide +kernel
theorem d_Mo_steps_168 : decode prog_13_method_22_code 168 = .ok (.ifCond .ne 8, 3) := by decide +kernel
theorem d_Mo_steps_171 : decode prog_13_method_22_code 171 = .ok (.iload 5, 2) := by decide +kernel
theorem d_Mo_steps_173 : decode prog_13_method_22_code 173 = .ok (.goto 29, 3) := by decide +kernel
theorem d_Mo_steps_176 : decode prog_13_method_22_code 176 = .ok (.iload 4, 2) := by decide +kernel
theorem d_Mo_steps_178 : decode prog_13_method_22_code 178 = .ok (.iconst 1, 1) := by decide +kernel
theorem d_Mo_steps_179 : decode prog_13_method_22_code 179 = .ok (.if_icmp .ne 21, 3) := by decide +kernel
theorem d_Mo_steps_182 : decode prog_13_method_22_code 182 = .ok (.iload 6, 2) := by decide +kernel
theorem d_Mo_steps_184 : decode prog_13_method_22_code 184 = .ok (.ifCond .ne 8, 3) := by decide +kernel
theorem d_Mo_steps_187 : decode prog_13_method_22_code 187 = .ok (.bipush (-2), 2) := by decide +kernel
theorem d_Mo_steps_189 : decode prog_13_method_22_code 189 = .ok (.goto 13, 3) := by decide +kernel
theorem d_Mo_steps_192 : decode prog_13_method_22_code 192 = .ok (.iload 5, 2) := by decide +kernel
theorem d_Mo_steps_194 : decode prog_13_method_22_code 194 = .ok (.iload 6, 2) := by decide +kernel
theorem d_Mo_steps_196 : decode prog_13_method_22_code 196 = .ok (.iadd, 1) := by decide +kernel
theorem d_Mo_steps_197 : decode prog_13_method_22_code 197 = .ok (.goto 5, 3) := by decide +kernel
theorem d_Mo_steps_200 : decode prog_13_method_22_code 200 = .ok (.iload 6, 2) := by decide +kernel
theorem d_Mo_steps_202 : decode prog_13_method_22_code 202 = .ok (.ireturn, 1) := by decide +kernel
theorem d_Mo_nexts_0 : decode prog_13_method_23_code 0 = .ok (.iconst 0, 1) := by decide +kernel
theorem d_Mo_nexts_1 : decode prog_13_method_23_code 1 = .ok (.istore_n 1, 1) := by decide +kernel
theorem d_Mo_nexts_2 : decode prog_13_method_23_code 2 = .ok (.iconst 0, 1) := by decide +kernel
theorem d_Mo_nexts_3 : decode prog_13_method_23_code 3 = .ok (.istore_n 2, 1) := by decide +kernel
theorem d_Mo_nexts_4 : decode prog_13_method_23_code 4 = .ok (.iload_n 2, 1) := by decide +kernel
theorem d_Mo_nexts_5 : decode prog_13_method_23_code 5 = .ok (.sipush 256, 3) := by decide +kernel
theorem d_Mo_nexts_8 : decode prog_13_method_23_code 8 = .ok (.if_icmp .ge 45, 3) := by decide +kernel
theorem d_Mo_nexts_11 : decode prog_13_method_23_code 11 = .ok (.iconst 0, 1) := by decide +kernel
theorem d_Mo_nexts_12 : decode prog_13_method_23_code 12 = .ok (.istore_n 3, 1) := by decide +kernel
theorem d_Mo_nexts_13 : decode prog_13_method_23_code 13 = .ok (.iload_n 3, 1) := by decide +kernel
theorem d_Mo_nexts_14 : decode prog_13_method_23_code 14 = .ok (.aload_n 0, 1) := by decide +kernel
theorem d_Mo_nexts_15 : decode prog_13_method_23_code 15 = .ok (.getfield 87, 3) := by decide +kernel
theorem d_Mo_nexts_18 : decode prog_13_method_23_code 18 = .ok (.if_icmp .ge 29, 3) := by decide +kernel
theorem d_Mo_nexts_21 : decode prog_13_method_23_code 21 = .ok (.aload_n 0, 1) := by decide +kernel
theorem d_Mo_nexts_22 : decode prog_13_method_23_code 22 = .ok (.getfield 13, 3) := by decide +kernel
theorem d_Mo_nexts_25 : decode prog_13_method_23_code 25 = .ok (.iload_n 3, 1) := by decide +kernel
theorem d_Mo_nexts_26 : decode prog_13_method_23_code 26 = .ok (.iaload, 1) := by decide +kernel
theorem d_Mo_nexts_27 : decode prog_13_method_23_code 27 = .ok (.iload_n 2, 1) := by decide +kernel
theorem d_Mo_nexts_28 : decode prog_13_method_23_code 28 = .ok (.if_icmp .ne 13, 3) := by decide +kernel
theorem d_Mo_nexts_31 : decode prog_13_method_23_code 31 = .ok (.aload_n 0, 1) := by decide +kernel
theorem d_Mo_nexts_32 : decode prog_13_method_23_code 32 = .ok (.getfield 25, 3) := by decide +kernel
theorem d_Mo_nexts_35 : decode prog_13_method_23_code 35 = .ok (.iload_n 1, 1) := by decide +kernel
theorem d_Mo_nexts_36 : decode prog_13_method_23_code 36 = .ok (.iinc 1 1, 3) := by decide +kernel
theorem d_Mo_nexts_39 : decode prog_13_method_23_code 39 = .ok (.iload_n 3, 1) := by decide +kernel
theorem d_Mo_nexts_40 : decode prog_13_method_23_code 40 = .ok (.iastore, 1) := by decide +kernel
theorem d_Mo_nexts_41 : decode prog_13_method_23_code 41 = .ok (.iinc 3 1, 3) := by decide +kernel
theorem d_Mo_nexts_44 : decode prog_13_method_23_code 44 = .ok (.goto (-31), 3) := by decide +kernel
theorem d_Mo_nexts_47 : decode prog_13_method_23_code 47 = .ok (.iinc 2 1, 3) := by decide +kernel
theorem d_Mo_nexts_50 : decode prog_13_method_23_code 50 = .ok (.goto (-46), 3) := by decide +kernel
theorem d_Mo_nexts_53 : decode prog_13_method_23_code 53 = .ok (.return_, 1) := by decide +kernel
theorem d_Mo_givesBack_0 : decode prog_13_method_24_code 0 = .ok (.aload_n 0, 1) := by decide +kernel
theorem d_Mo_givesBack_1 : decode prog_13_method_24_code 1 = .ok (.invokevirtual 124, 3) := by decide +kernel
theorem d_Mo_givesBack_4 : decode prog_13_method_24_code 4 = .ok (.iload_n 1, 1) := by decide +kernel
theorem d_Mo_givesBack_5 : decode prog_13_method_24_code 5 = .ok (.istore_n 2, 1) := by decide +kernel
theorem d_Mo_givesBack_6 : decode prog_13_method_24_code 6 = .ok (.iconst 0, 1) := by decide +kernel
theorem d_Mo_givesBack_7 : decode prog_13_method_24_code 7 = .ok (.istore_n 3, 1) := by decide +kernel
theorem d_Mo_givesBack_8 : decode prog_13_method_24_code 8 = .ok (.iload_n 3, 1) := by decide +kernel
theorem d_Mo_givesBack_9 : decode prog_13_method_24_code 9 = .ok (.aload_n 0, 1) := by decide +kernel
theorem d_Mo_givesBack_10 : decode prog_13_method_24_code 10 = .ok (.getfield 87, 3) := by decide +kernel
theorem d_Mo_givesBack_13 : decode prog_13_method_24_code 13 = .ok (.if_icmp .ge 28, 3) := by decide +kernel
theorem d_Mo_givesBack_16 : decode prog_13_method_24_code 16 = .ok (.aload_n 0, 1) := by decide +kernel
theorem d_Mo_givesBack_17 : decode prog_13_method_24_code 17 = .ok (.getfield 25, 3) := by decide +kernel
theorem d_Mo_givesBack_20 : decode prog_13_method_24_code 20 = .ok (.iload_n 2, 1) := by decide +kernel
theorem d_Mo_givesBack_21 : decode prog_13_method_24_code 21 = .ok (.iaload, 1) := by decide +kernel
theorem d_Mo_givesBack_22 : decode prog_13_method_24_code 22 = .ok (.istore_n 2, 1) := by decide +kernel
theorem d_Mo_givesBack_23 : decode prog_13_method_24_code 23 = .ok (.aload_n 0, 1) := by decide +kernel
theorem d_Mo_givesBack_24 : decode prog_13_method_24_code 24 = .ok (.getfield 28, 3) := by decide +kernel
theorem d_Mo_givesBack_27 : decode prog_13_method_24_code 27 = .ok (.iload_n 3, 1) := by decide +kernel
theorem d_Mo_givesBack_28 : decode prog_13_method_24_code 28 = .ok (.aload_n 0, 1) := by decide +kernel
theorem d_Mo_givesBack_29 : decode prog_13_method_24_code 29 = .ok (.getfield 13, 3) := by decide +kernel
theorem d_Mo_givesBack_32 : decode prog_13_method_24_code 32 = .ok (.iload_n 2, 1) := by decide +kernel
theorem d_Mo_givesBack_33 : decode prog_13_method_24_code 33 = .ok (.iaload, 1) := by decide +kernel
theorem d_Mo_givesBack_34 : decode prog_13_method_24_code 34 = .ok (.iastore, 1) := by decide +kernel
theorem d_Mo_givesBack_35 : decode prog_13_method_24_code 35 = .ok (.iinc 3 1, 3) := by decide +kernel
theorem d_Mo_givesBack_38 : decode prog_13_method_24_code 38 = .ok (.goto (-30), 3) := by decide +kernel
theorem d_Mo_givesBack_41 : decode prog_13_method_24_code 41 = .ok (.iconst 0, 1) := by decide +kernel
theorem d_Mo_givesBack_42 : decode prog_13_method_24_code 42 = .ok (.istore_n 3, 1) := by decide +kernel
theorem d_Mo_givesBack_43 : decode prog_13_method_24_code 43 = .ok (.iload_n 3, 1) := by decide +kernel
theorem d_Mo_givesBack_44 : decode prog_13_method_24_code 44 = .ok (.aload_n 0, 1) := by decide +kernel
theorem d_Mo_givesBack_45 : decode prog_13_method_24_code 45 = .ok (.getfield 87, 3) := by decide +kernel
theorem d_Mo_givesBack_48 : decode prog_13_method_24_code 48 = .ok (.if_icmp .ge 37, 3) := by decide +kernel
theorem d_Mo_givesBack_51 : decode prog_13_method_24_code 51 = .ok (.aload_n 0, 1) := by decide +kernel
theorem d_Mo_givesBack_52 : decode prog_13_method_24_code 52 = .ok (.getfield 13, 3) := by decide +kernel
theorem d_Mo_givesBack_55 : decode prog_13_method_24_code 55 = .ok (.iload_n 3, 1) := by decide +kernel
theorem d_Mo_givesBack_56 : decode prog_13_method_24_code 56 = .ok (.iaload, 1) := by decide +kernel
theorem d_Mo_givesBack_57 : decode prog_13_method_24_code 57 = .ok (.istore 4, 2) := by decide +kernel
theorem d_Mo_givesBack_59 : decode prog_13_method_24_code 59 = .ok (.aload_n 0, 1) := by decide +kernel
theorem d_Mo_givesBack_60 : decode prog_13_method_24_code 60 = .ok (.getfield 13, 3) := by decide +kernel
theorem d_Mo_givesBack_63 : decode prog_13_method_24_code 63 = .ok (.iload_n 3, 1) := by decide +kernel
theorem d_Mo_givesBack_64 : decode prog_13_method_24_code 64 = .ok (.aload_n 0, 1) := by decide +kernel
theorem d_Mo_givesBack_65 : decode prog_13_method_24_code 65 = .ok (.getfield 28, 3) := by decide +kernel
theorem d_Mo_givesBack_68 : decode prog_13_method_24_code 68 = .ok (.iload_n 3, 1) := by decide +kernel
theorem d_Mo_givesBack_69 : decode prog_13_method_24_code 69 = .ok (.iaload, 1) := by decide +kernel
theorem d_Mo_givesBack_70 : decode prog_13_method_24_code 70 = .ok (.iastore, 1) := by decide +kernel
theorem d_Mo_givesBack_71 : decode prog_13_method_24_code 71 = .ok (.aload_n 0, 1) := by decide +kernel
theorem d_Mo_givesBack_72 : decode prog_13_method_24_code 72 = .ok (.getfield 28, 3) := by decide +kernel
theorem d_Mo_givesBack_75 : decode prog_13_method_24_code 75 = .ok (.iload_n 3, 1) := by decide +kernel
theorem d_Mo_givesBack_76 : decode prog_13_method_24_code 76 = .ok (.iload 4, 2) := by decide +kernel
theorem d_Mo_givesBack_78 : decode prog_13_method_24_code 78 = .ok (.iastore, 1) := by decide +kernel
theorem d_Mo_givesBack_79 : decode prog_13_method_24_code 79 = .ok (.iinc 3 1, 3) := by decide +kernel
theorem d_Mo_givesBack_82 : decode prog_13_method_24_code 82 = .ok (.goto (-39), 3) := by decide +kernel
theorem d_Mo_givesBack_85 : decode prog_13_method_24_code 85 = .ok (.aload_n 0, 1) := by decide +kernel
theorem d_Mo_givesBack_86 : decode prog_13_method_24_code 86 = .ok (.invokevirtual 104, 3) := by decide +kernel
theorem d_Mo_givesBack_89 : decode prog_13_method_24_code 89 = .ok (.aload_n 0, 1) := by decide +kernel
theorem d_Mo_givesBack_90 : decode prog_13_method_24_code 90 = .ok (.invokevirtual 107, 3) := by decide +kernel
theorem d_Mo_givesBack_93 : decode prog_13_method_24_code 93 = .ok (.iload_n 1, 1) := by decide +kernel
theorem d_Mo_givesBack_94 : decode prog_13_method_24_code 94 = .ok (.if_icmp .ne 7, 3) := by decide +kernel
theorem d_Mo_givesBack_97 : decode prog_13_method_24_code 97 = .ok (.iconst 1, 1) := by decide +kernel
theorem d_Mo_givesBack_98 : decode prog_13_method_24_code 98 = .ok (.goto 4, 3) := by decide +kernel
theorem d_Mo_givesBack_101 : decode prog_13_method_24_code 101 = .ok (.iconst 0, 1) := by decide +kernel
theorem d_Mo_givesBack_102 : decode prog_13_method_24_code 102 = .ok (.istore_n 3, 1) := by decide +kernel
theorem d_Mo_givesBack_103 : decode prog_13_method_24_code 103 = .ok (.iconst 0, 1) := by decide +kernel
theorem d_Mo_givesBack_104 : decode prog_13_method_24_code 104 = .ok (.istore 4, 2) := by decide +kernel
theorem d_Mo_givesBack_106 : decode prog_13_method_24_code 106 = .ok (.iload 4, 2) := by decide +kernel
theorem d_Mo_givesBack_108 : decode prog_13_method_24_code 108 = .ok (.aload_n 0, 1) := by decide +kernel
theorem d_Mo_givesBack_109 : decode prog_13_method_24_code 109 = .ok (.getfield 87, 3) := by decide +kernel
theorem d_Mo_givesBack_112 : decode prog_13_method_24_code 112 = .ok (.if_icmp .ge 33, 3) := by decide +kernel
theorem d_Mo_givesBack_115 : decode prog_13_method_24_code 115 = .ok (.iload_n 3, 1) := by decide +kernel
theorem d_Mo_givesBack_116 : decode prog_13_method_24_code 116 = .ok (.aload_n 0, 1) := by decide +kernel
theorem d_Mo_givesBack_117 : decode prog_13_method_24_code 117 = .ok (.iload 4, 2) := by decide +kernel
theorem d_Mo_givesBack_119 : decode prog_13_method_24_code 119 = .ok (.invokevirtual 127, 3) := by decide +kernel
theorem d_Mo_givesBack_122 : decode prog_13_method_24_code 122 = .ok (.aload_n 0, 1) := by decide +kernel
theorem d_Mo_givesBack_123 : decode prog_13_method_24_code 123 = .ok (.getfield 28, 3) := by decide +kernel
theorem d_Mo_givesBack_126 : decode prog_13_method_24_code 126 = .ok (.iload 4, 2) := by decide +kernel
theorem d_Mo_givesBack_128 : decode prog_13_method_24_code 128 = .ok (.iaload, 1) := by decide +kernel
theorem d_Mo_givesBack_129 : decode prog_13_method_24_code 129 = .ok (.if_icmp .ne 7, 3) := by decide +kernel
theorem d_Mo_givesBack_132 : decode prog_13_method_24_code 132 = .ok (.iconst 1, 1) := by decide +kernel
theorem d_Mo_givesBack_133 : decode prog_13_method_24_code 133 = .ok (.goto 4, 3) := by decide +kernel
theorem d_Mo_givesBack_136 : decode prog_13_method_24_code 136 = .ok (.iconst 0, 1) := by decide +kernel
theorem d_Mo_givesBack_137 : decode prog_13_method_24_code 137 = .ok (.iand, 1) := by decide +kernel
theorem d_Mo_givesBack_138 : decode prog_13_method_24_code 138 = .ok (.istore_n 3, 1) := by decide +kernel
theorem d_Mo_givesBack_139 : decode prog_13_method_24_code 139 = .ok (.iinc 4 1, 3) := by decide +kernel
theorem d_Mo_givesBack_142 : decode prog_13_method_24_code 142 = .ok (.goto (-36), 3) := by decide +kernel
theorem d_Mo_givesBack_145 : decode prog_13_method_24_code 145 = .ok (.iload_n 3, 1) := by decide +kernel
theorem d_Mo_givesBack_146 : decode prog_13_method_24_code 146 = .ok (.ireturn, 1) := by decide +kernel
theorem d_Mo_back_0 : decode prog_13_method_25_code 0 = .ok (.aload_n 0, 1) := by decide +kernel
theorem d_Mo_back_1 : decode prog_13_method_25_code 1 = .ok (.getfield 76, 3) := by decide +kernel
theorem d_Mo_back_4 : decode prog_13_method_25_code 4 = .ok (.ifCond .ne 6, 3) := by decide +kernel
theorem d_Mo_back_7 : decode prog_13_method_25_code 7 = .ok (.bipush (-2), 2) := by decide +kernel
theorem d_Mo_back_9 : decode prog_13_method_25_code 9 = .ok (.ireturn, 1) := by decide +kernel
theorem d_Mo_back_10 : decode prog_13_method_25_code 10 = .ok (.iload_n 1, 1) := by decide +kernel
theorem d_Mo_back_11 : decode prog_13_method_25_code 11 = .ok (.i2l, 1) := by decide +kernel
theorem d_Mo_back_12 : decode prog_13_method_25_code 12 = .ok (.lconst 0, 1) := by decide +kernel
theorem d_Mo_back_13 : decode prog_13_method_25_code 13 = .ok (.aload_n 0, 1) := by decide +kernel
theorem d_Mo_back_14 : decode prog_13_method_25_code 14 = .ok (.getfield 76, 3) := by decide +kernel
theorem d_Mo_back_17 : decode prog_13_method_25_code 17 = .ok (.iconst 1, 1) := by decide +kernel
theorem d_Mo_back_18 : decode prog_13_method_25_code 18 = .ok (.isub, 1) := by decide +kernel
theorem d_Mo_back_19 : decode prog_13_method_25_code 19 = .ok (.i2l, 1) := by decide +kernel
theorem d_Mo_back_20 : decode prog_13_method_25_code 20 = .ok (.invokestatic 72, 3) := by decide +kernel
theorem d_Mo_back_23 : decode prog_13_method_25_code 23 = .ok (.ifCond .ne 5, 3) := by decide +kernel
theorem d_Mo_back_26 : decode prog_13_method_25_code 26 = .ok (.iconst (-1), 1) := by decide +kernel
theorem d_Mo_back_27 : decode prog_13_method_25_code 27 = .ok (.ireturn, 1) := by decide +kernel
theorem d_Mo_back_28 : decode prog_13_method_25_code 28 = .ok (.aload_n 0, 1) := by decide +kernel
theorem d_Mo_back_29 : decode prog_13_method_25_code 29 = .ok (.invokevirtual 101, 3) := by decide +kernel
theorem d_Mo_back_32 : decode prog_13_method_25_code 32 = .ok (.aload_n 0, 1) := by decide +kernel
theorem d_Mo_back_33 : decode prog_13_method_25_code 33 = .ok (.iload_n 1, 1) := by decide +kernel
theorem d_Mo_back_34 : decode prog_13_method_25_code 34 = .ok (.invokevirtual 131, 3) := by decide +kernel
theorem d_Mo_back_37 : decode prog_13_method_25_code 37 = .ok (.istore_n 2, 1) := by decide +kernel
theorem d_Mo_back_38 : decode prog_13_method_25_code 38 = .ok (.iconst 0, 1) := by decide +kernel
theorem d_Mo_back_39 : decode prog_13_method_25_code 39 = .ok (.istore_n 3, 1) := by decide +kernel
theorem d_Mo_back_40 : decode prog_13_method_25_code 40 = .ok (.iload_n 3, 1) := by decide +kernel
theorem d_Mo_back_41 : decode prog_13_method_25_code 41 = .ok (.aload_n 0, 1) := by decide +kernel
theorem d_Mo_back_42 : decode prog_13_method_25_code 42 = .ok (.getfield 87, 3) := by decide +kernel
theorem d_Mo_back_45 : decode prog_13_method_25_code 45 = .ok (.if_icmp .ge 21, 3) := by decide +kernel
theorem d_Mo_back_48 : decode prog_13_method_25_code 48 = .ok (.aload_n 0, 1) := by decide +kernel
theorem d_Mo_back_49 : decode prog_13_method_25_code 49 = .ok (.getfield 7, 3) := by decide +kernel
theorem d_Mo_back_52 : decode prog_13_method_25_code 52 = .ok (.iload_n 3, 1) := by decide +kernel
theorem d_Mo_back_53 : decode prog_13_method_25_code 53 = .ok (.aload_n 0, 1) := by decide +kernel
theorem d_Mo_back_54 : decode prog_13_method_25_code 54 = .ok (.getfield 13, 3) := by decide +kernel
theorem d_Mo_back_57 : decode prog_13_method_25_code 57 = .ok (.iload_n 3, 1) := by decide +kernel
theorem d_Mo_back_58 : decode prog_13_method_25_code 58 = .ok (.iaload, 1) := by decide +kernel
theorem d_Mo_back_59 : decode prog_13_method_25_code 59 = .ok (.iastore, 1) := by decide +kernel
theorem d_Mo_back_60 : decode prog_13_method_25_code 60 = .ok (.iinc 3 1, 3) := by decide +kernel
theorem d_Mo_back_63 : decode prog_13_method_25_code 63 = .ok (.goto (-23), 3) := by decide +kernel
theorem d_Mo_back_66 : decode prog_13_method_25_code 66 = .ok (.aload_n 0, 1) := by decide +kernel
theorem d_Mo_back_67 : decode prog_13_method_25_code 67 = .ok (.iconst 0, 1) := by decide +kernel
theorem d_Mo_back_68 : decode prog_13_method_25_code 68 = .ok (.putfield 81, 3) := by decide +kernel
theorem d_Mo_back_71 : decode prog_13_method_25_code 71 = .ok (.iload_n 2, 1) := by decide +kernel
theorem d_Mo_back_72 : decode prog_13_method_25_code 72 = .ok (.ifCond .eq 7, 3) := by decide +kernel
theorem d_Mo_back_75 : decode prog_13_method_25_code 75 = .ok (.iconst 1, 1) := by decide +kernel
theorem d_Mo_back_76 : decode prog_13_method_25_code 76 = .ok (.goto 4, 3) := by decide +kernel
theorem d_Mo_back_79 : decode prog_13_method_25_code 79 = .ok (.iconst 0, 1) := by decide +kernel
theorem d_Mo_back_80 : decode prog_13_method_25_code 80 = .ok (.ireturn, 1) := by decide +kernel
end
section
theorem d_Mo_ring_0 : decode prog_13_method_26_code 0 = .ok (.iload_n 1, 1) := by decide +kernel
theorem d_Mo_ring_1 : decode prog_13_method_26_code 1 = .ok (.i2l, 1) := by decide +kernel
theorem d_Mo_ring_2 : decode prog_13_method_26_code 2 = .ok (.lconst 0, 1) := by decide +kernel
theorem d_Mo_ring_3 : decode prog_13_method_26_code 3 = .ok (.aload_n 0, 1) := by decide +kernel
theorem d_Mo_ring_4 : decode prog_13_method_26_code 4 = .ok (.getfield 76, 3) := by decide +kernel
theorem d_Mo_ring_7 : decode prog_13_method_26_code 7 = .ok (.iconst 1, 1) := by decide +kernel
theorem d_Mo_ring_8 : decode prog_13_method_26_code 8 = .ok (.isub, 1) := by decide +kernel
theorem d_Mo_ring_9 : decode prog_13_method_26_code 9 = .ok (.i2l, 1) := by decide +kernel
theorem d_Mo_ring_10 : decode prog_13_method_26_code 10 = .ok (.invokestatic 72, 3) := by decide +kernel
theorem d_Mo_ring_13 : decode prog_13_method_26_code 13 = .ok (.ifCond .ne 5, 3) := by decide +kernel
theorem d_Mo_ring_16 : decode prog_13_method_26_code 16 = .ok (.iconst (-1), 1) := by decide +kernel
theorem d_Mo_ring_17 : decode prog_13_method_26_code 17 = .ok (.ireturn, 1) := by decide +kernel
theorem d_Mo_ring_18 : decode prog_13_method_26_code 18 = .ok (.aload_n 0, 1) := by decide +kernel
theorem d_Mo_ring_19 : decode prog_13_method_26_code 19 = .ok (.invokevirtual 101, 3) := by decide +kernel
theorem d_Mo_ring_22 : decode prog_13_method_26_code 22 = .ok (.aload_n 0, 1) := by decide +kernel
theorem d_Mo_ring_23 : decode prog_13_method_26_code 23 = .ok (.invokevirtual 124, 3) := by decide +kernel
theorem d_Mo_ring_26 : decode prog_13_method_26_code 26 = .ok (.iconst 1, 1) := by decide +kernel
theorem d_Mo_ring_27 : decode prog_13_method_26_code 27 = .ok (.istore_n 2, 1) := by decide +kernel
theorem d_Mo_ring_28 : decode prog_13_method_26_code 28 = .ok (.aload_n 0, 1) := by decide +kernel
theorem d_Mo_ring_29 : decode prog_13_method_26_code 29 = .ok (.getfield 25, 3) := by decide +kernel
theorem d_Mo_ring_32 : decode prog_13_method_26_code 32 = .ok (.iload_n 1, 1) := by decide +kernel
theorem d_Mo_ring_33 : decode prog_13_method_26_code 33 = .ok (.iaload, 1) := by decide +kernel
theorem d_Mo_ring_34 : decode prog_13_method_26_code 34 = .ok (.istore_n 3, 1) := by decide +kernel
theorem d_Mo_ring_35 : decode prog_13_method_26_code 35 = .ok (.iload_n 3, 1) := by decide +kernel
theorem d_Mo_ring_36 : decode prog_13_method_26_code 36 = .ok (.iload_n 1, 1) := by decide +kernel
theorem d_Mo_ring_37 : decode prog_13_method_26_code 37 = .ok (.if_icmp .eq 16, 3) := by decide +kernel
theorem d_Mo_ring_40 : decode prog_13_method_26_code 40 = .ok (.iinc 2 1, 3) := by decide +kernel
theorem d_Mo_ring_43 : decode prog_13_method_26_code 43 = .ok (.aload_n 0, 1) := by decide +kernel
theorem d_Mo_ring_44 : decode prog_13_method_26_code 44 = .ok (.getfield 25, 3) := by decide +kernel
theorem d_Mo_ring_47 : decode prog_13_method_26_code 47 = .ok (.iload_n 3, 1) := by decide +kernel
theorem d_Mo_ring_48 : decode prog_13_method_26_code 48 = .ok (.iaload, 1) := by decide +kernel
theorem d_Mo_ring_49 : decode prog_13_method_26_code 49 = .ok (.istore_n 3, 1) := by decide +kernel
theorem d_Mo_ring_50 : decode prog_13_method_26_code 50 = .ok (.goto (-15), 3) := by decide +kernel
theorem d_Mo_ring_53 : decode prog_13_method_26_code 53 = .ok (.iload_n 2, 1) := by decide +kernel
theorem d_Mo_ring_54 : decode prog_13_method_26_code 54 = .ok (.ireturn, 1) := by decide +kernel
theorem d_Mo_rowHas_0 : decode prog_13_method_27_code 0 = .ok (.iconst 0, 1) := by decide +kernel
theorem d_Mo_rowHas_1 : decode prog_13_method_27_code 1 = .ok (.istore_n 2, 1) := by decide +kernel
theorem d_Mo_rowHas_2 : decode prog_13_method_27_code 2 = .ok (.iload_n 2, 1) := by decide +kernel
theorem d_Mo_rowHas_3 : decode prog_13_method_27_code 3 = .ok (.aload_n 0, 1) := by decide +kernel
theorem d_Mo_rowHas_4 : decode prog_13_method_27_code 4 = .ok (.getfield 87, 3) := by decide +kernel
theorem d_Mo_rowHas_7 : decode prog_13_method_27_code 7 = .ok (.if_icmp .ge 21, 3) := by decide +kernel
theorem d_Mo_rowHas_10 : decode prog_13_method_27_code 10 = .ok (.aload_n 0, 1) := by decide +kernel
theorem d_Mo_rowHas_11 : decode prog_13_method_27_code 11 = .ok (.getfield 13, 3) := by decide +kernel
theorem d_Mo_rowHas_14 : decode prog_13_method_27_code 14 = .ok (.iload_n 2, 1) := by decide +kernel
theorem d_Mo_rowHas_15 : decode prog_13_method_27_code 15 = .ok (.iaload, 1) := by decide +kernel
theorem d_Mo_rowHas_16 : decode prog_13_method_27_code 16 = .ok (.iload_n 1, 1) := by decide +kernel
theorem d_Mo_rowHas_17 : decode prog_13_method_27_code 17 = .ok (.if_icmp .ne 5, 3) := by decide +kernel
theorem d_Mo_rowHas_20 : decode prog_13_method_27_code 20 = .ok (.iconst 1, 1) := by decide +kernel
theorem d_Mo_rowHas_21 : decode prog_13_method_27_code 21 = .ok (.ireturn, 1) := by decide +kernel
theorem d_Mo_rowHas_22 : decode prog_13_method_27_code 22 = .ok (.iinc 2 1, 3) := by decide +kernel
theorem d_Mo_rowHas_25 : decode prog_13_method_27_code 25 = .ok (.goto (-23), 3) := by decide +kernel
theorem d_Mo_rowHas_28 : decode prog_13_method_27_code 28 = .ok (.iconst 0, 1) := by decide +kernel
theorem d_Mo_rowHas_29 : decode prog_13_method_27_code 29 = .ok (.ireturn, 1) := by decide +kernel
theorem d_Mo_putNoughts_0 : decode prog_13_method_28_code 0 = .ok (.iload_n 1, 1) := by decide +kernel
theorem d_Mo_putNoughts_1 : decode prog_13_method_28_code 1 = .ok (.istore_n 2, 1) := by decide +kernel
theorem d_Mo_putNoughts_2 : decode prog_13_method_28_code 2 = .ok (.iload_n 2, 1) := by decide +kernel
theorem d_Mo_putNoughts_3 : decode prog_13_method_28_code 3 = .ok (.ifCond .le 44, 3) := by decide +kernel
theorem d_Mo_putNoughts_6 : decode prog_13_method_28_code 6 = .ok (.iload_n 2, 1) := by decide +kernel
theorem d_Mo_putNoughts_7 : decode prog_13_method_28_code 7 = .ok (.iconst 2, 1) := by decide +kernel
theorem d_Mo_putNoughts_8 : decode prog_13_method_28_code 8 = .ok (.irem, 1) := by decide +kernel
theorem d_Mo_putNoughts_9 : decode prog_13_method_28_code 9 = .ok (.iconst 1, 1) := by decide +kernel
theorem d_Mo_putNoughts_10 : decode prog_13_method_28_code 10 = .ok (.if_icmp .ne 7, 3) := by decide +kernel
theorem d_Mo_putNoughts_13 : decode prog_13_method_28_code 13 = .ok (.iconst 1, 1) := by decide +kernel
theorem d_Mo_putNoughts_14 : decode prog_13_method_28_code 14 = .ok (.goto 4, 3) := by decide +kernel
theorem d_Mo_putNoughts_17 : decode prog_13_method_28_code 17 = .ok (.iconst 2, 1) := by decide +kernel
theorem d_Mo_putNoughts_18 : decode prog_13_method_28_code 18 = .ok (.istore_n 3, 1) := by decide +kernel
theorem d_Mo_putNoughts_19 : decode prog_13_method_28_code 19 = .ok (.aload_n 0, 1) := by decide +kernel
theorem d_Mo_putNoughts_20 : decode prog_13_method_28_code 20 = .ok (.getfield 34, 3) := by decide +kernel
theorem d_Mo_putNoughts_23 : decode prog_13_method_28_code 23 = .ok (.aload_n 0, 1) := by decide +kernel
theorem d_Mo_putNoughts_24 : decode prog_13_method_28_code 24 = .ok (.dup, 1) := by decide +kernel
theorem d_Mo_putNoughts_25 : decode prog_13_method_28_code 25 = .ok (.getfield 135, 3) := by decide +kernel
theorem d_Mo_putNoughts_28 : decode prog_13_method_28_code 28 = .ok (.dup_x1, 1) := by decide +kernel
theorem d_Mo_putNoughts_29 : decode prog_13_method_28_code 29 = .ok (.iconst 1, 1) := by decide +kernel
theorem d_Mo_putNoughts_30 : decode prog_13_method_28_code 30 = .ok (.iadd, 1) := by decide +kernel
theorem d_Mo_putNoughts_31 : decode prog_13_method_28_code 31 = .ok (.putfield 135, 3) := by decide +kernel
theorem d_Mo_putNoughts_34 : decode prog_13_method_28_code 34 = .ok (.iload_n 3, 1) := by decide +kernel
theorem d_Mo_putNoughts_35 : decode prog_13_method_28_code 35 = .ok (.iconst 1, 1) := by decide +kernel
theorem d_Mo_putNoughts_36 : decode prog_13_method_28_code 36 = .ok (.isub, 1) := by decide +kernel
theorem d_Mo_putNoughts_37 : decode prog_13_method_28_code 37 = .ok (.iastore, 1) := by decide +kernel
theorem d_Mo_putNoughts_38 : decode prog_13_method_28_code 38 = .ok (.iload_n 2, 1) := by decide +kernel
theorem d_Mo_putNoughts_39 : decode prog_13_method_28_code 39 = .ok (.iload_n 3, 1) := by decide +kernel
theorem d_Mo_putNoughts_40 : decode prog_13_method_28_code 40 = .ok (.isub, 1) := by decide +kernel
theorem d_Mo_putNoughts_41 : decode prog_13_method_28_code 41 = .ok (.iconst 2, 1) := by decide +kernel
theorem d_Mo_putNoughts_42 : decode prog_13_method_28_code 42 = .ok (.idiv, 1) := by decide +kernel
theorem d_Mo_putNoughts_43 : decode prog_13_method_28_code 43 = .ok (.istore_n 2, 1) := by decide +kernel
theorem d_Mo_putNoughts_44 : decode prog_13_method_28_code 44 = .ok (.goto (-42), 3) := by decide +kernel
theorem d_Mo_putNoughts_47 : decode prog_13_method_28_code 47 = .ok (.return_, 1) := by decide +kernel
theorem d_Mo_makeSymbols_0 : decode prog_13_method_29_code 0 = .ok (.aload_n 0, 1) := by decide +kernel
theorem d_Mo_makeSymbols_1 : decode prog_13_method_29_code 1 = .ok (.iconst 0, 1) := by decide +kernel
theorem d_Mo_makeSymbols_2 : decode prog_13_method_29_code 2 = .ok (.putfield 138, 3) := by decide +kernel
theorem d_Mo_makeSymbols_5 : decode prog_13_method_29_code 5 = .ok (.iconst 0, 1) := by decide +kernel
theorem d_Mo_makeSymbols_6 : decode prog_13_method_29_code 6 = .ok (.istore_n 1, 1) := by decide +kernel
theorem d_Mo_makeSymbols_7 : decode prog_13_method_29_code 7 = .ok (.iload_n 1, 1) := by decide +kernel
theorem d_Mo_makeSymbols_8 : decode prog_13_method_29_code 8 = .ok (.sipush 256, 3) := by decide +kernel
theorem d_Mo_makeSymbols_11 : decode prog_13_method_29_code 11 = .ok (.if_icmp .ge 34, 3) := by decide +kernel
theorem d_Mo_makeSymbols_14 : decode prog_13_method_29_code 14 = .ok (.aload_n 0, 1) := by decide +kernel
theorem d_Mo_makeSymbols_15 : decode prog_13_method_29_code 15 = .ok (.iload_n 1, 1) := by decide +kernel
theorem d_Mo_makeSymbols_16 : decode prog_13_method_29_code 16 = .ok (.invokevirtual 141, 3) := by decide +kernel
theorem d_Mo_makeSymbols_19 : decode prog_13_method_29_code 19 = .ok (.ifCond .eq 20, 3) := by decide +kernel
theorem d_Mo_makeSymbols_22 : decode prog_13_method_29_code 22 = .ok (.aload_n 0, 1) := by decide +kernel
theorem d_Mo_makeSymbols_23 : decode prog_13_method_29_code 23 = .ok (.getfield 31, 3) := by decide +kernel
theorem d_Mo_makeSymbols_26 : decode prog_13_method_29_code 26 = .ok (.aload_n 0, 1) := by decide +kernel
theorem d_Mo_makeSymbols_27 : decode prog_13_method_29_code 27 = .ok (.dup, 1) := by decide +kernel
theorem d_Mo_makeSymbols_28 : decode prog_13_method_29_code 28 = .ok (.getfield 138, 3) := by decide +kernel
theorem d_Mo_makeSymbols_31 : decode prog_13_method_29_code 31 = .ok (.dup_x1, 1) := by decide +kernel
theorem d_Mo_makeSymbols_32 : decode prog_13_method_29_code 32 = .ok (.iconst 1, 1) := by decide +kernel
theorem d_Mo_makeSymbols_33 : decode prog_13_method_29_code 33 = .ok (.iadd, 1) := by decide +kernel
theorem d_Mo_makeSymbols_34 : decode prog_13_method_29_code 34 = .ok (.putfield 138, 3) := by decide +kernel
theorem d_Mo_makeSymbols_37 : decode prog_13_method_29_code 37 = .ok (.iload_n 1, 1) := by decide +kernel
theorem d_Mo_makeSymbols_38 : decode prog_13_method_29_code 38 = .ok (.iastore, 1) := by decide +kernel
theorem d_Mo_makeSymbols_39 : decode prog_13_method_29_code 39 = .ok (.iinc 1 1, 3) := by decide +kernel
theorem d_Mo_makeSymbols_42 : decode prog_13_method_29_code 42 = .ok (.goto (-35), 3) := by decide +kernel
theorem d_Mo_makeSymbols_45 : decode prog_13_method_29_code 45 = .ok (.aload_n 0, 1) := by decide +kernel
theorem d_Mo_makeSymbols_46 : decode prog_13_method_29_code 46 = .ok (.iconst 0, 1) := by decide +kernel
theorem d_Mo_makeSymbols_47 : decode prog_13_method_29_code 47 = .ok (.putfield 135, 3) := by decide +kernel
theorem d_Mo_makeSymbols_50 : decode prog_13_method_29_code 50 = .ok (.iconst 0, 1) := by decide +kernel
theorem d_Mo_makeSymbols_51 : decode prog_13_method_29_code 51 = .ok (.istore_n 1, 1) := by decide +kernel
theorem d_Mo_makeSymbols_52 : decode prog_13_method_29_code 52 = .ok (.iconst 0, 1) := by decide +kernel
theorem d_Mo_makeSymbols_53 : decode prog_13_method_29_code 53 = .ok (.istore_n 2, 1) := by decide +kernel
theorem d_Mo_makeSymbols_54 : decode prog_13_method_29_code 54 = .ok (.iload_n 2, 1) := by decide +kernel
theorem d_Mo_makeSymbols_55 : decode prog_13_method_29_code 55 = .ok (.aload_n 0, 1) := by decide +kernel
theorem d_Mo_makeSymbols_56 : decode prog_13_method_29_code 56 = .ok (.getfield 87, 3) := by decide +kernel
theorem d_Mo_makeSymbols_59 : decode prog_13_method_29_code 59 = .ok (.if_icmp .ge 56, 3) := by decide +kernel
theorem d_Mo_makeSymbols_62 : decode prog_13_method_29_code 62 = .ok (.aload_n 0, 1) := by decide +kernel
theorem d_Mo_makeSymbols_63 : decode prog_13_method_29_code 63 = .ok (.aload_n 0, 1) := by decide +kernel
theorem d_Mo_makeSymbols_64 : decode prog_13_method_29_code 64 = .ok (.getfield 13, 3) := by decide +kernel
theorem d_Mo_makeSymbols_67 : decode prog_13_method_29_code 67 = .ok (.iload_n 2, 1) := by decide +kernel
theorem d_Mo_makeSymbols_68 : decode prog_13_method_29_code 68 = .ok (.iaload, 1) := by decide +kernel
theorem d_Mo_makeSymbols_69 : decode prog_13_method_29_code 69 = .ok (.invokevirtual 144, 3) := by decide +kernel
theorem d_Mo_makeSymbols_72 : decode prog_13_method_29_code 72 = .ok (.istore_n 3, 1) := by decide +kernel
theorem d_Mo_makeSymbols_73 : decode prog_13_method_29_code 73 = .ok (.iload_n 3, 1) := by decide +kernel
theorem d_Mo_makeSymbols_74 : decode prog_13_method_29_code 74 = .ok (.ifCond .ne 9, 3) := by decide +kernel
theorem d_Mo_makeSymbols_77 : decode prog_13_method_29_code 77 = .ok (.iinc 1 1, 3) := by decide +kernel
theorem d_Mo_makeSymbols_80 : decode prog_13_method_29_code 80 = .ok (.goto 29, 3) := by decide +kernel
theorem d_Mo_makeSymbols_83 : decode prog_13_method_29_code 83 = .ok (.aload_n 0, 1) := by decide +kernel
theorem d_Mo_makeSymbols_84 : decode prog_13_method_29_code 84 = .ok (.iload_n 1, 1) := by decide +kernel
theorem d_Mo_makeSymbols_85 : decode prog_13_method_29_code 85 = .ok (.invokevirtual 147, 3) := by decide +kernel
theorem d_Mo_makeSymbols_88 : decode prog_13_method_29_code 88 = .ok (.iconst 0, 1) := by decide +kernel
theorem d_Mo_makeSymbols_89 : decode prog_13_method_29_code 89 = .ok (.istore_n 1, 1) := by decide +kernel
theorem d_Mo_makeSymbols_90 : decode prog_13_method_29_code 90 = .ok (.aload_n 0, 1) := by decide +kernel
theorem d_Mo_makeSymbols_91 : decode prog_13_method_29_code 91 = .ok (.getfield 34, 3) := by decide +kernel
theorem d_Mo_makeSymbols_94 : decode prog_13_method_29_code 94 = .ok (.aload_n 0, 1) := by decide +kernel
theorem d_Mo_makeSymbols_95 : decode prog_13_method_29_code 95 = .ok (.dup, 1) := by decide +kernel
theorem d_Mo_makeSymbols_96 : decode prog_13_method_29_code 96 = .ok (.getfield 135, 3) := by decide +kernel
theorem d_Mo_makeSymbols_99 : decode prog_13_method_29_code 99 = .ok (.dup_x1, 1) := by decide +kernel
theorem d_Mo_makeSymbols_100 : decode prog_13_method_29_code 100 = .ok (.iconst 1, 1) := by decide +kernel
theorem d_Mo_makeSymbols_101 : decode prog_13_method_29_code 101 = .ok (.iadd, 1) := by decide +kernel
theorem d_Mo_makeSymbols_102 : decode prog_13_method_29_code 102 = .ok (.putfield 135, 3) := by decide +kernel
theorem d_Mo_makeSymbols_105 : decode prog_13_method_29_code 105 = .ok (.iload_n 3, 1) := by decide +kernel
theorem d_Mo_makeSymbols_106 : decode prog_13_method_29_code 106 = .ok (.iconst 1, 1) := by decide +kernel
theorem d_Mo_makeSymbols_107 : decode prog_13_method_29_code 107 = .ok (.iadd, 1) := by decide +kernel
theorem d_Mo_makeSymbols_108 : decode prog_13_method_29_code 108 = .ok (.iastore, 1) := by decide +kernel
theorem d_Mo_makeSymbols_109 : decode prog_13_method_29_code 109 = .ok (.iinc 2 1, 3) := by decide +kernel
theorem d_Mo_makeSymbols_112 : decode prog_13_method_29_code 112 = .ok (.goto (-58), 3) := by decide +kernel
theorem d_Mo_makeSymbols_115 : decode prog_13_method_29_code 115 = .ok (.aload_n 0, 1) := by decide +kernel
theorem d_Mo_makeSymbols_116 : decode prog_13_method_29_code 116 = .ok (.iload_n 1, 1) := by decide +kernel
theorem d_Mo_makeSymbols_117 : decode prog_13_method_29_code 117 = .ok (.invokevirtual 147, 3) := by decide +kernel
theorem d_Mo_makeSymbols_120 : decode prog_13_method_29_code 120 = .ok (.aload_n 0, 1) := by decide +kernel
theorem d_Mo_makeSymbols_121 : decode prog_13_method_29_code 121 = .ok (.getfield 34, 3) := by decide +kernel
theorem d_Mo_makeSymbols_124 : decode prog_13_method_29_code 124 = .ok (.aload_n 0, 1) := by decide +kernel
theorem d_Mo_makeSymbols_125 : decode prog_13_method_29_code 125 = .ok (.dup, 1) := by decide +kernel
theorem d_Mo_makeSymbols_126 : decode prog_13_method_29_code 126 = .ok (.getfield 135, 3) := by decide +kernel
theorem d_Mo_makeSymbols_129 : decode prog_13_method_29_code 129 = .ok (.dup_x1, 1) := by decide +kernel
theorem d_Mo_makeSymbols_130 : decode prog_13_method_29_code 130 = .ok (.iconst 1, 1) := by decide +kernel
theorem d_Mo_makeSymbols_131 : decode prog_13_method_29_code 131 = .ok (.iadd, 1) := by decide +kernel
theorem d_Mo_makeSymbols_132 : decode prog_13_method_29_code 132 = .ok (.putfield 135, 3) := by decide +kernel
theorem d_Mo_makeSymbols_135 : decode prog_13_method_29_code 135 = .ok (.aload_n 0, 1) := by decide +kernel
theorem d_Mo_makeSymbols_136 : decode prog_13_method_29_code 136 = .ok (.getfield 138, 3) := by decide +kernel
theorem d_Mo_makeSymbols_139 : decode prog_13_method_29_code 139 = .ok (.iconst 1, 1) := by decide +kernel
theorem d_Mo_makeSymbols_140 : decode prog_13_method_29_code 140 = .ok (.iadd, 1) := by decide +kernel
theorem d_Mo_makeSymbols_141 : decode prog_13_method_29_code 141 = .ok (.iastore, 1) := by decide +kernel
theorem d_Mo_makeSymbols_142 : decode prog_13_method_29_code 142 = .ok (.return_, 1) := by decide +kernel
theorem d_Mo_toFront_0 : decode prog_13_method_30_code 0 = .ok (.iconst 0, 1) := by decide +kernel
theorem d_Mo_toFront_1 : decode prog_13_method_30_code 1 = .ok (.istore_n 2, 1) := by decide +kernel
theorem d_Mo_toFront_2 : decode prog_13_method_30_code 2 = .ok (.aload_n 0, 1) := by decide +kernel
theorem d_Mo_toFront_3 : decode prog_13_method_30_code 3 = .ok (.getfield 31, 3) := by decide +kernel
theorem d_Mo_toFront_6 : decode prog_13_method_30_code 6 = .ok (.iload_n 2, 1) := by decide +kernel
theorem d_Mo_toFront_7 : decode prog_13_method_30_code 7 = .ok (.iaload, 1) := by decide +kernel
theorem d_Mo_toFront_8 : decode prog_13_method_30_code 8 = .ok (.iload_n 1, 1) := by decide +kernel
theorem d_Mo_toFront_9 : decode prog_13_method_30_code 9 = .ok (.if_icmp .eq 9, 3) := by decide +kernel
theorem d_Mo_toFront_12 : decode prog_13_method_30_code 12 = .ok (.iinc 2 1, 3) := by decide +kernel
theorem d_Mo_toFront_15 : decode prog_13_method_30_code 15 = .ok (.goto (-13), 3) := by decide +kernel
theorem d_Mo_toFront_18 : decode prog_13_method_30_code 18 = .ok (.iload_n 2, 1) := by decide +kernel
theorem d_Mo_toFront_19 : decode prog_13_method_30_code 19 = .ok (.istore_n 3, 1) := by decide +kernel
theorem d_Mo_toFront_20 : decode prog_13_method_30_code 20 = .ok (.iload_n 3, 1) := by decide +kernel
theorem d_Mo_toFront_21 : decode prog_13_method_30_code 21 = .ok (.ifCond .le 23, 3) := by decide +kernel
theorem d_Mo_toFront_24 : decode prog_13_method_30_code 24 = .ok (.aload_n 0, 1) := by decide +kernel
theorem d_Mo_toFront_25 : decode prog_13_method_30_code 25 = .ok (.getfield 31, 3) := by decide +kernel
theorem d_Mo_toFront_28 : decode prog_13_method_30_code 28 = .ok (.iload_n 3, 1) := by decide +kernel
theorem d_Mo_toFront_29 : decode prog_13_method_30_code 29 = .ok (.aload_n 0, 1) := by decide +kernel
theorem d_Mo_toFront_30 : decode prog_13_method_30_code 30 = .ok (.getfield 31, 3) := by decide +kernel
theorem d_Mo_toFront_33 : decode prog_13_method_30_code 33 = .ok (.iload_n 3, 1) := by decide +kernel
theorem d_Mo_toFront_34 : decode prog_13_method_30_code 34 = .ok (.iconst 1, 1) := by decide +kernel
theorem d_Mo_toFront_35 : decode prog_13_method_30_code 35 = .ok (.isub, 1) := by decide +kernel
theorem d_Mo_toFront_36 : decode prog_13_method_30_code 36 = .ok (.iaload, 1) := by decide +kernel
theorem d_Mo_toFront_37 : decode prog_13_method_30_code 37 = .ok (.iastore, 1) := by decide +kernel
theorem d_Mo_toFront_38 : decode prog_13_method_30_code 38 = .ok (.iinc 3 (-1), 3) := by decide +kernel
theorem d_Mo_toFront_41 : decode prog_13_method_30_code 41 = .ok (.goto (-21), 3) := by decide +kernel
theorem d_Mo_toFront_44 : decode prog_13_method_30_code 44 = .ok (.aload_n 0, 1) := by decide +kernel
theorem d_Mo_toFront_45 : decode prog_13_method_30_code 45 = .ok (.getfield 31, 3) := by decide +kernel
theorem d_Mo_toFront_48 : decode prog_13_method_30_code 48 = .ok (.iconst 0, 1) := by decide +kernel
theorem d_Mo_toFront_49 : decode prog_13_method_30_code 49 = .ok (.iload_n 1, 1) := by decide +kernel
theorem d_Mo_toFront_50 : decode prog_13_method_30_code 50 = .ok (.iastore, 1) := by decide +kernel
theorem d_Mo_toFront_51 : decode prog_13_method_30_code 51 = .ok (.iload_n 2, 1) := by decide +kernel
theorem d_Mo_toFront_52 : decode prog_13_method_30_code 52 = .ok (.ireturn, 1) := by decide +kernel
theorem d_Mo_makeLengths_0 : decode prog_13_method_31_code 0 = .ok (.aload_n 0, 1) := by decide +kernel
theorem d_Mo_makeLengths_1 : decode prog_13_method_31_code 1 = .ok (.getfield 138, 3) := by decide +kernel
theorem d_Mo_makeLengths_4 : decode prog_13_method_31_code 4 = .ok (.iconst 2, 1) := by decide +kernel
theorem d_Mo_makeLengths_5 : decode prog_13_method_31_code 5 = .ok (.iadd, 1) := by decide +kernel
theorem d_Mo_makeLengths_6 : decode prog_13_method_31_code 6 = .ok (.istore_n 1, 1) := by decide +kernel
theorem d_Mo_makeLengths_7 : decode prog_13_method_31_code 7 = .ok (.iconst 0, 1) := by decide +kernel
theorem d_Mo_makeLengths_8 : decode prog_13_method_31_code 8 = .ok (.istore_n 2, 1) := by decide +kernel
theorem d_Mo_makeLengths_9 : decode prog_13_method_31_code 9 = .ok (.iload_n 2, 1) := by decide +kernel
theorem d_Mo_makeLengths_10 : decode prog_13_method_31_code 10 = .ok (.iload_n 1, 1) := by decide +kernel
theorem d_Mo_makeLengths_11 : decode prog_13_method_31_code 11 = .ok (.if_icmp .ge 16, 3) := by decide +kernel
theorem d_Mo_makeLengths_14 : decode prog_13_method_31_code 14 = .ok (.aload_n 0, 1) := by decide +kernel
theorem d_Mo_makeLengths_15 : decode prog_13_method_31_code 15 = .ok (.getfield 53, 3) := by decide +kernel
theorem d_Mo_makeLengths_18 : decode prog_13_method_31_code 18 = .ok (.iload_n 2, 1) := by decide +kernel
theorem d_Mo_makeLengths_19 : decode prog_13_method_31_code 19 = .ok (.lconst 0, 1) := by decide +kernel
theorem d_Mo_makeLengths_20 : decode prog_13_method_31_code 20 = .ok (.lastore, 1) := by decide +kernel
theorem d_Mo_makeLengths_21 : decode prog_13_method_31_code 21 = .ok (.iinc 2 1, 3) := by decide +kernel
theorem d_Mo_makeLengths_24 : decode prog_13_method_31_code 24 = .ok (.goto (-15), 3) := by decide +kernel
theorem d_Mo_makeLengths_27 : decode prog_13_method_31_code 27 = .ok (.iconst 0, 1) := by decide +kernel
theorem d_Mo_makeLengths_28 : decode prog_13_method_31_code 28 = .ok (.istore_n 2, 1) := by decide +kernel
theorem d_Mo_makeLengths_29 : decode prog_13_method_31_code 29 = .ok (.iload_n 2, 1) := by decide +kernel
theorem d_Mo_makeLengths_30 : decode prog_13_method_31_code 30 = .ok (.aload_n 0, 1) := by decide +kernel
theorem d_Mo_makeLengths_31 : decode prog_13_method_31_code 31 = .ok (.getfield 135, 3) := by decide +kernel
theorem d_Mo_makeLengths_34 : decode prog_13_method_31_code 34 = .ok (.if_icmp .ge 24, 3) := by decide +kernel
theorem d_Mo_makeLengths_37 : decode prog_13_method_31_code 37 = .ok (.aload_n 0, 1) := by decide +kernel
theorem d_Mo_makeLengths_38 : decode prog_13_method_31_code 38 = .ok (.getfield 53, 3) := by decide +kernel
theorem d_Mo_makeLengths_41 : decode prog_13_method_31_code 41 = .ok (.aload_n 0, 1) := by decide +kernel
theorem d_Mo_makeLengths_42 : decode prog_13_method_31_code 42 = .ok (.getfield 34, 3) := by decide +kernel
theorem d_Mo_makeLengths_45 : decode prog_13_method_31_code 45 = .ok (.iload_n 2, 1) := by decide +kernel
theorem d_Mo_makeLengths_46 : decode prog_13_method_31_code 46 = .ok (.iaload, 1) := by decide +kernel
theorem d_Mo_makeLengths_47 : decode prog_13_method_31_code 47 = .ok (.dup2, 1) := by decide +kernel
theorem d_Mo_makeLengths_48 : decode prog_13_method_31_code 48 = .ok (.laload, 1) := by decide +kernel
theorem d_Mo_makeLengths_49 : decode prog_13_method_31_code 49 = .ok (.lconst 1, 1) := by decide +kernel
theorem d_Mo_makeLengths_50 : decode prog_13_method_31_code 50 = .ok (.ladd, 1) := by decide +kernel
theorem d_Mo_makeLengths_51 : decode prog_13_method_31_code 51 = .ok (.lastore, 1) := by decide +kernel
theorem d_Mo_makeLengths_52 : decode prog_13_method_31_code 52 = .ok (.iinc 2 1, 3) := by decide +kernel
theorem d_Mo_makeLengths_55 : decode prog_13_method_31_code 55 = .ok (.goto (-26), 3) := by decide +kernel
theorem d_Mo_makeLengths_58 : decode prog_13_method_31_code 58 = .ok (.iconst 0, 1) := by decide +kernel
theorem d_Mo_makeLengths_59 : decode prog_13_method_31_code 59 = .ok (.istore_n 2, 1) := by decide +kernel
theorem d_Mo_makeLengths_60 : decode prog_13_method_31_code 60 = .ok (.iload_n 2, 1) := by decide +kernel
theorem d_Mo_makeLengths_61 : decode prog_13_method_31_code 61 = .ok (.iload_n 1, 1) := by decide +kernel
theorem d_Mo_makeLengths_62 : decode prog_13_method_31_code 62 = .ok (.if_icmp .ge 27, 3) := by decide +kernel
theorem d_Mo_makeLengths_65 : decode prog_13_method_31_code 65 = .ok (.aload_n 0, 1) := by decide +kernel
theorem d_Mo_makeLengths_66 : decode prog_13_method_31_code 66 = .ok (.getfield 53, 3) := by decide +kernel
theorem d_Mo_makeLengths_69 : decode prog_13_method_31_code 69 = .ok (.iload_n 2, 1) := by decide +kernel
theorem d_Mo_makeLengths_70 : decode prog_13_method_31_code 70 = .ok (.laload, 1) := by decide +kernel
theorem d_Mo_makeLengths_71 : decode prog_13_method_31_code 71 = .ok (.lconst 0, 1) := by decide +kernel
theorem d_Mo_makeLengths_72 : decode prog_13_method_31_code 72 = .ok (.lcmp, 1) := by decide +kernel
theorem d_Mo_makeLengths_73 : decode prog_13_method_31_code 73 = .ok (.ifCond .ne 10, 3) := by decide +kernel
theorem d_Mo_makeLengths_76 : decode prog_13_method_31_code 76 = .ok (.aload_n 0, 1) := by decide +kernel
theorem d_Mo_makeLengths_77 : decode prog_13_method_31_code 77 = .ok (.getfield 53, 3) := by decide +kernel
theorem d_Mo_makeLengths_80 : decode prog_13_method_31_code 80 = .ok (.iload_n 2, 1) := by decide +kernel
theorem d_Mo_makeLengths_81 : decode prog_13_method_31_code 81 = .ok (.lconst 1, 1) := by decide +kernel
theorem d_Mo_makeLengths_82 : decode prog_13_method_31_code 82 = .ok (.lastore, 1) := by decide +kernel
theorem d_Mo_makeLengths_83 : decode prog_13_method_31_code 83 = .ok (.iinc 2 1, 3) := by decide +kernel
theorem d_Mo_makeLengths_86 : decode prog_13_method_31_code 86 = .ok (.goto (-26), 3) := by decide +kernel
theorem d_Mo_makeLengths_89 : decode prog_13_method_31_code 89 = .ok (.iconst 0, 1) := by decide +kernel
theorem d_Mo_makeLengths_90 : decode prog_13_method_31_code 90 = .ok (.istore_n 2, 1) := by decide +kernel
theorem d_Mo_makeLengths_91 : decode prog_13_method_31_code 91 = .ok (.iload_n 2, 1) := by decide +kernel
theorem d_Mo_makeLengths_92 : decode prog_13_method_31_code 92 = .ok (.ifCond .ne 80, 3) := by decide +kernel
theorem d_Mo_makeLengths_95 : decode prog_13_method_31_code 95 = .ok (.aload_n 0, 1) := by decide +kernel
theorem d_Mo_makeLengths_96 : decode prog_13_method_31_code 96 = .ok (.iload_n 1, 1) := by decide +kernel
theorem d_Mo_makeLengths_97 : decode prog_13_method_31_code 97 = .ok (.invokevirtual 151, 3) := by decide +kernel
theorem d_Mo_makeLengths_100 : decode prog_13_method_31_code 100 = .ok (.iconst 1, 1) := by decide +kernel
theorem d_Mo_makeLengths_101 : decode prog_13_method_31_code 101 = .ok (.istore_n 2, 1) := by decide +kernel
theorem d_Mo_makeLengths_102 : decode prog_13_method_31_code 102 = .ok (.iconst 0, 1) := by decide +kernel
theorem d_Mo_makeLengths_103 : decode prog_13_method_31_code 103 = .ok (.istore_n 3, 1) := by decide +kernel
theorem d_Mo_makeLengths_104 : decode prog_13_method_31_code 104 = .ok (.iload_n 3, 1) := by decide +kernel
theorem d_Mo_makeLengths_105 : decode prog_13_method_31_code 105 = .ok (.iload_n 1, 1) := by decide +kernel
theorem d_Mo_makeLengths_106 : decode prog_13_method_31_code 106 = .ok (.if_icmp .ge 28, 3) := by decide +kernel
theorem d_Mo_makeLengths_109 : decode prog_13_method_31_code 109 = .ok (.iload_n 2, 1) := by decide +kernel
theorem d_Mo_makeLengths_110 : decode prog_13_method_31_code 110 = .ok (.aload_n 0, 1) := by decide +kernel
theorem d_Mo_makeLengths_111 : decode prog_13_method_31_code 111 = .ok (.getfield 37, 3) := by decide +kernel
theorem d_Mo_makeLengths_114 : decode prog_13_method_31_code 114 = .ok (.iload_n 3, 1) := by decide +kernel
theorem d_Mo_makeLengths_115 : decode prog_13_method_31_code 115 = .ok (.iaload, 1) := by decide +kernel
theorem d_Mo_makeLengths_116 : decode prog_13_method_31_code 116 = .ok (.bipush 12, 2) := by decide +kernel
theorem d_Mo_makeLengths_118 : decode prog_13_method_31_code 118 = .ok (.if_icmp .gt 7, 3) := by decide +kernel
theorem d_Mo_makeLengths_121 : decode prog_13_method_31_code 121 = .ok (.iconst 1, 1) := by decide +kernel
theorem d_Mo_makeLengths_122 : decode prog_13_method_31_code 122 = .ok (.goto 4, 3) := by decide +kernel
theorem d_Mo_makeLengths_125 : decode prog_13_method_31_code 125 = .ok (.iconst 0, 1) := by decide +kernel
theorem d_Mo_makeLengths_126 : decode prog_13_method_31_code 126 = .ok (.iand, 1) := by decide +kernel
theorem d_Mo_makeLengths_127 : decode prog_13_method_31_code 127 = .ok (.istore_n 2, 1) := by decide +kernel
theorem d_Mo_makeLengths_128 : decode prog_13_method_31_code 128 = .ok (.iinc 3 1, 3) := by decide +kernel
theorem d_Mo_makeLengths_131 : decode prog_13_method_31_code 131 = .ok (.goto (-27), 3) := by decide +kernel
theorem d_Mo_makeLengths_134 : decode prog_13_method_31_code 134 = .ok (.iconst 0, 1) := by decide +kernel
theorem d_Mo_makeLengths_135 : decode prog_13_method_31_code 135 = .ok (.istore_n 3, 1) := by decide +kernel
theorem d_Mo_makeLengths_136 : decode prog_13_method_31_code 136 = .ok (.iload_n 3, 1) := by decide +kernel
theorem d_Mo_makeLengths_137 : decode prog_13_method_31_code 137 = .ok (.iload_n 1, 1) := by decide +kernel
theorem d_Mo_makeLengths_138 : decode prog_13_method_31_code 138 = .ok (.if_icmp .ge 31, 3) := by decide +kernel
theorem d_Mo_makeLengths_141 : decode prog_13_method_31_code 141 = .ok (.iload_n 2, 1) := by decide +kernel
theorem d_Mo_makeLengths_142 : decode prog_13_method_31_code 142 = .ok (.ifCond .ne 27, 3) := by decide +kernel
theorem d_Mo_makeLengths_145 : decode prog_13_method_31_code 145 = .ok (.aload_n 0, 1) := by decide +kernel
theorem d_Mo_makeLengths_146 : decode prog_13_method_31_code 146 = .ok (.getfield 53, 3) := by decide +kernel
theorem d_Mo_makeLengths_149 : decode prog_13_method_31_code 149 = .ok (.iload_n 3, 1) := by decide +kernel
theorem d_Mo_makeLengths_150 : decode prog_13_method_31_code 150 = .ok (.aload_n 0, 1) := by decide +kernel
theorem d_Mo_makeLengths_151 : decode prog_13_method_31_code 151 = .ok (.getfield 53, 3) := by decide +kernel
theorem d_Mo_makeLengths_154 : decode prog_13_method_31_code 154 = .ok (.iload_n 3, 1) := by decide +kernel
theorem d_Mo_makeLengths_155 : decode prog_13_method_31_code 155 = .ok (.laload, 1) := by decide +kernel
theorem d_Mo_makeLengths_156 : decode prog_13_method_31_code 156 = .ok (.ldc2_w 122, 3) := by decide +kernel
theorem d_Mo_makeLengths_159 : decode prog_13_method_31_code 159 = .ok (.ldiv, 1) := by decide +kernel
theorem d_Mo_makeLengths_160 : decode prog_13_method_31_code 160 = .ok (.lconst 1, 1) := by decide +kernel
theorem d_Mo_makeLengths_161 : decode prog_13_method_31_code 161 = .ok (.ladd, 1) := by decide +kernel
theorem d_Mo_makeLengths_162 : decode prog_13_method_31_code 162 = .ok (.lastore, 1) := by decide +kernel
theorem d_Mo_makeLengths_163 : decode prog_13_method_31_code 163 = .ok (.iinc 3 1, 3) := by decide +kernel
theorem d_Mo_makeLengths_166 : decode prog_13_method_31_code 166 = .ok (.goto (-30), 3) := by decide +kernel
theorem d_Mo_makeLengths_169 : decode prog_13_method_31_code 169 = .ok (.goto (-78), 3) := by decide +kernel
theorem d_Mo_makeLengths_172 : decode prog_13_method_31_code 172 = .ok (.aload_n 0, 1) := by decide +kernel
theorem d_Mo_makeLengths_173 : decode prog_13_method_31_code 173 = .ok (.iload_n 1, 1) := by decide +kernel
theorem d_Mo_makeLengths_174 : decode prog_13_method_31_code 174 = .ok (.invokevirtual 154, 3) := by decide +kernel
theorem d_Mo_makeLengths_177 : decode prog_13_method_31_code 177 = .ok (.return_, 1) := by decide +kernel
theorem d_Mo_join_0 : decode prog_13_method_32_code 0 = .ok (.iconst 0, 1) := by decide +kernel
theorem d_Mo_join_1 : decode prog_13_method_32_code 1 = .ok (.istore_n 2, 1) := by decide +kernel
theorem d_Mo_join_2 : decode prog_13_method_32_code 2 = .ok (.iload_n 2, 1) := by decide +kernel
theorem d_Mo_join_3 : decode prog_13_method_32_code 3 = .ok (.iload_n 1, 1) := by decide +kernel
theorem d_Mo_join_4 : decode prog_13_method_32_code 4 = .ok (.if_icmp .ge 35, 3) := by decide +kernel
theorem d_Mo_join_7 : decode prog_13_method_32_code 7 = .ok (.aload_n 0, 1) := by decide +kernel
theorem d_Mo_join_8 : decode prog_13_method_32_code 8 = .ok (.getfield 43, 3) := by decide +kernel
theorem d_Mo_join_11 : decode prog_13_method_32_code 11 = .ok (.iload_n 2, 1) := by decide +kernel
theorem d_Mo_join_12 : decode prog_13_method_32_code 12 = .ok (.aload_n 0, 1) := by decide +kernel
theorem d_Mo_join_13 : decode prog_13_method_32_code 13 = .ok (.getfield 53, 3) := by decide +kernel
theorem d_Mo_join_16 : decode prog_13_method_32_code 16 = .ok (.iload_n 2, 1) := by decide +kernel
theorem d_Mo_join_17 : decode prog_13_method_32_code 17 = .ok (.laload, 1) := by decide +kernel
theorem d_Mo_join_18 : decode prog_13_method_32_code 18 = .ok (.lastore, 1) := by decide +kernel
theorem d_Mo_join_19 : decode prog_13_method_32_code 19 = .ok (.aload_n 0, 1) := by decide +kernel
theorem d_Mo_join_20 : decode prog_13_method_32_code 20 = .ok (.getfield 47, 3) := by decide +kernel
theorem d_Mo_join_23 : decode prog_13_method_32_code 23 = .ok (.iload_n 2, 1) := by decide +kernel
theorem d_Mo_join_24 : decode prog_13_method_32_code 24 = .ok (.iload_n 2, 1) := by decide +kernel
theorem d_Mo_join_25 : decode prog_13_method_32_code 25 = .ok (.iastore, 1) := by decide +kernel
theorem d_Mo_join_26 : decode prog_13_method_32_code 26 = .ok (.aload_n 0, 1) := by decide +kernel
theorem d_Mo_join_27 : decode prog_13_method_32_code 27 = .ok (.getfield 50, 3) := by decide +kernel
theorem d_Mo_join_30 : decode prog_13_method_32_code 30 = .ok (.iload_n 2, 1) := by decide +kernel
theorem d_Mo_join_31 : decode prog_13_method_32_code 31 = .ok (.iconst (-1), 1) := by decide +kernel
theorem d_Mo_join_32 : decode prog_13_method_32_code 32 = .ok (.iastore, 1) := by decide +kernel
theorem d_Mo_join_33 : decode prog_13_method_32_code 33 = .ok (.iinc 2 1, 3) := by decide +kernel
theorem d_Mo_join_36 : decode prog_13_method_32_code 36 = .ok (.goto (-34), 3) := by decide +kernel
theorem d_Mo_join_39 : decode prog_13_method_32_code 39 = .ok (.iload_n 1, 1) := by decide +kernel
theorem d_Mo_join_40 : decode prog_13_method_32_code 40 = .ok (.istore_n 2, 1) := by decide +kernel
theorem d_Mo_join_41 : decode prog_13_method_32_code 41 = .ok (.iload_n 1, 1) := by decide +kernel
theorem d_Mo_join_42 : decode prog_13_method_32_code 42 = .ok (.istore_n 3, 1) := by decide +kernel
theorem d_Mo_join_43 : decode prog_13_method_32_code 43 = .ok (.iload_n 3, 1) := by decide +kernel
theorem d_Mo_join_44 : decode prog_13_method_32_code 44 = .ok (.iconst 1, 1) := by decide +kernel
theorem d_Mo_join_45 : decode prog_13_method_32_code 45 = .ok (.if_icmp .le 113, 3) := by decide +kernel
theorem d_Mo_join_48 : decode prog_13_method_32_code 48 = .ok (.aload_n 0, 1) := by decide +kernel
theorem d_Mo_join_49 : decode prog_13_method_32_code 49 = .ok (.iload_n 2, 1) := by decide +kernel
theorem d_Mo_join_50 : decode prog_13_method_32_code 50 = .ok (.iconst (-1), 1) := by decide +kernel
theorem d_Mo_join_51 : decode prog_13_method_32_code 51 = .ok (.invokevirtual 157, 3) := by decide +kernel
theorem d_Mo_join_54 : decode prog_13_method_32_code 54 = .ok (.istore 4, 2) := by decide +kernel
theorem d_Mo_join_56 : decode prog_13_method_32_code 56 = .ok (.aload_n 0, 1) := by decide +kernel
theorem d_Mo_join_57 : decode prog_13_method_32_code 57 = .ok (.iload_n 2, 1) := by decide +kernel
theorem d_Mo_join_58 : decode prog_13_method_32_code 58 = .ok (.iload 4, 2) := by decide +kernel
theorem d_Mo_join_60 : decode prog_13_method_32_code 60 = .ok (.invokevirtual 157, 3) := by decide +kernel
theorem d_Mo_join_63 : decode prog_13_method_32_code 63 = .ok (.istore 5, 2) := by decide +kernel
theorem d_Mo_join_65 : decode prog_13_method_32_code 65 = .ok (.aload_n 0, 1) := by decide +kernel
theorem d_Mo_join_66 : decode prog_13_method_32_code 66 = .ok (.getfield 43, 3) := by decide +kernel
theorem d_Mo_join_69 : decode prog_13_method_32_code 69 = .ok (.iload_n 2, 1) := by decide +kernel
theorem d_Mo_join_70 : decode prog_13_method_32_code 70 = .ok (.aload_n 0, 1) := by decide +kernel
theorem d_Mo_join_71 : decode prog_13_method_32_code 71 = .ok (.getfield 43, 3) := by decide +kernel
theorem d_Mo_join_74 : decode prog_13_method_32_code 74 = .ok (.iload 4, 2) := by decide +kernel
theorem d_Mo_join_76 : decode prog_13_method_32_code 76 = .ok (.laload, 1) := by decide +kernel
theorem d_Mo_join_77 : decode prog_13_method_32_code 77 = .ok (.aload_n 0, 1) := by decide +kernel
theorem d_Mo_join_78 : decode prog_13_method_32_code 78 = .ok (.getfield 43, 3) := by decide +kernel
theorem d_Mo_join_81 : decode prog_13_method_32_code 81 = .ok (.iload 5, 2) := by decide +kernel
theorem d_Mo_join_83 : decode prog_13_method_32_code 83 = .ok (.laload, 1) := by decide +kernel
theorem d_Mo_join_84 : decode prog_13_method_32_code 84 = .ok (.ladd, 1) := by decide +kernel
theorem d_Mo_join_85 : decode prog_13_method_32_code 85 = .ok (.lastore, 1) := by decide +kernel
theorem d_Mo_join_86 : decode prog_13_method_32_code 86 = .ok (.aload_n 0, 1) := by decide +kernel
theorem d_Mo_join_87 : decode prog_13_method_32_code 87 = .ok (.getfield 47, 3) := by decide +kernel
theorem d_Mo_join_90 : decode prog_13_method_32_code 90 = .ok (.iload_n 2, 1) := by decide +kernel
theorem d_Mo_join_91 : decode prog_13_method_32_code 91 = .ok (.aload_n 0, 1) := by decide +kernel
theorem d_Mo_join_92 : decode prog_13_method_32_code 92 = .ok (.getfield 47, 3) := by decide +kernel
theorem d_Mo_join_95 : decode prog_13_method_32_code 95 = .ok (.iload 4, 2) := by decide +kernel
theorem d_Mo_join_97 : decode prog_13_method_32_code 97 = .ok (.iaload, 1) := by decide +kernel
theorem d_Mo_join_98 : decode prog_13_method_32_code 98 = .ok (.aload_n 0, 1) := by decide +kernel
theorem d_Mo_join_99 : decode prog_13_method_32_code 99 = .ok (.getfield 47, 3) := by decide +kernel
theorem d_Mo_join_102 : decode prog_13_method_32_code 102 = .ok (.iload 5, 2) := by decide +kernel
theorem d_Mo_join_104 : decode prog_13_method_32_code 104 = .ok (.iaload, 1) := by decide +kernel
theorem d_Mo_join_105 : decode prog_13_method_32_code 105 = .ok (.if_icmp .ge 13, 3) := by decide +kernel
theorem d_Mo_join_108 : decode prog_13_method_32_code 108 = .ok (.aload_n 0, 1) := by decide +kernel
theorem d_Mo_join_109 : decode prog_13_method_32_code 109 = .ok (.getfield 47, 3) := by decide +kernel
theorem d_Mo_join_112 : decode prog_13_method_32_code 112 = .ok (.iload 4, 2) := by decide +kernel
theorem d_Mo_join_114 : decode prog_13_method_32_code 114 = .ok (.iaload, 1) := by decide +kernel
theorem d_Mo_join_115 : decode prog_13_method_32_code 115 = .ok (.goto 10, 3) := by decide +kernel
theorem d_Mo_join_118 : decode prog_13_method_32_code 118 = .ok (.aload_n 0, 1) := by decide +kernel
theorem d_Mo_join_119 : decode prog_13_method_32_code 119 = .ok (.getfield 47, 3) := by decide +kernel
theorem d_Mo_join_122 : decode prog_13_method_32_code 122 = .ok (.iload 5, 2) := by decide +kernel
theorem d_Mo_join_124 : decode prog_13_method_32_code 124 = .ok (.iaload, 1) := by decide +kernel
theorem d_Mo_join_125 : decode prog_13_method_32_code 125 = .ok (.iastore, 1) := by decide +kernel
theorem d_Mo_join_126 : decode prog_13_method_32_code 126 = .ok (.aload_n 0, 1) := by decide +kernel
theorem d_Mo_join_127 : decode prog_13_method_32_code 127 = .ok (.getfield 50, 3) := by decide +kernel
theorem d_Mo_join_130 : decode prog_13_method_32_code 130 = .ok (.iload_n 2, 1) := by decide +kernel
theorem d_Mo_join_131 : decode prog_13_method_32_code 131 = .ok (.iconst (-1), 1) := by decide +kernel
theorem d_Mo_join_132 : decode prog_13_method_32_code 132 = .ok (.iastore, 1) := by decide +kernel
theorem d_Mo_join_133 : decode prog_13_method_32_code 133 = .ok (.aload_n 0, 1) := by decide +kernel
theorem d_Mo_join_134 : decode prog_13_method_32_code 134 = .ok (.getfield 50, 3) := by decide +kernel
theorem d_Mo_join_137 : decode prog_13_method_32_code 137 = .ok (.iload 4, 2) := by decide +kernel
theorem d_Mo_join_139 : decode prog_13_method_32_code 139 = .ok (.iload_n 2, 1) := by decide +kernel
theorem d_Mo_join_140 : decode prog_13_method_32_code 140 = .ok (.iastore, 1) := by decide +kernel
theorem d_Mo_join_141 : decode prog_13_method_32_code 141 = .ok (.aload_n 0, 1) := by decide +kernel
theorem d_Mo_join_142 : decode prog_13_method_32_code 142 = .ok (.getfield 50, 3) := by decide +kernel
theorem d_Mo_join_145 : decode prog_13_method_32_code 145 = .ok (.iload 5, 2) := by decide +kernel
theorem d_Mo_join_147 : decode prog_13_method_32_code 147 = .ok (.iload_n 2, 1) := by decide +kernel
theorem d_Mo_join_148 : decode prog_13_method_32_code 148 = .ok (.iinc 2 1, 3) := by decide +kernel
theorem d_Mo_join_151 : decode prog_13_method_32_code 151 = .ok (.iastore, 1) := by decide +kernel
theorem d_Mo_join_152 : decode prog_13_method_32_code 152 = .ok (.iinc 3 (-1), 3) := by decide +kernel
theorem d_Mo_join_155 : decode prog_13_method_32_code 155 = .ok (.goto (-112), 3) := by decide +kernel
theorem d_Mo_join_158 : decode prog_13_method_32_code 158 = .ok (.iconst 0, 1) := by decide +kernel
theorem d_Mo_join_159 : decode prog_13_method_32_code 159 = .ok (.istore_n 3, 1) := by decide +kernel
theorem d_Mo_join_160 : decode prog_13_method_32_code 160 = .ok (.iload_n 3, 1) := by decide +kernel
theorem d_Mo_join_161 : decode prog_13_method_32_code 161 = .ok (.iload_n 1, 1) := by decide +kernel
theorem d_Mo_join_162 : decode prog_13_method_32_code 162 = .ok (.if_icmp .ge 51, 3) := by decide +kernel
theorem d_Mo_join_165 : decode prog_13_method_32_code 165 = .ok (.aload_n 0, 1) := by decide +kernel
theorem d_Mo_join_166 : decode prog_13_method_32_code 166 = .ok (.getfield 37, 3) := by decide +kernel
theorem d_Mo_join_169 : decode prog_13_method_32_code 169 = .ok (.iload_n 3, 1) := by decide +kernel
theorem d_Mo_join_170 : decode prog_13_method_32_code 170 = .ok (.iconst 0, 1) := by decide +kernel
theorem d_Mo_join_171 : decode prog_13_method_32_code 171 = .ok (.iastore, 1) := by decide +kernel
theorem d_Mo_join_172 : decode prog_13_method_32_code 172 = .ok (.aload_n 0, 1) := by decide +kernel
theorem d_Mo_join_173 : decode prog_13_method_32_code 173 = .ok (.getfield 50, 3) := by decide +kernel
theorem d_Mo_join_176 : decode prog_13_method_32_code 176 = .ok (.iload_n 3, 1) := by decide +kernel
theorem d_Mo_join_177 : decode prog_13_method_32_code 177 = .ok (.iaload, 1) := by decide +kernel
theorem d_Mo_join_178 : decode prog_13_method_32_code 178 = .ok (.istore 4, 2) := by decide +kernel
theorem d_Mo_join_180 : decode prog_13_method_32_code 180 = .ok (.iload 4, 2) := by decide +kernel
theorem d_Mo_join_182 : decode prog_13_method_32_code 182 = .ok (.ifCond .lt 25, 3) := by decide +kernel
theorem d_Mo_join_185 : decode prog_13_method_32_code 185 = .ok (.aload_n 0, 1) := by decide +kernel
theorem d_Mo_join_186 : decode prog_13_method_32_code 186 = .ok (.getfield 37, 3) := by decide +kernel
theorem d_Mo_join_189 : decode prog_13_method_32_code 189 = .ok (.iload_n 3, 1) := by decide +kernel
theorem d_Mo_join_190 : decode prog_13_method_32_code 190 = .ok (.dup2, 1) := by decide +kernel
theorem d_Mo_join_191 : decode prog_13_method_32_code 191 = .ok (.iaload, 1) := by decide +kernel
theorem d_Mo_join_192 : decode prog_13_method_32_code 192 = .ok (.iconst 1, 1) := by decide +kernel
theorem d_Mo_join_193 : decode prog_13_method_32_code 193 = .ok (.iadd, 1) := by decide +kernel
theorem d_Mo_join_194 : decode prog_13_method_32_code 194 = .ok (.iastore, 1) := by decide +kernel
theorem d_Mo_join_195 : decode prog_13_method_32_code 195 = .ok (.aload_n 0, 1) := by decide +kernel
theorem d_Mo_join_196 : decode prog_13_method_32_code 196 = .ok (.getfield 50, 3) := by decide +kernel
theorem d_Mo_join_199 : decode prog_13_method_32_code 199 = .ok (.iload 4, 2) := by decide +kernel
theorem d_Mo_join_201 : decode prog_13_method_32_code 201 = .ok (.iaload, 1) := by decide +kernel
theorem d_Mo_join_202 : decode prog_13_method_32_code 202 = .ok (.istore 4, 2) := by decide +kernel
theorem d_Mo_join_204 : decode prog_13_method_32_code 204 = .ok (.goto (-24), 3) := by decide +kernel
theorem d_Mo_join_207 : decode prog_13_method_32_code 207 = .ok (.iinc 3 1, 3) := by decide +kernel
theorem d_Mo_join_210 : decode prog_13_method_32_code 210 = .ok (.goto (-50), 3) := by decide +kernel
theorem d_Mo_join_213 : decode prog_13_method_32_code 213 = .ok (.return_, 1) := by decide +kernel
theorem d_Mo_lightest_0 : decode prog_13_method_33_code 0 = .ok (.iconst (-1), 1) := by decide +kernel
theorem d_Mo_lightest_1 : decode prog_13_method_33_code 1 = .ok (.istore_n 3, 1) := by decide +kernel
theorem d_Mo_lightest_2 : decode prog_13_method_33_code 2 = .ok (.iconst 0, 1) := by decide +kernel
theorem d_Mo_lightest_3 : decode prog_13_method_33_code 3 = .ok (.istore 4, 2) := by decide +kernel
theorem d_Mo_lightest_5 : decode prog_13_method_33_code 5 = .ok (.iload 4, 2) := by decide +kernel
theorem d_Mo_lightest_7 : decode prog_13_method_33_code 7 = .ok (.iload_n 1, 1) := by decide +kernel
theorem d_Mo_lightest_8 : decode prog_13_method_33_code 8 = .ok (.if_icmp .ge 85, 3) := by decide +kernel
theorem d_Mo_lightest_11 : decode prog_13_method_33_code 11 = .ok (.aload_n 0, 1) := by decide +kernel
theorem d_Mo_lightest_12 : decode prog_13_method_33_code 12 = .ok (.getfield 50, 3) := by decide +kernel
theorem d_Mo_lightest_15 : decode prog_13_method_33_code 15 = .ok (.iload 4, 2) := by decide +kernel
theorem d_Mo_lightest_17 : decode prog_13_method_33_code 17 = .ok (.iaload, 1) := by decide +kernel
theorem d_Mo_lightest_18 : decode prog_13_method_33_code 18 = .ok (.ifCond .ge 69, 3) := by decide +kernel
theorem d_Mo_lightest_21 : decode prog_13_method_33_code 21 = .ok (.iload 4, 2) := by decide +kernel
theorem d_Mo_lightest_23 : decode prog_13_method_33_code 23 = .ok (.iload_n 2, 1) := by decide +kernel
theorem d_Mo_lightest_24 : decode prog_13_method_33_code 24 = .ok (.if_icmp .ne 6, 3) := by decide +kernel
theorem d_Mo_lightest_27 : decode prog_13_method_33_code 27 = .ok (.goto 60, 3) := by decide +kernel
theorem d_Mo_lightest_30 : decode prog_13_method_33_code 30 = .ok (.iload_n 3, 1) := by decide +kernel
theorem d_Mo_lightest_31 : decode prog_13_method_33_code 31 = .ok (.ifCond .lt 53, 3) := by decide +kernel
theorem d_Mo_lightest_34 : decode prog_13_method_33_code 34 = .ok (.aload_n 0, 1) := by decide +kernel
theorem d_Mo_lightest_35 : decode prog_13_method_33_code 35 = .ok (.getfield 43, 3) := by decide +kernel
theorem d_Mo_lightest_38 : decode prog_13_method_33_code 38 = .ok (.iload 4, 2) := by decide +kernel
theorem d_Mo_lightest_40 : decode prog_13_method_33_code 40 = .ok (.laload, 1) := by decide +kernel
theorem d_Mo_lightest_41 : decode prog_13_method_33_code 41 = .ok (.aload_n 0, 1) := by decide +kernel
theorem d_Mo_lightest_42 : decode prog_13_method_33_code 42 = .ok (.getfield 43, 3) := by decide +kernel
theorem d_Mo_lightest_45 : decode prog_13_method_33_code 45 = .ok (.iload_n 3, 1) := by decide +kernel
theorem d_Mo_lightest_46 : decode prog_13_method_33_code 46 = .ok (.laload, 1) := by decide +kernel
theorem d_Mo_lightest_47 : decode prog_13_method_33_code 47 = .ok (.lcmp, 1) := by decide +kernel
theorem d_Mo_lightest_48 : decode prog_13_method_33_code 48 = .ok (.ifCond .lt 36, 3) := by decide +kernel
theorem d_Mo_lightest_51 : decode prog_13_method_33_code 51 = .ok (.aload_n 0, 1) := by decide +kernel
theorem d_Mo_lightest_52 : decode prog_13_method_33_code 52 = .ok (.getfield 43, 3) := by decide +kernel
theorem d_Mo_lightest_55 : decode prog_13_method_33_code 55 = .ok (.iload 4, 2) := by decide +kernel
theorem d_Mo_lightest_57 : decode prog_13_method_33_code 57 = .ok (.laload, 1) := by decide +kernel
theorem d_Mo_lightest_58 : decode prog_13_method_33_code 58 = .ok (.aload_n 0, 1) := by decide +kernel
theorem d_Mo_lightest_59 : decode prog_13_method_33_code 59 = .ok (.getfield 43, 3) := by decide +kernel
theorem d_Mo_lightest_62 : decode prog_13_method_33_code 62 = .ok (.iload_n 3, 1) := by decide +kernel
theorem d_Mo_lightest_63 : decode prog_13_method_33_code 63 = .ok (.laload, 1) := by decide +kernel
theorem d_Mo_lightest_64 : decode prog_13_method_33_code 64 = .ok (.lcmp, 1) := by decide +kernel
theorem d_Mo_lightest_65 : decode prog_13_method_33_code 65 = .ok (.ifCond .ne 22, 3) := by decide +kernel
theorem d_Mo_lightest_68 : decode prog_13_method_33_code 68 = .ok (.aload_n 0, 1) := by decide +kernel
theorem d_Mo_lightest_69 : decode prog_13_method_33_code 69 = .ok (.getfield 47, 3) := by decide +kernel
theorem d_Mo_lightest_72 : decode prog_13_method_33_code 72 = .ok (.iload 4, 2) := by decide +kernel
theorem d_Mo_lightest_74 : decode prog_13_method_33_code 74 = .ok (.iaload, 1) := by decide +kernel
theorem d_Mo_lightest_75 : decode prog_13_method_33_code 75 = .ok (.aload_n 0, 1) := by decide +kernel
theorem d_Mo_lightest_76 : decode prog_13_method_33_code 76 = .ok (.getfield 47, 3) := by decide +kernel
theorem d_Mo_lightest_79 : decode prog_13_method_33_code 79 = .ok (.iload_n 3, 1) := by decide +kernel
theorem d_Mo_lightest_80 : decode prog_13_method_33_code 80 = .ok (.iaload, 1) := by decide +kernel
theorem d_Mo_lightest_81 : decode prog_13_method_33_code 81 = .ok (.if_icmp .ge 6, 3) := by decide +kernel
theorem d_Mo_lightest_84 : decode prog_13_method_33_code 84 = .ok (.iload 4, 2) := by decide +kernel
theorem d_Mo_lightest_86 : decode prog_13_method_33_code 86 = .ok (.istore_n 3, 1) := by decide +kernel
theorem d_Mo_lightest_87 : decode prog_13_method_33_code 87 = .ok (.iinc 4 1, 3) := by decide +kernel
theorem d_Mo_lightest_90 : decode prog_13_method_33_code 90 = .ok (.goto (-85), 3) := by decide +kernel
theorem d_Mo_lightest_93 : decode prog_13_method_33_code 93 = .ok (.iload_n 3, 1) := by decide +kernel
theorem d_Mo_lightest_94 : decode prog_13_method_33_code 94 = .ok (.ireturn, 1) := by decide +kernel
theorem d_Mo_makeCodes_0 : decode prog_13_method_34_code 0 = .ok (.iconst 0, 1) := by decide +kernel
theorem d_Mo_makeCodes_1 : decode prog_13_method_34_code 1 = .ok (.istore_n 2, 1) := by decide +kernel
theorem d_Mo_makeCodes_2 : decode prog_13_method_34_code 2 = .ok (.iconst 0, 1) := by decide +kernel
theorem d_Mo_makeCodes_3 : decode prog_13_method_34_code 3 = .ok (.istore_n 3, 1) := by decide +kernel
theorem d_Mo_makeCodes_4 : decode prog_13_method_34_code 4 = .ok (.iconst 1, 1) := by decide +kernel
theorem d_Mo_makeCodes_5 : decode prog_13_method_34_code 5 = .ok (.istore 4, 2) := by decide +kernel
theorem d_Mo_makeCodes_7 : decode prog_13_method_34_code 7 = .ok (.iload 4, 2) := by decide +kernel
theorem d_Mo_makeCodes_9 : decode prog_13_method_34_code 9 = .ok (.bipush 12, 2) := by decide +kernel
theorem d_Mo_makeCodes_11 : decode prog_13_method_34_code 11 = .ok (.if_icmp .gt 63, 3) := by decide +kernel
theorem d_Mo_makeCodes_14 : decode prog_13_method_34_code 14 = .ok (.iconst 0, 1) := by decide +kernel
theorem d_Mo_makeCodes_15 : decode prog_13_method_34_code 15 = .ok (.istore 5, 2) := by decide +kernel
theorem d_Mo_makeCodes_17 : decode prog_13_method_34_code 17 = .ok (.iload 5, 2) := by decide +kernel
theorem d_Mo_makeCodes_19 : decode prog_13_method_34_code 19 = .ok (.iload_n 1, 1) := by decide +kernel
theorem d_Mo_makeCodes_20 : decode prog_13_method_34_code 20 = .ok (.if_icmp .ge 48, 3) := by decide +kernel
theorem d_Mo_makeCodes_23 : decode prog_13_method_34_code 23 = .ok (.aload_n 0, 1) := by decide +kernel
theorem d_Mo_makeCodes_24 : decode prog_13_method_34_code 24 = .ok (.getfield 37, 3) := by decide +kernel
theorem d_Mo_makeCodes_27 : decode prog_13_method_34_code 27 = .ok (.iload 5, 2) := by decide +kernel
theorem d_Mo_makeCodes_29 : decode prog_13_method_34_code 29 = .ok (.iaload, 1) := by decide +kernel
theorem d_Mo_makeCodes_30 : decode prog_13_method_34_code 30 = .ok (.iload 4, 2) := by decide +kernel
theorem d_Mo_makeCodes_32 : decode prog_13_method_34_code 32 = .ok (.if_icmp .eq 6, 3) := by decide +kernel
theorem d_Mo_makeCodes_35 : decode prog_13_method_34_code 35 = .ok (.goto 27, 3) := by decide +kernel
theorem d_Mo_makeCodes_38 : decode prog_13_method_34_code 38 = .ok (.iload_n 3, 1) := by decide +kernel
theorem d_Mo_makeCodes_39 : decode prog_13_method_34_code 39 = .ok (.ifCond .le 12, 3) := by decide +kernel
theorem d_Mo_makeCodes_42 : decode prog_13_method_34_code 42 = .ok (.iload_n 2, 1) := by decide +kernel
theorem d_Mo_makeCodes_43 : decode prog_13_method_34_code 43 = .ok (.iconst 1, 1) := by decide +kernel
theorem d_Mo_makeCodes_44 : decode prog_13_method_34_code 44 = .ok (.iadd, 1) := by decide +kernel
theorem d_Mo_makeCodes_45 : decode prog_13_method_34_code 45 = .ok (.iload 4, 2) := by decide +kernel
theorem d_Mo_makeCodes_47 : decode prog_13_method_34_code 47 = .ok (.iload_n 3, 1) := by decide +kernel
theorem d_Mo_makeCodes_48 : decode prog_13_method_34_code 48 = .ok (.isub, 1) := by decide +kernel
theorem d_Mo_makeCodes_49 : decode prog_13_method_34_code 49 = .ok (.ishl, 1) := by decide +kernel
theorem d_Mo_makeCodes_50 : decode prog_13_method_34_code 50 = .ok (.istore_n 2, 1) := by decide +kernel
theorem d_Mo_makeCodes_51 : decode prog_13_method_34_code 51 = .ok (.iload 4, 2) := by decide +kernel
theorem d_Mo_makeCodes_53 : decode prog_13_method_34_code 53 = .ok (.istore_n 3, 1) := by decide +kernel
theorem d_Mo_makeCodes_54 : decode prog_13_method_34_code 54 = .ok (.aload_n 0, 1) := by decide +kernel
theorem d_Mo_makeCodes_55 : decode prog_13_method_34_code 55 = .ok (.getfield 40, 3) := by decide +kernel
theorem d_Mo_makeCodes_58 : decode prog_13_method_34_code 58 = .ok (.iload 5, 2) := by decide +kernel
theorem d_Mo_makeCodes_60 : decode prog_13_method_34_code 60 = .ok (.iload_n 2, 1) := by decide +kernel
theorem d_Mo_makeCodes_61 : decode prog_13_method_34_code 61 = .ok (.iastore, 1) := by decide +kernel
theorem d_Mo_makeCodes_62 : decode prog_13_method_34_code 62 = .ok (.iinc 5 1, 3) := by decide +kernel
theorem d_Mo_makeCodes_65 : decode prog_13_method_34_code 65 = .ok (.goto (-48), 3) := by decide +kernel
theorem d_Mo_makeCodes_68 : decode prog_13_method_34_code 68 = .ok (.iinc 4 1, 3) := by decide +kernel
theorem d_Mo_makeCodes_71 : decode prog_13_method_34_code 71 = .ok (.goto (-64), 3) := by decide +kernel
theorem d_Mo_makeCodes_74 : decode prog_13_method_34_code 74 = .ok (.return_, 1) := by decide +kernel
theorem d_Mo_symbol_0 : decode prog_13_method_35_code 0 = .ok (.aload_n 0, 1) := by decide +kernel
theorem d_Mo_symbol_1 : decode prog_13_method_35_code 1 = .ok (.invokevirtual 101, 3) := by decide +kernel
theorem d_Mo_symbol_4 : decode prog_13_method_35_code 4 = .ok (.aload_n 0, 1) := by decide +kernel
theorem d_Mo_symbol_5 : decode prog_13_method_35_code 5 = .ok (.invokevirtual 160, 3) := by decide +kernel
theorem d_Mo_symbol_8 : decode prog_13_method_35_code 8 = .ok (.iload_n 1, 1) := by decide +kernel
theorem d_Mo_symbol_9 : decode prog_13_method_35_code 9 = .ok (.i2l, 1) := by decide +kernel
theorem d_Mo_symbol_10 : decode prog_13_method_35_code 10 = .ok (.lconst 0, 1) := by decide +kernel
theorem d_Mo_symbol_11 : decode prog_13_method_35_code 11 = .ok (.aload_n 0, 1) := by decide +kernel
theorem d_Mo_symbol_12 : decode prog_13_method_35_code 12 = .ok (.getfield 135, 3) := by decide +kernel
theorem d_Mo_symbol_15 : decode prog_13_method_35_code 15 = .ok (.iconst 1, 1) := by decide +kernel
theorem d_Mo_symbol_16 : decode prog_13_method_35_code 16 = .ok (.isub, 1) := by decide +kernel
theorem d_Mo_symbol_17 : decode prog_13_method_35_code 17 = .ok (.i2l, 1) := by decide +kernel
theorem d_Mo_symbol_18 : decode prog_13_method_35_code 18 = .ok (.invokestatic 72, 3) := by decide +kernel
theorem d_Mo_symbol_21 : decode prog_13_method_35_code 21 = .ok (.ifCond .eq 12, 3) := by decide +kernel
theorem d_Mo_symbol_24 : decode prog_13_method_35_code 24 = .ok (.aload_n 0, 1) := by decide +kernel
theorem d_Mo_symbol_25 : decode prog_13_method_35_code 25 = .ok (.getfield 34, 3) := by decide +kernel
theorem d_Mo_symbol_28 : decode prog_13_method_35_code 28 = .ok (.iload_n 1, 1) := by decide +kernel
theorem d_Mo_symbol_29 : decode prog_13_method_35_code 29 = .ok (.iaload, 1) := by decide +kernel
theorem d_Mo_symbol_30 : decode prog_13_method_35_code 30 = .ok (.goto 5, 3) := by decide +kernel
theorem d_Mo_symbol_33 : decode prog_13_method_35_code 33 = .ok (.bipush (-2), 2) := by decide +kernel
theorem d_Mo_symbol_35 : decode prog_13_method_35_code 35 = .ok (.ireturn, 1) := by decide +kernel
theorem d_Mo_code_0 : decode prog_13_method_36_code 0 = .ok (.aload_n 0, 1) := by decide +kernel
theorem d_Mo_code_1 : decode prog_13_method_36_code 1 = .ok (.invokevirtual 101, 3) := by decide +kernel
theorem d_Mo_code_4 : decode prog_13_method_36_code 4 = .ok (.aload_n 0, 1) := by decide +kernel
theorem d_Mo_code_5 : decode prog_13_method_36_code 5 = .ok (.invokevirtual 160, 3) := by decide +kernel
theorem d_Mo_code_8 : decode prog_13_method_36_code 8 = .ok (.iload_n 1, 1) := by decide +kernel
theorem d_Mo_code_9 : decode prog_13_method_36_code 9 = .ok (.i2l, 1) := by decide +kernel
theorem d_Mo_code_10 : decode prog_13_method_36_code 10 = .ok (.lconst 0, 1) := by decide +kernel
theorem d_Mo_code_11 : decode prog_13_method_36_code 11 = .ok (.aload_n 0, 1) := by decide +kernel
theorem d_Mo_code_12 : decode prog_13_method_36_code 12 = .ok (.getfield 138, 3) := by decide +kernel
theorem d_Mo_code_15 : decode prog_13_method_36_code 15 = .ok (.iconst 1, 1) := by decide +kernel
theorem d_Mo_code_16 : decode prog_13_method_36_code 16 = .ok (.iadd, 1) := by decide +kernel
theorem d_Mo_code_17 : decode prog_13_method_36_code 17 = .ok (.i2l, 1) := by decide +kernel
theorem d_Mo_code_18 : decode prog_13_method_36_code 18 = .ok (.invokestatic 72, 3) := by decide +kernel
theorem d_Mo_code_21 : decode prog_13_method_36_code 21 = .ok (.ifCond .eq 13, 3) := by decide +kernel
theorem d_Mo_code_24 : decode prog_13_method_36_code 24 = .ok (.iload_n 2, 1) := by decide +kernel
theorem d_Mo_code_25 : decode prog_13_method_36_code 25 = .ok (.i2l, 1) := by decide +kernel
theorem d_Mo_code_26 : decode prog_13_method_36_code 26 = .ok (.lconst 0, 1) := by decide +kernel
theorem d_Mo_code_27 : decode prog_13_method_36_code 27 = .ok (.lconst 1, 1) := by decide +kernel
theorem d_Mo_code_28 : decode prog_13_method_36_code 28 = .ok (.invokestatic 72, 3) := by decide +kernel
theorem d_Mo_code_31 : decode prog_13_method_36_code 31 = .ok (.ifCond .ne 5, 3) := by decide +kernel
theorem d_Mo_code_34 : decode prog_13_method_36_code 34 = .ok (.iconst (-1), 1) := by decide +kernel
theorem d_Mo_code_35 : decode prog_13_method_36_code 35 = .ok (.ireturn, 1) := by decide +kernel
theorem d_Mo_code_36 : decode prog_13_method_36_code 36 = .ok (.aload_n 0, 1) := by decide +kernel
theorem d_Mo_code_37 : decode prog_13_method_36_code 37 = .ok (.invokevirtual 163, 3) := by decide +kernel
theorem d_Mo_code_40 : decode prog_13_method_36_code 40 = .ok (.iload_n 2, 1) := by decide +kernel
theorem d_Mo_code_41 : decode prog_13_method_36_code 41 = .ok (.ifCond .ne 12, 3) := by decide +kernel
theorem d_Mo_code_44 : decode prog_13_method_36_code 44 = .ok (.aload_n 0, 1) := by decide +kernel
theorem d_Mo_code_45 : decode prog_13_method_36_code 45 = .ok (.getfield 37, 3) := by decide +kernel
theorem d_Mo_code_48 : decode prog_13_method_36_code 48 = .ok (.iload_n 1, 1) := by decide +kernel
theorem d_Mo_code_49 : decode prog_13_method_36_code 49 = .ok (.iaload, 1) := by decide +kernel
theorem d_Mo_code_50 : decode prog_13_method_36_code 50 = .ok (.goto 9, 3) := by decide +kernel
theorem d_Mo_code_53 : decode prog_13_method_36_code 53 = .ok (.aload_n 0, 1) := by decide +kernel
theorem d_Mo_code_54 : decode prog_13_method_36_code 54 = .ok (.getfield 40, 3) := by decide +kernel
theorem d_Mo_code_57 : decode prog_13_method_36_code 57 = .ok (.iload_n 1, 1) := by decide +kernel
theorem d_Mo_code_58 : decode prog_13_method_36_code 58 = .ok (.iaload, 1) := by decide +kernel
theorem d_Mo_code_59 : decode prog_13_method_36_code 59 = .ok (.ireturn, 1) := by decide +kernel
theorem d_Mo_bits_0 : decode prog_13_method_37_code 0 = .ok (.aload_n 0, 1) := by decide +kernel
theorem d_Mo_bits_1 : decode prog_13_method_37_code 1 = .ok (.invokevirtual 101, 3) := by decide +kernel
theorem d_Mo_bits_4 : decode prog_13_method_37_code 4 = .ok (.aload_n 0, 1) := by decide +kernel
theorem d_Mo_bits_5 : decode prog_13_method_37_code 5 = .ok (.invokevirtual 160, 3) := by decide +kernel
theorem d_Mo_bits_8 : decode prog_13_method_37_code 8 = .ok (.aload_n 0, 1) := by decide +kernel
theorem d_Mo_bits_9 : decode prog_13_method_37_code 9 = .ok (.invokevirtual 163, 3) := by decide +kernel
theorem d_Mo_bits_12 : decode prog_13_method_37_code 12 = .ok (.iconst 0, 1) := by decide +kernel
theorem d_Mo_bits_13 : decode prog_13_method_37_code 13 = .ok (.istore_n 1, 1) := by decide +kernel
theorem d_Mo_bits_14 : decode prog_13_method_37_code 14 = .ok (.iconst 0, 1) := by decide +kernel
theorem d_Mo_bits_15 : decode prog_13_method_37_code 15 = .ok (.istore_n 2, 1) := by decide +kernel
theorem d_Mo_bits_16 : decode prog_13_method_37_code 16 = .ok (.iload_n 2, 1) := by decide +kernel
theorem d_Mo_bits_17 : decode prog_13_method_37_code 17 = .ok (.aload_n 0, 1) := by decide +kernel
theorem d_Mo_bits_18 : decode prog_13_method_37_code 18 = .ok (.getfield 135, 3) := by decide +kernel
theorem d_Mo_bits_21 : decode prog_13_method_37_code 21 = .ok (.if_icmp .ge 23, 3) := by decide +kernel
theorem d_Mo_bits_24 : decode prog_13_method_37_code 24 = .ok (.iload_n 1, 1) := by decide +kernel
theorem d_Mo_bits_25 : decode prog_13_method_37_code 25 = .ok (.aload_n 0, 1) := by decide +kernel
theorem d_Mo_bits_26 : decode prog_13_method_37_code 26 = .ok (.getfield 37, 3) := by decide +kernel
theorem d_Mo_bits_29 : decode prog_13_method_37_code 29 = .ok (.aload_n 0, 1) := by decide +kernel
theorem d_Mo_bits_30 : decode prog_13_method_37_code 30 = .ok (.getfield 34, 3) := by decide +kernel
theorem d_Mo_bits_33 : decode prog_13_method_37_code 33 = .ok (.iload_n 2, 1) := by decide +kernel
theorem d_Mo_bits_34 : decode prog_13_method_37_code 34 = .ok (.iaload, 1) := by decide +kernel
theorem d_Mo_bits_35 : decode prog_13_method_37_code 35 = .ok (.iaload, 1) := by decide +kernel
theorem d_Mo_bits_36 : decode prog_13_method_37_code 36 = .ok (.iadd, 1) := by decide +kernel
theorem d_Mo_bits_37 : decode prog_13_method_37_code 37 = .ok (.istore_n 1, 1) := by decide +kernel
theorem d_Mo_bits_38 : decode prog_13_method_37_code 38 = .ok (.iinc 2 1, 3) := by decide +kernel
theorem d_Mo_bits_41 : decode prog_13_method_37_code 41 = .ok (.goto (-25), 3) := by decide +kernel
theorem d_Mo_bits_44 : decode prog_13_method_37_code 44 = .ok (.iload_n 1, 1) := by decide +kernel
theorem d_Mo_bits_45 : decode prog_13_method_37_code 45 = .ok (.ireturn, 1) := by decide +kernel
end
section
theorem d_Mo_put_0 : decode prog_13_method_38_code 0 = .ok (.iload_n 3, 1) := by decide +kernel
theorem d_Mo_put_1 : decode prog_13_method_38_code 1 = .ok (.iconst 1, 1) := by decide +kernel
theorem d_Mo_put_2 : decode prog_13_method_38_code 2 = .ok (.isub, 1) := by decide +kernel
theorem d_Mo_put_3 : decode prog_13_method_38_code 3 = .ok (.istore 4, 2) := by decide +kernel
theorem d_Mo_put_5 : decode prog_13_method_38_code 5 = .ok (.iload 4, 2) := by decide +kernel
theorem d_Mo_put_7 : decode prog_13_method_38_code 7 = .ok (.ifCond .lt 81, 3) := by decide +kernel
theorem d_Mo_put_10 : decode prog_13_method_38_code 10 = .ok (.aload_n 0, 1) := by decide +kernel
theorem d_Mo_put_11 : decode prog_13_method_38_code 11 = .ok (.getfield 166, 3) := by decide +kernel
theorem d_Mo_put_14 : decode prog_13_method_38_code 14 = .ok (.bipush 8, 2) := by decide +kernel
theorem d_Mo_put_16 : decode prog_13_method_38_code 16 = .ok (.irem, 1) := by decide +kernel
theorem d_Mo_put_17 : decode prog_13_method_38_code 17 = .ok (.ifCond .ne 16, 3) := by decide +kernel
theorem d_Mo_put_20 : decode prog_13_method_38_code 20 = .ok (.aload_n 0, 1) := by decide +kernel
theorem d_Mo_put_21 : decode prog_13_method_38_code 21 = .ok (.getfield 56, 3) := by decide +kernel
theorem d_Mo_put_24 : decode prog_13_method_38_code 24 = .ok (.aload_n 0, 1) := by decide +kernel
theorem d_Mo_put_25 : decode prog_13_method_38_code 25 = .ok (.getfield 166, 3) := by decide +kernel
theorem d_Mo_put_28 : decode prog_13_method_38_code 28 = .ok (.bipush 8, 2) := by decide +kernel
theorem d_Mo_put_30 : decode prog_13_method_38_code 30 = .ok (.idiv, 1) := by decide +kernel
theorem d_Mo_put_31 : decode prog_13_method_38_code 31 = .ok (.iconst 0, 1) := by decide +kernel
theorem d_Mo_put_32 : decode prog_13_method_38_code 32 = .ok (.bastore, 1) := by decide +kernel
theorem d_Mo_put_33 : decode prog_13_method_38_code 33 = .ok (.lload_n 1, 1) := by decide +kernel
theorem d_Mo_put_34 : decode prog_13_method_38_code 34 = .ok (.iload 4, 2) := by decide +kernel
theorem d_Mo_put_36 : decode prog_13_method_38_code 36 = .ok (.lshr, 1) := by decide +kernel
theorem d_Mo_put_37 : decode prog_13_method_38_code 37 = .ok (.lconst 1, 1) := by decide +kernel
theorem d_Mo_put_38 : decode prog_13_method_38_code 38 = .ok (.land, 1) := by decide +kernel
theorem d_Mo_put_39 : decode prog_13_method_38_code 39 = .ok (.lconst 1, 1) := by decide +kernel
theorem d_Mo_put_40 : decode prog_13_method_38_code 40 = .ok (.lcmp, 1) := by decide +kernel
theorem d_Mo_put_41 : decode prog_13_method_38_code 41 = .ok (.ifCond .ne 31, 3) := by decide +kernel
theorem d_Mo_put_44 : decode prog_13_method_38_code 44 = .ok (.aload_n 0, 1) := by decide +kernel
theorem d_Mo_put_45 : decode prog_13_method_38_code 45 = .ok (.getfield 56, 3) := by decide +kernel
theorem d_Mo_put_48 : decode prog_13_method_38_code 48 = .ok (.aload_n 0, 1) := by decide +kernel
theorem d_Mo_put_49 : decode prog_13_method_38_code 49 = .ok (.getfield 166, 3) := by decide +kernel
theorem d_Mo_put_52 : decode prog_13_method_38_code 52 = .ok (.bipush 8, 2) := by decide +kernel
theorem d_Mo_put_54 : decode prog_13_method_38_code 54 = .ok (.idiv, 1) := by decide +kernel
theorem d_Mo_put_55 : decode prog_13_method_38_code 55 = .ok (.dup2, 1) := by decide +kernel
theorem d_Mo_put_56 : decode prog_13_method_38_code 56 = .ok (.baload, 1) := by decide +kernel
theorem d_Mo_put_57 : decode prog_13_method_38_code 57 = .ok (.sipush 128, 3) := by decide +kernel
theorem d_Mo_put_60 : decode prog_13_method_38_code 60 = .ok (.aload_n 0, 1) := by decide +kernel
theorem d_Mo_put_61 : decode prog_13_method_38_code 61 = .ok (.getfield 166, 3) := by decide +kernel
theorem d_Mo_put_64 : decode prog_13_method_38_code 64 = .ok (.bipush 8, 2) := by decide +kernel
theorem d_Mo_put_66 : decode prog_13_method_38_code 66 = .ok (.irem, 1) := by decide +kernel
theorem d_Mo_put_67 : decode prog_13_method_38_code 67 = .ok (.ishr, 1) := by decide +kernel
theorem d_Mo_put_68 : decode prog_13_method_38_code 68 = .ok (.i2b, 1) := by decide +kernel
theorem d_Mo_put_69 : decode prog_13_method_38_code 69 = .ok (.ior, 1) := by decide +kernel
theorem d_Mo_put_70 : decode prog_13_method_38_code 70 = .ok (.i2b, 1) := by decide +kernel
theorem d_Mo_put_71 : decode prog_13_method_38_code 71 = .ok (.bastore, 1) := by decide +kernel
theorem d_Mo_put_72 : decode prog_13_method_38_code 72 = .ok (.aload_n 0, 1) := by decide +kernel
theorem d_Mo_put_73 : decode prog_13_method_38_code 73 = .ok (.dup, 1) := by decide +kernel
theorem d_Mo_put_74 : decode prog_13_method_38_code 74 = .ok (.getfield 166, 3) := by decide +kernel
theorem d_Mo_put_77 : decode prog_13_method_38_code 77 = .ok (.iconst 1, 1) := by decide +kernel
theorem d_Mo_put_78 : decode prog_13_method_38_code 78 = .ok (.iadd, 1) := by decide +kernel
theorem d_Mo_put_79 : decode prog_13_method_38_code 79 = .ok (.putfield 166, 3) := by decide +kernel
theorem d_Mo_put_82 : decode prog_13_method_38_code 82 = .ok (.iinc 4 (-1), 3) := by decide +kernel
theorem d_Mo_put_85 : decode prog_13_method_38_code 85 = .ok (.goto (-80), 3) := by decide +kernel
theorem d_Mo_put_88 : decode prog_13_method_38_code 88 = .ok (.return_, 1) := by decide +kernel
theorem d_Mo_check_0 : decode prog_13_method_39_code 0 = .ok (.iconst (-1), 1) := by decide +kernel
theorem d_Mo_check_1 : decode prog_13_method_39_code 1 = .ok (.istore_n 1, 1) := by decide +kernel
theorem d_Mo_check_2 : decode prog_13_method_39_code 2 = .ok (.iconst 0, 1) := by decide +kernel
theorem d_Mo_check_3 : decode prog_13_method_39_code 3 = .ok (.istore_n 2, 1) := by decide +kernel
theorem d_Mo_check_4 : decode prog_13_method_39_code 4 = .ok (.iload_n 2, 1) := by decide +kernel
theorem d_Mo_check_5 : decode prog_13_method_39_code 5 = .ok (.aload_n 0, 1) := by decide +kernel
theorem d_Mo_check_6 : decode prog_13_method_39_code 6 = .ok (.getfield 76, 3) := by decide +kernel
theorem d_Mo_check_9 : decode prog_13_method_39_code 9 = .ok (.if_icmp .ge 52, 3) := by decide +kernel
theorem d_Mo_check_12 : decode prog_13_method_39_code 12 = .ok (.iload_n 1, 1) := by decide +kernel
theorem d_Mo_check_13 : decode prog_13_method_39_code 13 = .ok (.aload_n 0, 1) := by decide +kernel
theorem d_Mo_check_14 : decode prog_13_method_39_code 14 = .ok (.getfield 7, 3) := by decide +kernel
theorem d_Mo_check_17 : decode prog_13_method_39_code 17 = .ok (.iload_n 2, 1) := by decide +kernel
theorem d_Mo_check_18 : decode prog_13_method_39_code 18 = .ok (.iaload, 1) := by decide +kernel
theorem d_Mo_check_19 : decode prog_13_method_39_code 19 = .ok (.bipush 24, 2) := by decide +kernel
theorem d_Mo_check_21 : decode prog_13_method_39_code 21 = .ok (.ishl, 1) := by decide +kernel
theorem d_Mo_check_22 : decode prog_13_method_39_code 22 = .ok (.ixor, 1) := by decide +kernel
theorem d_Mo_check_23 : decode prog_13_method_39_code 23 = .ok (.istore_n 1, 1) := by decide +kernel
theorem d_Mo_check_24 : decode prog_13_method_39_code 24 = .ok (.iconst 0, 1) := by decide +kernel
theorem d_Mo_check_25 : decode prog_13_method_39_code 25 = .ok (.istore_n 3, 1) := by decide +kernel
theorem d_Mo_check_26 : decode prog_13_method_39_code 26 = .ok (.iload_n 3, 1) := by decide +kernel
theorem d_Mo_check_27 : decode prog_13_method_39_code 27 = .ok (.bipush 8, 2) := by decide +kernel
theorem d_Mo_check_29 : decode prog_13_method_39_code 29 = .ok (.if_icmp .ge 26, 3) := by decide +kernel
theorem d_Mo_check_32 : decode prog_13_method_39_code 32 = .ok (.iload_n 1, 1) := by decide +kernel
theorem d_Mo_check_33 : decode prog_13_method_39_code 33 = .ok (.ifCond .ge 12, 3) := by decide +kernel
theorem d_Mo_check_36 : decode prog_13_method_39_code 36 = .ok (.iload_n 1, 1) := by decide +kernel
theorem d_Mo_check_37 : decode prog_13_method_39_code 37 = .ok (.iconst 1, 1) := by decide +kernel
theorem d_Mo_check_38 : decode prog_13_method_39_code 38 = .ok (.ishl, 1) := by decide +kernel
theorem d_Mo_check_39 : decode prog_13_method_39_code 39 = .ok (.ldc 169, 2) := by decide +kernel
theorem d_Mo_check_41 : decode prog_13_method_39_code 41 = .ok (.ixor, 1) := by decide +kernel
theorem d_Mo_check_42 : decode prog_13_method_39_code 42 = .ok (.goto 6, 3) := by decide +kernel
theorem d_Mo_check_45 : decode prog_13_method_39_code 45 = .ok (.iload_n 1, 1) := by decide +kernel
theorem d_Mo_check_46 : decode prog_13_method_39_code 46 = .ok (.iconst 1, 1) := by decide +kernel
theorem d_Mo_check_47 : decode prog_13_method_39_code 47 = .ok (.ishl, 1) := by decide +kernel
theorem d_Mo_check_48 : decode prog_13_method_39_code 48 = .ok (.istore_n 1, 1) := by decide +kernel
theorem d_Mo_check_49 : decode prog_13_method_39_code 49 = .ok (.iinc 3 1, 3) := by decide +kernel
theorem d_Mo_check_52 : decode prog_13_method_39_code 52 = .ok (.goto (-26), 3) := by decide +kernel
theorem d_Mo_check_55 : decode prog_13_method_39_code 55 = .ok (.iinc 2 1, 3) := by decide +kernel
theorem d_Mo_check_58 : decode prog_13_method_39_code 58 = .ok (.goto (-54), 3) := by decide +kernel
theorem d_Mo_check_61 : decode prog_13_method_39_code 61 = .ok (.iload_n 1, 1) := by decide +kernel
theorem d_Mo_check_62 : decode prog_13_method_39_code 62 = .ok (.iconst (-1), 1) := by decide +kernel
theorem d_Mo_check_63 : decode prog_13_method_39_code 63 = .ok (.ixor, 1) := by decide +kernel
theorem d_Mo_check_64 : decode prog_13_method_39_code 64 = .ok (.ireturn, 1) := by decide +kernel
theorem d_Mo_write_0 : decode prog_13_method_40_code 0 = .ok (.aload_n 0, 1) := by decide +kernel
theorem d_Mo_write_1 : decode prog_13_method_40_code 1 = .ok (.iconst 0, 1) := by decide +kernel
theorem d_Mo_write_2 : decode prog_13_method_40_code 2 = .ok (.putfield 166, 3) := by decide +kernel
theorem d_Mo_write_5 : decode prog_13_method_40_code 5 = .ok (.aload_n 0, 1) := by decide +kernel
theorem d_Mo_write_6 : decode prog_13_method_40_code 6 = .ok (.invokevirtual 90, 3) := by decide +kernel
theorem d_Mo_write_9 : decode prog_13_method_40_code 9 = .ok (.aload_n 0, 1) := by decide +kernel
theorem d_Mo_write_10 : decode prog_13_method_40_code 10 = .ok (.invokevirtual 104, 3) := by decide +kernel
theorem d_Mo_write_13 : decode prog_13_method_40_code 13 = .ok (.aload_n 0, 1) := by decide +kernel
theorem d_Mo_write_14 : decode prog_13_method_40_code 14 = .ok (.getfield 87, 3) := by decide +kernel
theorem d_Mo_write_17 : decode prog_13_method_40_code 17 = .ok (.ifCond .ne 7, 3) := by decide +kernel
theorem d_Mo_write_20 : decode prog_13_method_40_code 20 = .ok (.iconst 0, 1) := by decide +kernel
theorem d_Mo_write_21 : decode prog_13_method_40_code 21 = .ok (.goto 7, 3) := by decide +kernel
theorem d_Mo_write_24 : decode prog_13_method_40_code 24 = .ok (.aload_n 0, 1) := by decide +kernel
theorem d_Mo_write_25 : decode prog_13_method_40_code 25 = .ok (.invokevirtual 107, 3) := by decide +kernel
theorem d_Mo_write_28 : decode prog_13_method_40_code 28 = .ok (.istore_n 1, 1) := by decide +kernel
theorem d_Mo_write_29 : decode prog_13_method_40_code 29 = .ok (.aload_n 0, 1) := by decide +kernel
theorem d_Mo_write_30 : decode prog_13_method_40_code 30 = .ok (.ldc2_w 170, 3) := by decide +kernel
theorem d_Mo_write_33 : decode prog_13_method_40_code 33 = .ok (.bipush 16, 2) := by decide +kernel
theorem d_Mo_write_35 : decode prog_13_method_40_code 35 = .ok (.invokevirtual 172, 3) := by decide +kernel
theorem d_Mo_write_38 : decode prog_13_method_40_code 38 = .ok (.aload_n 0, 1) := by decide +kernel
theorem d_Mo_write_39 : decode prog_13_method_40_code 39 = .ok (.aload_n 0, 1) := by decide +kernel
theorem d_Mo_write_40 : decode prog_13_method_40_code 40 = .ok (.getfield 87, 3) := by decide +kernel
theorem d_Mo_write_43 : decode prog_13_method_40_code 43 = .ok (.i2l, 1) := by decide +kernel
theorem d_Mo_write_44 : decode prog_13_method_40_code 44 = .ok (.bipush 16, 2) := by decide +kernel
theorem d_Mo_write_46 : decode prog_13_method_40_code 46 = .ok (.invokevirtual 172, 3) := by decide +kernel
theorem d_Mo_write_49 : decode prog_13_method_40_code 49 = .ok (.aload_n 0, 1) := by decide +kernel
theorem d_Mo_write_50 : decode prog_13_method_40_code 50 = .ok (.iload_n 1, 1) := by decide +kernel
theorem d_Mo_write_51 : decode prog_13_method_40_code 51 = .ok (.i2l, 1) := by decide +kernel
theorem d_Mo_write_52 : decode prog_13_method_40_code 52 = .ok (.bipush 16, 2) := by decide +kernel
theorem d_Mo_write_54 : decode prog_13_method_40_code 54 = .ok (.invokevirtual 172, 3) := by decide +kernel
theorem d_Mo_write_57 : decode prog_13_method_40_code 57 = .ok (.aload_n 0, 1) := by decide +kernel
theorem d_Mo_write_58 : decode prog_13_method_40_code 58 = .ok (.aload_n 0, 1) := by decide +kernel
theorem d_Mo_write_59 : decode prog_13_method_40_code 59 = .ok (.invokevirtual 176, 3) := by decide +kernel
theorem d_Mo_write_62 : decode prog_13_method_40_code 62 = .ok (.i2l, 1) := by decide +kernel
theorem d_Mo_write_63 : decode prog_13_method_40_code 63 = .ok (.ldc2_w 179, 3) := by decide +kernel
theorem d_Mo_write_66 : decode prog_13_method_40_code 66 = .ok (.land, 1) := by decide +kernel
theorem d_Mo_write_67 : decode prog_13_method_40_code 67 = .ok (.bipush 32, 2) := by decide +kernel
theorem d_Mo_write_69 : decode prog_13_method_40_code 69 = .ok (.invokevirtual 172, 3) := by decide +kernel
theorem d_Mo_write_72 : decode prog_13_method_40_code 72 = .ok (.aload_n 0, 1) := by decide +kernel
theorem d_Mo_write_73 : decode prog_13_method_40_code 73 = .ok (.getfield 87, 3) := by decide +kernel
theorem d_Mo_write_76 : decode prog_13_method_40_code 76 = .ok (.ifCond .le 62, 3) := by decide +kernel
theorem d_Mo_write_79 : decode prog_13_method_40_code 79 = .ok (.iconst 0, 1) := by decide +kernel
theorem d_Mo_write_80 : decode prog_13_method_40_code 80 = .ok (.istore_n 2, 1) := by decide +kernel
theorem d_Mo_write_81 : decode prog_13_method_40_code 81 = .ok (.iload_n 2, 1) := by decide +kernel
theorem d_Mo_write_82 : decode prog_13_method_40_code 82 = .ok (.aload_n 0, 1) := by decide +kernel
theorem d_Mo_write_83 : decode prog_13_method_40_code 83 = .ok (.getfield 87, 3) := by decide +kernel
theorem d_Mo_write_86 : decode prog_13_method_40_code 86 = .ok (.if_icmp .ge 20, 3) := by decide +kernel
theorem d_Mo_write_89 : decode prog_13_method_40_code 89 = .ok (.aload_n 0, 1) := by decide +kernel
theorem d_Mo_write_90 : decode prog_13_method_40_code 90 = .ok (.getfield 28, 3) := by decide +kernel
theorem d_Mo_write_93 : decode prog_13_method_40_code 93 = .ok (.iload_n 2, 1) := by decide +kernel
theorem d_Mo_write_94 : decode prog_13_method_40_code 94 = .ok (.aload_n 0, 1) := by decide +kernel
theorem d_Mo_write_95 : decode prog_13_method_40_code 95 = .ok (.iload_n 2, 1) := by decide +kernel
theorem d_Mo_write_96 : decode prog_13_method_40_code 96 = .ok (.invokevirtual 127, 3) := by decide +kernel
theorem d_Mo_write_99 : decode prog_13_method_40_code 99 = .ok (.iastore, 1) := by decide +kernel
theorem d_Mo_write_100 : decode prog_13_method_40_code 100 = .ok (.iinc 2 1, 3) := by decide +kernel
theorem d_Mo_write_103 : decode prog_13_method_40_code 103 = .ok (.goto (-22), 3) := by decide +kernel
theorem d_Mo_write_106 : decode prog_13_method_40_code 106 = .ok (.iconst 0, 1) := by decide +kernel
theorem d_Mo_write_107 : decode prog_13_method_40_code 107 = .ok (.istore_n 2, 1) := by decide +kernel
theorem d_Mo_write_108 : decode prog_13_method_40_code 108 = .ok (.iload_n 2, 1) := by decide +kernel
theorem d_Mo_write_109 : decode prog_13_method_40_code 109 = .ok (.aload_n 0, 1) := by decide +kernel
theorem d_Mo_write_110 : decode prog_13_method_40_code 110 = .ok (.getfield 87, 3) := by decide +kernel
theorem d_Mo_write_113 : decode prog_13_method_40_code 113 = .ok (.if_icmp .ge 21, 3) := by decide +kernel
theorem d_Mo_write_116 : decode prog_13_method_40_code 116 = .ok (.aload_n 0, 1) := by decide +kernel
theorem d_Mo_write_117 : decode prog_13_method_40_code 117 = .ok (.getfield 13, 3) := by decide +kernel
theorem d_Mo_write_120 : decode prog_13_method_40_code 120 = .ok (.iload_n 2, 1) := by decide +kernel
theorem d_Mo_write_121 : decode prog_13_method_40_code 121 = .ok (.aload_n 0, 1) := by decide +kernel
theorem d_Mo_write_122 : decode prog_13_method_40_code 122 = .ok (.getfield 28, 3) := by decide +kernel
theorem d_Mo_write_125 : decode prog_13_method_40_code 125 = .ok (.iload_n 2, 1) := by decide +kernel
theorem d_Mo_write_126 : decode prog_13_method_40_code 126 = .ok (.iaload, 1) := by decide +kernel
theorem d_Mo_write_127 : decode prog_13_method_40_code 127 = .ok (.iastore, 1) := by decide +kernel
theorem d_Mo_write_128 : decode prog_13_method_40_code 128 = .ok (.iinc 2 1, 3) := by decide +kernel
theorem d_Mo_write_131 : decode prog_13_method_40_code 131 = .ok (.goto (-23), 3) := by decide +kernel
theorem d_Mo_write_134 : decode prog_13_method_40_code 134 = .ok (.aload_n 0, 1) := by decide +kernel
theorem d_Mo_write_135 : decode prog_13_method_40_code 135 = .ok (.invokevirtual 181, 3) := by decide +kernel
theorem d_Mo_write_138 : decode prog_13_method_40_code 138 = .ok (.aload_n 0, 1) := by decide +kernel
theorem d_Mo_write_139 : decode prog_13_method_40_code 139 = .ok (.aload_n 0, 1) := by decide +kernel
theorem d_Mo_write_140 : decode prog_13_method_40_code 140 = .ok (.getfield 166, 3) := by decide +kernel
theorem d_Mo_write_143 : decode prog_13_method_40_code 143 = .ok (.bipush 7, 2) := by decide +kernel
theorem d_Mo_write_145 : decode prog_13_method_40_code 145 = .ok (.iadd, 1) := by decide +kernel
theorem d_Mo_write_146 : decode prog_13_method_40_code 146 = .ok (.bipush 8, 2) := by decide +kernel
theorem d_Mo_write_148 : decode prog_13_method_40_code 148 = .ok (.idiv, 1) := by decide +kernel
theorem d_Mo_write_149 : decode prog_13_method_40_code 149 = .ok (.putfield 184, 3) := by decide +kernel
theorem d_Mo_write_152 : decode prog_13_method_40_code 152 = .ok (.aload_n 0, 1) := by decide +kernel
theorem d_Mo_write_153 : decode prog_13_method_40_code 153 = .ok (.getfield 184, 3) := by decide +kernel
theorem d_Mo_write_156 : decode prog_13_method_40_code 156 = .ok (.ireturn, 1) := by decide +kernel
theorem d_Mo_writeRow_0 : decode prog_13_method_41_code 0 = .ok (.lconst 0, 1) := by decide +kernel
theorem d_Mo_writeRow_1 : decode prog_13_method_41_code 1 = .ok (.lstore_n 1, 1) := by decide +kernel
theorem d_Mo_writeRow_2 : decode prog_13_method_41_code 2 = .ok (.iconst 0, 1) := by decide +kernel
theorem d_Mo_writeRow_3 : decode prog_13_method_41_code 3 = .ok (.istore_n 3, 1) := by decide +kernel
theorem d_Mo_writeRow_4 : decode prog_13_method_41_code 4 = .ok (.iload_n 3, 1) := by decide +kernel
theorem d_Mo_writeRow_5 : decode prog_13_method_41_code 5 = .ok (.sipush 256, 3) := by decide +kernel
theorem d_Mo_writeRow_8 : decode prog_13_method_41_code 8 = .ok (.if_icmp .ge 28, 3) := by decide +kernel
theorem d_Mo_writeRow_11 : decode prog_13_method_41_code 11 = .ok (.aload_n 0, 1) := by decide +kernel
theorem d_Mo_writeRow_12 : decode prog_13_method_41_code 12 = .ok (.iload_n 3, 1) := by decide +kernel
theorem d_Mo_writeRow_13 : decode prog_13_method_41_code 13 = .ok (.invokevirtual 141, 3) := by decide +kernel
theorem d_Mo_writeRow_16 : decode prog_13_method_41_code 16 = .ok (.ifCond .eq 14, 3) := by decide +kernel
theorem d_Mo_writeRow_19 : decode prog_13_method_41_code 19 = .ok (.lload_n 1, 1) := by decide +kernel
theorem d_Mo_writeRow_20 : decode prog_13_method_41_code 20 = .ok (.ldc2_w 187, 3) := by decide +kernel
theorem d_Mo_writeRow_23 : decode prog_13_method_41_code 23 = .ok (.iload_n 3, 1) := by decide +kernel
theorem d_Mo_writeRow_24 : decode prog_13_method_41_code 24 = .ok (.bipush 16, 2) := by decide +kernel
theorem d_Mo_writeRow_26 : decode prog_13_method_41_code 26 = .ok (.idiv, 1) := by decide +kernel
theorem d_Mo_writeRow_27 : decode prog_13_method_41_code 27 = .ok (.lshr, 1) := by decide +kernel
theorem d_Mo_writeRow_28 : decode prog_13_method_41_code 28 = .ok (.lor, 1) := by decide +kernel
theorem d_Mo_writeRow_29 : decode prog_13_method_41_code 29 = .ok (.lstore_n 1, 1) := by decide +kernel
theorem d_Mo_writeRow_30 : decode prog_13_method_41_code 30 = .ok (.iinc 3 1, 3) := by decide +kernel
theorem d_Mo_writeRow_33 : decode prog_13_method_41_code 33 = .ok (.goto (-29), 3) := by decide +kernel
theorem d_Mo_writeRow_36 : decode prog_13_method_41_code 36 = .ok (.aload_n 0, 1) := by decide +kernel
theorem d_Mo_writeRow_37 : decode prog_13_method_41_code 37 = .ok (.lload_n 1, 1) := by decide +kernel
theorem d_Mo_writeRow_38 : decode prog_13_method_41_code 38 = .ok (.bipush 16, 2) := by decide +kernel
theorem d_Mo_writeRow_40 : decode prog_13_method_41_code 40 = .ok (.invokevirtual 172, 3) := by decide +kernel
theorem d_Mo_writeRow_43 : decode prog_13_method_41_code 43 = .ok (.iconst 0, 1) := by decide +kernel
theorem d_Mo_writeRow_44 : decode prog_13_method_41_code 44 = .ok (.istore_n 3, 1) := by decide +kernel
theorem d_Mo_writeRow_45 : decode prog_13_method_41_code 45 = .ok (.iload_n 3, 1) := by decide +kernel
theorem d_Mo_writeRow_46 : decode prog_13_method_41_code 46 = .ok (.bipush 16, 2) := by decide +kernel
theorem d_Mo_writeRow_48 : decode prog_13_method_41_code 48 = .ok (.if_icmp .ge 65, 3) := by decide +kernel
theorem d_Mo_writeRow_51 : decode prog_13_method_41_code 51 = .ok (.lload_n 1, 1) := by decide +kernel
theorem d_Mo_writeRow_52 : decode prog_13_method_41_code 52 = .ok (.bipush 15, 2) := by decide +kernel
theorem d_Mo_writeRow_54 : decode prog_13_method_41_code 54 = .ok (.iload_n 3, 1) := by decide +kernel
theorem d_Mo_writeRow_55 : decode prog_13_method_41_code 55 = .ok (.isub, 1) := by decide +kernel
theorem d_Mo_writeRow_56 : decode prog_13_method_41_code 56 = .ok (.lshr, 1) := by decide +kernel
theorem d_Mo_writeRow_57 : decode prog_13_method_41_code 57 = .ok (.lconst 1, 1) := by decide +kernel
theorem d_Mo_writeRow_58 : decode prog_13_method_41_code 58 = .ok (.land, 1) := by decide +kernel
theorem d_Mo_writeRow_59 : decode prog_13_method_41_code 59 = .ok (.lconst 0, 1) := by decide +kernel
theorem d_Mo_writeRow_60 : decode prog_13_method_41_code 60 = .ok (.lcmp, 1) := by decide +kernel
theorem d_Mo_writeRow_61 : decode prog_13_method_41_code 61 = .ok (.ifCond .ne 6, 3) := by decide +kernel
theorem d_Mo_writeRow_64 : decode prog_13_method_41_code 64 = .ok (.goto 43, 3) := by decide +kernel
theorem d_Mo_writeRow_67 : decode prog_13_method_41_code 67 = .ok (.iconst 0, 1) := by decide +kernel
theorem d_Mo_writeRow_68 : decode prog_13_method_41_code 68 = .ok (.istore 4, 2) := by decide +kernel
theorem d_Mo_writeRow_70 : decode prog_13_method_41_code 70 = .ok (.iload 4, 2) := by decide +kernel
theorem d_Mo_writeRow_72 : decode prog_13_method_41_code 72 = .ok (.bipush 16, 2) := by decide +kernel
theorem d_Mo_writeRow_74 : decode prog_13_method_41_code 74 = .ok (.if_icmp .ge 33, 3) := by decide +kernel
theorem d_Mo_writeRow_77 : decode prog_13_method_41_code 77 = .ok (.aload_n 0, 1) := by decide +kernel
theorem d_Mo_writeRow_78 : decode prog_13_method_41_code 78 = .ok (.aload_n 0, 1) := by decide +kernel
theorem d_Mo_writeRow_79 : decode prog_13_method_41_code 79 = .ok (.bipush 16, 2) := by decide +kernel
theorem d_Mo_writeRow_81 : decode prog_13_method_41_code 81 = .ok (.iload_n 3, 1) := by decide +kernel
theorem d_Mo_writeRow_82 : decode prog_13_method_41_code 82 = .ok (.imul, 1) := by decide +kernel
theorem d_Mo_writeRow_83 : decode prog_13_method_41_code 83 = .ok (.iload 4, 2) := by decide +kernel
theorem d_Mo_writeRow_85 : decode prog_13_method_41_code 85 = .ok (.iadd, 1) := by decide +kernel
theorem d_Mo_writeRow_86 : decode prog_13_method_41_code 86 = .ok (.invokevirtual 141, 3) := by decide +kernel
theorem d_Mo_writeRow_89 : decode prog_13_method_41_code 89 = .ok (.ifCond .eq 7, 3) := by decide +kernel
theorem d_Mo_writeRow_92 : decode prog_13_method_41_code 92 = .ok (.lconst 1, 1) := by decide +kernel
theorem d_Mo_writeRow_93 : decode prog_13_method_41_code 93 = .ok (.goto 4, 3) := by decide +kernel
theorem d_Mo_writeRow_96 : decode prog_13_method_41_code 96 = .ok (.lconst 0, 1) := by decide +kernel
theorem d_Mo_writeRow_97 : decode prog_13_method_41_code 97 = .ok (.iconst 1, 1) := by decide +kernel
theorem d_Mo_writeRow_98 : decode prog_13_method_41_code 98 = .ok (.invokevirtual 172, 3) := by decide +kernel
theorem d_Mo_writeRow_101 : decode prog_13_method_41_code 101 = .ok (.iinc 4 1, 3) := by decide +kernel
theorem d_Mo_writeRow_104 : decode prog_13_method_41_code 104 = .ok (.goto (-34), 3) := by decide +kernel
theorem d_Mo_writeRow_107 : decode prog_13_method_41_code 107 = .ok (.iinc 3 1, 3) := by decide +kernel
theorem d_Mo_writeRow_110 : decode prog_13_method_41_code 110 = .ok (.goto (-65), 3) := by decide +kernel
theorem d_Mo_writeRow_113 : decode prog_13_method_41_code 113 = .ok (.aload_n 0, 1) := by decide +kernel
theorem d_Mo_writeRow_114 : decode prog_13_method_41_code 114 = .ok (.invokevirtual 160, 3) := by decide +kernel
theorem d_Mo_writeRow_117 : decode prog_13_method_41_code 117 = .ok (.aload_n 0, 1) := by decide +kernel
theorem d_Mo_writeRow_118 : decode prog_13_method_41_code 118 = .ok (.invokevirtual 163, 3) := by decide +kernel
theorem d_Mo_writeRow_121 : decode prog_13_method_41_code 121 = .ok (.aload_n 0, 1) := by decide +kernel
theorem d_Mo_writeRow_122 : decode prog_13_method_41_code 122 = .ok (.getfield 37, 3) := by decide +kernel
theorem d_Mo_writeRow_125 : decode prog_13_method_41_code 125 = .ok (.iconst 0, 1) := by decide +kernel
theorem d_Mo_writeRow_126 : decode prog_13_method_41_code 126 = .ok (.iaload, 1) := by decide +kernel
theorem d_Mo_writeRow_127 : decode prog_13_method_41_code 127 = .ok (.istore_n 3, 1) := by decide +kernel
theorem d_Mo_writeRow_128 : decode prog_13_method_41_code 128 = .ok (.aload_n 0, 1) := by decide +kernel
theorem d_Mo_writeRow_129 : decode prog_13_method_41_code 129 = .ok (.iload_n 3, 1) := by decide +kernel
theorem d_Mo_writeRow_130 : decode prog_13_method_41_code 130 = .ok (.i2l, 1) := by decide +kernel
theorem d_Mo_writeRow_131 : decode prog_13_method_41_code 131 = .ok (.iconst 4, 1) := by decide +kernel
theorem d_Mo_writeRow_132 : decode prog_13_method_41_code 132 = .ok (.invokevirtual 172, 3) := by decide +kernel
theorem d_Mo_writeRow_135 : decode prog_13_method_41_code 135 = .ok (.iconst 0, 1) := by decide +kernel
theorem d_Mo_writeRow_136 : decode prog_13_method_41_code 136 = .ok (.istore 4, 2) := by decide +kernel
theorem d_Mo_writeRow_138 : decode prog_13_method_41_code 138 = .ok (.iload 4, 2) := by decide +kernel
theorem d_Mo_writeRow_140 : decode prog_13_method_41_code 140 = .ok (.aload_n 0, 1) := by decide +kernel
theorem d_Mo_writeRow_141 : decode prog_13_method_41_code 141 = .ok (.getfield 138, 3) := by decide +kernel
theorem d_Mo_writeRow_144 : decode prog_13_method_41_code 144 = .ok (.iconst 2, 1) := by decide +kernel
theorem d_Mo_writeRow_145 : decode prog_13_method_41_code 145 = .ok (.iadd, 1) := by decide +kernel
theorem d_Mo_writeRow_146 : decode prog_13_method_41_code 146 = .ok (.if_icmp .ge 65, 3) := by decide +kernel
theorem d_Mo_writeRow_149 : decode prog_13_method_41_code 149 = .ok (.aload_n 0, 1) := by decide +kernel
theorem d_Mo_writeRow_150 : decode prog_13_method_41_code 150 = .ok (.getfield 37, 3) := by decide +kernel
theorem d_Mo_writeRow_153 : decode prog_13_method_41_code 153 = .ok (.iload 4, 2) := by decide +kernel
theorem d_Mo_writeRow_155 : decode prog_13_method_41_code 155 = .ok (.iaload, 1) := by decide +kernel
theorem d_Mo_writeRow_156 : decode prog_13_method_41_code 156 = .ok (.iload_n 3, 1) := by decide +kernel
theorem d_Mo_writeRow_157 : decode prog_13_method_41_code 157 = .ok (.if_icmp .le 17, 3) := by decide +kernel
theorem d_Mo_writeRow_160 : decode prog_13_method_41_code 160 = .ok (.aload_n 0, 1) := by decide +kernel
theorem d_Mo_writeRow_161 : decode prog_13_method_41_code 161 = .ok (.ldc2_w 122, 3) := by decide +kernel
theorem d_Mo_writeRow_164 : decode prog_13_method_41_code 164 = .ok (.iconst 2, 1) := by decide +kernel
theorem d_Mo_writeRow_165 : decode prog_13_method_41_code 165 = .ok (.invokevirtual 172, 3) := by decide +kernel
theorem d_Mo_writeRow_168 : decode prog_13_method_41_code 168 = .ok (.iinc 3 1, 3) := by decide +kernel
theorem d_Mo_writeRow_171 : decode prog_13_method_41_code 171 = .ok (.goto (-22), 3) := by decide +kernel
theorem d_Mo_writeRow_174 : decode prog_13_method_41_code 174 = .ok (.aload_n 0, 1) := by decide +kernel
theorem d_Mo_writeRow_175 : decode prog_13_method_41_code 175 = .ok (.getfield 37, 3) := by decide +kernel
theorem d_Mo_writeRow_178 : decode prog_13_method_41_code 178 = .ok (.iload 4, 2) := by decide +kernel
theorem d_Mo_writeRow_180 : decode prog_13_method_41_code 180 = .ok (.iaload, 1) := by decide +kernel
theorem d_Mo_writeRow_181 : decode prog_13_method_41_code 181 = .ok (.iload_n 3, 1) := by decide +kernel
theorem d_Mo_writeRow_182 : decode prog_13_method_41_code 182 = .ok (.if_icmp .ge 17, 3) := by decide +kernel
theorem d_Mo_writeRow_185 : decode prog_13_method_41_code 185 = .ok (.aload_n 0, 1) := by decide +kernel
theorem d_Mo_writeRow_186 : decode prog_13_method_41_code 186 = .ok (.ldc2_w 189, 3) := by decide +kernel
theorem d_Mo_writeRow_189 : decode prog_13_method_41_code 189 = .ok (.iconst 2, 1) := by decide +kernel
theorem d_Mo_writeRow_190 : decode prog_13_method_41_code 190 = .ok (.invokevirtual 172, 3) := by decide +kernel
theorem d_Mo_writeRow_193 : decode prog_13_method_41_code 193 = .ok (.iinc 3 (-1), 3) := by decide +kernel
theorem d_Mo_writeRow_196 : decode prog_13_method_41_code 196 = .ok (.goto (-22), 3) := by decide +kernel
theorem d_Mo_writeRow_199 : decode prog_13_method_41_code 199 = .ok (.aload_n 0, 1) := by decide +kernel
theorem d_Mo_writeRow_200 : decode prog_13_method_41_code 200 = .ok (.lconst 0, 1) := by decide +kernel
theorem d_Mo_writeRow_201 : decode prog_13_method_41_code 201 = .ok (.iconst 1, 1) := by decide +kernel
theorem d_Mo_writeRow_202 : decode prog_13_method_41_code 202 = .ok (.invokevirtual 172, 3) := by decide +kernel
theorem d_Mo_writeRow_205 : decode prog_13_method_41_code 205 = .ok (.iinc 4 1, 3) := by decide +kernel
theorem d_Mo_writeRow_208 : decode prog_13_method_41_code 208 = .ok (.goto (-70), 3) := by decide +kernel
theorem d_Mo_writeRow_211 : decode prog_13_method_41_code 211 = .ok (.iconst 0, 1) := by decide +kernel
theorem d_Mo_writeRow_212 : decode prog_13_method_41_code 212 = .ok (.istore 4, 2) := by decide +kernel
theorem d_Mo_writeRow_214 : decode prog_13_method_41_code 214 = .ok (.iload 4, 2) := by decide +kernel
theorem d_Mo_writeRow_216 : decode prog_13_method_41_code 216 = .ok (.aload_n 0, 1) := by decide +kernel
theorem d_Mo_writeRow_217 : decode prog_13_method_41_code 217 = .ok (.getfield 135, 3) := by decide +kernel
theorem d_Mo_writeRow_220 : decode prog_13_method_41_code 220 = .ok (.if_icmp .ge 38, 3) := by decide +kernel
theorem d_Mo_writeRow_223 : decode prog_13_method_41_code 223 = .ok (.aload_n 0, 1) := by decide +kernel
theorem d_Mo_writeRow_224 : decode prog_13_method_41_code 224 = .ok (.aload_n 0, 1) := by decide +kernel
theorem d_Mo_writeRow_225 : decode prog_13_method_41_code 225 = .ok (.getfield 40, 3) := by decide +kernel
theorem d_Mo_writeRow_228 : decode prog_13_method_41_code 228 = .ok (.aload_n 0, 1) := by decide +kernel
theorem d_Mo_writeRow_229 : decode prog_13_method_41_code 229 = .ok (.getfield 34, 3) := by decide +kernel
theorem d_Mo_writeRow_232 : decode prog_13_method_41_code 232 = .ok (.iload 4, 2) := by decide +kernel
theorem d_Mo_writeRow_234 : decode prog_13_method_41_code 234 = .ok (.iaload, 1) := by decide +kernel
theorem d_Mo_writeRow_235 : decode prog_13_method_41_code 235 = .ok (.iaload, 1) := by decide +kernel
theorem d_Mo_writeRow_236 : decode prog_13_method_41_code 236 = .ok (.i2l, 1) := by decide +kernel
theorem d_Mo_writeRow_237 : decode prog_13_method_41_code 237 = .ok (.aload_n 0, 1) := by decide +kernel
theorem d_Mo_writeRow_238 : decode prog_13_method_41_code 238 = .ok (.getfield 37, 3) := by decide +kernel
theorem d_Mo_writeRow_241 : decode prog_13_method_41_code 241 = .ok (.aload_n 0, 1) := by decide +kernel
theorem d_Mo_writeRow_242 : decode prog_13_method_41_code 242 = .ok (.getfield 34, 3) := by decide +kernel
theorem d_Mo_writeRow_245 : decode prog_13_method_41_code 245 = .ok (.iload 4, 2) := by decide +kernel
theorem d_Mo_writeRow_247 : decode prog_13_method_41_code 247 = .ok (.iaload, 1) := by decide +kernel
theorem d_Mo_writeRow_248 : decode prog_13_method_41_code 248 = .ok (.iaload, 1) := by decide +kernel
theorem d_Mo_writeRow_249 : decode prog_13_method_41_code 249 = .ok (.invokevirtual 172, 3) := by decide +kernel
theorem d_Mo_writeRow_252 : decode prog_13_method_41_code 252 = .ok (.iinc 4 1, 3) := by decide +kernel
theorem d_Mo_writeRow_255 : decode prog_13_method_41_code 255 = .ok (.goto (-41), 3) := by decide +kernel
theorem d_Mo_writeRow_258 : decode prog_13_method_41_code 258 = .ok (.return_, 1) := by decide +kernel
theorem d_Mo_out_0 : decode prog_13_method_42_code 0 = .ok (.iload_n 1, 1) := by decide +kernel
theorem d_Mo_out_1 : decode prog_13_method_42_code 1 = .ok (.i2l, 1) := by decide +kernel
theorem d_Mo_out_2 : decode prog_13_method_42_code 2 = .ok (.lconst 0, 1) := by decide +kernel
theorem d_Mo_out_3 : decode prog_13_method_42_code 3 = .ok (.aload_n 0, 1) := by decide +kernel
theorem d_Mo_out_4 : decode prog_13_method_42_code 4 = .ok (.getfield 184, 3) := by decide +kernel
theorem d_Mo_out_7 : decode prog_13_method_42_code 7 = .ok (.iconst 1, 1) := by decide +kernel
theorem d_Mo_out_8 : decode prog_13_method_42_code 8 = .ok (.isub, 1) := by decide +kernel
theorem d_Mo_out_9 : decode prog_13_method_42_code 9 = .ok (.i2l, 1) := by decide +kernel
theorem d_Mo_out_10 : decode prog_13_method_42_code 10 = .ok (.invokestatic 72, 3) := by decide +kernel
theorem d_Mo_out_13 : decode prog_13_method_42_code 13 = .ok (.ifCond .eq 16, 3) := by decide +kernel
theorem d_Mo_out_16 : decode prog_13_method_42_code 16 = .ok (.aload_n 0, 1) := by decide +kernel
theorem d_Mo_out_17 : decode prog_13_method_42_code 17 = .ok (.getfield 56, 3) := by decide +kernel
theorem d_Mo_out_20 : decode prog_13_method_42_code 20 = .ok (.iload_n 1, 1) := by decide +kernel
theorem d_Mo_out_21 : decode prog_13_method_42_code 21 = .ok (.baload, 1) := by decide +kernel
theorem d_Mo_out_22 : decode prog_13_method_42_code 22 = .ok (.sipush 255, 3) := by decide +kernel
theorem d_Mo_out_25 : decode prog_13_method_42_code 25 = .ok (.iand, 1) := by decide +kernel
theorem d_Mo_out_26 : decode prog_13_method_42_code 26 = .ok (.goto 5, 3) := by decide +kernel
theorem d_Mo_out_29 : decode prog_13_method_42_code 29 = .ok (.bipush (-2), 2) := by decide +kernel
theorem d_Mo_out_31 : decode prog_13_method_42_code 31 = .ok (.ireturn, 1) := by decide +kernel
theorem d_Mo_tape_0 : decode prog_13_method_43_code 0 = .ok (.iload_n 3, 1) := by decide +kernel
theorem d_Mo_tape_1 : decode prog_13_method_43_code 1 = .ok (.i2l, 1) := by decide +kernel
theorem d_Mo_tape_2 : decode prog_13_method_43_code 2 = .ok (.lconst 1, 1) := by decide +kernel
theorem d_Mo_tape_3 : decode prog_13_method_43_code 3 = .ok (.ldc2_w 70, 3) := by decide +kernel
theorem d_Mo_tape_6 : decode prog_13_method_43_code 6 = .ok (.invokestatic 72, 3) := by decide +kernel
theorem d_Mo_tape_9 : decode prog_13_method_43_code 9 = .ok (.ifCond .ne 5, 3) := by decide +kernel
theorem d_Mo_tape_12 : decode prog_13_method_43_code 12 = .ok (.iconst (-1), 1) := by decide +kernel
theorem d_Mo_tape_13 : decode prog_13_method_43_code 13 = .ok (.ireturn, 1) := by decide +kernel
theorem d_Mo_tape_14 : decode prog_13_method_43_code 14 = .ok (.aload_n 0, 1) := by decide +kernel
theorem d_Mo_tape_15 : decode prog_13_method_43_code 15 = .ok (.getfield 191, 3) := by decide +kernel
theorem d_Mo_tape_18 : decode prog_13_method_43_code 18 = .ok (.iload_n 3, 1) := by decide +kernel
theorem d_Mo_tape_19 : decode prog_13_method_43_code 19 = .ok (.iadd, 1) := by decide +kernel
theorem d_Mo_tape_20 : decode prog_13_method_43_code 20 = .ok (.sipush 3000, 3) := by decide +kernel
theorem d_Mo_tape_23 : decode prog_13_method_43_code 23 = .ok (.if_icmp .le 6, 3) := by decide +kernel
theorem d_Mo_tape_26 : decode prog_13_method_43_code 26 = .ok (.bipush (-3), 2) := by decide +kernel
theorem d_Mo_tape_28 : decode prog_13_method_43_code 28 = .ok (.ireturn, 1) := by decide +kernel
theorem d_Mo_tape_29 : decode prog_13_method_43_code 29 = .ok (.iconst 0, 1) := by decide +kernel
theorem d_Mo_tape_30 : decode prog_13_method_43_code 30 = .ok (.istore 4, 2) := by decide +kernel
theorem d_Mo_tape_32 : decode prog_13_method_43_code 32 = .ok (.iload 4, 2) := by decide +kernel
theorem d_Mo_tape_34 : decode prog_13_method_43_code 34 = .ok (.iload_n 3, 1) := by decide +kernel
theorem d_Mo_tape_35 : decode prog_13_method_43_code 35 = .ok (.if_icmp .ge 34, 3) := by decide +kernel
theorem d_Mo_tape_38 : decode prog_13_method_43_code 38 = .ok (.aload_n 0, 1) := by decide +kernel
theorem d_Mo_tape_39 : decode prog_13_method_43_code 39 = .ok (.getfield 60, 3) := by decide +kernel
theorem d_Mo_tape_42 : decode prog_13_method_43_code 42 = .ok (.aload_n 0, 1) := by decide +kernel
theorem d_Mo_tape_43 : decode prog_13_method_43_code 43 = .ok (.dup, 1) := by decide +kernel
theorem d_Mo_tape_44 : decode prog_13_method_43_code 44 = .ok (.getfield 191, 3) := by decide +kernel
theorem d_Mo_tape_47 : decode prog_13_method_43_code 47 = .ok (.dup_x1, 1) := by decide +kernel
theorem d_Mo_tape_48 : decode prog_13_method_43_code 48 = .ok (.iconst 1, 1) := by decide +kernel
theorem d_Mo_tape_49 : decode prog_13_method_43_code 49 = .ok (.iadd, 1) := by decide +kernel
theorem d_Mo_tape_50 : decode prog_13_method_43_code 50 = .ok (.putfield 191, 3) := by decide +kernel
theorem d_Mo_tape_53 : decode prog_13_method_43_code 53 = .ok (.lload_n 1, 1) := by decide +kernel
theorem d_Mo_tape_54 : decode prog_13_method_43_code 54 = .ok (.bipush 8, 2) := by decide +kernel
theorem d_Mo_tape_56 : decode prog_13_method_43_code 56 = .ok (.iload 4, 2) := by decide +kernel
theorem d_Mo_tape_58 : decode prog_13_method_43_code 58 = .ok (.imul, 1) := by decide +kernel
theorem d_Mo_tape_59 : decode prog_13_method_43_code 59 = .ok (.lushr, 1) := by decide +kernel
theorem d_Mo_tape_60 : decode prog_13_method_43_code 60 = .ok (.l2i, 1) := by decide +kernel
theorem d_Mo_tape_61 : decode prog_13_method_43_code 61 = .ok (.i2b, 1) := by decide +kernel
theorem d_Mo_tape_62 : decode prog_13_method_43_code 62 = .ok (.bastore, 1) := by decide +kernel
theorem d_Mo_tape_63 : decode prog_13_method_43_code 63 = .ok (.iinc 4 1, 3) := by decide +kernel
theorem d_Mo_tape_66 : decode prog_13_method_43_code 66 = .ok (.goto (-34), 3) := by decide +kernel
theorem d_Mo_tape_69 : decode prog_13_method_43_code 69 = .ok (.aload_n 0, 1) := by decide +kernel
theorem d_Mo_tape_70 : decode prog_13_method_43_code 70 = .ok (.getfield 191, 3) := by decide +kernel
theorem d_Mo_tape_73 : decode prog_13_method_43_code 73 = .ok (.ireturn, 1) := by decide +kernel
theorem d_Mo_take_0 : decode prog_13_method_44_code 0 = .ok (.iconst 0, 1) := by decide +kernel
theorem d_Mo_take_1 : decode prog_13_method_44_code 1 = .ok (.istore_n 1, 1) := by decide +kernel
theorem d_Mo_take_2 : decode prog_13_method_44_code 2 = .ok (.iload_n 1, 1) := by decide +kernel
theorem d_Mo_take_3 : decode prog_13_method_44_code 3 = .ok (.aload_n 0, 1) := by decide +kernel
theorem d_Mo_take_4 : decode prog_13_method_44_code 4 = .ok (.getfield 184, 3) := by decide +kernel
theorem d_Mo_take_7 : decode prog_13_method_44_code 7 = .ok (.if_icmp .ge 21, 3) := by decide +kernel
theorem d_Mo_take_10 : decode prog_13_method_44_code 10 = .ok (.aload_n 0, 1) := by decide +kernel
theorem d_Mo_take_11 : decode prog_13_method_44_code 11 = .ok (.getfield 60, 3) := by decide +kernel
theorem d_Mo_take_14 : decode prog_13_method_44_code 14 = .ok (.iload_n 1, 1) := by decide +kernel
theorem d_Mo_take_15 : decode prog_13_method_44_code 15 = .ok (.aload_n 0, 1) := by decide +kernel
theorem d_Mo_take_16 : decode prog_13_method_44_code 16 = .ok (.getfield 56, 3) := by decide +kernel
theorem d_Mo_take_19 : decode prog_13_method_44_code 19 = .ok (.iload_n 1, 1) := by decide +kernel
theorem d_Mo_take_20 : decode prog_13_method_44_code 20 = .ok (.baload, 1) := by decide +kernel
theorem d_Mo_take_21 : decode prog_13_method_44_code 21 = .ok (.bastore, 1) := by decide +kernel
theorem d_Mo_take_22 : decode prog_13_method_44_code 22 = .ok (.iinc 1 1, 3) := by decide +kernel
theorem d_Mo_take_25 : decode prog_13_method_44_code 25 = .ok (.goto (-23), 3) := by decide +kernel
theorem d_Mo_take_28 : decode prog_13_method_44_code 28 = .ok (.aload_n 0, 1) := by decide +kernel
theorem d_Mo_take_29 : decode prog_13_method_44_code 29 = .ok (.aload_n 0, 1) := by decide +kernel
theorem d_Mo_take_30 : decode prog_13_method_44_code 30 = .ok (.getfield 184, 3) := by decide +kernel
theorem d_Mo_take_33 : decode prog_13_method_44_code 33 = .ok (.putfield 191, 3) := by decide +kernel
theorem d_Mo_take_36 : decode prog_13_method_44_code 36 = .ok (.aload_n 0, 1) := by decide +kernel
theorem d_Mo_take_37 : decode prog_13_method_44_code 37 = .ok (.getfield 191, 3) := by decide +kernel
theorem d_Mo_take_40 : decode prog_13_method_44_code 40 = .ok (.ireturn, 1) := by decide +kernel
theorem d_Mo_spoil_0 : decode prog_13_method_45_code 0 = .ok (.iload_n 1, 1) := by decide +kernel
theorem d_Mo_spoil_1 : decode prog_13_method_45_code 1 = .ok (.i2l, 1) := by decide +kernel
theorem d_Mo_spoil_2 : decode prog_13_method_45_code 2 = .ok (.lconst 0, 1) := by decide +kernel
theorem d_Mo_spoil_3 : decode prog_13_method_45_code 3 = .ok (.aload_n 0, 1) := by decide +kernel
theorem d_Mo_spoil_4 : decode prog_13_method_45_code 4 = .ok (.getfield 191, 3) := by decide +kernel
theorem d_Mo_spoil_7 : decode prog_13_method_45_code 7 = .ok (.iconst 1, 1) := by decide +kernel
theorem d_Mo_spoil_8 : decode prog_13_method_45_code 8 = .ok (.isub, 1) := by decide +kernel
theorem d_Mo_spoil_9 : decode prog_13_method_45_code 9 = .ok (.i2l, 1) := by decide +kernel
theorem d_Mo_spoil_10 : decode prog_13_method_45_code 10 = .ok (.invokestatic 72, 3) := by decide +kernel
theorem d_Mo_spoil_13 : decode prog_13_method_45_code 13 = .ok (.ifCond .eq 15, 3) := by decide +kernel
theorem d_Mo_spoil_16 : decode prog_13_method_45_code 16 = .ok (.iload_n 2, 1) := by decide +kernel
theorem d_Mo_spoil_17 : decode prog_13_method_45_code 17 = .ok (.i2l, 1) := by decide +kernel
theorem d_Mo_spoil_18 : decode prog_13_method_45_code 18 = .ok (.lconst 0, 1) := by decide +kernel
theorem d_Mo_spoil_19 : decode prog_13_method_45_code 19 = .ok (.ldc2_w 79, 3) := by decide +kernel
theorem d_Mo_spoil_22 : decode prog_13_method_45_code 22 = .ok (.invokestatic 72, 3) := by decide +kernel
theorem d_Mo_spoil_25 : decode prog_13_method_45_code 25 = .ok (.ifCond .ne 5, 3) := by decide +kernel
theorem d_Mo_spoil_28 : decode prog_13_method_45_code 28 = .ok (.iconst (-1), 1) := by decide +kernel
theorem d_Mo_spoil_29 : decode prog_13_method_45_code 29 = .ok (.ireturn, 1) := by decide +kernel
theorem d_Mo_spoil_30 : decode prog_13_method_45_code 30 = .ok (.aload_n 0, 1) := by decide +kernel
theorem d_Mo_spoil_31 : decode prog_13_method_45_code 31 = .ok (.getfield 60, 3) := by decide +kernel
theorem d_Mo_spoil_34 : decode prog_13_method_45_code 34 = .ok (.iload_n 1, 1) := by decide +kernel
theorem d_Mo_spoil_35 : decode prog_13_method_45_code 35 = .ok (.dup2, 1) := by decide +kernel
theorem d_Mo_spoil_36 : decode prog_13_method_45_code 36 = .ok (.baload, 1) := by decide +kernel
theorem d_Mo_spoil_37 : decode prog_13_method_45_code 37 = .ok (.iload_n 2, 1) := by decide +kernel
theorem d_Mo_spoil_38 : decode prog_13_method_45_code 38 = .ok (.i2b, 1) := by decide +kernel
theorem d_Mo_spoil_39 : decode prog_13_method_45_code 39 = .ok (.ixor, 1) := by decide +kernel
theorem d_Mo_spoil_40 : decode prog_13_method_45_code 40 = .ok (.i2b, 1) := by decide +kernel
theorem d_Mo_spoil_41 : decode prog_13_method_45_code 41 = .ok (.bastore, 1) := by decide +kernel
theorem d_Mo_spoil_42 : decode prog_13_method_45_code 42 = .ok (.aload_n 0, 1) := by decide +kernel
theorem d_Mo_spoil_43 : decode prog_13_method_45_code 43 = .ok (.getfield 60, 3) := by decide +kernel
theorem d_Mo_spoil_46 : decode prog_13_method_45_code 46 = .ok (.iload_n 1, 1) := by decide +kernel
theorem d_Mo_spoil_47 : decode prog_13_method_45_code 47 = .ok (.baload, 1) := by decide +kernel
theorem d_Mo_spoil_48 : decode prog_13_method_45_code 48 = .ok (.sipush 255, 3) := by decide +kernel
theorem d_Mo_spoil_51 : decode prog_13_method_45_code 51 = .ok (.iand, 1) := by decide +kernel
theorem d_Mo_spoil_52 : decode prog_13_method_45_code 52 = .ok (.ireturn, 1) := by decide +kernel
theorem d_Mo_cut_0 : decode prog_13_method_46_code 0 = .ok (.iload_n 1, 1) := by decide +kernel
theorem d_Mo_cut_1 : decode prog_13_method_46_code 1 = .ok (.i2l, 1) := by decide +kernel
theorem d_Mo_cut_2 : decode prog_13_method_46_code 2 = .ok (.lconst 0, 1) := by decide +kernel
theorem d_Mo_cut_3 : decode prog_13_method_46_code 3 = .ok (.aload_n 0, 1) := by decide +kernel
theorem d_Mo_cut_4 : decode prog_13_method_46_code 4 = .ok (.getfield 191, 3) := by decide +kernel
theorem d_Mo_cut_7 : decode prog_13_method_46_code 7 = .ok (.i2l, 1) := by decide +kernel
theorem d_Mo_cut_8 : decode prog_13_method_46_code 8 = .ok (.invokestatic 72, 3) := by decide +kernel
theorem d_Mo_cut_11 : decode prog_13_method_46_code 11 = .ok (.ifCond .ne 5, 3) := by decide +kernel
theorem d_Mo_cut_14 : decode prog_13_method_46_code 14 = .ok (.iconst (-1), 1) := by decide +kernel
theorem d_Mo_cut_15 : decode prog_13_method_46_code 15 = .ok (.ireturn, 1) := by decide +kernel
theorem d_Mo_cut_16 : decode prog_13_method_46_code 16 = .ok (.aload_n 0, 1) := by decide +kernel
theorem d_Mo_cut_17 : decode prog_13_method_46_code 17 = .ok (.getfield 191, 3) := by decide +kernel
theorem d_Mo_cut_20 : decode prog_13_method_46_code 20 = .ok (.istore_n 2, 1) := by decide +kernel
theorem d_Mo_cut_21 : decode prog_13_method_46_code 21 = .ok (.aload_n 0, 1) := by decide +kernel
theorem d_Mo_cut_22 : decode prog_13_method_46_code 22 = .ok (.iload_n 1, 1) := by decide +kernel
theorem d_Mo_cut_23 : decode prog_13_method_46_code 23 = .ok (.putfield 191, 3) := by decide +kernel
theorem d_Mo_cut_26 : decode prog_13_method_46_code 26 = .ok (.iload_n 2, 1) := by decide +kernel
theorem d_Mo_cut_27 : decode prog_13_method_46_code 27 = .ok (.ireturn, 1) := by decide +kernel
theorem d_Mo_wrong_0 : decode prog_13_method_47_code 0 = .ok (.aload_n 0, 1) := by decide +kernel
theorem d_Mo_wrong_1 : decode prog_13_method_47_code 1 = .ok (.getfield 194, 3) := by decide +kernel
theorem d_Mo_wrong_4 : decode prog_13_method_47_code 4 = .ok (.ifCond .ne 13, 3) := by decide +kernel
theorem d_Mo_wrong_7 : decode prog_13_method_47_code 7 = .ok (.aload_n 0, 1) := by decide +kernel
theorem d_Mo_wrong_8 : decode prog_13_method_47_code 8 = .ok (.iload_n 1, 1) := by decide +kernel
theorem d_Mo_wrong_9 : decode prog_13_method_47_code 9 = .ok (.putfield 194, 3) := by decide +kernel
theorem d_Mo_wrong_12 : decode prog_13_method_47_code 12 = .ok (.aload_n 0, 1) := by decide +kernel
theorem d_Mo_wrong_13 : decode prog_13_method_47_code 13 = .ok (.iload_n 2, 1) := by decide +kernel
theorem d_Mo_wrong_14 : decode prog_13_method_47_code 14 = .ok (.putfield 63, 3) := by decide +kernel
theorem d_Mo_wrong_17 : decode prog_13_method_47_code 17 = .ok (.iconst 0, 1) := by decide +kernel
theorem d_Mo_wrong_18 : decode prog_13_method_47_code 18 = .ok (.ireturn, 1) := by decide +kernel
theorem d_Mo_get_0 : decode prog_13_method_48_code 0 = .ok (.aload_n 0, 1) := by decide +kernel
theorem d_Mo_get_1 : decode prog_13_method_48_code 1 = .ok (.getfield 194, 3) := by decide +kernel
theorem d_Mo_get_4 : decode prog_13_method_48_code 4 = .ok (.ifCond .eq 5, 3) := by decide +kernel
theorem d_Mo_get_7 : decode prog_13_method_48_code 7 = .ok (.lconst 0, 1) := by decide +kernel
theorem d_Mo_get_8 : decode prog_13_method_48_code 8 = .ok (.lreturn, 1) := by decide +kernel
theorem d_Mo_get_9 : decode prog_13_method_48_code 9 = .ok (.aload_n 0, 1) := by decide +kernel
theorem d_Mo_get_10 : decode prog_13_method_48_code 10 = .ok (.getfield 197, 3) := by decide +kernel
theorem d_Mo_get_13 : decode prog_13_method_48_code 13 = .ok (.iload_n 1, 1) := by decide +kernel
theorem d_Mo_get_14 : decode prog_13_method_48_code 14 = .ok (.iadd, 1) := by decide +kernel
theorem d_Mo_get_15 : decode prog_13_method_48_code 15 = .ok (.bipush 8, 2) := by decide +kernel
theorem d_Mo_get_17 : decode prog_13_method_48_code 17 = .ok (.aload_n 0, 1) := by decide +kernel
theorem d_Mo_get_18 : decode prog_13_method_48_code 18 = .ok (.getfield 191, 3) := by decide +kernel
theorem d_Mo_get_21 : decode prog_13_method_48_code 21 = .ok (.imul, 1) := by decide +kernel
theorem d_Mo_get_22 : decode prog_13_method_48_code 22 = .ok (.if_icmp .le 15, 3) := by decide +kernel
theorem d_Mo_get_25 : decode prog_13_method_48_code 25 = .ok (.aload_n 0, 1) := by decide +kernel
theorem d_Mo_get_26 : decode prog_13_method_48_code 26 = .ok (.iconst 1, 1) := by decide +kernel
theorem d_Mo_get_27 : decode prog_13_method_48_code 27 = .ok (.aload_n 0, 1) := by decide +kernel
theorem d_Mo_get_28 : decode prog_13_method_48_code 28 = .ok (.getfield 191, 3) := by decide +kernel
theorem d_Mo_get_31 : decode prog_13_method_48_code 31 = .ok (.invokevirtual 200, 3) := by decide +kernel
theorem d_Mo_get_34 : decode prog_13_method_48_code 34 = .ok (.pop, 1) := by decide +kernel
theorem d_Mo_get_35 : decode prog_13_method_48_code 35 = .ok (.lconst 0, 1) := by decide +kernel
theorem d_Mo_get_36 : decode prog_13_method_48_code 36 = .ok (.lreturn, 1) := by decide +kernel
theorem d_Mo_get_37 : decode prog_13_method_48_code 37 = .ok (.lconst 0, 1) := by decide +kernel
theorem d_Mo_get_38 : decode prog_13_method_48_code 38 = .ok (.lstore_n 2, 1) := by decide +kernel
theorem d_Mo_get_39 : decode prog_13_method_48_code 39 = .ok (.iconst 0, 1) := by decide +kernel
theorem d_Mo_get_40 : decode prog_13_method_48_code 40 = .ok (.istore 4, 2) := by decide +kernel
theorem d_Mo_get_42 : decode prog_13_method_48_code 42 = .ok (.iload 4, 2) := by decide +kernel
theorem d_Mo_get_44 : decode prog_13_method_48_code 44 = .ok (.iload_n 1, 1) := by decide +kernel
theorem d_Mo_get_45 : decode prog_13_method_48_code 45 = .ok (.if_icmp .ge 50, 3) := by decide +kernel
theorem d_Mo_get_48 : decode prog_13_method_48_code 48 = .ok (.lload_n 2, 1) := by decide +kernel
theorem d_Mo_get_49 : decode prog_13_method_48_code 49 = .ok (.iconst 1, 1) := by decide +kernel
theorem d_Mo_get_50 : decode prog_13_method_48_code 50 = .ok (.lshl, 1) := by decide +kernel
theorem d_Mo_get_51 : decode prog_13_method_48_code 51 = .ok (.aload_n 0, 1) := by decide +kernel
theorem d_Mo_get_52 : decode prog_13_method_48_code 52 = .ok (.getfield 60, 3) := by decide +kernel
theorem d_Mo_get_55 : decode prog_13_method_48_code 55 = .ok (.aload_n 0, 1) := by decide +kernel
theorem d_Mo_get_56 : decode prog_13_method_48_code 56 = .ok (.getfield 197, 3) := by decide +kernel
theorem d_Mo_get_59 : decode prog_13_method_48_code 59 = .ok (.bipush 8, 2) := by decide +kernel
theorem d_Mo_get_61 : decode prog_13_method_48_code 61 = .ok (.idiv, 1) := by decide +kernel
theorem d_Mo_get_62 : decode prog_13_method_48_code 62 = .ok (.baload, 1) := by decide +kernel
theorem d_Mo_get_63 : decode prog_13_method_48_code 63 = .ok (.bipush 7, 2) := by decide +kernel
theorem d_Mo_get_65 : decode prog_13_method_48_code 65 = .ok (.aload_n 0, 1) := by decide +kernel
theorem d_Mo_get_66 : decode prog_13_method_48_code 66 = .ok (.getfield 197, 3) := by decide +kernel
theorem d_Mo_get_69 : decode prog_13_method_48_code 69 = .ok (.bipush 8, 2) := by decide +kernel
theorem d_Mo_get_71 : decode prog_13_method_48_code 71 = .ok (.irem, 1) := by decide +kernel
theorem d_Mo_get_72 : decode prog_13_method_48_code 72 = .ok (.isub, 1) := by decide +kernel
theorem d_Mo_get_73 : decode prog_13_method_48_code 73 = .ok (.ishr, 1) := by decide +kernel
theorem d_Mo_get_74 : decode prog_13_method_48_code 74 = .ok (.iconst 1, 1) := by decide +kernel
theorem d_Mo_get_75 : decode prog_13_method_48_code 75 = .ok (.iand, 1) := by decide +kernel
theorem d_Mo_get_76 : decode prog_13_method_48_code 76 = .ok (.i2l, 1) := by decide +kernel
theorem d_Mo_get_77 : decode prog_13_method_48_code 77 = .ok (.lor, 1) := by decide +kernel
theorem d_Mo_get_78 : decode prog_13_method_48_code 78 = .ok (.lstore_n 2, 1) := by decide +kernel
theorem d_Mo_get_79 : decode prog_13_method_48_code 79 = .ok (.aload_n 0, 1) := by decide +kernel
theorem d_Mo_get_80 : decode prog_13_method_48_code 80 = .ok (.dup, 1) := by decide +kernel
theorem d_Mo_get_81 : decode prog_13_method_48_code 81 = .ok (.getfield 197, 3) := by decide +kernel
theorem d_Mo_get_84 : decode prog_13_method_48_code 84 = .ok (.iconst 1, 1) := by decide +kernel
theorem d_Mo_get_85 : decode prog_13_method_48_code 85 = .ok (.iadd, 1) := by decide +kernel
theorem d_Mo_get_86 : decode prog_13_method_48_code 86 = .ok (.putfield 197, 3) := by decide +kernel
theorem d_Mo_get_89 : decode prog_13_method_48_code 89 = .ok (.iinc 4 1, 3) := by decide +kernel
theorem d_Mo_get_92 : decode prog_13_method_48_code 92 = .ok (.goto (-50), 3) := by decide +kernel
theorem d_Mo_get_95 : decode prog_13_method_48_code 95 = .ok (.lload_n 2, 1) := by decide +kernel
theorem d_Mo_get_96 : decode prog_13_method_48_code 96 = .ok (.lreturn, 1) := by decide +kernel
theorem d_Mo_readsList_0 : decode prog_13_method_49_code 0 = .ok (.aload_n 0, 1) := by decide +kernel
theorem d_Mo_readsList_1 : decode prog_13_method_49_code 1 = .ok (.getfield 197, 3) := by decide +kernel
theorem d_Mo_readsList_4 : decode prog_13_method_49_code 4 = .ok (.bipush 8, 2) := by decide +kernel
theorem d_Mo_readsList_6 : decode prog_13_method_49_code 6 = .ok (.idiv, 1) := by decide +kernel
theorem d_Mo_readsList_7 : decode prog_13_method_49_code 7 = .ok (.istore_n 1, 1) := by decide +kernel
theorem d_Mo_readsList_8 : decode prog_13_method_49_code 8 = .ok (.aload_n 0, 1) := by decide +kernel
theorem d_Mo_readsList_9 : decode prog_13_method_49_code 9 = .ok (.bipush 16, 2) := by decide +kernel
theorem d_Mo_readsList_11 : decode prog_13_method_49_code 11 = .ok (.invokevirtual 203, 3) := by decide +kernel
theorem d_Mo_readsList_14 : decode prog_13_method_49_code 14 = .ok (.lstore_n 2, 1) := by decide +kernel
theorem d_Mo_readsList_15 : decode prog_13_method_49_code 15 = .ok (.aload_n 0, 1) := by decide +kernel
theorem d_Mo_readsList_16 : decode prog_13_method_49_code 16 = .ok (.getfield 194, 3) := by decide +kernel
theorem d_Mo_readsList_19 : decode prog_13_method_49_code 19 = .ok (.ifCond .eq 5, 3) := by decide +kernel
theorem d_Mo_readsList_22 : decode prog_13_method_49_code 22 = .ok (.iconst 0, 1) := by decide +kernel
theorem d_Mo_readsList_23 : decode prog_13_method_49_code 23 = .ok (.ireturn, 1) := by decide +kernel
theorem d_Mo_readsList_24 : decode prog_13_method_49_code 24 = .ok (.lload_n 2, 1) := by decide +kernel
theorem d_Mo_readsList_25 : decode prog_13_method_49_code 25 = .ok (.lconst 0, 1) := by decide +kernel
theorem d_Mo_readsList_26 : decode prog_13_method_49_code 26 = .ok (.lcmp, 1) := by decide +kernel
theorem d_Mo_readsList_27 : decode prog_13_method_49_code 27 = .ok (.ifCond .ne 10, 3) := by decide +kernel
theorem d_Mo_readsList_30 : decode prog_13_method_49_code 30 = .ok (.aload_n 0, 1) := by decide +kernel
theorem d_Mo_readsList_31 : decode prog_13_method_49_code 31 = .ok (.iconst 5, 1) := by decide +kernel
theorem d_Mo_readsList_32 : decode prog_13_method_49_code 32 = .ok (.iload_n 1, 1) := by decide +kernel
theorem d_Mo_readsList_33 : decode prog_13_method_49_code 33 = .ok (.invokevirtual 200, 3) := by decide +kernel
theorem d_Mo_readsList_36 : decode prog_13_method_49_code 36 = .ok (.ireturn, 1) := by decide +kernel
theorem d_Mo_readsList_37 : decode prog_13_method_49_code 37 = .ok (.aload_n 0, 1) := by decide +kernel
theorem d_Mo_readsList_38 : decode prog_13_method_49_code 38 = .ok (.iconst 0, 1) := by decide +kernel
theorem d_Mo_readsList_39 : decode prog_13_method_49_code 39 = .ok (.putfield 138, 3) := by decide +kernel
theorem d_Mo_readsList_42 : decode prog_13_method_49_code 42 = .ok (.iconst 0, 1) := by decide +kernel
theorem d_Mo_readsList_43 : decode prog_13_method_49_code 43 = .ok (.istore 4, 2) := by decide +kernel
theorem d_Mo_readsList_45 : decode prog_13_method_49_code 45 = .ok (.iload 4, 2) := by decide +kernel
theorem d_Mo_readsList_47 : decode prog_13_method_49_code 47 = .ok (.bipush 16, 2) := by decide +kernel
theorem d_Mo_readsList_49 : decode prog_13_method_49_code 49 = .ok (.if_icmp .ge 120, 3) := by decide +kernel
theorem d_Mo_readsList_52 : decode prog_13_method_49_code 52 = .ok (.lload_n 2, 1) := by decide +kernel
theorem d_Mo_readsList_53 : decode prog_13_method_49_code 53 = .ok (.bipush 15, 2) := by decide +kernel
theorem d_Mo_readsList_55 : decode prog_13_method_49_code 55 = .ok (.iload 4, 2) := by decide +kernel
theorem d_Mo_readsList_57 : decode prog_13_method_49_code 57 = .ok (.isub, 1) := by decide +kernel
theorem d_Mo_readsList_58 : decode prog_13_method_49_code 58 = .ok (.lshr, 1) := by decide +kernel
theorem d_Mo_readsList_59 : decode prog_13_method_49_code 59 = .ok (.lconst 1, 1) := by decide +kernel
theorem d_Mo_readsList_60 : decode prog_13_method_49_code 60 = .ok (.land, 1) := by decide +kernel
theorem d_Mo_readsList_61 : decode prog_13_method_49_code 61 = .ok (.lconst 0, 1) := by decide +kernel
theorem d_Mo_readsList_62 : decode prog_13_method_49_code 62 = .ok (.lcmp, 1) := by decide +kernel
theorem d_Mo_readsList_63 : decode prog_13_method_49_code 63 = .ok (.ifCond .ne 6, 3) := by decide +kernel
theorem d_Mo_readsList_66 : decode prog_13_method_49_code 66 = .ok (.goto 97, 3) := by decide +kernel
theorem d_Mo_readsList_69 : decode prog_13_method_49_code 69 = .ok (.aload_n 0, 1) := by decide +kernel
theorem d_Mo_readsList_70 : decode prog_13_method_49_code 70 = .ok (.getfield 197, 3) := by decide +kernel
theorem d_Mo_readsList_73 : decode prog_13_method_49_code 73 = .ok (.bipush 8, 2) := by decide +kernel
theorem d_Mo_readsList_75 : decode prog_13_method_49_code 75 = .ok (.idiv, 1) := by decide +kernel
theorem d_Mo_readsList_76 : decode prog_13_method_49_code 76 = .ok (.istore_n 1, 1) := by decide +kernel
theorem d_Mo_readsList_77 : decode prog_13_method_49_code 77 = .ok (.aload_n 0, 1) := by decide +kernel
theorem d_Mo_readsList_78 : decode prog_13_method_49_code 78 = .ok (.bipush 16, 2) := by decide +kernel
theorem d_Mo_readsList_80 : decode prog_13_method_49_code 80 = .ok (.invokevirtual 203, 3) := by decide +kernel
theorem d_Mo_readsList_83 : decode prog_13_method_49_code 83 = .ok (.lstore 5, 2) := by decide +kernel
theorem d_Mo_readsList_85 : decode prog_13_method_49_code 85 = .ok (.aload_n 0, 1) := by decide +kernel
theorem d_Mo_readsList_86 : decode prog_13_method_49_code 86 = .ok (.getfield 194, 3) := by decide +kernel
theorem d_Mo_readsList_89 : decode prog_13_method_49_code 89 = .ok (.ifCond .eq 5, 3) := by decide +kernel
theorem d_Mo_readsList_92 : decode prog_13_method_49_code 92 = .ok (.iconst 0, 1) := by decide +kernel
theorem d_Mo_readsList_93 : decode prog_13_method_49_code 93 = .ok (.ireturn, 1) := by decide +kernel
theorem d_Mo_readsList_94 : decode prog_13_method_49_code 94 = .ok (.lload 5, 2) := by decide +kernel
theorem d_Mo_readsList_96 : decode prog_13_method_49_code 96 = .ok (.lconst 0, 1) := by decide +kernel
theorem d_Mo_readsList_97 : decode prog_13_method_49_code 97 = .ok (.lcmp, 1) := by decide +kernel
theorem d_Mo_readsList_98 : decode prog_13_method_49_code 98 = .ok (.ifCond .ne 10, 3) := by decide +kernel
theorem d_Mo_readsList_101 : decode prog_13_method_49_code 101 = .ok (.aload_n 0, 1) := by decide +kernel
theorem d_Mo_readsList_102 : decode prog_13_method_49_code 102 = .ok (.iconst 5, 1) := by decide +kernel
theorem d_Mo_readsList_103 : decode prog_13_method_49_code 103 = .ok (.iload_n 1, 1) := by decide +kernel
theorem d_Mo_readsList_104 : decode prog_13_method_49_code 104 = .ok (.invokevirtual 200, 3) := by decide +kernel
theorem d_Mo_readsList_107 : decode prog_13_method_49_code 107 = .ok (.ireturn, 1) := by decide +kernel
theorem d_Mo_readsList_108 : decode prog_13_method_49_code 108 = .ok (.iconst 0, 1) := by decide +kernel
theorem d_Mo_readsList_109 : decode prog_13_method_49_code 109 = .ok (.istore 7, 2) := by decide +kernel
theorem d_Mo_readsList_111 : decode prog_13_method_49_code 111 = .ok (.iload 7, 2) := by decide +kernel
theorem d_Mo_readsList_113 : decode prog_13_method_49_code 113 = .ok (.bipush 16, 2) := by decide +kernel
theorem d_Mo_readsList_115 : decode prog_13_method_49_code 115 = .ok (.if_icmp .ge 48, 3) := by decide +kernel
theorem d_Mo_readsList_118 : decode prog_13_method_49_code 118 = .ok (.lload 5, 2) := by decide +kernel
theorem d_Mo_readsList_120 : decode prog_13_method_49_code 120 = .ok (.bipush 15, 2) := by decide +kernel
theorem d_Mo_readsList_122 : decode prog_13_method_49_code 122 = .ok (.iload 7, 2) := by decide +kernel
theorem d_Mo_readsList_124 : decode prog_13_method_49_code 124 = .ok (.isub, 1) := by decide +kernel
theorem d_Mo_readsList_125 : decode prog_13_method_49_code 125 = .ok (.lshr, 1) := by decide +kernel
theorem d_Mo_readsList_126 : decode prog_13_method_49_code 126 = .ok (.lconst 1, 1) := by decide +kernel
theorem d_Mo_readsList_127 : decode prog_13_method_49_code 127 = .ok (.land, 1) := by decide +kernel
theorem d_Mo_readsList_128 : decode prog_13_method_49_code 128 = .ok (.lconst 1, 1) := by decide +kernel
theorem d_Mo_readsList_129 : decode prog_13_method_49_code 129 = .ok (.lcmp, 1) := by decide +kernel
theorem d_Mo_readsList_130 : decode prog_13_method_49_code 130 = .ok (.ifCond .ne 27, 3) := by decide +kernel
theorem d_Mo_readsList_133 : decode prog_13_method_49_code 133 = .ok (.aload_n 0, 1) := by decide +kernel
theorem d_Mo_readsList_134 : decode prog_13_method_49_code 134 = .ok (.getfield 31, 3) := by decide +kernel
theorem d_Mo_readsList_137 : decode prog_13_method_49_code 137 = .ok (.aload_n 0, 1) := by decide +kernel
theorem d_Mo_readsList_138 : decode prog_13_method_49_code 138 = .ok (.dup, 1) := by decide +kernel
theorem d_Mo_readsList_139 : decode prog_13_method_49_code 139 = .ok (.getfield 138, 3) := by decide +kernel
theorem d_Mo_readsList_142 : decode prog_13_method_49_code 142 = .ok (.dup_x1, 1) := by decide +kernel
theorem d_Mo_readsList_143 : decode prog_13_method_49_code 143 = .ok (.iconst 1, 1) := by decide +kernel
theorem d_Mo_readsList_144 : decode prog_13_method_49_code 144 = .ok (.iadd, 1) := by decide +kernel
theorem d_Mo_readsList_145 : decode prog_13_method_49_code 145 = .ok (.putfield 138, 3) := by decide +kernel
theorem d_Mo_readsList_148 : decode prog_13_method_49_code 148 = .ok (.bipush 16, 2) := by decide +kernel
theorem d_Mo_readsList_150 : decode prog_13_method_49_code 150 = .ok (.iload 4, 2) := by decide +kernel
theorem d_Mo_readsList_152 : decode prog_13_method_49_code 152 = .ok (.imul, 1) := by decide +kernel
theorem d_Mo_readsList_153 : decode prog_13_method_49_code 153 = .ok (.iload 7, 2) := by decide +kernel
theorem d_Mo_readsList_155 : decode prog_13_method_49_code 155 = .ok (.iadd, 1) := by decide +kernel
theorem d_Mo_readsList_156 : decode prog_13_method_49_code 156 = .ok (.iastore, 1) := by decide +kernel
theorem d_Mo_readsList_157 : decode prog_13_method_49_code 157 = .ok (.iinc 7 1, 3) := by decide +kernel
theorem d_Mo_readsList_160 : decode prog_13_method_49_code 160 = .ok (.goto (-49), 3) := by decide +kernel
theorem d_Mo_readsList_163 : decode prog_13_method_49_code 163 = .ok (.iinc 4 1, 3) := by decide +kernel
theorem d_Mo_readsList_166 : decode prog_13_method_49_code 166 = .ok (.goto (-121), 3) := by decide +kernel
theorem d_Mo_readsList_169 : decode prog_13_method_49_code 169 = .ok (.iconst 1, 1) := by decide +kernel
theorem d_Mo_readsList_170 : decode prog_13_method_49_code 170 = .ok (.ireturn, 1) := by decide +kernel
end
section
theorem d_Mo_readsLengths_0 : decode prog_13_method_50_code 0 = .ok (.aload_n 0, 1) := by decide +kernel
theorem d_Mo_readsLengths_1 : decode prog_13_method_50_code 1 = .ok (.getfield 197, 3) := by decide +kernel
theorem d_Mo_readsLengths_4 : decode prog_13_method_50_code 4 = .ok (.bipush 8, 2) := by decide +kernel
theorem d_Mo_readsLengths_6 : decode prog_13_method_50_code 6 = .ok (.idiv, 1) := by decide +kernel
theorem d_Mo_readsLengths_7 : decode prog_13_method_50_code 7 = .ok (.istore_n 1, 1) := by decide +kernel
theorem d_Mo_readsLengths_8 : decode prog_13_method_50_code 8 = .ok (.aload_n 0, 1) := by decide +kernel
theorem d_Mo_readsLengths_9 : decode prog_13_method_50_code 9 = .ok (.iconst 4, 1) := by decide +kernel
theorem d_Mo_readsLengths_10 : decode prog_13_method_50_code 10 = .ok (.invokevirtual 203, 3) := by decide +kernel
theorem d_Mo_readsLengths_13 : decode prog_13_method_50_code 13 = .ok (.l2i, 1) := by decide +kernel
theorem d_Mo_readsLengths_14 : decode prog_13_method_50_code 14 = .ok (.istore_n 2, 1) := by decide +kernel
theorem d_Mo_readsLengths_15 : decode prog_13_method_50_code 15 = .ok (.aload_n 0, 1) := by decide +kernel
theorem d_Mo_readsLengths_16 : decode prog_13_method_50_code 16 = .ok (.getfield 194, 3) := by decide +kernel
theorem d_Mo_readsLengths_19 : decode prog_13_method_50_code 19 = .ok (.ifCond .eq 5, 3) := by decide +kernel
theorem d_Mo_readsLengths_22 : decode prog_13_method_50_code 22 = .ok (.iconst 0, 1) := by decide +kernel
theorem d_Mo_readsLengths_23 : decode prog_13_method_50_code 23 = .ok (.ireturn, 1) := by decide +kernel
theorem d_Mo_readsLengths_24 : decode prog_13_method_50_code 24 = .ok (.iload_n 2, 1) := by decide +kernel
theorem d_Mo_readsLengths_25 : decode prog_13_method_50_code 25 = .ok (.i2l, 1) := by decide +kernel
theorem d_Mo_readsLengths_26 : decode prog_13_method_50_code 26 = .ok (.lconst 1, 1) := by decide +kernel
theorem d_Mo_readsLengths_27 : decode prog_13_method_50_code 27 = .ok (.ldc2_w 207, 3) := by decide +kernel
theorem d_Mo_readsLengths_30 : decode prog_13_method_50_code 30 = .ok (.invokestatic 72, 3) := by decide +kernel
theorem d_Mo_readsLengths_33 : decode prog_13_method_50_code 33 = .ok (.ifCond .ne 11, 3) := by decide +kernel
theorem d_Mo_readsLengths_36 : decode prog_13_method_50_code 36 = .ok (.aload_n 0, 1) := by decide +kernel
theorem d_Mo_readsLengths_37 : decode prog_13_method_50_code 37 = .ok (.bipush 6, 2) := by decide +kernel
theorem d_Mo_readsLengths_39 : decode prog_13_method_50_code 39 = .ok (.iload_n 1, 1) := by decide +kernel
theorem d_Mo_readsLengths_40 : decode prog_13_method_50_code 40 = .ok (.invokevirtual 200, 3) := by decide +kernel
theorem d_Mo_readsLengths_43 : decode prog_13_method_50_code 43 = .ok (.ireturn, 1) := by decide +kernel
theorem d_Mo_readsLengths_44 : decode prog_13_method_50_code 44 = .ok (.aload_n 0, 1) := by decide +kernel
theorem d_Mo_readsLengths_45 : decode prog_13_method_50_code 45 = .ok (.getfield 138, 3) := by decide +kernel
theorem d_Mo_readsLengths_48 : decode prog_13_method_50_code 48 = .ok (.iconst 2, 1) := by decide +kernel
theorem d_Mo_readsLengths_49 : decode prog_13_method_50_code 49 = .ok (.iadd, 1) := by decide +kernel
theorem d_Mo_readsLengths_50 : decode prog_13_method_50_code 50 = .ok (.istore_n 3, 1) := by decide +kernel
theorem d_Mo_readsLengths_51 : decode prog_13_method_50_code 51 = .ok (.lconst 0, 1) := by decide +kernel
theorem d_Mo_readsLengths_52 : decode prog_13_method_50_code 52 = .ok (.lstore 4, 2) := by decide +kernel
theorem d_Mo_readsLengths_54 : decode prog_13_method_50_code 54 = .ok (.iconst 0, 1) := by decide +kernel
theorem d_Mo_readsLengths_55 : decode prog_13_method_50_code 55 = .ok (.istore 6, 2) := by decide +kernel
theorem d_Mo_readsLengths_57 : decode prog_13_method_50_code 57 = .ok (.iload 6, 2) := by decide +kernel
theorem d_Mo_readsLengths_59 : decode prog_13_method_50_code 59 = .ok (.iload_n 3, 1) := by decide +kernel
theorem d_Mo_readsLengths_60 : decode prog_13_method_50_code 60 = .ok (.if_icmp .ge 108, 3) := by decide +kernel
theorem d_Mo_readsLengths_63 : decode prog_13_method_50_code 63 = .ok (.aload_n 0, 1) := by decide +kernel
theorem d_Mo_readsLengths_64 : decode prog_13_method_50_code 64 = .ok (.getfield 197, 3) := by decide +kernel
theorem d_Mo_readsLengths_67 : decode prog_13_method_50_code 67 = .ok (.bipush 8, 2) := by decide +kernel
theorem d_Mo_readsLengths_69 : decode prog_13_method_50_code 69 = .ok (.idiv, 1) := by decide +kernel
theorem d_Mo_readsLengths_70 : decode prog_13_method_50_code 70 = .ok (.istore 7, 2) := by decide +kernel
theorem d_Mo_readsLengths_72 : decode prog_13_method_50_code 72 = .ok (.aload_n 0, 1) := by decide +kernel
theorem d_Mo_readsLengths_73 : decode prog_13_method_50_code 73 = .ok (.iconst 1, 1) := by decide +kernel
theorem d_Mo_readsLengths_74 : decode prog_13_method_50_code 74 = .ok (.invokevirtual 203, 3) := by decide +kernel
theorem d_Mo_readsLengths_77 : decode prog_13_method_50_code 77 = .ok (.lconst 1, 1) := by decide +kernel
theorem d_Mo_readsLengths_78 : decode prog_13_method_50_code 78 = .ok (.lcmp, 1) := by decide +kernel
theorem d_Mo_readsLengths_79 : decode prog_13_method_50_code 79 = .ok (.ifCond .ne 56, 3) := by decide +kernel
theorem d_Mo_readsLengths_82 : decode prog_13_method_50_code 82 = .ok (.aload_n 0, 1) := by decide +kernel
theorem d_Mo_readsLengths_83 : decode prog_13_method_50_code 83 = .ok (.getfield 194, 3) := by decide +kernel
theorem d_Mo_readsLengths_86 : decode prog_13_method_50_code 86 = .ok (.ifCond .ne 49, 3) := by decide +kernel
theorem d_Mo_readsLengths_89 : decode prog_13_method_50_code 89 = .ok (.iload_n 2, 1) := by decide +kernel
theorem d_Mo_readsLengths_90 : decode prog_13_method_50_code 90 = .ok (.aload_n 0, 1) := by decide +kernel
theorem d_Mo_readsLengths_91 : decode prog_13_method_50_code 91 = .ok (.iconst 1, 1) := by decide +kernel
theorem d_Mo_readsLengths_92 : decode prog_13_method_50_code 92 = .ok (.invokevirtual 203, 3) := by decide +kernel
theorem d_Mo_readsLengths_95 : decode prog_13_method_50_code 95 = .ok (.lconst 0, 1) := by decide +kernel
theorem d_Mo_readsLengths_96 : decode prog_13_method_50_code 96 = .ok (.lcmp, 1) := by decide +kernel
theorem d_Mo_readsLengths_97 : decode prog_13_method_50_code 97 = .ok (.ifCond .ne 7, 3) := by decide +kernel
theorem d_Mo_readsLengths_100 : decode prog_13_method_50_code 100 = .ok (.iconst 1, 1) := by decide +kernel
theorem d_Mo_readsLengths_101 : decode prog_13_method_50_code 101 = .ok (.goto 4, 3) := by decide +kernel
theorem d_Mo_readsLengths_104 : decode prog_13_method_50_code 104 = .ok (.iconst (-1), 1) := by decide +kernel
theorem d_Mo_readsLengths_105 : decode prog_13_method_50_code 105 = .ok (.iadd, 1) := by decide +kernel
theorem d_Mo_readsLengths_106 : decode prog_13_method_50_code 106 = .ok (.istore_n 2, 1) := by decide +kernel
theorem d_Mo_readsLengths_107 : decode prog_13_method_50_code 107 = .ok (.aload_n 0, 1) := by decide +kernel
theorem d_Mo_readsLengths_108 : decode prog_13_method_50_code 108 = .ok (.getfield 194, 3) := by decide +kernel
theorem d_Mo_readsLengths_111 : decode prog_13_method_50_code 111 = .ok (.ifCond .ne (-39), 3) := by decide +kernel
theorem d_Mo_readsLengths_114 : decode prog_13_method_50_code 114 = .ok (.iload_n 2, 1) := by decide +kernel
theorem d_Mo_readsLengths_115 : decode prog_13_method_50_code 115 = .ok (.i2l, 1) := by decide +kernel
theorem d_Mo_readsLengths_116 : decode prog_13_method_50_code 116 = .ok (.lconst 1, 1) := by decide +kernel
theorem d_Mo_readsLengths_117 : decode prog_13_method_50_code 117 = .ok (.ldc2_w 207, 3) := by decide +kernel
theorem d_Mo_readsLengths_120 : decode prog_13_method_50_code 120 = .ok (.invokestatic 72, 3) := by decide +kernel
theorem d_Mo_readsLengths_123 : decode prog_13_method_50_code 123 = .ok (.ifCond .ne (-51), 3) := by decide +kernel
theorem d_Mo_readsLengths_126 : decode prog_13_method_50_code 126 = .ok (.aload_n 0, 1) := by decide +kernel
theorem d_Mo_readsLengths_127 : decode prog_13_method_50_code 127 = .ok (.bipush 6, 2) := by decide +kernel
theorem d_Mo_readsLengths_129 : decode prog_13_method_50_code 129 = .ok (.iload 7, 2) := by decide +kernel
theorem d_Mo_readsLengths_131 : decode prog_13_method_50_code 131 = .ok (.invokevirtual 200, 3) := by decide +kernel
theorem d_Mo_readsLengths_134 : decode prog_13_method_50_code 134 = .ok (.ireturn, 1) := by decide +kernel
theorem d_Mo_readsLengths_135 : decode prog_13_method_50_code 135 = .ok (.aload_n 0, 1) := by decide +kernel
theorem d_Mo_readsLengths_136 : decode prog_13_method_50_code 136 = .ok (.getfield 194, 3) := by decide +kernel
theorem d_Mo_readsLengths_139 : decode prog_13_method_50_code 139 = .ok (.ifCond .eq 5, 3) := by decide +kernel
theorem d_Mo_readsLengths_142 : decode prog_13_method_50_code 142 = .ok (.iconst 0, 1) := by decide +kernel
theorem d_Mo_readsLengths_143 : decode prog_13_method_50_code 143 = .ok (.ireturn, 1) := by decide +kernel
theorem d_Mo_readsLengths_144 : decode prog_13_method_50_code 144 = .ok (.aload_n 0, 1) := by decide +kernel
theorem d_Mo_readsLengths_145 : decode prog_13_method_50_code 145 = .ok (.getfield 37, 3) := by decide +kernel
theorem d_Mo_readsLengths_148 : decode prog_13_method_50_code 148 = .ok (.iload 6, 2) := by decide +kernel
theorem d_Mo_readsLengths_150 : decode prog_13_method_50_code 150 = .ok (.iload_n 2, 1) := by decide +kernel
theorem d_Mo_readsLengths_151 : decode prog_13_method_50_code 151 = .ok (.iastore, 1) := by decide +kernel
theorem d_Mo_readsLengths_152 : decode prog_13_method_50_code 152 = .ok (.lload 4, 2) := by decide +kernel
theorem d_Mo_readsLengths_154 : decode prog_13_method_50_code 154 = .ok (.ldc2_w 209, 3) := by decide +kernel
theorem d_Mo_readsLengths_157 : decode prog_13_method_50_code 157 = .ok (.iload_n 2, 1) := by decide +kernel
theorem d_Mo_readsLengths_158 : decode prog_13_method_50_code 158 = .ok (.lshr, 1) := by decide +kernel
theorem d_Mo_readsLengths_159 : decode prog_13_method_50_code 159 = .ok (.ladd, 1) := by decide +kernel
theorem d_Mo_readsLengths_160 : decode prog_13_method_50_code 160 = .ok (.lstore 4, 2) := by decide +kernel
theorem d_Mo_readsLengths_162 : decode prog_13_method_50_code 162 = .ok (.iinc 6 1, 3) := by decide +kernel
theorem d_Mo_readsLengths_165 : decode prog_13_method_50_code 165 = .ok (.goto (-108), 3) := by decide +kernel
theorem d_Mo_readsLengths_168 : decode prog_13_method_50_code 168 = .ok (.lload 4, 2) := by decide +kernel
theorem d_Mo_readsLengths_170 : decode prog_13_method_50_code 170 = .ok (.ldc2_w 209, 3) := by decide +kernel
theorem d_Mo_readsLengths_173 : decode prog_13_method_50_code 173 = .ok (.lcmp, 1) := by decide +kernel
theorem d_Mo_readsLengths_174 : decode prog_13_method_50_code 174 = .ok (.ifCond .eq 11, 3) := by decide +kernel
theorem d_Mo_readsLengths_177 : decode prog_13_method_50_code 177 = .ok (.aload_n 0, 1) := by decide +kernel
theorem d_Mo_readsLengths_178 : decode prog_13_method_50_code 178 = .ok (.bipush 7, 2) := by decide +kernel
theorem d_Mo_readsLengths_180 : decode prog_13_method_50_code 180 = .ok (.iload_n 1, 1) := by decide +kernel
theorem d_Mo_readsLengths_181 : decode prog_13_method_50_code 181 = .ok (.invokevirtual 200, 3) := by decide +kernel
theorem d_Mo_readsLengths_184 : decode prog_13_method_50_code 184 = .ok (.ireturn, 1) := by decide +kernel
theorem d_Mo_readsLengths_185 : decode prog_13_method_50_code 185 = .ok (.aload_n 0, 1) := by decide +kernel
theorem d_Mo_readsLengths_186 : decode prog_13_method_50_code 186 = .ok (.iload_n 3, 1) := by decide +kernel
theorem d_Mo_readsLengths_187 : decode prog_13_method_50_code 187 = .ok (.invokevirtual 154, 3) := by decide +kernel
theorem d_Mo_readsLengths_190 : decode prog_13_method_50_code 190 = .ok (.iconst 1, 1) := by decide +kernel
theorem d_Mo_readsLengths_191 : decode prog_13_method_50_code 191 = .ok (.ireturn, 1) := by decide +kernel
theorem d_Mo_readsSymbol_0 : decode prog_13_method_51_code 0 = .ok (.iconst 0, 1) := by decide +kernel
theorem d_Mo_readsSymbol_1 : decode prog_13_method_51_code 1 = .ok (.istore_n 1, 1) := by decide +kernel
theorem d_Mo_readsSymbol_2 : decode prog_13_method_51_code 2 = .ok (.iconst 1, 1) := by decide +kernel
theorem d_Mo_readsSymbol_3 : decode prog_13_method_51_code 3 = .ok (.istore_n 2, 1) := by decide +kernel
theorem d_Mo_readsSymbol_4 : decode prog_13_method_51_code 4 = .ok (.iload_n 2, 1) := by decide +kernel
theorem d_Mo_readsSymbol_5 : decode prog_13_method_51_code 5 = .ok (.bipush 12, 2) := by decide +kernel
theorem d_Mo_readsSymbol_7 : decode prog_13_method_51_code 7 = .ok (.if_icmp .gt 69, 3) := by decide +kernel
theorem d_Mo_readsSymbol_10 : decode prog_13_method_51_code 10 = .ok (.iload_n 1, 1) := by decide +kernel
theorem d_Mo_readsSymbol_11 : decode prog_13_method_51_code 11 = .ok (.iconst 1, 1) := by decide +kernel
theorem d_Mo_readsSymbol_12 : decode prog_13_method_51_code 12 = .ok (.ishl, 1) := by decide +kernel
theorem d_Mo_readsSymbol_13 : decode prog_13_method_51_code 13 = .ok (.aload_n 0, 1) := by decide +kernel
theorem d_Mo_readsSymbol_14 : decode prog_13_method_51_code 14 = .ok (.iconst 1, 1) := by decide +kernel
theorem d_Mo_readsSymbol_15 : decode prog_13_method_51_code 15 = .ok (.invokevirtual 203, 3) := by decide +kernel
theorem d_Mo_readsSymbol_18 : decode prog_13_method_51_code 18 = .ok (.l2i, 1) := by decide +kernel
theorem d_Mo_readsSymbol_19 : decode prog_13_method_51_code 19 = .ok (.ior, 1) := by decide +kernel
theorem d_Mo_readsSymbol_20 : decode prog_13_method_51_code 20 = .ok (.istore_n 1, 1) := by decide +kernel
theorem d_Mo_readsSymbol_21 : decode prog_13_method_51_code 21 = .ok (.aload_n 0, 1) := by decide +kernel
theorem d_Mo_readsSymbol_22 : decode prog_13_method_51_code 22 = .ok (.getfield 194, 3) := by decide +kernel
theorem d_Mo_readsSymbol_25 : decode prog_13_method_51_code 25 = .ok (.ifCond .eq 5, 3) := by decide +kernel
theorem d_Mo_readsSymbol_28 : decode prog_13_method_51_code 28 = .ok (.iconst (-1), 1) := by decide +kernel
theorem d_Mo_readsSymbol_29 : decode prog_13_method_51_code 29 = .ok (.ireturn, 1) := by decide +kernel
theorem d_Mo_readsSymbol_30 : decode prog_13_method_51_code 30 = .ok (.iconst 0, 1) := by decide +kernel
theorem d_Mo_readsSymbol_31 : decode prog_13_method_51_code 31 = .ok (.istore_n 3, 1) := by decide +kernel
theorem d_Mo_readsSymbol_32 : decode prog_13_method_51_code 32 = .ok (.iload_n 3, 1) := by decide +kernel
theorem d_Mo_readsSymbol_33 : decode prog_13_method_51_code 33 = .ok (.aload_n 0, 1) := by decide +kernel
theorem d_Mo_readsSymbol_34 : decode prog_13_method_51_code 34 = .ok (.getfield 138, 3) := by decide +kernel
theorem d_Mo_readsSymbol_37 : decode prog_13_method_51_code 37 = .ok (.iconst 2, 1) := by decide +kernel
theorem d_Mo_readsSymbol_38 : decode prog_13_method_51_code 38 = .ok (.iadd, 1) := by decide +kernel
theorem d_Mo_readsSymbol_39 : decode prog_13_method_51_code 39 = .ok (.if_icmp .ge 31, 3) := by decide +kernel
theorem d_Mo_readsSymbol_42 : decode prog_13_method_51_code 42 = .ok (.aload_n 0, 1) := by decide +kernel
theorem d_Mo_readsSymbol_43 : decode prog_13_method_51_code 43 = .ok (.getfield 37, 3) := by decide +kernel
theorem d_Mo_readsSymbol_46 : decode prog_13_method_51_code 46 = .ok (.iload_n 3, 1) := by decide +kernel
theorem d_Mo_readsSymbol_47 : decode prog_13_method_51_code 47 = .ok (.iaload, 1) := by decide +kernel
theorem d_Mo_readsSymbol_48 : decode prog_13_method_51_code 48 = .ok (.iload_n 2, 1) := by decide +kernel
theorem d_Mo_readsSymbol_49 : decode prog_13_method_51_code 49 = .ok (.if_icmp .ne 15, 3) := by decide +kernel
theorem d_Mo_readsSymbol_52 : decode prog_13_method_51_code 52 = .ok (.aload_n 0, 1) := by decide +kernel
theorem d_Mo_readsSymbol_53 : decode prog_13_method_51_code 53 = .ok (.getfield 40, 3) := by decide +kernel
theorem d_Mo_readsSymbol_56 : decode prog_13_method_51_code 56 = .ok (.iload_n 3, 1) := by decide +kernel
theorem d_Mo_readsSymbol_57 : decode prog_13_method_51_code 57 = .ok (.iaload, 1) := by decide +kernel
theorem d_Mo_readsSymbol_58 : decode prog_13_method_51_code 58 = .ok (.iload_n 1, 1) := by decide +kernel
theorem d_Mo_readsSymbol_59 : decode prog_13_method_51_code 59 = .ok (.if_icmp .ne 5, 3) := by decide +kernel
theorem d_Mo_readsSymbol_62 : decode prog_13_method_51_code 62 = .ok (.iload_n 3, 1) := by decide +kernel
theorem d_Mo_readsSymbol_63 : decode prog_13_method_51_code 63 = .ok (.ireturn, 1) := by decide +kernel
theorem d_Mo_readsSymbol_64 : decode prog_13_method_51_code 64 = .ok (.iinc 3 1, 3) := by decide +kernel
theorem d_Mo_readsSymbol_67 : decode prog_13_method_51_code 67 = .ok (.goto (-35), 3) := by decide +kernel
theorem d_Mo_readsSymbol_70 : decode prog_13_method_51_code 70 = .ok (.iinc 2 1, 3) := by decide +kernel
theorem d_Mo_readsSymbol_73 : decode prog_13_method_51_code 73 = .ok (.goto (-69), 3) := by decide +kernel
theorem d_Mo_readsSymbol_76 : decode prog_13_method_51_code 76 = .ok (.iconst (-1), 1) := by decide +kernel
theorem d_Mo_readsSymbol_77 : decode prog_13_method_51_code 77 = .ok (.ireturn, 1) := by decide +kernel
theorem d_Mo_readsRow_0 : decode prog_13_method_52_code 0 = .ok (.aload_n 0, 1) := by decide +kernel
theorem d_Mo_readsRow_1 : decode prog_13_method_52_code 1 = .ok (.iconst 0, 1) := by decide +kernel
theorem d_Mo_readsRow_2 : decode prog_13_method_52_code 2 = .ok (.putfield 87, 3) := by decide +kernel
theorem d_Mo_readsRow_5 : decode prog_13_method_52_code 5 = .ok (.iconst 1, 1) := by decide +kernel
theorem d_Mo_readsRow_6 : decode prog_13_method_52_code 6 = .ok (.istore_n 2, 1) := by decide +kernel
theorem d_Mo_readsRow_7 : decode prog_13_method_52_code 7 = .ok (.aload_n 0, 1) := by decide +kernel
theorem d_Mo_readsRow_8 : decode prog_13_method_52_code 8 = .ok (.getfield 197, 3) := by decide +kernel
theorem d_Mo_readsRow_11 : decode prog_13_method_52_code 11 = .ok (.bipush 8, 2) := by decide +kernel
theorem d_Mo_readsRow_13 : decode prog_13_method_52_code 13 = .ok (.idiv, 1) := by decide +kernel
theorem d_Mo_readsRow_14 : decode prog_13_method_52_code 14 = .ok (.istore_n 3, 1) := by decide +kernel
theorem d_Mo_readsRow_15 : decode prog_13_method_52_code 15 = .ok (.aload_n 0, 1) := by decide +kernel
theorem d_Mo_readsRow_16 : decode prog_13_method_52_code 16 = .ok (.invokevirtual 211, 3) := by decide +kernel
theorem d_Mo_readsRow_19 : decode prog_13_method_52_code 19 = .ok (.istore 4, 2) := by decide +kernel
theorem d_Mo_readsRow_21 : decode prog_13_method_52_code 21 = .ok (.aload_n 0, 1) := by decide +kernel
theorem d_Mo_readsRow_22 : decode prog_13_method_52_code 22 = .ok (.getfield 194, 3) := by decide +kernel
theorem d_Mo_readsRow_25 : decode prog_13_method_52_code 25 = .ok (.ifCond .eq 5, 3) := by decide +kernel
theorem d_Mo_readsRow_28 : decode prog_13_method_52_code 28 = .ok (.iconst 0, 1) := by decide +kernel
theorem d_Mo_readsRow_29 : decode prog_13_method_52_code 29 = .ok (.ireturn, 1) := by decide +kernel
theorem d_Mo_readsRow_30 : decode prog_13_method_52_code 30 = .ok (.iload 4, 2) := by decide +kernel
theorem d_Mo_readsRow_32 : decode prog_13_method_52_code 32 = .ok (.aload_n 0, 1) := by decide +kernel
theorem d_Mo_readsRow_33 : decode prog_13_method_52_code 33 = .ok (.getfield 138, 3) := by decide +kernel
theorem d_Mo_readsRow_36 : decode prog_13_method_52_code 36 = .ok (.iconst 1, 1) := by decide +kernel
theorem d_Mo_readsRow_37 : decode prog_13_method_52_code 37 = .ok (.iadd, 1) := by decide +kernel
theorem d_Mo_readsRow_38 : decode prog_13_method_52_code 38 = .ok (.if_icmp .ne 27, 3) := by decide +kernel
theorem d_Mo_readsRow_41 : decode prog_13_method_52_code 41 = .ok (.aload_n 0, 1) := by decide +kernel
theorem d_Mo_readsRow_42 : decode prog_13_method_52_code 42 = .ok (.getfield 87, 3) := by decide +kernel
theorem d_Mo_readsRow_45 : decode prog_13_method_52_code 45 = .ok (.iload_n 1, 1) := by decide +kernel
theorem d_Mo_readsRow_46 : decode prog_13_method_52_code 46 = .ok (.if_icmp .eq 13, 3) := by decide +kernel
theorem d_Mo_readsRow_49 : decode prog_13_method_52_code 49 = .ok (.aload_n 0, 1) := by decide +kernel
theorem d_Mo_readsRow_50 : decode prog_13_method_52_code 50 = .ok (.bipush 8, 2) := by decide +kernel
theorem d_Mo_readsRow_52 : decode prog_13_method_52_code 52 = .ok (.iload_n 3, 1) := by decide +kernel
theorem d_Mo_readsRow_53 : decode prog_13_method_52_code 53 = .ok (.invokevirtual 200, 3) := by decide +kernel
theorem d_Mo_readsRow_56 : decode prog_13_method_52_code 56 = .ok (.ifCond .eq 7, 3) := by decide +kernel
theorem d_Mo_readsRow_59 : decode prog_13_method_52_code 59 = .ok (.iconst 1, 1) := by decide +kernel
theorem d_Mo_readsRow_60 : decode prog_13_method_52_code 60 = .ok (.goto 4, 3) := by decide +kernel
theorem d_Mo_readsRow_63 : decode prog_13_method_52_code 63 = .ok (.iconst 0, 1) := by decide +kernel
theorem d_Mo_readsRow_64 : decode prog_13_method_52_code 64 = .ok (.ireturn, 1) := by decide +kernel
theorem d_Mo_readsRow_65 : decode prog_13_method_52_code 65 = .ok (.iload 4, 2) := by decide +kernel
theorem d_Mo_readsRow_67 : decode prog_13_method_52_code 67 = .ok (.iconst 2, 1) := by decide +kernel
theorem d_Mo_readsRow_68 : decode prog_13_method_52_code 68 = .ok (.if_icmp .ge 12, 3) := by decide +kernel
theorem d_Mo_readsRow_71 : decode prog_13_method_52_code 71 = .ok (.iload 4, 2) := by decide +kernel
theorem d_Mo_readsRow_73 : decode prog_13_method_52_code 73 = .ok (.iconst 1, 1) := by decide +kernel
theorem d_Mo_readsRow_74 : decode prog_13_method_52_code 74 = .ok (.iadd, 1) := by decide +kernel
theorem d_Mo_readsRow_75 : decode prog_13_method_52_code 75 = .ok (.iload_n 2, 1) := by decide +kernel
theorem d_Mo_readsRow_76 : decode prog_13_method_52_code 76 = .ok (.imul, 1) := by decide +kernel
theorem d_Mo_readsRow_77 : decode prog_13_method_52_code 77 = .ok (.goto 4, 3) := by decide +kernel
theorem d_Mo_readsRow_80 : decode prog_13_method_52_code 80 = .ok (.iconst 1, 1) := by decide +kernel
theorem d_Mo_readsRow_81 : decode prog_13_method_52_code 81 = .ok (.istore 5, 2) := by decide +kernel
theorem d_Mo_readsRow_83 : decode prog_13_method_52_code 83 = .ok (.aload_n 0, 1) := by decide +kernel
theorem d_Mo_readsRow_84 : decode prog_13_method_52_code 84 = .ok (.getfield 87, 3) := by decide +kernel
theorem d_Mo_readsRow_87 : decode prog_13_method_52_code 87 = .ok (.iload 5, 2) := by decide +kernel
theorem d_Mo_readsRow_89 : decode prog_13_method_52_code 89 = .ok (.iadd, 1) := by decide +kernel
theorem d_Mo_readsRow_90 : decode prog_13_method_52_code 90 = .ok (.iload_n 1, 1) := by decide +kernel
theorem d_Mo_readsRow_91 : decode prog_13_method_52_code 91 = .ok (.if_icmp .le 11, 3) := by decide +kernel
theorem d_Mo_readsRow_94 : decode prog_13_method_52_code 94 = .ok (.aload_n 0, 1) := by decide +kernel
theorem d_Mo_readsRow_95 : decode prog_13_method_52_code 95 = .ok (.bipush 8, 2) := by decide +kernel
theorem d_Mo_readsRow_97 : decode prog_13_method_52_code 97 = .ok (.iload_n 3, 1) := by decide +kernel
theorem d_Mo_readsRow_98 : decode prog_13_method_52_code 98 = .ok (.invokevirtual 200, 3) := by decide +kernel
theorem d_Mo_readsRow_101 : decode prog_13_method_52_code 101 = .ok (.ireturn, 1) := by decide +kernel
theorem d_Mo_readsRow_102 : decode prog_13_method_52_code 102 = .ok (.iload 4, 2) := by decide +kernel
theorem d_Mo_readsRow_104 : decode prog_13_method_52_code 104 = .ok (.iconst 2, 1) := by decide +kernel
theorem d_Mo_readsRow_105 : decode prog_13_method_52_code 105 = .ok (.if_icmp .ge 9, 3) := by decide +kernel
theorem d_Mo_readsRow_108 : decode prog_13_method_52_code 108 = .ok (.iconst 2, 1) := by decide +kernel
theorem d_Mo_readsRow_109 : decode prog_13_method_52_code 109 = .ok (.iload_n 2, 1) := by decide +kernel
theorem d_Mo_readsRow_110 : decode prog_13_method_52_code 110 = .ok (.imul, 1) := by decide +kernel
theorem d_Mo_readsRow_111 : decode prog_13_method_52_code 111 = .ok (.goto 4, 3) := by decide +kernel
theorem d_Mo_readsRow_114 : decode prog_13_method_52_code 114 = .ok (.iconst 1, 1) := by decide +kernel
theorem d_Mo_readsRow_115 : decode prog_13_method_52_code 115 = .ok (.istore_n 2, 1) := by decide +kernel
theorem d_Mo_readsRow_116 : decode prog_13_method_52_code 116 = .ok (.iload 4, 2) := by decide +kernel
theorem d_Mo_readsRow_118 : decode prog_13_method_52_code 118 = .ok (.iconst 2, 1) := by decide +kernel
theorem d_Mo_readsRow_119 : decode prog_13_method_52_code 119 = .ok (.if_icmp .ge 12, 3) := by decide +kernel
theorem d_Mo_readsRow_122 : decode prog_13_method_52_code 122 = .ok (.aload_n 0, 1) := by decide +kernel
theorem d_Mo_readsRow_123 : decode prog_13_method_52_code 123 = .ok (.getfield 31, 3) := by decide +kernel
theorem d_Mo_readsRow_126 : decode prog_13_method_52_code 126 = .ok (.iconst 0, 1) := by decide +kernel
theorem d_Mo_readsRow_127 : decode prog_13_method_52_code 127 = .ok (.iaload, 1) := by decide +kernel
theorem d_Mo_readsRow_128 : decode prog_13_method_52_code 128 = .ok (.goto 12, 3) := by decide +kernel
theorem d_Mo_readsRow_131 : decode prog_13_method_52_code 131 = .ok (.aload_n 0, 1) := by decide +kernel
theorem d_Mo_readsRow_132 : decode prog_13_method_52_code 132 = .ok (.getfield 31, 3) := by decide +kernel
theorem d_Mo_readsRow_135 : decode prog_13_method_52_code 135 = .ok (.iload 4, 2) := by decide +kernel
theorem d_Mo_readsRow_137 : decode prog_13_method_52_code 137 = .ok (.iconst 1, 1) := by decide +kernel
theorem d_Mo_readsRow_138 : decode prog_13_method_52_code 138 = .ok (.isub, 1) := by decide +kernel
theorem d_Mo_readsRow_139 : decode prog_13_method_52_code 139 = .ok (.iaload, 1) := by decide +kernel
theorem d_Mo_readsRow_140 : decode prog_13_method_52_code 140 = .ok (.istore 6, 2) := by decide +kernel
theorem d_Mo_readsRow_142 : decode prog_13_method_52_code 142 = .ok (.iload 4, 2) := by decide +kernel
theorem d_Mo_readsRow_144 : decode prog_13_method_52_code 144 = .ok (.iconst 1, 1) := by decide +kernel
theorem d_Mo_readsRow_145 : decode prog_13_method_52_code 145 = .ok (.if_icmp .le 10, 3) := by decide +kernel
theorem d_Mo_readsRow_148 : decode prog_13_method_52_code 148 = .ok (.aload_n 0, 1) := by decide +kernel
theorem d_Mo_readsRow_149 : decode prog_13_method_52_code 149 = .ok (.iload 6, 2) := by decide +kernel
theorem d_Mo_readsRow_151 : decode prog_13_method_52_code 151 = .ok (.invokevirtual 144, 3) := by decide +kernel
theorem d_Mo_readsRow_154 : decode prog_13_method_52_code 154 = .ok (.pop, 1) := by decide +kernel
theorem d_Mo_readsRow_155 : decode prog_13_method_52_code 155 = .ok (.iconst 0, 1) := by decide +kernel
theorem d_Mo_readsRow_156 : decode prog_13_method_52_code 156 = .ok (.istore 7, 2) := by decide +kernel
theorem d_Mo_readsRow_158 : decode prog_13_method_52_code 158 = .ok (.iload 7, 2) := by decide +kernel
theorem d_Mo_readsRow_160 : decode prog_13_method_52_code 160 = .ok (.iload 5, 2) := by decide +kernel
theorem d_Mo_readsRow_162 : decode prog_13_method_52_code 162 = .ok (.if_icmp .ge 27, 3) := by decide +kernel
theorem d_Mo_readsRow_165 : decode prog_13_method_52_code 165 = .ok (.aload_n 0, 1) := by decide +kernel
theorem d_Mo_readsRow_166 : decode prog_13_method_52_code 166 = .ok (.getfield 13, 3) := by decide +kernel
theorem d_Mo_readsRow_169 : decode prog_13_method_52_code 169 = .ok (.aload_n 0, 1) := by decide +kernel
theorem d_Mo_readsRow_170 : decode prog_13_method_52_code 170 = .ok (.dup, 1) := by decide +kernel
theorem d_Mo_readsRow_171 : decode prog_13_method_52_code 171 = .ok (.getfield 87, 3) := by decide +kernel
theorem d_Mo_readsRow_174 : decode prog_13_method_52_code 174 = .ok (.dup_x1, 1) := by decide +kernel
theorem d_Mo_readsRow_175 : decode prog_13_method_52_code 175 = .ok (.iconst 1, 1) := by decide +kernel
theorem d_Mo_readsRow_176 : decode prog_13_method_52_code 176 = .ok (.iadd, 1) := by decide +kernel
theorem d_Mo_readsRow_177 : decode prog_13_method_52_code 177 = .ok (.putfield 87, 3) := by decide +kernel
theorem d_Mo_readsRow_180 : decode prog_13_method_52_code 180 = .ok (.iload 6, 2) := by decide +kernel
theorem d_Mo_readsRow_182 : decode prog_13_method_52_code 182 = .ok (.iastore, 1) := by decide +kernel
theorem d_Mo_readsRow_183 : decode prog_13_method_52_code 183 = .ok (.iinc 7 1, 3) := by decide +kernel
theorem d_Mo_readsRow_186 : decode prog_13_method_52_code 186 = .ok (.goto (-28), 3) := by decide +kernel
theorem d_Mo_readsRow_189 : decode prog_13_method_52_code 189 = .ok (.goto (-182), 3) := by decide +kernel
theorem d_Mo_unpacks_0 : decode prog_13_method_53_code 0 = .ok (.aload_n 0, 1) := by decide +kernel
theorem d_Mo_unpacks_1 : decode prog_13_method_53_code 1 = .ok (.getfield 87, 3) := by decide +kernel
theorem d_Mo_unpacks_4 : decode prog_13_method_53_code 4 = .ok (.istore_n 1, 1) := by decide +kernel
theorem d_Mo_unpacks_5 : decode prog_13_method_53_code 5 = .ok (.iconst 0, 1) := by decide +kernel
theorem d_Mo_unpacks_6 : decode prog_13_method_53_code 6 = .ok (.istore_n 2, 1) := by decide +kernel
theorem d_Mo_unpacks_7 : decode prog_13_method_53_code 7 = .ok (.iload_n 2, 1) := by decide +kernel
theorem d_Mo_unpacks_8 : decode prog_13_method_53_code 8 = .ok (.iload_n 1, 1) := by decide +kernel
theorem d_Mo_unpacks_9 : decode prog_13_method_53_code 9 = .ok (.if_icmp .ge 21, 3) := by decide +kernel
theorem d_Mo_unpacks_12 : decode prog_13_method_53_code 12 = .ok (.aload_n 0, 1) := by decide +kernel
theorem d_Mo_unpacks_13 : decode prog_13_method_53_code 13 = .ok (.getfield 28, 3) := by decide +kernel
theorem d_Mo_unpacks_16 : decode prog_13_method_53_code 16 = .ok (.iload_n 2, 1) := by decide +kernel
theorem d_Mo_unpacks_17 : decode prog_13_method_53_code 17 = .ok (.aload_n 0, 1) := by decide +kernel
theorem d_Mo_unpacks_18 : decode prog_13_method_53_code 18 = .ok (.getfield 13, 3) := by decide +kernel
theorem d_Mo_unpacks_21 : decode prog_13_method_53_code 21 = .ok (.iload_n 2, 1) := by decide +kernel
theorem d_Mo_unpacks_22 : decode prog_13_method_53_code 22 = .ok (.iaload, 1) := by decide +kernel
theorem d_Mo_unpacks_23 : decode prog_13_method_53_code 23 = .ok (.iastore, 1) := by decide +kernel
theorem d_Mo_unpacks_24 : decode prog_13_method_53_code 24 = .ok (.iinc 2 1, 3) := by decide +kernel
theorem d_Mo_unpacks_27 : decode prog_13_method_53_code 27 = .ok (.goto (-20), 3) := by decide +kernel
theorem d_Mo_unpacks_30 : decode prog_13_method_53_code 30 = .ok (.aload_n 0, 1) := by decide +kernel
theorem d_Mo_unpacks_31 : decode prog_13_method_53_code 31 = .ok (.iconst 0, 1) := by decide +kernel
theorem d_Mo_unpacks_32 : decode prog_13_method_53_code 32 = .ok (.putfield 76, 3) := by decide +kernel
theorem d_Mo_unpacks_35 : decode prog_13_method_53_code 35 = .ok (.iconst 0, 1) := by decide +kernel
theorem d_Mo_unpacks_36 : decode prog_13_method_53_code 36 = .ok (.istore_n 2, 1) := by decide +kernel
theorem d_Mo_unpacks_37 : decode prog_13_method_53_code 37 = .ok (.iconst 0, 1) := by decide +kernel
theorem d_Mo_unpacks_38 : decode prog_13_method_53_code 38 = .ok (.istore_n 3, 1) := by decide +kernel
theorem d_Mo_unpacks_39 : decode prog_13_method_53_code 39 = .ok (.iload_n 3, 1) := by decide +kernel
theorem d_Mo_unpacks_40 : decode prog_13_method_53_code 40 = .ok (.iload_n 1, 1) := by decide +kernel
theorem d_Mo_unpacks_41 : decode prog_13_method_53_code 41 = .ok (.if_icmp .ge 156, 3) := by decide +kernel
theorem d_Mo_unpacks_44 : decode prog_13_method_53_code 44 = .ok (.aload_n 0, 1) := by decide +kernel
theorem d_Mo_unpacks_45 : decode prog_13_method_53_code 45 = .ok (.getfield 76, 3) := by decide +kernel
theorem d_Mo_unpacks_48 : decode prog_13_method_53_code 48 = .ok (.sipush 600, 3) := by decide +kernel
theorem d_Mo_unpacks_51 : decode prog_13_method_53_code 51 = .ok (.if_icmp .ne 5, 3) := by decide +kernel
theorem d_Mo_unpacks_54 : decode prog_13_method_53_code 54 = .ok (.iconst 0, 1) := by decide +kernel
theorem d_Mo_unpacks_55 : decode prog_13_method_53_code 55 = .ok (.ireturn, 1) := by decide +kernel
theorem d_Mo_unpacks_56 : decode prog_13_method_53_code 56 = .ok (.iload_n 2, 1) := by decide +kernel
theorem d_Mo_unpacks_57 : decode prog_13_method_53_code 57 = .ok (.ifCond .le 29, 3) := by decide +kernel
theorem d_Mo_unpacks_60 : decode prog_13_method_53_code 60 = .ok (.aload_n 0, 1) := by decide +kernel
theorem d_Mo_unpacks_61 : decode prog_13_method_53_code 61 = .ok (.getfield 28, 3) := by decide +kernel
theorem d_Mo_unpacks_64 : decode prog_13_method_53_code 64 = .ok (.iload_n 3, 1) := by decide +kernel
theorem d_Mo_unpacks_65 : decode prog_13_method_53_code 65 = .ok (.iaload, 1) := by decide +kernel
theorem d_Mo_unpacks_66 : decode prog_13_method_53_code 66 = .ok (.aload_n 0, 1) := by decide +kernel
theorem d_Mo_unpacks_67 : decode prog_13_method_53_code 67 = .ok (.getfield 7, 3) := by decide +kernel
theorem d_Mo_unpacks_70 : decode prog_13_method_53_code 70 = .ok (.aload_n 0, 1) := by decide +kernel
theorem d_Mo_unpacks_71 : decode prog_13_method_53_code 71 = .ok (.getfield 76, 3) := by decide +kernel
theorem d_Mo_unpacks_74 : decode prog_13_method_53_code 74 = .ok (.iconst 1, 1) := by decide +kernel
theorem d_Mo_unpacks_75 : decode prog_13_method_53_code 75 = .ok (.isub, 1) := by decide +kernel
theorem d_Mo_unpacks_76 : decode prog_13_method_53_code 76 = .ok (.iaload, 1) := by decide +kernel
theorem d_Mo_unpacks_77 : decode prog_13_method_53_code 77 = .ok (.if_icmp .ne 9, 3) := by decide +kernel
theorem d_Mo_unpacks_80 : decode prog_13_method_53_code 80 = .ok (.iload_n 2, 1) := by decide +kernel
theorem d_Mo_unpacks_81 : decode prog_13_method_53_code 81 = .ok (.iconst 1, 1) := by decide +kernel
theorem d_Mo_unpacks_82 : decode prog_13_method_53_code 82 = .ok (.iadd, 1) := by decide +kernel
theorem d_Mo_unpacks_83 : decode prog_13_method_53_code 83 = .ok (.goto 4, 3) := by decide +kernel
theorem d_Mo_unpacks_86 : decode prog_13_method_53_code 86 = .ok (.iconst 1, 1) := by decide +kernel
theorem d_Mo_unpacks_87 : decode prog_13_method_53_code 87 = .ok (.istore_n 2, 1) := by decide +kernel
theorem d_Mo_unpacks_88 : decode prog_13_method_53_code 88 = .ok (.aload_n 0, 1) := by decide +kernel
theorem d_Mo_unpacks_89 : decode prog_13_method_53_code 89 = .ok (.getfield 7, 3) := by decide +kernel
theorem d_Mo_unpacks_92 : decode prog_13_method_53_code 92 = .ok (.aload_n 0, 1) := by decide +kernel
theorem d_Mo_unpacks_93 : decode prog_13_method_53_code 93 = .ok (.dup, 1) := by decide +kernel
theorem d_Mo_unpacks_94 : decode prog_13_method_53_code 94 = .ok (.getfield 76, 3) := by decide +kernel
theorem d_Mo_unpacks_97 : decode prog_13_method_53_code 97 = .ok (.dup_x1, 1) := by decide +kernel
theorem d_Mo_unpacks_98 : decode prog_13_method_53_code 98 = .ok (.iconst 1, 1) := by decide +kernel
theorem d_Mo_unpacks_99 : decode prog_13_method_53_code 99 = .ok (.iadd, 1) := by decide +kernel
theorem d_Mo_unpacks_100 : decode prog_13_method_53_code 100 = .ok (.putfield 76, 3) := by decide +kernel
theorem d_Mo_unpacks_103 : decode prog_13_method_53_code 103 = .ok (.aload_n 0, 1) := by decide +kernel
theorem d_Mo_unpacks_104 : decode prog_13_method_53_code 104 = .ok (.getfield 28, 3) := by decide +kernel
theorem d_Mo_unpacks_107 : decode prog_13_method_53_code 107 = .ok (.iload_n 3, 1) := by decide +kernel
theorem d_Mo_unpacks_108 : decode prog_13_method_53_code 108 = .ok (.iaload, 1) := by decide +kernel
theorem d_Mo_unpacks_109 : decode prog_13_method_53_code 109 = .ok (.iastore, 1) := by decide +kernel
theorem d_Mo_unpacks_110 : decode prog_13_method_53_code 110 = .ok (.iload_n 2, 1) := by decide +kernel
theorem d_Mo_unpacks_111 : decode prog_13_method_53_code 111 = .ok (.iconst 4, 1) := by decide +kernel
theorem d_Mo_unpacks_112 : decode prog_13_method_53_code 112 = .ok (.if_icmp .ge 6, 3) := by decide +kernel
theorem d_Mo_unpacks_115 : decode prog_13_method_53_code 115 = .ok (.goto 76, 3) := by decide +kernel
theorem d_Mo_unpacks_118 : decode prog_13_method_53_code 118 = .ok (.iinc 3 1, 3) := by decide +kernel
theorem d_Mo_unpacks_121 : decode prog_13_method_53_code 121 = .ok (.iload_n 3, 1) := by decide +kernel
theorem d_Mo_unpacks_122 : decode prog_13_method_53_code 122 = .ok (.iload_n 1, 1) := by decide +kernel
theorem d_Mo_unpacks_123 : decode prog_13_method_53_code 123 = .ok (.if_icmp .eq 20, 3) := by decide +kernel
theorem d_Mo_unpacks_126 : decode prog_13_method_53_code 126 = .ok (.aload_n 0, 1) := by decide +kernel
theorem d_Mo_unpacks_127 : decode prog_13_method_53_code 127 = .ok (.getfield 76, 3) := by decide +kernel
theorem d_Mo_unpacks_130 : decode prog_13_method_53_code 130 = .ok (.aload_n 0, 1) := by decide +kernel
theorem d_Mo_unpacks_131 : decode prog_13_method_53_code 131 = .ok (.getfield 28, 3) := by decide +kernel
theorem d_Mo_unpacks_134 : decode prog_13_method_53_code 134 = .ok (.iload_n 3, 1) := by decide +kernel
theorem d_Mo_unpacks_135 : decode prog_13_method_53_code 135 = .ok (.iaload, 1) := by decide +kernel
theorem d_Mo_unpacks_136 : decode prog_13_method_53_code 136 = .ok (.iadd, 1) := by decide +kernel
theorem d_Mo_unpacks_137 : decode prog_13_method_53_code 137 = .ok (.sipush 600, 3) := by decide +kernel
theorem d_Mo_unpacks_140 : decode prog_13_method_53_code 140 = .ok (.if_icmp .le 5, 3) := by decide +kernel
theorem d_Mo_unpacks_143 : decode prog_13_method_53_code 143 = .ok (.iconst 0, 1) := by decide +kernel
theorem d_Mo_unpacks_144 : decode prog_13_method_53_code 144 = .ok (.ireturn, 1) := by decide +kernel
theorem d_Mo_unpacks_145 : decode prog_13_method_53_code 145 = .ok (.iconst 0, 1) := by decide +kernel
theorem d_Mo_unpacks_146 : decode prog_13_method_53_code 146 = .ok (.istore 4, 2) := by decide +kernel
theorem d_Mo_unpacks_148 : decode prog_13_method_53_code 148 = .ok (.iload 4, 2) := by decide +kernel
theorem d_Mo_unpacks_150 : decode prog_13_method_53_code 150 = .ok (.aload_n 0, 1) := by decide +kernel
theorem d_Mo_unpacks_151 : decode prog_13_method_53_code 151 = .ok (.getfield 28, 3) := by decide +kernel
theorem d_Mo_unpacks_154 : decode prog_13_method_53_code 154 = .ok (.iload_n 3, 1) := by decide +kernel
theorem d_Mo_unpacks_155 : decode prog_13_method_53_code 155 = .ok (.iaload, 1) := by decide +kernel
theorem d_Mo_unpacks_156 : decode prog_13_method_53_code 156 = .ok (.if_icmp .ge 33, 3) := by decide +kernel
theorem d_Mo_unpacks_159 : decode prog_13_method_53_code 159 = .ok (.aload_n 0, 1) := by decide +kernel
theorem d_Mo_unpacks_160 : decode prog_13_method_53_code 160 = .ok (.getfield 7, 3) := by decide +kernel
theorem d_Mo_unpacks_163 : decode prog_13_method_53_code 163 = .ok (.aload_n 0, 1) := by decide +kernel
theorem d_Mo_unpacks_164 : decode prog_13_method_53_code 164 = .ok (.dup, 1) := by decide +kernel
theorem d_Mo_unpacks_165 : decode prog_13_method_53_code 165 = .ok (.getfield 76, 3) := by decide +kernel
theorem d_Mo_unpacks_168 : decode prog_13_method_53_code 168 = .ok (.dup_x1, 1) := by decide +kernel
theorem d_Mo_unpacks_169 : decode prog_13_method_53_code 169 = .ok (.iconst 1, 1) := by decide +kernel
theorem d_Mo_unpacks_170 : decode prog_13_method_53_code 170 = .ok (.iadd, 1) := by decide +kernel
theorem d_Mo_unpacks_171 : decode prog_13_method_53_code 171 = .ok (.putfield 76, 3) := by decide +kernel
theorem d_Mo_unpacks_174 : decode prog_13_method_53_code 174 = .ok (.aload_n 0, 1) := by decide +kernel
theorem d_Mo_unpacks_175 : decode prog_13_method_53_code 175 = .ok (.getfield 28, 3) := by decide +kernel
theorem d_Mo_unpacks_178 : decode prog_13_method_53_code 178 = .ok (.iload_n 3, 1) := by decide +kernel
theorem d_Mo_unpacks_179 : decode prog_13_method_53_code 179 = .ok (.iconst 1, 1) := by decide +kernel
theorem d_Mo_unpacks_180 : decode prog_13_method_53_code 180 = .ok (.isub, 1) := by decide +kernel
theorem d_Mo_unpacks_181 : decode prog_13_method_53_code 181 = .ok (.iaload, 1) := by decide +kernel
theorem d_Mo_unpacks_182 : decode prog_13_method_53_code 182 = .ok (.iastore, 1) := by decide +kernel
theorem d_Mo_unpacks_183 : decode prog_13_method_53_code 183 = .ok (.iinc 4 1, 3) := by decide +kernel
theorem d_Mo_unpacks_186 : decode prog_13_method_53_code 186 = .ok (.goto (-38), 3) := by decide +kernel
theorem d_Mo_unpacks_189 : decode prog_13_method_53_code 189 = .ok (.iconst 0, 1) := by decide +kernel
theorem d_Mo_unpacks_190 : decode prog_13_method_53_code 190 = .ok (.istore_n 2, 1) := by decide +kernel
theorem d_Mo_unpacks_191 : decode prog_13_method_53_code 191 = .ok (.iinc 3 1, 3) := by decide +kernel
theorem d_Mo_unpacks_194 : decode prog_13_method_53_code 194 = .ok (.goto (-155), 3) := by decide +kernel
theorem d_Mo_unpacks_197 : decode prog_13_method_53_code 197 = .ok (.aload_n 0, 1) := by decide +kernel
theorem d_Mo_unpacks_198 : decode prog_13_method_53_code 198 = .ok (.invokevirtual 90, 3) := by decide +kernel
theorem d_Mo_unpacks_201 : decode prog_13_method_53_code 201 = .ok (.aload_n 0, 1) := by decide +kernel
theorem d_Mo_unpacks_202 : decode prog_13_method_53_code 202 = .ok (.getfield 87, 3) := by decide +kernel
theorem d_Mo_unpacks_205 : decode prog_13_method_53_code 205 = .ok (.iload_n 1, 1) := by decide +kernel
theorem d_Mo_unpacks_206 : decode prog_13_method_53_code 206 = .ok (.if_icmp .ne 7, 3) := by decide +kernel
theorem d_Mo_unpacks_209 : decode prog_13_method_53_code 209 = .ok (.iconst 1, 1) := by decide +kernel
theorem d_Mo_unpacks_210 : decode prog_13_method_53_code 210 = .ok (.goto 4, 3) := by decide +kernel
theorem d_Mo_unpacks_213 : decode prog_13_method_53_code 213 = .ok (.iconst 0, 1) := by decide +kernel
theorem d_Mo_unpacks_214 : decode prog_13_method_53_code 214 = .ok (.istore_n 3, 1) := by decide +kernel
theorem d_Mo_unpacks_215 : decode prog_13_method_53_code 215 = .ok (.iconst 0, 1) := by decide +kernel
theorem d_Mo_unpacks_216 : decode prog_13_method_53_code 216 = .ok (.istore 4, 2) := by decide +kernel
theorem d_Mo_unpacks_218 : decode prog_13_method_53_code 218 = .ok (.iload 4, 2) := by decide +kernel
theorem d_Mo_unpacks_220 : decode prog_13_method_53_code 220 = .ok (.iload_n 1, 1) := by decide +kernel
theorem d_Mo_unpacks_221 : decode prog_13_method_53_code 221 = .ok (.if_icmp .ge 36, 3) := by decide +kernel
theorem d_Mo_unpacks_224 : decode prog_13_method_53_code 224 = .ok (.iload_n 3, 1) := by decide +kernel
theorem d_Mo_unpacks_225 : decode prog_13_method_53_code 225 = .ok (.ifCond .eq 32, 3) := by decide +kernel
theorem d_Mo_unpacks_228 : decode prog_13_method_53_code 228 = .ok (.aload_n 0, 1) := by decide +kernel
theorem d_Mo_unpacks_229 : decode prog_13_method_53_code 229 = .ok (.getfield 13, 3) := by decide +kernel
theorem d_Mo_unpacks_232 : decode prog_13_method_53_code 232 = .ok (.iload 4, 2) := by decide +kernel
theorem d_Mo_unpacks_234 : decode prog_13_method_53_code 234 = .ok (.iaload, 1) := by decide +kernel
theorem d_Mo_unpacks_235 : decode prog_13_method_53_code 235 = .ok (.aload_n 0, 1) := by decide +kernel
theorem d_Mo_unpacks_236 : decode prog_13_method_53_code 236 = .ok (.getfield 28, 3) := by decide +kernel
theorem d_Mo_unpacks_239 : decode prog_13_method_53_code 239 = .ok (.iload 4, 2) := by decide +kernel
theorem d_Mo_unpacks_241 : decode prog_13_method_53_code 241 = .ok (.iaload, 1) := by decide +kernel
theorem d_Mo_unpacks_242 : decode prog_13_method_53_code 242 = .ok (.if_icmp .ne 7, 3) := by decide +kernel
theorem d_Mo_unpacks_245 : decode prog_13_method_53_code 245 = .ok (.iconst 1, 1) := by decide +kernel
theorem d_Mo_unpacks_246 : decode prog_13_method_53_code 246 = .ok (.goto 4, 3) := by decide +kernel
theorem d_Mo_unpacks_249 : decode prog_13_method_53_code 249 = .ok (.iconst 0, 1) := by decide +kernel
theorem d_Mo_unpacks_250 : decode prog_13_method_53_code 250 = .ok (.istore_n 3, 1) := by decide +kernel
theorem d_Mo_unpacks_251 : decode prog_13_method_53_code 251 = .ok (.iinc 4 1, 3) := by decide +kernel
theorem d_Mo_unpacks_254 : decode prog_13_method_53_code 254 = .ok (.goto (-36), 3) := by decide +kernel
theorem d_Mo_unpacks_257 : decode prog_13_method_53_code 257 = .ok (.iload_n 3, 1) := by decide +kernel
theorem d_Mo_unpacks_258 : decode prog_13_method_53_code 258 = .ok (.ireturn, 1) := by decide +kernel
theorem d_Mo_read_0 : decode prog_13_method_54_code 0 = .ok (.aload_n 0, 1) := by decide +kernel
theorem d_Mo_read_1 : decode prog_13_method_54_code 1 = .ok (.iconst 0, 1) := by decide +kernel
theorem d_Mo_read_2 : decode prog_13_method_54_code 2 = .ok (.putfield 197, 3) := by decide +kernel
theorem d_Mo_read_5 : decode prog_13_method_54_code 5 = .ok (.aload_n 0, 1) := by decide +kernel
theorem d_Mo_read_6 : decode prog_13_method_54_code 6 = .ok (.iconst 0, 1) := by decide +kernel
theorem d_Mo_read_7 : decode prog_13_method_54_code 7 = .ok (.putfield 194, 3) := by decide +kernel
theorem d_Mo_read_10 : decode prog_13_method_54_code 10 = .ok (.aload_n 0, 1) := by decide +kernel
theorem d_Mo_read_11 : decode prog_13_method_54_code 11 = .ok (.bipush (-2), 2) := by decide +kernel
theorem d_Mo_read_13 : decode prog_13_method_54_code 13 = .ok (.putfield 63, 3) := by decide +kernel
theorem d_Mo_read_16 : decode prog_13_method_54_code 16 = .ok (.aload_n 0, 1) := by decide +kernel
theorem d_Mo_read_17 : decode prog_13_method_54_code 17 = .ok (.getfield 76, 3) := by decide +kernel
theorem d_Mo_read_20 : decode prog_13_method_54_code 20 = .ok (.istore_n 1, 1) := by decide +kernel
theorem d_Mo_read_21 : decode prog_13_method_54_code 21 = .ok (.iconst 0, 1) := by decide +kernel
theorem d_Mo_read_22 : decode prog_13_method_54_code 22 = .ok (.istore_n 2, 1) := by decide +kernel
theorem d_Mo_read_23 : decode prog_13_method_54_code 23 = .ok (.iload_n 2, 1) := by decide +kernel
theorem d_Mo_read_24 : decode prog_13_method_54_code 24 = .ok (.aload_n 0, 1) := by decide +kernel
theorem d_Mo_read_25 : decode prog_13_method_54_code 25 = .ok (.getfield 76, 3) := by decide +kernel
theorem d_Mo_read_28 : decode prog_13_method_54_code 28 = .ok (.if_icmp .ge 21, 3) := by decide +kernel
theorem d_Mo_read_31 : decode prog_13_method_54_code 31 = .ok (.aload_n 0, 1) := by decide +kernel
theorem d_Mo_read_32 : decode prog_13_method_54_code 32 = .ok (.getfield 67, 3) := by decide +kernel
theorem d_Mo_read_35 : decode prog_13_method_54_code 35 = .ok (.iload_n 2, 1) := by decide +kernel
theorem d_Mo_read_36 : decode prog_13_method_54_code 36 = .ok (.aload_n 0, 1) := by decide +kernel
theorem d_Mo_read_37 : decode prog_13_method_54_code 37 = .ok (.getfield 7, 3) := by decide +kernel
theorem d_Mo_read_40 : decode prog_13_method_54_code 40 = .ok (.iload_n 2, 1) := by decide +kernel
theorem d_Mo_read_41 : decode prog_13_method_54_code 41 = .ok (.iaload, 1) := by decide +kernel
theorem d_Mo_read_42 : decode prog_13_method_54_code 42 = .ok (.iastore, 1) := by decide +kernel
theorem d_Mo_read_43 : decode prog_13_method_54_code 43 = .ok (.iinc 2 1, 3) := by decide +kernel
theorem d_Mo_read_46 : decode prog_13_method_54_code 46 = .ok (.goto (-23), 3) := by decide +kernel
theorem d_Mo_read_49 : decode prog_13_method_54_code 49 = .ok (.aload_n 0, 1) := by decide +kernel
theorem d_Mo_read_50 : decode prog_13_method_54_code 50 = .ok (.invokevirtual 214, 3) := by decide +kernel
theorem d_Mo_read_53 : decode prog_13_method_54_code 53 = .ok (.pop, 1) := by decide +kernel
theorem d_Mo_read_54 : decode prog_13_method_54_code 54 = .ok (.aload_n 0, 1) := by decide +kernel
theorem d_Mo_read_55 : decode prog_13_method_54_code 55 = .ok (.iconst 0, 1) := by decide +kernel
theorem d_Mo_read_56 : decode prog_13_method_54_code 56 = .ok (.putfield 191, 3) := by decide +kernel
theorem d_Mo_read_59 : decode prog_13_method_54_code 59 = .ok (.aload_n 0, 1) := by decide +kernel
theorem d_Mo_read_60 : decode prog_13_method_54_code 60 = .ok (.getfield 194, 3) := by decide +kernel
theorem d_Mo_read_63 : decode prog_13_method_54_code 63 = .ok (.ifCond .eq 44, 3) := by decide +kernel
theorem d_Mo_read_66 : decode prog_13_method_54_code 66 = .ok (.aload_n 0, 1) := by decide +kernel
theorem d_Mo_read_67 : decode prog_13_method_54_code 67 = .ok (.iload_n 1, 1) := by decide +kernel
theorem d_Mo_read_68 : decode prog_13_method_54_code 68 = .ok (.putfield 76, 3) := by decide +kernel
theorem d_Mo_read_71 : decode prog_13_method_54_code 71 = .ok (.iconst 0, 1) := by decide +kernel
theorem d_Mo_read_72 : decode prog_13_method_54_code 72 = .ok (.istore_n 2, 1) := by decide +kernel
theorem d_Mo_read_73 : decode prog_13_method_54_code 73 = .ok (.iload_n 2, 1) := by decide +kernel
theorem d_Mo_read_74 : decode prog_13_method_54_code 74 = .ok (.aload_n 0, 1) := by decide +kernel
theorem d_Mo_read_75 : decode prog_13_method_54_code 75 = .ok (.getfield 76, 3) := by decide +kernel
theorem d_Mo_read_78 : decode prog_13_method_54_code 78 = .ok (.if_icmp .ge 21, 3) := by decide +kernel
theorem d_Mo_read_81 : decode prog_13_method_54_code 81 = .ok (.aload_n 0, 1) := by decide +kernel
theorem d_Mo_read_82 : decode prog_13_method_54_code 82 = .ok (.getfield 7, 3) := by decide +kernel
theorem d_Mo_read_85 : decode prog_13_method_54_code 85 = .ok (.iload_n 2, 1) := by decide +kernel
theorem d_Mo_read_86 : decode prog_13_method_54_code 86 = .ok (.aload_n 0, 1) := by decide +kernel
theorem d_Mo_read_87 : decode prog_13_method_54_code 87 = .ok (.getfield 67, 3) := by decide +kernel
theorem d_Mo_read_90 : decode prog_13_method_54_code 90 = .ok (.iload_n 2, 1) := by decide +kernel
theorem d_Mo_read_91 : decode prog_13_method_54_code 91 = .ok (.iaload, 1) := by decide +kernel
theorem d_Mo_read_92 : decode prog_13_method_54_code 92 = .ok (.iastore, 1) := by decide +kernel
theorem d_Mo_read_93 : decode prog_13_method_54_code 93 = .ok (.iinc 2 1, 3) := by decide +kernel
theorem d_Mo_read_96 : decode prog_13_method_54_code 96 = .ok (.goto (-23), 3) := by decide +kernel
theorem d_Mo_read_99 : decode prog_13_method_54_code 99 = .ok (.bipush (-10), 2) := by decide +kernel
theorem d_Mo_read_101 : decode prog_13_method_54_code 101 = .ok (.aload_n 0, 1) := by decide +kernel
theorem d_Mo_read_102 : decode prog_13_method_54_code 102 = .ok (.getfield 194, 3) := by decide +kernel
theorem d_Mo_read_105 : decode prog_13_method_54_code 105 = .ok (.isub, 1) := by decide +kernel
theorem d_Mo_read_106 : decode prog_13_method_54_code 106 = .ok (.ireturn, 1) := by decide +kernel
theorem d_Mo_read_107 : decode prog_13_method_54_code 107 = .ok (.aload_n 0, 1) := by decide +kernel
theorem d_Mo_read_108 : decode prog_13_method_54_code 108 = .ok (.iconst 0, 1) := by decide +kernel
theorem d_Mo_read_109 : decode prog_13_method_54_code 109 = .ok (.putfield 81, 3) := by decide +kernel
theorem d_Mo_read_112 : decode prog_13_method_54_code 112 = .ok (.aload_n 0, 1) := by decide +kernel
theorem d_Mo_read_113 : decode prog_13_method_54_code 113 = .ok (.getfield 76, 3) := by decide +kernel
theorem d_Mo_read_116 : decode prog_13_method_54_code 116 = .ok (.ireturn, 1) := by decide +kernel
theorem d_Mo_reads_0 : decode prog_13_method_55_code 0 = .ok (.aload_n 0, 1) := by decide +kernel
theorem d_Mo_reads_1 : decode prog_13_method_55_code 1 = .ok (.bipush 16, 2) := by decide +kernel
theorem d_Mo_reads_3 : decode prog_13_method_55_code 3 = .ok (.invokevirtual 203, 3) := by decide +kernel
theorem d_Mo_reads_6 : decode prog_13_method_55_code 6 = .ok (.ldc2_w 170, 3) := by decide +kernel
theorem d_Mo_reads_9 : decode prog_13_method_55_code 9 = .ok (.lcmp, 1) := by decide +kernel
theorem d_Mo_reads_10 : decode prog_13_method_55_code 10 = .ok (.ifCond .eq 10, 3) := by decide +kernel
theorem d_Mo_reads_13 : decode prog_13_method_55_code 13 = .ok (.aload_n 0, 1) := by decide +kernel
theorem d_Mo_reads_14 : decode prog_13_method_55_code 14 = .ok (.iconst 2, 1) := by decide +kernel
theorem d_Mo_reads_15 : decode prog_13_method_55_code 15 = .ok (.iconst 0, 1) := by decide +kernel
theorem d_Mo_reads_16 : decode prog_13_method_55_code 16 = .ok (.invokevirtual 200, 3) := by decide +kernel
theorem d_Mo_reads_19 : decode prog_13_method_55_code 19 = .ok (.ireturn, 1) := by decide +kernel
theorem d_Mo_reads_20 : decode prog_13_method_55_code 20 = .ok (.aload_n 0, 1) := by decide +kernel
theorem d_Mo_reads_21 : decode prog_13_method_55_code 21 = .ok (.bipush 16, 2) := by decide +kernel
theorem d_Mo_reads_23 : decode prog_13_method_55_code 23 = .ok (.invokevirtual 203, 3) := by decide +kernel
theorem d_Mo_reads_26 : decode prog_13_method_55_code 26 = .ok (.l2i, 1) := by decide +kernel
theorem d_Mo_reads_27 : decode prog_13_method_55_code 27 = .ok (.istore_n 1, 1) := by decide +kernel
theorem d_Mo_reads_28 : decode prog_13_method_55_code 28 = .ok (.aload_n 0, 1) := by decide +kernel
theorem d_Mo_reads_29 : decode prog_13_method_55_code 29 = .ok (.getfield 194, 3) := by decide +kernel
theorem d_Mo_reads_32 : decode prog_13_method_55_code 32 = .ok (.ifCond .eq 5, 3) := by decide +kernel
theorem d_Mo_reads_35 : decode prog_13_method_55_code 35 = .ok (.iconst 0, 1) := by decide +kernel
theorem d_Mo_reads_36 : decode prog_13_method_55_code 36 = .ok (.ireturn, 1) := by decide +kernel
theorem d_Mo_reads_37 : decode prog_13_method_55_code 37 = .ok (.iload_n 1, 1) := by decide +kernel
theorem d_Mo_reads_38 : decode prog_13_method_55_code 38 = .ok (.sipush 900, 3) := by decide +kernel
theorem d_Mo_reads_41 : decode prog_13_method_55_code 41 = .ok (.if_icmp .le 10, 3) := by decide +kernel
theorem d_Mo_reads_44 : decode prog_13_method_55_code 44 = .ok (.aload_n 0, 1) := by decide +kernel
theorem d_Mo_reads_45 : decode prog_13_method_55_code 45 = .ok (.iconst 3, 1) := by decide +kernel
theorem d_Mo_reads_46 : decode prog_13_method_55_code 46 = .ok (.iconst 2, 1) := by decide +kernel
theorem d_Mo_reads_47 : decode prog_13_method_55_code 47 = .ok (.invokevirtual 200, 3) := by decide +kernel
theorem d_Mo_reads_50 : decode prog_13_method_55_code 50 = .ok (.ireturn, 1) := by decide +kernel
theorem d_Mo_reads_51 : decode prog_13_method_55_code 51 = .ok (.aload_n 0, 1) := by decide +kernel
theorem d_Mo_reads_52 : decode prog_13_method_55_code 52 = .ok (.bipush 16, 2) := by decide +kernel
theorem d_Mo_reads_54 : decode prog_13_method_55_code 54 = .ok (.invokevirtual 203, 3) := by decide +kernel
theorem d_Mo_reads_57 : decode prog_13_method_55_code 57 = .ok (.l2i, 1) := by decide +kernel
theorem d_Mo_reads_58 : decode prog_13_method_55_code 58 = .ok (.istore_n 2, 1) := by decide +kernel
theorem d_Mo_reads_59 : decode prog_13_method_55_code 59 = .ok (.aload_n 0, 1) := by decide +kernel
theorem d_Mo_reads_60 : decode prog_13_method_55_code 60 = .ok (.getfield 194, 3) := by decide +kernel
theorem d_Mo_reads_63 : decode prog_13_method_55_code 63 = .ok (.ifCond .eq 5, 3) := by decide +kernel
theorem d_Mo_reads_66 : decode prog_13_method_55_code 66 = .ok (.iconst 0, 1) := by decide +kernel
theorem d_Mo_reads_67 : decode prog_13_method_55_code 67 = .ok (.ireturn, 1) := by decide +kernel
theorem d_Mo_reads_68 : decode prog_13_method_55_code 68 = .ok (.iload_n 1, 1) := by decide +kernel
theorem d_Mo_reads_69 : decode prog_13_method_55_code 69 = .ok (.ifCond .ne 10, 3) := by decide +kernel
theorem d_Mo_reads_72 : decode prog_13_method_55_code 72 = .ok (.iload_n 2, 1) := by decide +kernel
theorem d_Mo_reads_73 : decode prog_13_method_55_code 73 = .ok (.ifCond .eq 18, 3) := by decide +kernel
theorem d_Mo_reads_76 : decode prog_13_method_55_code 76 = .ok (.goto 8, 3) := by decide +kernel
theorem d_Mo_reads_79 : decode prog_13_method_55_code 79 = .ok (.iload_n 2, 1) := by decide +kernel
theorem d_Mo_reads_80 : decode prog_13_method_55_code 80 = .ok (.iload_n 1, 1) := by decide +kernel
theorem d_Mo_reads_81 : decode prog_13_method_55_code 81 = .ok (.if_icmp .lt 10, 3) := by decide +kernel
theorem d_Mo_reads_84 : decode prog_13_method_55_code 84 = .ok (.aload_n 0, 1) := by decide +kernel
theorem d_Mo_reads_85 : decode prog_13_method_55_code 85 = .ok (.iconst 4, 1) := by decide +kernel
theorem d_Mo_reads_86 : decode prog_13_method_55_code 86 = .ok (.iconst 4, 1) := by decide +kernel
theorem d_Mo_reads_87 : decode prog_13_method_55_code 87 = .ok (.invokevirtual 200, 3) := by decide +kernel
theorem d_Mo_reads_90 : decode prog_13_method_55_code 90 = .ok (.ireturn, 1) := by decide +kernel
theorem d_Mo_reads_91 : decode prog_13_method_55_code 91 = .ok (.aload_n 0, 1) := by decide +kernel
theorem d_Mo_reads_92 : decode prog_13_method_55_code 92 = .ok (.bipush 32, 2) := by decide +kernel
theorem d_Mo_reads_94 : decode prog_13_method_55_code 94 = .ok (.invokevirtual 203, 3) := by decide +kernel
theorem d_Mo_reads_97 : decode prog_13_method_55_code 97 = .ok (.lstore_n 3, 1) := by decide +kernel
theorem d_Mo_reads_98 : decode prog_13_method_55_code 98 = .ok (.aload_n 0, 1) := by decide +kernel
theorem d_Mo_reads_99 : decode prog_13_method_55_code 99 = .ok (.getfield 194, 3) := by decide +kernel
theorem d_Mo_reads_102 : decode prog_13_method_55_code 102 = .ok (.ifCond .eq 5, 3) := by decide +kernel
theorem d_Mo_reads_105 : decode prog_13_method_55_code 105 = .ok (.iconst 0, 1) := by decide +kernel
theorem d_Mo_reads_106 : decode prog_13_method_55_code 106 = .ok (.ireturn, 1) := by decide +kernel
theorem d_Mo_reads_107 : decode prog_13_method_55_code 107 = .ok (.aload_n 0, 1) := by decide +kernel
theorem d_Mo_reads_108 : decode prog_13_method_55_code 108 = .ok (.iconst 0, 1) := by decide +kernel
theorem d_Mo_reads_109 : decode prog_13_method_55_code 109 = .ok (.putfield 76, 3) := by decide +kernel
theorem d_Mo_reads_112 : decode prog_13_method_55_code 112 = .ok (.iload_n 1, 1) := by decide +kernel
theorem d_Mo_reads_113 : decode prog_13_method_55_code 113 = .ok (.ifCond .le 58, 3) := by decide +kernel
theorem d_Mo_reads_116 : decode prog_13_method_55_code 116 = .ok (.aload_n 0, 1) := by decide +kernel
theorem d_Mo_reads_117 : decode prog_13_method_55_code 117 = .ok (.invokevirtual 218, 3) := by decide +kernel
theorem d_Mo_reads_120 : decode prog_13_method_55_code 120 = .ok (.ifCond .eq 18, 3) := by decide +kernel
theorem d_Mo_reads_123 : decode prog_13_method_55_code 123 = .ok (.aload_n 0, 1) := by decide +kernel
theorem d_Mo_reads_124 : decode prog_13_method_55_code 124 = .ok (.invokevirtual 221, 3) := by decide +kernel
theorem d_Mo_reads_127 : decode prog_13_method_55_code 127 = .ok (.ifCond .eq 11, 3) := by decide +kernel
theorem d_Mo_reads_130 : decode prog_13_method_55_code 130 = .ok (.aload_n 0, 1) := by decide +kernel
theorem d_Mo_reads_131 : decode prog_13_method_55_code 131 = .ok (.iload_n 1, 1) := by decide +kernel
theorem d_Mo_reads_132 : decode prog_13_method_55_code 132 = .ok (.invokevirtual 224, 3) := by decide +kernel
theorem d_Mo_reads_135 : decode prog_13_method_55_code 135 = .ok (.ifCond .ne 5, 3) := by decide +kernel
theorem d_Mo_reads_138 : decode prog_13_method_55_code 138 = .ok (.iconst 0, 1) := by decide +kernel
theorem d_Mo_reads_139 : decode prog_13_method_55_code 139 = .ok (.ireturn, 1) := by decide +kernel
theorem d_Mo_reads_140 : decode prog_13_method_55_code 140 = .ok (.aload_n 0, 1) := by decide +kernel
theorem d_Mo_reads_141 : decode prog_13_method_55_code 141 = .ok (.iload_n 2, 1) := by decide +kernel
theorem d_Mo_reads_142 : decode prog_13_method_55_code 142 = .ok (.invokevirtual 131, 3) := by decide +kernel
theorem d_Mo_reads_145 : decode prog_13_method_55_code 145 = .ok (.ifCond .ne 11, 3) := by decide +kernel
theorem d_Mo_reads_148 : decode prog_13_method_55_code 148 = .ok (.aload_n 0, 1) := by decide +kernel
theorem d_Mo_reads_149 : decode prog_13_method_55_code 149 = .ok (.bipush 9, 2) := by decide +kernel
theorem d_Mo_reads_151 : decode prog_13_method_55_code 151 = .ok (.iconst 4, 1) := by decide +kernel
theorem d_Mo_reads_152 : decode prog_13_method_55_code 152 = .ok (.invokevirtual 200, 3) := by decide +kernel
theorem d_Mo_reads_155 : decode prog_13_method_55_code 155 = .ok (.ireturn, 1) := by decide +kernel
theorem d_Mo_reads_156 : decode prog_13_method_55_code 156 = .ok (.aload_n 0, 1) := by decide +kernel
theorem d_Mo_reads_157 : decode prog_13_method_55_code 157 = .ok (.invokevirtual 227, 3) := by decide +kernel
theorem d_Mo_reads_160 : decode prog_13_method_55_code 160 = .ok (.ifCond .ne 11, 3) := by decide +kernel
theorem d_Mo_reads_163 : decode prog_13_method_55_code 163 = .ok (.aload_n 0, 1) := by decide +kernel
theorem d_Mo_reads_164 : decode prog_13_method_55_code 164 = .ok (.bipush 10, 2) := by decide +kernel
theorem d_Mo_reads_166 : decode prog_13_method_55_code 166 = .ok (.iconst 2, 1) := by decide +kernel
theorem d_Mo_reads_167 : decode prog_13_method_55_code 167 = .ok (.invokevirtual 200, 3) := by decide +kernel
theorem d_Mo_reads_170 : decode prog_13_method_55_code 170 = .ok (.ireturn, 1) := by decide +kernel
theorem d_Mo_reads_171 : decode prog_13_method_55_code 171 = .ok (.aload_n 0, 1) := by decide +kernel
theorem d_Mo_reads_172 : decode prog_13_method_55_code 172 = .ok (.invokevirtual 176, 3) := by decide +kernel
theorem d_Mo_reads_175 : decode prog_13_method_55_code 175 = .ok (.i2l, 1) := by decide +kernel
theorem d_Mo_reads_176 : decode prog_13_method_55_code 176 = .ok (.ldc2_w 179, 3) := by decide +kernel
theorem d_Mo_reads_179 : decode prog_13_method_55_code 179 = .ok (.land, 1) := by decide +kernel
theorem d_Mo_reads_180 : decode prog_13_method_55_code 180 = .ok (.lload_n 3, 1) := by decide +kernel
theorem d_Mo_reads_181 : decode prog_13_method_55_code 181 = .ok (.lcmp, 1) := by decide +kernel
theorem d_Mo_reads_182 : decode prog_13_method_55_code 182 = .ok (.ifCond .eq 12, 3) := by decide +kernel
theorem d_Mo_reads_185 : decode prog_13_method_55_code 185 = .ok (.aload_n 0, 1) := by decide +kernel
theorem d_Mo_reads_186 : decode prog_13_method_55_code 186 = .ok (.bipush 11, 2) := by decide +kernel
theorem d_Mo_reads_188 : decode prog_13_method_55_code 188 = .ok (.bipush 6, 2) := by decide +kernel
theorem d_Mo_reads_190 : decode prog_13_method_55_code 190 = .ok (.invokevirtual 200, 3) := by decide +kernel
theorem d_Mo_reads_193 : decode prog_13_method_55_code 193 = .ok (.ireturn, 1) := by decide +kernel
theorem d_Mo_reads_194 : decode prog_13_method_55_code 194 = .ok (.aload_n 0, 1) := by decide +kernel
theorem d_Mo_reads_195 : decode prog_13_method_55_code 195 = .ok (.getfield 197, 3) := by decide +kernel
theorem d_Mo_reads_198 : decode prog_13_method_55_code 198 = .ok (.bipush 8, 2) := by decide +kernel
theorem d_Mo_reads_200 : decode prog_13_method_55_code 200 = .ok (.idiv, 1) := by decide +kernel
theorem d_Mo_reads_201 : decode prog_13_method_55_code 201 = .ok (.istore 5, 2) := by decide +kernel
theorem d_Mo_reads_203 : decode prog_13_method_55_code 203 = .ok (.aload_n 0, 1) := by decide +kernel
theorem d_Mo_reads_204 : decode prog_13_method_55_code 204 = .ok (.getfield 197, 3) := by decide +kernel
theorem d_Mo_reads_207 : decode prog_13_method_55_code 207 = .ok (.bipush 8, 2) := by decide +kernel
theorem d_Mo_reads_209 : decode prog_13_method_55_code 209 = .ok (.irem, 1) := by decide +kernel
theorem d_Mo_reads_210 : decode prog_13_method_55_code 210 = .ok (.ifCond .eq 22, 3) := by decide +kernel
theorem d_Mo_reads_213 : decode prog_13_method_55_code 213 = .ok (.aload_n 0, 1) := by decide +kernel
theorem d_Mo_reads_214 : decode prog_13_method_55_code 214 = .ok (.iconst 1, 1) := by decide +kernel
theorem d_Mo_reads_215 : decode prog_13_method_55_code 215 = .ok (.invokevirtual 203, 3) := by decide +kernel
theorem d_Mo_reads_218 : decode prog_13_method_55_code 218 = .ok (.lconst 0, 1) := by decide +kernel
theorem d_Mo_reads_219 : decode prog_13_method_55_code 219 = .ok (.lcmp, 1) := by decide +kernel
theorem d_Mo_reads_220 : decode prog_13_method_55_code 220 = .ok (.ifCond .eq (-17), 3) := by decide +kernel
theorem d_Mo_reads_223 : decode prog_13_method_55_code 223 = .ok (.aload_n 0, 1) := by decide +kernel
theorem d_Mo_reads_224 : decode prog_13_method_55_code 224 = .ok (.bipush 12, 2) := by decide +kernel
theorem d_Mo_reads_226 : decode prog_13_method_55_code 226 = .ok (.iload 5, 2) := by decide +kernel
theorem d_Mo_reads_228 : decode prog_13_method_55_code 228 = .ok (.invokevirtual 200, 3) := by decide +kernel
theorem d_Mo_reads_231 : decode prog_13_method_55_code 231 = .ok (.ireturn, 1) := by decide +kernel
theorem d_Mo_reads_232 : decode prog_13_method_55_code 232 = .ok (.aload_n 0, 1) := by decide +kernel
theorem d_Mo_reads_233 : decode prog_13_method_55_code 233 = .ok (.getfield 197, 3) := by decide +kernel
theorem d_Mo_reads_236 : decode prog_13_method_55_code 236 = .ok (.bipush 8, 2) := by decide +kernel
theorem d_Mo_reads_238 : decode prog_13_method_55_code 238 = .ok (.idiv, 1) := by decide +kernel
theorem d_Mo_reads_239 : decode prog_13_method_55_code 239 = .ok (.aload_n 0, 1) := by decide +kernel
theorem d_Mo_reads_240 : decode prog_13_method_55_code 240 = .ok (.getfield 191, 3) := by decide +kernel
theorem d_Mo_reads_243 : decode prog_13_method_55_code 243 = .ok (.if_icmp .eq 19, 3) := by decide +kernel
theorem d_Mo_reads_246 : decode prog_13_method_55_code 246 = .ok (.aload_n 0, 1) := by decide +kernel
theorem d_Mo_reads_247 : decode prog_13_method_55_code 247 = .ok (.bipush 12, 2) := by decide +kernel
theorem d_Mo_reads_249 : decode prog_13_method_55_code 249 = .ok (.aload_n 0, 1) := by decide +kernel
theorem d_Mo_reads_250 : decode prog_13_method_55_code 250 = .ok (.getfield 197, 3) := by decide +kernel
theorem d_Mo_reads_253 : decode prog_13_method_55_code 253 = .ok (.bipush 8, 2) := by decide +kernel
theorem d_Mo_reads_255 : decode prog_13_method_55_code 255 = .ok (.idiv, 1) := by decide +kernel
theorem d_Mo_reads_256 : decode prog_13_method_55_code 256 = .ok (.invokevirtual 200, 3) := by decide +kernel
theorem d_Mo_reads_259 : decode prog_13_method_55_code 259 = .ok (.ifCond .eq 7, 3) := by decide +kernel
theorem d_Mo_reads_262 : decode prog_13_method_55_code 262 = .ok (.iconst 1, 1) := by decide +kernel
theorem d_Mo_reads_263 : decode prog_13_method_55_code 263 = .ok (.goto 4, 3) := by decide +kernel
theorem d_Mo_reads_266 : decode prog_13_method_55_code 266 = .ok (.iconst 0, 1) := by decide +kernel
theorem d_Mo_reads_267 : decode prog_13_method_55_code 267 = .ok (.ireturn, 1) := by decide +kernel
end
section
theorem d_Mo_faultAt_0 : decode prog_13_method_56_code 0 = .ok (.aload_n 0, 1) := by decide +kernel
theorem d_Mo_faultAt_1 : decode prog_13_method_56_code 1 = .ok (.getfield 63, 3) := by decide +kernel
theorem d_Mo_faultAt_4 : decode prog_13_method_56_code 4 = .ok (.ireturn, 1) := by decide +kernel
theorem d_Bn_init_0 : decode prog_2_method_1_code 0 = .ok (.aload_n 0, 1) := by decide +kernel
theorem d_Bn_init_1 : decode prog_2_method_1_code 1 = .ok (.invokespecial 3, 3) := by decide +kernel
theorem d_Bn_init_4 : decode prog_2_method_1_code 4 = .ok (.aload_n 0, 1) := by decide +kernel
theorem d_Bn_init_5 : decode prog_2_method_1_code 5 = .ok (.new 9, 3) := by decide +kernel
theorem d_Bn_init_8 : decode prog_2_method_1_code 8 = .ok (.dup, 1) := by decide +kernel
theorem d_Bn_init_9 : decode prog_2_method_1_code 9 = .ok (.invokespecial 11, 3) := by decide +kernel
theorem d_Bn_init_12 : decode prog_2_method_1_code 12 = .ok (.putfield 12, 3) := by decide +kernel
theorem d_Bn_init_15 : decode prog_2_method_1_code 15 = .ok (.aload_n 0, 1) := by decide +kernel
theorem d_Bn_init_16 : decode prog_2_method_1_code 16 = .ok (.new 18, 3) := by decide +kernel
theorem d_Bn_init_19 : decode prog_2_method_1_code 19 = .ok (.dup, 1) := by decide +kernel
theorem d_Bn_init_20 : decode prog_2_method_1_code 20 = .ok (.invokespecial 20, 3) := by decide +kernel
theorem d_Bn_init_23 : decode prog_2_method_1_code 23 = .ok (.putfield 21, 3) := by decide +kernel
theorem d_Bn_init_26 : decode prog_2_method_1_code 26 = .ok (.aload_n 0, 1) := by decide +kernel
theorem d_Bn_init_27 : decode prog_2_method_1_code 27 = .ok (.new 25, 3) := by decide +kernel
theorem d_Bn_init_30 : decode prog_2_method_1_code 30 = .ok (.dup, 1) := by decide +kernel
theorem d_Bn_init_31 : decode prog_2_method_1_code 31 = .ok (.invokespecial 27, 3) := by decide +kernel
theorem d_Bn_init_34 : decode prog_2_method_1_code 34 = .ok (.putfield 28, 3) := by decide +kernel
theorem d_Bn_init_37 : decode prog_2_method_1_code 37 = .ok (.aload_n 0, 1) := by decide +kernel
theorem d_Bn_init_38 : decode prog_2_method_1_code 38 = .ok (.new 32, 3) := by decide +kernel
theorem d_Bn_init_41 : decode prog_2_method_1_code 41 = .ok (.dup, 1) := by decide +kernel
theorem d_Bn_init_42 : decode prog_2_method_1_code 42 = .ok (.invokespecial 34, 3) := by decide +kernel
theorem d_Bn_init_45 : decode prog_2_method_1_code 45 = .ok (.putfield 35, 3) := by decide +kernel
theorem d_Bn_init_48 : decode prog_2_method_1_code 48 = .ok (.aload_n 0, 1) := by decide +kernel
theorem d_Bn_init_49 : decode prog_2_method_1_code 49 = .ok (.new 39, 3) := by decide +kernel
theorem d_Bn_init_52 : decode prog_2_method_1_code 52 = .ok (.dup, 1) := by decide +kernel
theorem d_Bn_init_53 : decode prog_2_method_1_code 53 = .ok (.sipush 900, 3) := by decide +kernel
theorem d_Bn_init_56 : decode prog_2_method_1_code 56 = .ok (.invokespecial 41, 3) := by decide +kernel
theorem d_Bn_init_59 : decode prog_2_method_1_code 59 = .ok (.putfield 44, 3) := by decide +kernel
theorem d_Bn_init_62 : decode prog_2_method_1_code 62 = .ok (.aload_n 0, 1) := by decide +kernel
theorem d_Bn_init_63 : decode prog_2_method_1_code 63 = .ok (.new 39, 3) := by decide +kernel
theorem d_Bn_init_66 : decode prog_2_method_1_code 66 = .ok (.dup, 1) := by decide +kernel
theorem d_Bn_init_67 : decode prog_2_method_1_code 67 = .ok (.sipush 600, 3) := by decide +kernel
theorem d_Bn_init_70 : decode prog_2_method_1_code 70 = .ok (.invokespecial 41, 3) := by decide +kernel
theorem d_Bn_init_73 : decode prog_2_method_1_code 73 = .ok (.putfield 48, 3) := by decide +kernel
theorem d_Bn_init_76 : decode prog_2_method_1_code 76 = .ok (.aload_n 0, 1) := by decide +kernel
theorem d_Bn_init_77 : decode prog_2_method_1_code 77 = .ok (.new 39, 3) := by decide +kernel
theorem d_Bn_init_80 : decode prog_2_method_1_code 80 = .ok (.dup, 1) := by decide +kernel
theorem d_Bn_init_81 : decode prog_2_method_1_code 81 = .ok (.sipush 750, 3) := by decide +kernel
theorem d_Bn_init_84 : decode prog_2_method_1_code 84 = .ok (.invokespecial 41, 3) := by decide +kernel
theorem d_Bn_init_87 : decode prog_2_method_1_code 87 = .ok (.putfield 51, 3) := by decide +kernel
theorem d_Bn_init_90 : decode prog_2_method_1_code 90 = .ok (.return_, 1) := by decide +kernel
theorem d_Bn_goBack_0 : decode prog_2_method_2_code 0 = .ok (.aload_n 0, 1) := by decide +kernel
theorem d_Bn_goBack_1 : decode prog_2_method_2_code 1 = .ok (.getfield 21, 3) := by decide +kernel
theorem d_Bn_goBack_4 : decode prog_2_method_2_code 4 = .ok (.aload_n 1, 1) := by decide +kernel
theorem d_Bn_goBack_5 : decode prog_2_method_2_code 5 = .ok (.invokevirtual 54, 3) := by decide +kernel
theorem d_Bn_goBack_8 : decode prog_2_method_2_code 8 = .ok (.aload_n 0, 1) := by decide +kernel
theorem d_Bn_goBack_9 : decode prog_2_method_2_code 9 = .ok (.getfield 21, 3) := by decide +kernel
theorem d_Bn_goBack_12 : decode prog_2_method_2_code 12 = .ok (.aload_n 1, 1) := by decide +kernel
theorem d_Bn_goBack_13 : decode prog_2_method_2_code 13 = .ok (.iload_n 2, 1) := by decide +kernel
theorem d_Bn_goBack_14 : decode prog_2_method_2_code 14 = .ok (.aload_n 0, 1) := by decide +kernel
theorem d_Bn_goBack_15 : decode prog_2_method_2_code 15 = .ok (.getfield 44, 3) := by decide +kernel
theorem d_Bn_goBack_18 : decode prog_2_method_2_code 18 = .ok (.invokevirtual 58, 3) := by decide +kernel
theorem d_Bn_goBack_21 : decode prog_2_method_2_code 21 = .ok (.aload_n 0, 1) := by decide +kernel
theorem d_Bn_goBack_22 : decode prog_2_method_2_code 22 = .ok (.getfield 12, 3) := by decide +kernel
theorem d_Bn_goBack_25 : decode prog_2_method_2_code 25 = .ok (.aload_n 0, 1) := by decide +kernel
theorem d_Bn_goBack_26 : decode prog_2_method_2_code 26 = .ok (.getfield 44, 3) := by decide +kernel
theorem d_Bn_goBack_29 : decode prog_2_method_2_code 29 = .ok (.invokevirtual 62, 3) := by decide +kernel
theorem d_Bn_goBack_32 : decode prog_2_method_2_code 32 = .ok (.aload_n 0, 1) := by decide +kernel
theorem d_Bn_goBack_33 : decode prog_2_method_2_code 33 = .ok (.getfield 12, 3) := by decide +kernel
theorem d_Bn_goBack_36 : decode prog_2_method_2_code 36 = .ok (.getfield 65, 3) := by decide +kernel
theorem d_Bn_goBack_39 : decode prog_2_method_2_code 39 = .ok (.aload_n 1, 1) := by decide +kernel
theorem d_Bn_goBack_40 : decode prog_2_method_2_code 40 = .ok (.invokevirtual 68, 3) := by decide +kernel
theorem d_Bn_goBack_43 : decode prog_2_method_2_code 43 = .ok (.ifCond .eq 26, 3) := by decide +kernel
theorem d_Bn_goBack_46 : decode prog_2_method_2_code 46 = .ok (.aload_n 1, 1) := by decide +kernel
theorem d_Bn_goBack_47 : decode prog_2_method_2_code 47 = .ok (.getfield 72, 3) := by decide +kernel
theorem d_Bn_goBack_50 : decode prog_2_method_2_code 50 = .ok (.ifCond .eq 15, 3) := by decide +kernel
theorem d_Bn_goBack_53 : decode prog_2_method_2_code 53 = .ok (.aload_n 0, 1) := by decide +kernel
theorem d_Bn_goBack_54 : decode prog_2_method_2_code 54 = .ok (.getfield 12, 3) := by decide +kernel
theorem d_Bn_goBack_57 : decode prog_2_method_2_code 57 = .ok (.iconst 0, 1) := by decide +kernel
theorem d_Bn_goBack_58 : decode prog_2_method_2_code 58 = .ok (.invokevirtual 76, 3) := by decide +kernel
theorem d_Bn_goBack_61 : decode prog_2_method_2_code 61 = .ok (.iload_n 2, 1) := by decide +kernel
theorem d_Bn_goBack_62 : decode prog_2_method_2_code 62 = .ok (.if_icmp .ne 7, 3) := by decide +kernel
theorem d_Bn_goBack_65 : decode prog_2_method_2_code 65 = .ok (.iconst 1, 1) := by decide +kernel
theorem d_Bn_goBack_66 : decode prog_2_method_2_code 66 = .ok (.goto 4, 3) := by decide +kernel
theorem d_Bn_goBack_69 : decode prog_2_method_2_code 69 = .ok (.iconst 0, 1) := by decide +kernel
theorem d_Bn_goBack_70 : decode prog_2_method_2_code 70 = .ok (.ireturn, 1) := by decide +kernel
theorem d_Bn_unpackGiven_0 : decode prog_2_method_3_code 0 = .ok (.aload_n 0, 1) := by decide +kernel
theorem d_Bn_unpackGiven_1 : decode prog_2_method_3_code 1 = .ok (.getfield 44, 3) := by decide +kernel
theorem d_Bn_unpackGiven_4 : decode prog_2_method_3_code 4 = .ok (.aload_n 0, 1) := by decide +kernel
theorem d_Bn_unpackGiven_5 : decode prog_2_method_3_code 5 = .ok (.getfield 48, 3) := by decide +kernel
theorem d_Bn_unpackGiven_8 : decode prog_2_method_3_code 8 = .ok (.invokestatic 80, 3) := by decide +kernel
theorem d_Bn_unpackGiven_11 : decode prog_2_method_3_code 11 = .ok (.ifCond .ne 5, 3) := by decide +kernel
theorem d_Bn_unpackGiven_14 : decode prog_2_method_3_code 14 = .ok (.iconst 0, 1) := by decide +kernel
theorem d_Bn_unpackGiven_15 : decode prog_2_method_3_code 15 = .ok (.ireturn, 1) := by decide +kernel
theorem d_Bn_unpackGiven_16 : decode prog_2_method_3_code 16 = .ok (.aload_n 0, 1) := by decide +kernel
theorem d_Bn_unpackGiven_17 : decode prog_2_method_3_code 17 = .ok (.getfield 48, 3) := by decide +kernel
theorem d_Bn_unpackGiven_20 : decode prog_2_method_3_code 20 = .ok (.aload_n 0, 1) := by decide +kernel
theorem d_Bn_unpackGiven_21 : decode prog_2_method_3_code 21 = .ok (.getfield 51, 3) := by decide +kernel
theorem d_Bn_unpackGiven_24 : decode prog_2_method_3_code 24 = .ok (.invokestatic 84, 3) := by decide +kernel
theorem d_Bn_unpackGiven_27 : decode prog_2_method_3_code 27 = .ok (.aload_n 0, 1) := by decide +kernel
theorem d_Bn_unpackGiven_28 : decode prog_2_method_3_code 28 = .ok (.getfield 51, 3) := by decide +kernel
theorem d_Bn_unpackGiven_31 : decode prog_2_method_3_code 31 = .ok (.aload_n 0, 1) := by decide +kernel
theorem d_Bn_unpackGiven_32 : decode prog_2_method_3_code 32 = .ok (.getfield 44, 3) := by decide +kernel
theorem d_Bn_unpackGiven_35 : decode prog_2_method_3_code 35 = .ok (.invokevirtual 68, 3) := by decide +kernel
theorem d_Bn_unpackGiven_38 : decode prog_2_method_3_code 38 = .ok (.ireturn, 1) := by decide +kernel
theorem d_Ch_init_0 : decode prog_3_method_1_code 0 = .ok (.aload_n 0, 1) := by decide +kernel
theorem d_Ch_init_1 : decode prog_3_method_1_code 1 = .ok (.invokespecial 3, 3) := by decide +kernel
theorem d_Ch_init_4 : decode prog_3_method_1_code 4 = .ok (.aload_n 0, 1) := by decide +kernel
theorem d_Ch_init_5 : decode prog_3_method_1_code 5 = .ok (.sipush 900, 3) := by decide +kernel
theorem d_Ch_init_8 : decode prog_3_method_1_code 8 = .ok (.newarray .int, 2) := by decide +kernel
theorem d_Ch_init_10 : decode prog_3_method_1_code 10 = .ok (.putfield 9, 3) := by decide +kernel
theorem d_Ch_init_13 : decode prog_3_method_1_code 13 = .ok (.aload_n 0, 1) := by decide +kernel
theorem d_Ch_init_14 : decode prog_3_method_1_code 14 = .ok (.sipush 257, 3) := by decide +kernel
theorem d_Ch_init_17 : decode prog_3_method_1_code 17 = .ok (.newarray .int, 2) := by decide +kernel
theorem d_Ch_init_19 : decode prog_3_method_1_code 19 = .ok (.putfield 15, 3) := by decide +kernel
theorem d_Ch_init_22 : decode prog_3_method_1_code 22 = .ok (.return_, 1) := by decide +kernel
theorem d_Ch_link_0 : decode prog_3_method_2_code 0 = .ok (.aload_n 0, 1) := by decide +kernel
theorem d_Ch_link_1 : decode prog_3_method_2_code 1 = .ok (.aload_n 1, 1) := by decide +kernel
theorem d_Ch_link_2 : decode prog_3_method_2_code 2 = .ok (.getfield 18, 3) := by decide +kernel
theorem d_Ch_link_5 : decode prog_3_method_2_code 5 = .ok (.sipush 900, 3) := by decide +kernel
theorem d_Ch_link_8 : decode prog_3_method_2_code 8 = .ok (.invokestatic 24, 3) := by decide +kernel
theorem d_Ch_link_11 : decode prog_3_method_2_code 11 = .ok (.putfield 30, 3) := by decide +kernel
theorem d_Ch_link_14 : decode prog_3_method_2_code 14 = .ok (.aload_n 0, 1) := by decide +kernel
theorem d_Ch_link_15 : decode prog_3_method_2_code 15 = .ok (.getfield 15, 3) := by decide +kernel
theorem d_Ch_link_18 : decode prog_3_method_2_code 18 = .ok (.iconst 0, 1) := by decide +kernel
theorem d_Ch_link_19 : decode prog_3_method_2_code 19 = .ok (.invokestatic 31, 3) := by decide +kernel
theorem d_Ch_link_22 : decode prog_3_method_2_code 22 = .ok (.iconst 0, 1) := by decide +kernel
theorem d_Ch_link_23 : decode prog_3_method_2_code 23 = .ok (.istore_n 2, 1) := by decide +kernel
theorem d_Ch_link_24 : decode prog_3_method_2_code 24 = .ok (.iload_n 2, 1) := by decide +kernel
theorem d_Ch_link_25 : decode prog_3_method_2_code 25 = .ok (.aload_n 0, 1) := by decide +kernel
theorem d_Ch_link_26 : decode prog_3_method_2_code 26 = .ok (.getfield 30, 3) := by decide +kernel
theorem d_Ch_link_29 : decode prog_3_method_2_code 29 = .ok (.if_icmp .ge 25, 3) := by decide +kernel
theorem d_Ch_link_32 : decode prog_3_method_2_code 32 = .ok (.aload_n 0, 1) := by decide +kernel
theorem d_Ch_link_33 : decode prog_3_method_2_code 33 = .ok (.getfield 15, 3) := by decide +kernel
theorem d_Ch_link_36 : decode prog_3_method_2_code 36 = .ok (.aload_n 1, 1) := by decide +kernel
theorem d_Ch_link_37 : decode prog_3_method_2_code 37 = .ok (.iload_n 2, 1) := by decide +kernel
theorem d_Ch_link_38 : decode prog_3_method_2_code 38 = .ok (.invokevirtual 37, 3) := by decide +kernel
theorem d_Ch_link_41 : decode prog_3_method_2_code 41 = .ok (.iconst 1, 1) := by decide +kernel
theorem d_Ch_link_42 : decode prog_3_method_2_code 42 = .ok (.iadd, 1) := by decide +kernel
theorem d_Ch_link_43 : decode prog_3_method_2_code 43 = .ok (.dup2, 1) := by decide +kernel
theorem d_Ch_link_44 : decode prog_3_method_2_code 44 = .ok (.iaload, 1) := by decide +kernel
theorem d_Ch_link_45 : decode prog_3_method_2_code 45 = .ok (.iconst 1, 1) := by decide +kernel
theorem d_Ch_link_46 : decode prog_3_method_2_code 46 = .ok (.iadd, 1) := by decide +kernel
theorem d_Ch_link_47 : decode prog_3_method_2_code 47 = .ok (.iastore, 1) := by decide +kernel
theorem d_Ch_link_48 : decode prog_3_method_2_code 48 = .ok (.iinc 2 1, 3) := by decide +kernel
theorem d_Ch_link_51 : decode prog_3_method_2_code 51 = .ok (.goto (-27), 3) := by decide +kernel
theorem d_Ch_link_54 : decode prog_3_method_2_code 54 = .ok (.iconst 0, 1) := by decide +kernel
theorem d_Ch_link_55 : decode prog_3_method_2_code 55 = .ok (.istore_n 2, 1) := by decide +kernel
theorem d_Ch_link_56 : decode prog_3_method_2_code 56 = .ok (.iload_n 2, 1) := by decide +kernel
theorem d_Ch_link_57 : decode prog_3_method_2_code 57 = .ok (.sipush 256, 3) := by decide +kernel
theorem d_Ch_link_60 : decode prog_3_method_2_code 60 = .ok (.if_icmp .ge 26, 3) := by decide +kernel
theorem d_Ch_link_63 : decode prog_3_method_2_code 63 = .ok (.aload_n 0, 1) := by decide +kernel
theorem d_Ch_link_64 : decode prog_3_method_2_code 64 = .ok (.getfield 15, 3) := by decide +kernel
theorem d_Ch_link_67 : decode prog_3_method_2_code 67 = .ok (.iload_n 2, 1) := by decide +kernel
theorem d_Ch_link_68 : decode prog_3_method_2_code 68 = .ok (.iconst 1, 1) := by decide +kernel
theorem d_Ch_link_69 : decode prog_3_method_2_code 69 = .ok (.iadd, 1) := by decide +kernel
theorem d_Ch_link_70 : decode prog_3_method_2_code 70 = .ok (.dup2, 1) := by decide +kernel
theorem d_Ch_link_71 : decode prog_3_method_2_code 71 = .ok (.iaload, 1) := by decide +kernel
theorem d_Ch_link_72 : decode prog_3_method_2_code 72 = .ok (.aload_n 0, 1) := by decide +kernel
theorem d_Ch_link_73 : decode prog_3_method_2_code 73 = .ok (.getfield 15, 3) := by decide +kernel
theorem d_Ch_link_76 : decode prog_3_method_2_code 76 = .ok (.iload_n 2, 1) := by decide +kernel
theorem d_Ch_link_77 : decode prog_3_method_2_code 77 = .ok (.iaload, 1) := by decide +kernel
theorem d_Ch_link_78 : decode prog_3_method_2_code 78 = .ok (.iadd, 1) := by decide +kernel
theorem d_Ch_link_79 : decode prog_3_method_2_code 79 = .ok (.iastore, 1) := by decide +kernel
theorem d_Ch_link_80 : decode prog_3_method_2_code 80 = .ok (.iinc 2 1, 3) := by decide +kernel
theorem d_Ch_link_83 : decode prog_3_method_2_code 83 = .ok (.goto (-27), 3) := by decide +kernel
theorem d_Ch_link_86 : decode prog_3_method_2_code 86 = .ok (.iconst 0, 1) := by decide +kernel
theorem d_Ch_link_87 : decode prog_3_method_2_code 87 = .ok (.istore_n 2, 1) := by decide +kernel
theorem d_Ch_link_88 : decode prog_3_method_2_code 88 = .ok (.iload_n 2, 1) := by decide +kernel
theorem d_Ch_link_89 : decode prog_3_method_2_code 89 = .ok (.aload_n 0, 1) := by decide +kernel
theorem d_Ch_link_90 : decode prog_3_method_2_code 90 = .ok (.getfield 30, 3) := by decide +kernel
theorem d_Ch_link_93 : decode prog_3_method_2_code 93 = .ok (.if_icmp .ge 37, 3) := by decide +kernel
theorem d_Ch_link_96 : decode prog_3_method_2_code 96 = .ok (.aload_n 1, 1) := by decide +kernel
theorem d_Ch_link_97 : decode prog_3_method_2_code 97 = .ok (.iload_n 2, 1) := by decide +kernel
theorem d_Ch_link_98 : decode prog_3_method_2_code 98 = .ok (.invokevirtual 37, 3) := by decide +kernel
theorem d_Ch_link_101 : decode prog_3_method_2_code 101 = .ok (.istore_n 3, 1) := by decide +kernel
theorem d_Ch_link_102 : decode prog_3_method_2_code 102 = .ok (.aload_n 0, 1) := by decide +kernel
theorem d_Ch_link_103 : decode prog_3_method_2_code 103 = .ok (.getfield 9, 3) := by decide +kernel
theorem d_Ch_link_106 : decode prog_3_method_2_code 106 = .ok (.aload_n 0, 1) := by decide +kernel
theorem d_Ch_link_107 : decode prog_3_method_2_code 107 = .ok (.getfield 15, 3) := by decide +kernel
theorem d_Ch_link_110 : decode prog_3_method_2_code 110 = .ok (.iload_n 3, 1) := by decide +kernel
theorem d_Ch_link_111 : decode prog_3_method_2_code 111 = .ok (.iaload, 1) := by decide +kernel
theorem d_Ch_link_112 : decode prog_3_method_2_code 112 = .ok (.iload_n 2, 1) := by decide +kernel
theorem d_Ch_link_113 : decode prog_3_method_2_code 113 = .ok (.iastore, 1) := by decide +kernel
theorem d_Ch_link_114 : decode prog_3_method_2_code 114 = .ok (.aload_n 0, 1) := by decide +kernel
theorem d_Ch_link_115 : decode prog_3_method_2_code 115 = .ok (.getfield 15, 3) := by decide +kernel
theorem d_Ch_link_118 : decode prog_3_method_2_code 118 = .ok (.iload_n 3, 1) := by decide +kernel
theorem d_Ch_link_119 : decode prog_3_method_2_code 119 = .ok (.dup2, 1) := by decide +kernel
theorem d_Ch_link_120 : decode prog_3_method_2_code 120 = .ok (.iaload, 1) := by decide +kernel
theorem d_Ch_link_121 : decode prog_3_method_2_code 121 = .ok (.iconst 1, 1) := by decide +kernel
theorem d_Ch_link_122 : decode prog_3_method_2_code 122 = .ok (.iadd, 1) := by decide +kernel
theorem d_Ch_link_123 : decode prog_3_method_2_code 123 = .ok (.iastore, 1) := by decide +kernel
theorem d_Ch_link_124 : decode prog_3_method_2_code 124 = .ok (.iinc 2 1, 3) := by decide +kernel
theorem d_Ch_link_127 : decode prog_3_method_2_code 127 = .ok (.goto (-39), 3) := by decide +kernel
theorem d_Ch_link_130 : decode prog_3_method_2_code 130 = .ok (.return_, 1) := by decide +kernel
theorem d_Ch_ringLength_0 : decode prog_3_method_3_code 0 = .ok (.iload_n 1, 1) := by decide +kernel
theorem d_Ch_ringLength_1 : decode prog_3_method_3_code 1 = .ok (.ifCond .lt 11, 3) := by decide +kernel
theorem d_Ch_ringLength_4 : decode prog_3_method_3_code 4 = .ok (.iload_n 1, 1) := by decide +kernel
theorem d_Ch_ringLength_5 : decode prog_3_method_3_code 5 = .ok (.aload_n 0, 1) := by decide +kernel
theorem d_Ch_ringLength_6 : decode prog_3_method_3_code 6 = .ok (.getfield 30, 3) := by decide +kernel
theorem d_Ch_ringLength_9 : decode prog_3_method_3_code 9 = .ok (.if_icmp .lt 5, 3) := by decide +kernel
theorem d_Ch_ringLength_12 : decode prog_3_method_3_code 12 = .ok (.iconst (-1), 1) := by decide +kernel
theorem d_Ch_ringLength_13 : decode prog_3_method_3_code 13 = .ok (.ireturn, 1) := by decide +kernel
theorem d_Ch_ringLength_14 : decode prog_3_method_3_code 14 = .ok (.aload_n 0, 1) := by decide +kernel
theorem d_Ch_ringLength_15 : decode prog_3_method_3_code 15 = .ok (.getfield 9, 3) := by decide +kernel
theorem d_Ch_ringLength_18 : decode prog_3_method_3_code 18 = .ok (.iload_n 1, 1) := by decide +kernel
theorem d_Ch_ringLength_19 : decode prog_3_method_3_code 19 = .ok (.iaload, 1) := by decide +kernel
theorem d_Ch_ringLength_20 : decode prog_3_method_3_code 20 = .ok (.istore_n 2, 1) := by decide +kernel
theorem d_Ch_ringLength_21 : decode prog_3_method_3_code 21 = .ok (.iconst 1, 1) := by decide +kernel
theorem d_Ch_ringLength_22 : decode prog_3_method_3_code 22 = .ok (.istore_n 3, 1) := by decide +kernel
theorem d_Ch_ringLength_23 : decode prog_3_method_3_code 23 = .ok (.iload_n 2, 1) := by decide +kernel
theorem d_Ch_ringLength_24 : decode prog_3_method_3_code 24 = .ok (.iload_n 1, 1) := by decide +kernel
theorem d_Ch_ringLength_25 : decode prog_3_method_3_code 25 = .ok (.if_icmp .eq 24, 3) := by decide +kernel
theorem d_Ch_ringLength_28 : decode prog_3_method_3_code 28 = .ok (.iload_n 3, 1) := by decide +kernel
theorem d_Ch_ringLength_29 : decode prog_3_method_3_code 29 = .ok (.aload_n 0, 1) := by decide +kernel
theorem d_Ch_ringLength_30 : decode prog_3_method_3_code 30 = .ok (.getfield 30, 3) := by decide +kernel
theorem d_Ch_ringLength_33 : decode prog_3_method_3_code 33 = .ok (.if_icmp .ge 16, 3) := by decide +kernel
theorem d_Ch_ringLength_36 : decode prog_3_method_3_code 36 = .ok (.aload_n 0, 1) := by decide +kernel
theorem d_Ch_ringLength_37 : decode prog_3_method_3_code 37 = .ok (.getfield 9, 3) := by decide +kernel
theorem d_Ch_ringLength_40 : decode prog_3_method_3_code 40 = .ok (.iload_n 2, 1) := by decide +kernel
theorem d_Ch_ringLength_41 : decode prog_3_method_3_code 41 = .ok (.iaload, 1) := by decide +kernel
theorem d_Ch_ringLength_42 : decode prog_3_method_3_code 42 = .ok (.istore_n 2, 1) := by decide +kernel
theorem d_Ch_ringLength_43 : decode prog_3_method_3_code 43 = .ok (.iinc 3 1, 3) := by decide +kernel
theorem d_Ch_ringLength_46 : decode prog_3_method_3_code 46 = .ok (.goto (-23), 3) := by decide +kernel
theorem d_Ch_ringLength_49 : decode prog_3_method_3_code 49 = .ok (.iload_n 3, 1) := by decide +kernel
theorem d_Ch_ringLength_50 : decode prog_3_method_3_code 50 = .ok (.ireturn, 1) := by decide +kernel
theorem d_Ch_follow_0 : decode prog_3_method_4_code 0 = .ok (.aload_n 3, 1) := by decide +kernel
theorem d_Ch_follow_1 : decode prog_3_method_4_code 1 = .ok (.iconst 0, 1) := by decide +kernel
theorem d_Ch_follow_2 : decode prog_3_method_4_code 2 = .ok (.invokevirtual 41, 3) := by decide +kernel
theorem d_Ch_follow_5 : decode prog_3_method_4_code 5 = .ok (.iload_n 2, 1) := by decide +kernel
theorem d_Ch_follow_6 : decode prog_3_method_4_code 6 = .ok (.istore 4, 2) := by decide +kernel
theorem d_Ch_follow_8 : decode prog_3_method_4_code 8 = .ok (.iconst 0, 1) := by decide +kernel
theorem d_Ch_follow_9 : decode prog_3_method_4_code 9 = .ok (.istore 5, 2) := by decide +kernel
theorem d_Ch_follow_11 : decode prog_3_method_4_code 11 = .ok (.iload 5, 2) := by decide +kernel
theorem d_Ch_follow_13 : decode prog_3_method_4_code 13 = .ok (.aload_n 0, 1) := by decide +kernel
theorem d_Ch_follow_14 : decode prog_3_method_4_code 14 = .ok (.getfield 30, 3) := by decide +kernel
theorem d_Ch_follow_17 : decode prog_3_method_4_code 17 = .ok (.if_icmp .ge 42, 3) := by decide +kernel
theorem d_Ch_follow_20 : decode prog_3_method_4_code 20 = .ok (.iload 4, 2) := by decide +kernel
theorem d_Ch_follow_22 : decode prog_3_method_4_code 22 = .ok (.ifCond .lt 37, 3) := by decide +kernel
theorem d_Ch_follow_25 : decode prog_3_method_4_code 25 = .ok (.iload 4, 2) := by decide +kernel
theorem d_Ch_follow_27 : decode prog_3_method_4_code 27 = .ok (.aload_n 0, 1) := by decide +kernel
theorem d_Ch_follow_28 : decode prog_3_method_4_code 28 = .ok (.getfield 30, 3) := by decide +kernel
theorem d_Ch_follow_31 : decode prog_3_method_4_code 31 = .ok (.if_icmp .ge 28, 3) := by decide +kernel
theorem d_Ch_follow_34 : decode prog_3_method_4_code 34 = .ok (.aload_n 0, 1) := by decide +kernel
theorem d_Ch_follow_35 : decode prog_3_method_4_code 35 = .ok (.getfield 9, 3) := by decide +kernel
theorem d_Ch_follow_38 : decode prog_3_method_4_code 38 = .ok (.iload 4, 2) := by decide +kernel
theorem d_Ch_follow_40 : decode prog_3_method_4_code 40 = .ok (.iaload, 1) := by decide +kernel
theorem d_Ch_follow_41 : decode prog_3_method_4_code 41 = .ok (.istore 4, 2) := by decide +kernel
theorem d_Ch_follow_43 : decode prog_3_method_4_code 43 = .ok (.aload_n 3, 1) := by decide +kernel
theorem d_Ch_follow_44 : decode prog_3_method_4_code 44 = .ok (.aload_n 1, 1) := by decide +kernel
theorem d_Ch_follow_45 : decode prog_3_method_4_code 45 = .ok (.iload 4, 2) := by decide +kernel
theorem d_Ch_follow_47 : decode prog_3_method_4_code 47 = .ok (.invokevirtual 37, 3) := by decide +kernel
theorem d_Ch_follow_50 : decode prog_3_method_4_code 50 = .ok (.invokevirtual 45, 3) := by decide +kernel
theorem d_Ch_follow_53 : decode prog_3_method_4_code 53 = .ok (.iinc 5 1, 3) := by decide +kernel
theorem d_Ch_follow_56 : decode prog_3_method_4_code 56 = .ok (.goto (-45), 3) := by decide +kernel
theorem d_Ch_follow_59 : decode prog_3_method_4_code 59 = .ok (.return_, 1) := by decide +kernel
theorem d_Cd_init_0 : decode prog_4_method_1_code 0 = .ok (.aload_n 0, 1) := by decide +kernel
theorem d_Cd_init_1 : decode prog_4_method_1_code 1 = .ok (.invokespecial 3, 3) := by decide +kernel
theorem d_Cd_init_4 : decode prog_4_method_1_code 4 = .ok (.aload_n 0, 1) := by decide +kernel
theorem d_Cd_init_5 : decode prog_4_method_1_code 5 = .ok (.new 9, 3) := by decide +kernel
theorem d_Cd_init_8 : decode prog_4_method_1_code 8 = .ok (.dup, 1) := by decide +kernel
theorem d_Cd_init_9 : decode prog_4_method_1_code 9 = .ok (.invokespecial 11, 3) := by decide +kernel
theorem d_Cd_init_12 : decode prog_4_method_1_code 12 = .ok (.putfield 12, 3) := by decide +kernel
theorem d_Cd_init_15 : decode prog_4_method_1_code 15 = .ok (.aload_n 0, 1) := by decide +kernel
theorem d_Cd_init_16 : decode prog_4_method_1_code 16 = .ok (.sipush 258, 3) := by decide +kernel
theorem d_Cd_init_19 : decode prog_4_method_1_code 19 = .ok (.newarray .int, 2) := by decide +kernel
theorem d_Cd_init_21 : decode prog_4_method_1_code 21 = .ok (.putfield 18, 3) := by decide +kernel
theorem d_Cd_init_24 : decode prog_4_method_1_code 24 = .ok (.aload_n 0, 1) := by decide +kernel
theorem d_Cd_init_25 : decode prog_4_method_1_code 25 = .ok (.sipush 258, 3) := by decide +kernel
theorem d_Cd_init_28 : decode prog_4_method_1_code 28 = .ok (.newarray .int, 2) := by decide +kernel
theorem d_Cd_init_30 : decode prog_4_method_1_code 30 = .ok (.putfield 22, 3) := by decide +kernel
theorem d_Cd_init_33 : decode prog_4_method_1_code 33 = .ok (.aload_n 0, 1) := by decide +kernel
theorem d_Cd_init_34 : decode prog_4_method_1_code 34 = .ok (.sipush 258, 3) := by decide +kernel
theorem d_Cd_init_37 : decode prog_4_method_1_code 37 = .ok (.newarray .int, 2) := by decide +kernel
theorem d_Cd_init_39 : decode prog_4_method_1_code 39 = .ok (.putfield 25, 3) := by decide +kernel
theorem d_Cd_init_42 : decode prog_4_method_1_code 42 = .ok (.aload_n 0, 1) := by decide +kernel
theorem d_Cd_init_43 : decode prog_4_method_1_code 43 = .ok (.sipush 258, 3) := by decide +kernel
theorem d_Cd_init_46 : decode prog_4_method_1_code 46 = .ok (.newarray .int, 2) := by decide +kernel
theorem d_Cd_init_48 : decode prog_4_method_1_code 48 = .ok (.putfield 28, 3) := by decide +kernel
theorem d_Cd_init_51 : decode prog_4_method_1_code 51 = .ok (.aload_n 0, 1) := by decide +kernel
theorem d_Cd_init_52 : decode prog_4_method_1_code 52 = .ok (.bipush 13, 2) := by decide +kernel
theorem d_Cd_init_54 : decode prog_4_method_1_code 54 = .ok (.newarray .int, 2) := by decide +kernel
theorem d_Cd_init_56 : decode prog_4_method_1_code 56 = .ok (.putfield 31, 3) := by decide +kernel
theorem d_Cd_init_59 : decode prog_4_method_1_code 59 = .ok (.return_, 1) := by decide +kernel
theorem d_Cd_has_0 : decode prog_4_method_2_code 0 = .ok (.iload_n 1, 1) := by decide +kernel
theorem d_Cd_has_1 : decode prog_4_method_2_code 1 = .ok (.ifCond .lt 15, 3) := by decide +kernel
theorem d_Cd_has_4 : decode prog_4_method_2_code 4 = .ok (.iload_n 1, 1) := by decide +kernel
theorem d_Cd_has_5 : decode prog_4_method_2_code 5 = .ok (.aload_n 0, 1) := by decide +kernel
theorem d_Cd_has_6 : decode prog_4_method_2_code 6 = .ok (.getfield 34, 3) := by decide +kernel
theorem d_Cd_has_9 : decode prog_4_method_2_code 9 = .ok (.if_icmp .ge 7, 3) := by decide +kernel
theorem d_Cd_has_12 : decode prog_4_method_2_code 12 = .ok (.iconst 1, 1) := by decide +kernel
theorem d_Cd_has_13 : decode prog_4_method_2_code 13 = .ok (.goto 4, 3) := by decide +kernel
theorem d_Cd_has_16 : decode prog_4_method_2_code 16 = .ok (.iconst 0, 1) := by decide +kernel
theorem d_Cd_has_17 : decode prog_4_method_2_code 17 = .ok (.ireturn, 1) := by decide +kernel
theorem d_Cd_lengthOf_0 : decode prog_4_method_3_code 0 = .ok (.aload_n 0, 1) := by decide +kernel
theorem d_Cd_lengthOf_1 : decode prog_4_method_3_code 1 = .ok (.iload_n 1, 1) := by decide +kernel
theorem d_Cd_lengthOf_2 : decode prog_4_method_3_code 2 = .ok (.invokevirtual 38, 3) := by decide +kernel
theorem d_Cd_lengthOf_5 : decode prog_4_method_3_code 5 = .ok (.ifCond .eq 12, 3) := by decide +kernel
theorem d_Cd_lengthOf_8 : decode prog_4_method_3_code 8 = .ok (.aload_n 0, 1) := by decide +kernel
theorem d_Cd_lengthOf_9 : decode prog_4_method_3_code 9 = .ok (.getfield 22, 3) := by decide +kernel
theorem d_Cd_lengthOf_12 : decode prog_4_method_3_code 12 = .ok (.iload_n 1, 1) := by decide +kernel
theorem d_Cd_lengthOf_13 : decode prog_4_method_3_code 13 = .ok (.iaload, 1) := by decide +kernel
theorem d_Cd_lengthOf_14 : decode prog_4_method_3_code 14 = .ok (.goto 4, 3) := by decide +kernel
theorem d_Cd_lengthOf_17 : decode prog_4_method_3_code 17 = .ok (.iconst 0, 1) := by decide +kernel
theorem d_Cd_lengthOf_18 : decode prog_4_method_3_code 18 = .ok (.ireturn, 1) := by decide +kernel
theorem d_Cd_valueOf_0 : decode prog_4_method_4_code 0 = .ok (.aload_n 0, 1) := by decide +kernel
theorem d_Cd_valueOf_1 : decode prog_4_method_4_code 1 = .ok (.iload_n 1, 1) := by decide +kernel
theorem d_Cd_valueOf_2 : decode prog_4_method_4_code 2 = .ok (.invokevirtual 38, 3) := by decide +kernel
theorem d_Cd_valueOf_5 : decode prog_4_method_4_code 5 = .ok (.ifCond .eq 12, 3) := by decide +kernel
theorem d_Cd_valueOf_8 : decode prog_4_method_4_code 8 = .ok (.aload_n 0, 1) := by decide +kernel
theorem d_Cd_valueOf_9 : decode prog_4_method_4_code 9 = .ok (.getfield 25, 3) := by decide +kernel
theorem d_Cd_valueOf_12 : decode prog_4_method_4_code 12 = .ok (.iload_n 1, 1) := by decide +kernel
theorem d_Cd_valueOf_13 : decode prog_4_method_4_code 13 = .ok (.iaload, 1) := by decide +kernel
theorem d_Cd_valueOf_14 : decode prog_4_method_4_code 14 = .ok (.goto 4, 3) := by decide +kernel
theorem d_Cd_valueOf_17 : decode prog_4_method_4_code 17 = .ok (.iconst 0, 1) := by decide +kernel
theorem d_Cd_valueOf_18 : decode prog_4_method_4_code 18 = .ok (.ireturn, 1) := by decide +kernel
theorem d_Cd_symbolAt_0 : decode prog_4_method_5_code 0 = .ok (.aload_n 0, 1) := by decide +kernel
theorem d_Cd_symbolAt_1 : decode prog_4_method_5_code 1 = .ok (.iload_n 1, 1) := by decide +kernel
theorem d_Cd_symbolAt_2 : decode prog_4_method_5_code 2 = .ok (.invokevirtual 38, 3) := by decide +kernel
theorem d_Cd_symbolAt_5 : decode prog_4_method_5_code 5 = .ok (.ifCond .eq 12, 3) := by decide +kernel
theorem d_Cd_symbolAt_8 : decode prog_4_method_5_code 8 = .ok (.aload_n 0, 1) := by decide +kernel
theorem d_Cd_symbolAt_9 : decode prog_4_method_5_code 9 = .ok (.getfield 28, 3) := by decide +kernel
theorem d_Cd_symbolAt_12 : decode prog_4_method_5_code 12 = .ok (.iload_n 1, 1) := by decide +kernel
theorem d_Cd_symbolAt_13 : decode prog_4_method_5_code 13 = .ok (.iaload, 1) := by decide +kernel
theorem d_Cd_symbolAt_14 : decode prog_4_method_5_code 14 = .ok (.goto 5, 3) := by decide +kernel
theorem d_Cd_symbolAt_17 : decode prog_4_method_5_code 17 = .ok (.bipush (-2), 2) := by decide +kernel
theorem d_Cd_symbolAt_19 : decode prog_4_method_5_code 19 = .ok (.ireturn, 1) := by decide +kernel
theorem d_Cd_makeFrom_0 : decode prog_4_method_6_code 0 = .ok (.aload_n 0, 1) := by decide +kernel
theorem d_Cd_makeFrom_1 : decode prog_4_method_6_code 1 = .ok (.aload_n 1, 1) := by decide +kernel
theorem d_Cd_makeFrom_2 : decode prog_4_method_6_code 2 = .ok (.getfield 42, 3) := by decide +kernel
theorem d_Cd_makeFrom_5 : decode prog_4_method_6_code 5 = .ok (.iconst 1, 1) := by decide +kernel
theorem d_Cd_makeFrom_6 : decode prog_4_method_6_code 6 = .ok (.iadd, 1) := by decide +kernel
theorem d_Cd_makeFrom_7 : decode prog_4_method_6_code 7 = .ok (.sipush 258, 3) := by decide +kernel
theorem d_Cd_makeFrom_10 : decode prog_4_method_6_code 10 = .ok (.invokestatic 47, 3) := by decide +kernel
theorem d_Cd_makeFrom_13 : decode prog_4_method_6_code 13 = .ok (.putfield 34, 3) := by decide +kernel
theorem d_Cd_makeFrom_16 : decode prog_4_method_6_code 16 = .ok (.aload_n 0, 1) := by decide +kernel
theorem d_Cd_makeFrom_17 : decode prog_4_method_6_code 17 = .ok (.aload_n 1, 1) := by decide +kernel
theorem d_Cd_makeFrom_18 : decode prog_4_method_6_code 18 = .ok (.invokevirtual 53, 3) := by decide +kernel
theorem d_Cd_makeFrom_21 : decode prog_4_method_6_code 21 = .ok (.iconst 0, 1) := by decide +kernel
theorem d_Cd_makeFrom_22 : decode prog_4_method_6_code 22 = .ok (.istore_n 2, 1) := by decide +kernel
theorem d_Cd_makeFrom_23 : decode prog_4_method_6_code 23 = .ok (.iload_n 2, 1) := by decide +kernel
theorem d_Cd_makeFrom_24 : decode prog_4_method_6_code 24 = .ok (.bipush 40, 2) := by decide +kernel
theorem d_Cd_makeFrom_26 : decode prog_4_method_6_code 26 = .ok (.if_icmp .ge 68, 3) := by decide +kernel
theorem d_Cd_makeFrom_29 : decode prog_4_method_6_code 29 = .ok (.aload_n 0, 1) := by decide +kernel
theorem d_Cd_makeFrom_30 : decode prog_4_method_6_code 30 = .ok (.getfield 12, 3) := by decide +kernel
theorem d_Cd_makeFrom_33 : decode prog_4_method_6_code 33 = .ok (.aload_n 0, 1) := by decide +kernel
theorem d_Cd_makeFrom_34 : decode prog_4_method_6_code 34 = .ok (.getfield 18, 3) := by decide +kernel
theorem d_Cd_makeFrom_37 : decode prog_4_method_6_code 37 = .ok (.aload_n 0, 1) := by decide +kernel
theorem d_Cd_makeFrom_38 : decode prog_4_method_6_code 38 = .ok (.getfield 34, 3) := by decide +kernel
theorem d_Cd_makeFrom_41 : decode prog_4_method_6_code 41 = .ok (.aload_n 0, 1) := by decide +kernel
theorem d_Cd_makeFrom_42 : decode prog_4_method_6_code 42 = .ok (.getfield 22, 3) := by decide +kernel
theorem d_Cd_makeFrom_45 : decode prog_4_method_6_code 45 = .ok (.invokevirtual 57, 3) := by decide +kernel
theorem d_Cd_makeFrom_48 : decode prog_4_method_6_code 48 = .ok (.bipush 12, 2) := by decide +kernel
theorem d_Cd_makeFrom_50 : decode prog_4_method_6_code 50 = .ok (.if_icmp .gt 6, 3) := by decide +kernel
theorem d_Cd_makeFrom_53 : decode prog_4_method_6_code 53 = .ok (.goto 41, 3) := by decide +kernel
theorem d_Cd_makeFrom_56 : decode prog_4_method_6_code 56 = .ok (.iconst 0, 1) := by decide +kernel
theorem d_Cd_makeFrom_57 : decode prog_4_method_6_code 57 = .ok (.istore_n 3, 1) := by decide +kernel
theorem d_Cd_makeFrom_58 : decode prog_4_method_6_code 58 = .ok (.iload_n 3, 1) := by decide +kernel
theorem d_Cd_makeFrom_59 : decode prog_4_method_6_code 59 = .ok (.aload_n 0, 1) := by decide +kernel
theorem d_Cd_makeFrom_60 : decode prog_4_method_6_code 60 = .ok (.getfield 34, 3) := by decide +kernel
theorem d_Cd_makeFrom_63 : decode prog_4_method_6_code 63 = .ok (.if_icmp .ge 25, 3) := by decide +kernel
theorem d_Cd_makeFrom_66 : decode prog_4_method_6_code 66 = .ok (.aload_n 0, 1) := by decide +kernel
theorem d_Cd_makeFrom_67 : decode prog_4_method_6_code 67 = .ok (.getfield 18, 3) := by decide +kernel
theorem d_Cd_makeFrom_70 : decode prog_4_method_6_code 70 = .ok (.iload_n 3, 1) := by decide +kernel
theorem d_Cd_makeFrom_71 : decode prog_4_method_6_code 71 = .ok (.aload_n 0, 1) := by decide +kernel
theorem d_Cd_makeFrom_72 : decode prog_4_method_6_code 72 = .ok (.getfield 18, 3) := by decide +kernel
theorem d_Cd_makeFrom_75 : decode prog_4_method_6_code 75 = .ok (.iload_n 3, 1) := by decide +kernel
theorem d_Cd_makeFrom_76 : decode prog_4_method_6_code 76 = .ok (.iaload, 1) := by decide +kernel
theorem d_Cd_makeFrom_77 : decode prog_4_method_6_code 77 = .ok (.iconst 2, 1) := by decide +kernel
theorem d_Cd_makeFrom_78 : decode prog_4_method_6_code 78 = .ok (.idiv, 1) := by decide +kernel
theorem d_Cd_makeFrom_79 : decode prog_4_method_6_code 79 = .ok (.iconst 1, 1) := by decide +kernel
theorem d_Cd_makeFrom_80 : decode prog_4_method_6_code 80 = .ok (.iadd, 1) := by decide +kernel
theorem d_Cd_makeFrom_81 : decode prog_4_method_6_code 81 = .ok (.iastore, 1) := by decide +kernel
theorem d_Cd_makeFrom_82 : decode prog_4_method_6_code 82 = .ok (.iinc 3 1, 3) := by decide +kernel
theorem d_Cd_makeFrom_85 : decode prog_4_method_6_code 85 = .ok (.goto (-27), 3) := by decide +kernel
theorem d_Cd_makeFrom_88 : decode prog_4_method_6_code 88 = .ok (.iinc 2 1, 3) := by decide +kernel
theorem d_Cd_makeFrom_91 : decode prog_4_method_6_code 91 = .ok (.goto (-68), 3) := by decide +kernel
theorem d_Cd_makeFrom_94 : decode prog_4_method_6_code 94 = .ok (.aload_n 0, 1) := by decide +kernel
theorem d_Cd_makeFrom_95 : decode prog_4_method_6_code 95 = .ok (.invokevirtual 61, 3) := by decide +kernel
theorem d_Cd_makeFrom_98 : decode prog_4_method_6_code 98 = .ok (.return_, 1) := by decide +kernel
theorem d_Cd_weigh_0 : decode prog_4_method_7_code 0 = .ok (.aload_n 0, 1) := by decide +kernel
theorem d_Cd_weigh_1 : decode prog_4_method_7_code 1 = .ok (.getfield 18, 3) := by decide +kernel
theorem d_Cd_weigh_4 : decode prog_4_method_7_code 4 = .ok (.iconst 0, 1) := by decide +kernel
theorem d_Cd_weigh_5 : decode prog_4_method_7_code 5 = .ok (.invokestatic 64, 3) := by decide +kernel
theorem d_Cd_weigh_8 : decode prog_4_method_7_code 8 = .ok (.iconst 0, 1) := by decide +kernel
theorem d_Cd_weigh_9 : decode prog_4_method_7_code 9 = .ok (.istore_n 2, 1) := by decide +kernel
theorem d_Cd_weigh_10 : decode prog_4_method_7_code 10 = .ok (.iload_n 2, 1) := by decide +kernel
theorem d_Cd_weigh_11 : decode prog_4_method_7_code 11 = .ok (.aload_n 1, 1) := by decide +kernel
theorem d_Cd_weigh_12 : decode prog_4_method_7_code 12 = .ok (.getfield 70, 3) := by decide +kernel
theorem d_Cd_weigh_15 : decode prog_4_method_7_code 15 = .ok (.if_icmp .ge 33, 3) := by decide +kernel
theorem d_Cd_weigh_18 : decode prog_4_method_7_code 18 = .ok (.aload_n 1, 1) := by decide +kernel
theorem d_Cd_weigh_19 : decode prog_4_method_7_code 19 = .ok (.iload_n 2, 1) := by decide +kernel
theorem d_Cd_weigh_20 : decode prog_4_method_7_code 20 = .ok (.invokevirtual 71, 3) := by decide +kernel
theorem d_Cd_weigh_23 : decode prog_4_method_7_code 23 = .ok (.istore_n 3, 1) := by decide +kernel
theorem d_Cd_weigh_24 : decode prog_4_method_7_code 24 = .ok (.aload_n 0, 1) := by decide +kernel
theorem d_Cd_weigh_25 : decode prog_4_method_7_code 25 = .ok (.iload_n 3, 1) := by decide +kernel
theorem d_Cd_weigh_26 : decode prog_4_method_7_code 26 = .ok (.invokevirtual 38, 3) := by decide +kernel
theorem d_Cd_weigh_29 : decode prog_4_method_7_code 29 = .ok (.ifCond .eq 13, 3) := by decide +kernel
theorem d_Cd_weigh_32 : decode prog_4_method_7_code 32 = .ok (.aload_n 0, 1) := by decide +kernel
theorem d_Cd_weigh_33 : decode prog_4_method_7_code 33 = .ok (.getfield 18, 3) := by decide +kernel
theorem d_Cd_weigh_36 : decode prog_4_method_7_code 36 = .ok (.iload_n 3, 1) := by decide +kernel
theorem d_Cd_weigh_37 : decode prog_4_method_7_code 37 = .ok (.dup2, 1) := by decide +kernel
theorem d_Cd_weigh_38 : decode prog_4_method_7_code 38 = .ok (.iaload, 1) := by decide +kernel
theorem d_Cd_weigh_39 : decode prog_4_method_7_code 39 = .ok (.iconst 1, 1) := by decide +kernel
theorem d_Cd_weigh_40 : decode prog_4_method_7_code 40 = .ok (.iadd, 1) := by decide +kernel
theorem d_Cd_weigh_41 : decode prog_4_method_7_code 41 = .ok (.iastore, 1) := by decide +kernel
theorem d_Cd_weigh_42 : decode prog_4_method_7_code 42 = .ok (.iinc 2 1, 3) := by decide +kernel
theorem d_Cd_weigh_45 : decode prog_4_method_7_code 45 = .ok (.goto (-35), 3) := by decide +kernel
theorem d_Cd_weigh_48 : decode prog_4_method_7_code 48 = .ok (.iconst 0, 1) := by decide +kernel
theorem d_Cd_weigh_49 : decode prog_4_method_7_code 49 = .ok (.istore_n 2, 1) := by decide +kernel
theorem d_Cd_weigh_50 : decode prog_4_method_7_code 50 = .ok (.iload_n 2, 1) := by decide +kernel
theorem d_Cd_weigh_51 : decode prog_4_method_7_code 51 = .ok (.aload_n 0, 1) := by decide +kernel
theorem d_Cd_weigh_52 : decode prog_4_method_7_code 52 = .ok (.getfield 34, 3) := by decide +kernel
theorem d_Cd_weigh_55 : decode prog_4_method_7_code 55 = .ok (.if_icmp .ge 25, 3) := by decide +kernel
theorem d_Cd_weigh_58 : decode prog_4_method_7_code 58 = .ok (.aload_n 0, 1) := by decide +kernel
theorem d_Cd_weigh_59 : decode prog_4_method_7_code 59 = .ok (.getfield 18, 3) := by decide +kernel
theorem d_Cd_weigh_62 : decode prog_4_method_7_code 62 = .ok (.iload_n 2, 1) := by decide +kernel
theorem d_Cd_weigh_63 : decode prog_4_method_7_code 63 = .ok (.aload_n 0, 1) := by decide +kernel
theorem d_Cd_weigh_64 : decode prog_4_method_7_code 64 = .ok (.getfield 18, 3) := by decide +kernel
theorem d_Cd_weigh_67 : decode prog_4_method_7_code 67 = .ok (.iload_n 2, 1) := by decide +kernel
theorem d_Cd_weigh_68 : decode prog_4_method_7_code 68 = .ok (.iaload, 1) := by decide +kernel
theorem d_Cd_weigh_69 : decode prog_4_method_7_code 69 = .ok (.iconst 1, 1) := by decide +kernel
theorem d_Cd_weigh_70 : decode prog_4_method_7_code 70 = .ok (.invokestatic 75, 3) := by decide +kernel
theorem d_Cd_weigh_73 : decode prog_4_method_7_code 73 = .ok (.iastore, 1) := by decide +kernel
theorem d_Cd_weigh_74 : decode prog_4_method_7_code 74 = .ok (.iinc 2 1, 3) := by decide +kernel
theorem d_Cd_weigh_77 : decode prog_4_method_7_code 77 = .ok (.goto (-27), 3) := by decide +kernel
theorem d_Cd_weigh_80 : decode prog_4_method_7_code 80 = .ok (.return_, 1) := by decide +kernel
theorem d_Cd_beginLengths_0 : decode prog_4_method_8_code 0 = .ok (.aload_n 0, 1) := by decide +kernel
theorem d_Cd_beginLengths_1 : decode prog_4_method_8_code 1 = .ok (.iload_n 1, 1) := by decide +kernel
theorem d_Cd_beginLengths_2 : decode prog_4_method_8_code 2 = .ok (.iconst 0, 1) := by decide +kernel
theorem d_Cd_beginLengths_3 : decode prog_4_method_8_code 3 = .ok (.invokestatic 75, 3) := by decide +kernel
theorem d_Cd_beginLengths_6 : decode prog_4_method_8_code 6 = .ok (.sipush 258, 3) := by decide +kernel
theorem d_Cd_beginLengths_9 : decode prog_4_method_8_code 9 = .ok (.invokestatic 47, 3) := by decide +kernel
theorem d_Cd_beginLengths_12 : decode prog_4_method_8_code 12 = .ok (.putfield 34, 3) := by decide +kernel
theorem d_Cd_beginLengths_15 : decode prog_4_method_8_code 15 = .ok (.aload_n 0, 1) := by decide +kernel
theorem d_Cd_beginLengths_16 : decode prog_4_method_8_code 16 = .ok (.getfield 22, 3) := by decide +kernel
theorem d_Cd_beginLengths_19 : decode prog_4_method_8_code 19 = .ok (.bipush 12, 2) := by decide +kernel
theorem d_Cd_beginLengths_21 : decode prog_4_method_8_code 21 = .ok (.invokestatic 64, 3) := by decide +kernel
theorem d_Cd_beginLengths_24 : decode prog_4_method_8_code 24 = .ok (.return_, 1) := by decide +kernel
theorem d_Cd_setLength_0 : decode prog_4_method_9_code 0 = .ok (.aload_n 0, 1) := by decide +kernel
theorem d_Cd_setLength_1 : decode prog_4_method_9_code 1 = .ok (.iload_n 1, 1) := by decide +kernel
theorem d_Cd_setLength_2 : decode prog_4_method_9_code 2 = .ok (.invokevirtual 38, 3) := by decide +kernel
theorem d_Cd_setLength_5 : decode prog_4_method_9_code 5 = .ok (.ifCond .eq 10, 3) := by decide +kernel
theorem d_Cd_setLength_8 : decode prog_4_method_9_code 8 = .ok (.aload_n 0, 1) := by decide +kernel
theorem d_Cd_setLength_9 : decode prog_4_method_9_code 9 = .ok (.getfield 22, 3) := by decide +kernel
theorem d_Cd_setLength_12 : decode prog_4_method_9_code 12 = .ok (.iload_n 1, 1) := by decide +kernel
theorem d_Cd_setLength_13 : decode prog_4_method_9_code 13 = .ok (.iload_n 2, 1) := by decide +kernel
theorem d_Cd_setLength_14 : decode prog_4_method_9_code 14 = .ok (.iastore, 1) := by decide +kernel
theorem d_Cd_setLength_15 : decode prog_4_method_9_code 15 = .ok (.return_, 1) := by decide +kernel
theorem d_Cd_arrange_0 : decode prog_4_method_10_code 0 = .ok (.iconst 0, 1) := by decide +kernel
theorem d_Cd_arrange_1 : decode prog_4_method_10_code 1 = .ok (.istore_n 1, 1) := by decide +kernel
theorem d_Cd_arrange_2 : decode prog_4_method_10_code 2 = .ok (.iconst 0, 1) := by decide +kernel
theorem d_Cd_arrange_3 : decode prog_4_method_10_code 3 = .ok (.istore_n 2, 1) := by decide +kernel
theorem d_Cd_arrange_4 : decode prog_4_method_10_code 4 = .ok (.iconst 1, 1) := by decide +kernel
theorem d_Cd_arrange_5 : decode prog_4_method_10_code 5 = .ok (.istore_n 3, 1) := by decide +kernel
theorem d_Cd_arrange_6 : decode prog_4_method_10_code 6 = .ok (.iload_n 3, 1) := by decide +kernel
theorem d_Cd_arrange_7 : decode prog_4_method_10_code 7 = .ok (.bipush 12, 2) := by decide +kernel
theorem d_Cd_arrange_9 : decode prog_4_method_10_code 9 = .ok (.if_icmp .gt 77, 3) := by decide +kernel
theorem d_Cd_arrange_12 : decode prog_4_method_10_code 12 = .ok (.iload_n 1, 1) := by decide +kernel
theorem d_Cd_arrange_13 : decode prog_4_method_10_code 13 = .ok (.istore 4, 2) := by decide +kernel
theorem d_Cd_arrange_15 : decode prog_4_method_10_code 15 = .ok (.iload_n 2, 1) := by decide +kernel
theorem d_Cd_arrange_16 : decode prog_4_method_10_code 16 = .ok (.iconst 1, 1) := by decide +kernel
theorem d_Cd_arrange_17 : decode prog_4_method_10_code 17 = .ok (.ishl, 1) := by decide +kernel
theorem d_Cd_arrange_18 : decode prog_4_method_10_code 18 = .ok (.istore_n 2, 1) := by decide +kernel
theorem d_Cd_arrange_19 : decode prog_4_method_10_code 19 = .ok (.iconst 0, 1) := by decide +kernel
theorem d_Cd_arrange_20 : decode prog_4_method_10_code 20 = .ok (.istore 5, 2) := by decide +kernel
theorem d_Cd_arrange_22 : decode prog_4_method_10_code 22 = .ok (.iload 5, 2) := by decide +kernel
theorem d_Cd_arrange_24 : decode prog_4_method_10_code 24 = .ok (.aload_n 0, 1) := by decide +kernel
theorem d_Cd_arrange_25 : decode prog_4_method_10_code 25 = .ok (.getfield 34, 3) := by decide +kernel
theorem d_Cd_arrange_28 : decode prog_4_method_10_code 28 = .ok (.if_icmp .ge 42, 3) := by decide +kernel
theorem d_Cd_arrange_31 : decode prog_4_method_10_code 31 = .ok (.aload_n 0, 1) := by decide +kernel
theorem d_Cd_arrange_32 : decode prog_4_method_10_code 32 = .ok (.getfield 22, 3) := by decide +kernel
theorem d_Cd_arrange_35 : decode prog_4_method_10_code 35 = .ok (.iload 5, 2) := by decide +kernel
theorem d_Cd_arrange_37 : decode prog_4_method_10_code 37 = .ok (.iaload, 1) := by decide +kernel
theorem d_Cd_arrange_38 : decode prog_4_method_10_code 38 = .ok (.iload_n 3, 1) := by decide +kernel
theorem d_Cd_arrange_39 : decode prog_4_method_10_code 39 = .ok (.if_icmp .ne 25, 3) := by decide +kernel
theorem d_Cd_arrange_42 : decode prog_4_method_10_code 42 = .ok (.aload_n 0, 1) := by decide +kernel
theorem d_Cd_arrange_43 : decode prog_4_method_10_code 43 = .ok (.getfield 28, 3) := by decide +kernel
theorem d_Cd_arrange_46 : decode prog_4_method_10_code 46 = .ok (.iload_n 1, 1) := by decide +kernel
theorem d_Cd_arrange_47 : decode prog_4_method_10_code 47 = .ok (.iload 5, 2) := by decide +kernel
theorem d_Cd_arrange_49 : decode prog_4_method_10_code 49 = .ok (.iastore, 1) := by decide +kernel
theorem d_Cd_arrange_50 : decode prog_4_method_10_code 50 = .ok (.aload_n 0, 1) := by decide +kernel
theorem d_Cd_arrange_51 : decode prog_4_method_10_code 51 = .ok (.getfield 25, 3) := by decide +kernel
theorem d_Cd_arrange_54 : decode prog_4_method_10_code 54 = .ok (.iload 5, 2) := by decide +kernel
theorem d_Cd_arrange_56 : decode prog_4_method_10_code 56 = .ok (.iload_n 2, 1) := by decide +kernel
theorem d_Cd_arrange_57 : decode prog_4_method_10_code 57 = .ok (.iastore, 1) := by decide +kernel
theorem d_Cd_arrange_58 : decode prog_4_method_10_code 58 = .ok (.iinc 2 1, 3) := by decide +kernel
theorem d_Cd_arrange_61 : decode prog_4_method_10_code 61 = .ok (.iinc 1 1, 3) := by decide +kernel
theorem d_Cd_arrange_64 : decode prog_4_method_10_code 64 = .ok (.iinc 5 1, 3) := by decide +kernel
theorem d_Cd_arrange_67 : decode prog_4_method_10_code 67 = .ok (.goto (-45), 3) := by decide +kernel
theorem d_Cd_arrange_70 : decode prog_4_method_10_code 70 = .ok (.aload_n 0, 1) := by decide +kernel
theorem d_Cd_arrange_71 : decode prog_4_method_10_code 71 = .ok (.getfield 31, 3) := by decide +kernel
theorem d_Cd_arrange_74 : decode prog_4_method_10_code 74 = .ok (.iload_n 3, 1) := by decide +kernel
theorem d_Cd_arrange_75 : decode prog_4_method_10_code 75 = .ok (.iload_n 1, 1) := by decide +kernel
theorem d_Cd_arrange_76 : decode prog_4_method_10_code 76 = .ok (.iload 4, 2) := by decide +kernel
theorem d_Cd_arrange_78 : decode prog_4_method_10_code 78 = .ok (.isub, 1) := by decide +kernel
theorem d_Cd_arrange_79 : decode prog_4_method_10_code 79 = .ok (.iastore, 1) := by decide +kernel
theorem d_Cd_arrange_80 : decode prog_4_method_10_code 80 = .ok (.iinc 3 1, 3) := by decide +kernel
theorem d_Cd_arrange_83 : decode prog_4_method_10_code 83 = .ok (.goto (-77), 3) := by decide +kernel
theorem d_Cd_arrange_86 : decode prog_4_method_10_code 86 = .ok (.return_, 1) := by decide +kernel
theorem d_Cd_areWhole_0 : decode prog_4_method_11_code 0 = .ok (.iconst 0, 1) := by decide +kernel
theorem d_Cd_areWhole_1 : decode prog_4_method_11_code 1 = .ok (.istore_n 1, 1) := by decide +kernel
theorem d_Cd_areWhole_2 : decode prog_4_method_11_code 2 = .ok (.iconst 1, 1) := by decide +kernel
theorem d_Cd_areWhole_3 : decode prog_4_method_11_code 3 = .ok (.istore_n 2, 1) := by decide +kernel
theorem d_Cd_areWhole_4 : decode prog_4_method_11_code 4 = .ok (.iload_n 2, 1) := by decide +kernel
theorem d_Cd_areWhole_5 : decode prog_4_method_11_code 5 = .ok (.bipush 12, 2) := by decide +kernel
theorem d_Cd_areWhole_7 : decode prog_4_method_11_code 7 = .ok (.if_icmp .gt 23, 3) := by decide +kernel
theorem d_Cd_areWhole_10 : decode prog_4_method_11_code 10 = .ok (.iload_n 1, 1) := by decide +kernel
theorem d_Cd_areWhole_11 : decode prog_4_method_11_code 11 = .ok (.aload_n 0, 1) := by decide +kernel
theorem d_Cd_areWhole_12 : decode prog_4_method_11_code 12 = .ok (.getfield 31, 3) := by decide +kernel
theorem d_Cd_areWhole_15 : decode prog_4_method_11_code 15 = .ok (.iload_n 2, 1) := by decide +kernel
theorem d_Cd_areWhole_16 : decode prog_4_method_11_code 16 = .ok (.iaload, 1) := by decide +kernel
theorem d_Cd_areWhole_17 : decode prog_4_method_11_code 17 = .ok (.bipush 12, 2) := by decide +kernel
theorem d_Cd_areWhole_19 : decode prog_4_method_11_code 19 = .ok (.iload_n 2, 1) := by decide +kernel
theorem d_Cd_areWhole_20 : decode prog_4_method_11_code 20 = .ok (.isub, 1) := by decide +kernel
theorem d_Cd_areWhole_21 : decode prog_4_method_11_code 21 = .ok (.ishl, 1) := by decide +kernel
theorem d_Cd_areWhole_22 : decode prog_4_method_11_code 22 = .ok (.iadd, 1) := by decide +kernel
theorem d_Cd_areWhole_23 : decode prog_4_method_11_code 23 = .ok (.istore_n 1, 1) := by decide +kernel
theorem d_Cd_areWhole_24 : decode prog_4_method_11_code 24 = .ok (.iinc 2 1, 3) := by decide +kernel
theorem d_Cd_areWhole_27 : decode prog_4_method_11_code 27 = .ok (.goto (-23), 3) := by decide +kernel
theorem d_Cd_areWhole_30 : decode prog_4_method_11_code 30 = .ok (.iload_n 1, 1) := by decide +kernel
theorem d_Cd_areWhole_31 : decode prog_4_method_11_code 31 = .ok (.sipush 4096, 3) := by decide +kernel
theorem d_Cd_areWhole_34 : decode prog_4_method_11_code 34 = .ok (.if_icmp .ne 7, 3) := by decide +kernel
theorem d_Cd_areWhole_37 : decode prog_4_method_11_code 37 = .ok (.iconst 1, 1) := by decide +kernel
theorem d_Cd_areWhole_38 : decode prog_4_method_11_code 38 = .ok (.goto 4, 3) := by decide +kernel
theorem d_Cd_areWhole_41 : decode prog_4_method_11_code 41 = .ok (.iconst 0, 1) := by decide +kernel
theorem d_Cd_areWhole_42 : decode prog_4_method_11_code 42 = .ok (.ireturn, 1) := by decide +kernel
theorem d_Fl_init_0 : decode prog_5_method_1_code 0 = .ok (.aload_n 0, 1) := by decide +kernel
theorem d_Fl_init_1 : decode prog_5_method_1_code 1 = .ok (.invokespecial 3, 3) := by decide +kernel
theorem d_Fl_init_4 : decode prog_5_method_1_code 4 = .ok (.aload_n 0, 1) := by decide +kernel
theorem d_Fl_init_5 : decode prog_5_method_1_code 5 = .ok (.sipush 256, 3) := by decide +kernel
theorem d_Fl_init_8 : decode prog_5_method_1_code 8 = .ok (.newarray .int, 2) := by decide +kernel
theorem d_Fl_init_10 : decode prog_5_method_1_code 10 = .ok (.putfield 9, 3) := by decide +kernel
theorem d_Fl_init_13 : decode prog_5_method_1_code 13 = .ok (.return_, 1) := by decide +kernel
theorem d_Fl_makeEmpty_0 : decode prog_5_method_2_code 0 = .ok (.aload_n 0, 1) := by decide +kernel
theorem d_Fl_makeEmpty_1 : decode prog_5_method_2_code 1 = .ok (.iconst 0, 1) := by decide +kernel
theorem d_Fl_makeEmpty_2 : decode prog_5_method_2_code 2 = .ok (.putfield 15, 3) := by decide +kernel
theorem d_Fl_makeEmpty_5 : decode prog_5_method_2_code 5 = .ok (.return_, 1) := by decide +kernel
theorem d_Fl_add_0 : decode prog_5_method_3_code 0 = .ok (.aload_n 0, 1) := by decide +kernel
theorem d_Fl_add_1 : decode prog_5_method_3_code 1 = .ok (.getfield 15, 3) := by decide +kernel
theorem d_Fl_add_4 : decode prog_5_method_3_code 4 = .ok (.sipush 256, 3) := by decide +kernel
theorem d_Fl_add_7 : decode prog_5_method_3_code 7 = .ok (.if_icmp .ge 23, 3) := by decide +kernel
theorem d_Fl_add_10 : decode prog_5_method_3_code 10 = .ok (.aload_n 0, 1) := by decide +kernel
theorem d_Fl_add_11 : decode prog_5_method_3_code 11 = .ok (.getfield 9, 3) := by decide +kernel
theorem d_Fl_add_14 : decode prog_5_method_3_code 14 = .ok (.aload_n 0, 1) := by decide +kernel
theorem d_Fl_add_15 : decode prog_5_method_3_code 15 = .ok (.getfield 15, 3) := by decide +kernel
theorem d_Fl_add_18 : decode prog_5_method_3_code 18 = .ok (.iload_n 1, 1) := by decide +kernel
theorem d_Fl_add_19 : decode prog_5_method_3_code 19 = .ok (.iastore, 1) := by decide +kernel
theorem d_Fl_add_20 : decode prog_5_method_3_code 20 = .ok (.aload_n 0, 1) := by decide +kernel
theorem d_Fl_add_21 : decode prog_5_method_3_code 21 = .ok (.dup, 1) := by decide +kernel
theorem d_Fl_add_22 : decode prog_5_method_3_code 22 = .ok (.getfield 15, 3) := by decide +kernel
theorem d_Fl_add_25 : decode prog_5_method_3_code 25 = .ok (.iconst 1, 1) := by decide +kernel
theorem d_Fl_add_26 : decode prog_5_method_3_code 26 = .ok (.iadd, 1) := by decide +kernel
theorem d_Fl_add_27 : decode prog_5_method_3_code 27 = .ok (.putfield 15, 3) := by decide +kernel
theorem d_Fl_add_30 : decode prog_5_method_3_code 30 = .ok (.return_, 1) := by decide +kernel
theorem d_Fl_listBytes_0 : decode prog_5_method_4_code 0 = .ok (.aload_n 0, 1) := by decide +kernel
theorem d_Fl_listBytes_1 : decode prog_5_method_4_code 1 = .ok (.getfield 9, 3) := by decide +kernel
theorem d_Fl_listBytes_4 : decode prog_5_method_4_code 4 = .ok (.iconst 0, 1) := by decide +kernel
theorem d_Fl_listBytes_5 : decode prog_5_method_4_code 5 = .ok (.invokestatic 19, 3) := by decide +kernel
theorem d_Fl_listBytes_8 : decode prog_5_method_4_code 8 = .ok (.iconst 0, 1) := by decide +kernel
theorem d_Fl_listBytes_9 : decode prog_5_method_4_code 9 = .ok (.istore_n 2, 1) := by decide +kernel
theorem d_Fl_listBytes_10 : decode prog_5_method_4_code 10 = .ok (.iload_n 2, 1) := by decide +kernel
theorem d_Fl_listBytes_11 : decode prog_5_method_4_code 11 = .ok (.aload_n 1, 1) := by decide +kernel
theorem d_Fl_listBytes_12 : decode prog_5_method_4_code 12 = .ok (.getfield 25, 3) := by decide +kernel
theorem d_Fl_listBytes_15 : decode prog_5_method_4_code 15 = .ok (.if_icmp .ge 20, 3) := by decide +kernel
theorem d_Fl_listBytes_18 : decode prog_5_method_4_code 18 = .ok (.aload_n 0, 1) := by decide +kernel
theorem d_Fl_listBytes_19 : decode prog_5_method_4_code 19 = .ok (.getfield 9, 3) := by decide +kernel
theorem d_Fl_listBytes_22 : decode prog_5_method_4_code 22 = .ok (.aload_n 1, 1) := by decide +kernel
theorem d_Fl_listBytes_23 : decode prog_5_method_4_code 23 = .ok (.iload_n 2, 1) := by decide +kernel
theorem d_Fl_listBytes_24 : decode prog_5_method_4_code 24 = .ok (.invokevirtual 28, 3) := by decide +kernel
theorem d_Fl_listBytes_27 : decode prog_5_method_4_code 27 = .ok (.iconst 1, 1) := by decide +kernel
theorem d_Fl_listBytes_28 : decode prog_5_method_4_code 28 = .ok (.iastore, 1) := by decide +kernel
theorem d_Fl_listBytes_29 : decode prog_5_method_4_code 29 = .ok (.iinc 2 1, 3) := by decide +kernel
theorem d_Fl_listBytes_32 : decode prog_5_method_4_code 32 = .ok (.goto (-22), 3) := by decide +kernel
theorem d_Fl_listBytes_35 : decode prog_5_method_4_code 35 = .ok (.aload_n 0, 1) := by decide +kernel
theorem d_Fl_listBytes_36 : decode prog_5_method_4_code 36 = .ok (.iconst 0, 1) := by decide +kernel
theorem d_Fl_listBytes_37 : decode prog_5_method_4_code 37 = .ok (.putfield 15, 3) := by decide +kernel
theorem d_Fl_listBytes_40 : decode prog_5_method_4_code 40 = .ok (.iconst 0, 1) := by decide +kernel
theorem d_Fl_listBytes_41 : decode prog_5_method_4_code 41 = .ok (.istore_n 2, 1) := by decide +kernel
theorem d_Fl_listBytes_42 : decode prog_5_method_4_code 42 = .ok (.iload_n 2, 1) := by decide +kernel
theorem d_Fl_listBytes_43 : decode prog_5_method_4_code 43 = .ok (.sipush 256, 3) := by decide +kernel
theorem d_Fl_listBytes_46 : decode prog_5_method_4_code 46 = .ok (.if_icmp .ge 39, 3) := by decide +kernel
theorem d_Fl_listBytes_49 : decode prog_5_method_4_code 49 = .ok (.aload_n 0, 1) := by decide +kernel
theorem d_Fl_listBytes_50 : decode prog_5_method_4_code 50 = .ok (.getfield 9, 3) := by decide +kernel
theorem d_Fl_listBytes_53 : decode prog_5_method_4_code 53 = .ok (.iload_n 2, 1) := by decide +kernel
theorem d_Fl_listBytes_54 : decode prog_5_method_4_code 54 = .ok (.iaload, 1) := by decide +kernel
theorem d_Fl_listBytes_55 : decode prog_5_method_4_code 55 = .ok (.iconst 1, 1) := by decide +kernel
theorem d_Fl_listBytes_56 : decode prog_5_method_4_code 56 = .ok (.if_icmp .ne 23, 3) := by decide +kernel
theorem d_Fl_listBytes_59 : decode prog_5_method_4_code 59 = .ok (.aload_n 0, 1) := by decide +kernel
theorem d_Fl_listBytes_60 : decode prog_5_method_4_code 60 = .ok (.getfield 9, 3) := by decide +kernel
theorem d_Fl_listBytes_63 : decode prog_5_method_4_code 63 = .ok (.aload_n 0, 1) := by decide +kernel
theorem d_Fl_listBytes_64 : decode prog_5_method_4_code 64 = .ok (.getfield 15, 3) := by decide +kernel
theorem d_Fl_listBytes_67 : decode prog_5_method_4_code 67 = .ok (.iload_n 2, 1) := by decide +kernel
theorem d_Fl_listBytes_68 : decode prog_5_method_4_code 68 = .ok (.iastore, 1) := by decide +kernel
theorem d_Fl_listBytes_69 : decode prog_5_method_4_code 69 = .ok (.aload_n 0, 1) := by decide +kernel
theorem d_Fl_listBytes_70 : decode prog_5_method_4_code 70 = .ok (.dup, 1) := by decide +kernel
theorem d_Fl_listBytes_71 : decode prog_5_method_4_code 71 = .ok (.getfield 15, 3) := by decide +kernel
theorem d_Fl_listBytes_74 : decode prog_5_method_4_code 74 = .ok (.iconst 1, 1) := by decide +kernel
theorem d_Fl_listBytes_75 : decode prog_5_method_4_code 75 = .ok (.iadd, 1) := by decide +kernel
theorem d_Fl_listBytes_76 : decode prog_5_method_4_code 76 = .ok (.putfield 15, 3) := by decide +kernel
theorem d_Fl_listBytes_79 : decode prog_5_method_4_code 79 = .ok (.iinc 2 1, 3) := by decide +kernel
theorem d_Fl_listBytes_82 : decode prog_5_method_4_code 82 = .ok (.goto (-40), 3) := by decide +kernel
theorem d_Fl_listBytes_85 : decode prog_5_method_4_code 85 = .ok (.return_, 1) := by decide +kernel
theorem d_Fl_placeOf_0 : decode prog_5_method_5_code 0 = .ok (.iconst 0, 1) := by decide +kernel
theorem d_Fl_placeOf_1 : decode prog_5_method_5_code 1 = .ok (.istore_n 2, 1) := by decide +kernel
theorem d_Fl_placeOf_2 : decode prog_5_method_5_code 2 = .ok (.iload_n 2, 1) := by decide +kernel
theorem d_Fl_placeOf_3 : decode prog_5_method_5_code 3 = .ok (.aload_n 0, 1) := by decide +kernel
theorem d_Fl_placeOf_4 : decode prog_5_method_5_code 4 = .ok (.getfield 15, 3) := by decide +kernel
theorem d_Fl_placeOf_7 : decode prog_5_method_5_code 7 = .ok (.if_icmp .ge 19, 3) := by decide +kernel
theorem d_Fl_placeOf_10 : decode prog_5_method_5_code 10 = .ok (.aload_n 0, 1) := by decide +kernel
theorem d_Fl_placeOf_11 : decode prog_5_method_5_code 11 = .ok (.getfield 9, 3) := by decide +kernel
theorem d_Fl_placeOf_14 : decode prog_5_method_5_code 14 = .ok (.iload_n 2, 1) := by decide +kernel
theorem d_Fl_placeOf_15 : decode prog_5_method_5_code 15 = .ok (.iaload, 1) := by decide +kernel
theorem d_Fl_placeOf_16 : decode prog_5_method_5_code 16 = .ok (.iload_n 1, 1) := by decide +kernel
theorem d_Fl_placeOf_17 : decode prog_5_method_5_code 17 = .ok (.if_icmp .eq 9, 3) := by decide +kernel
theorem d_Fl_placeOf_20 : decode prog_5_method_5_code 20 = .ok (.iinc 2 1, 3) := by decide +kernel
theorem d_Fl_placeOf_23 : decode prog_5_method_5_code 23 = .ok (.goto (-21), 3) := by decide +kernel
theorem d_Fl_placeOf_26 : decode prog_5_method_5_code 26 = .ok (.iload_n 2, 1) := by decide +kernel
theorem d_Fl_placeOf_27 : decode prog_5_method_5_code 27 = .ok (.ireturn, 1) := by decide +kernel
end
section
theorem d_Fl_at_0 : decode prog_5_method_6_code 0 = .ok (.iload_n 1, 1) := by decide +kernel
theorem d_Fl_at_1 : decode prog_5_method_6_code 1 = .ok (.ifCond .lt 20, 3) := by decide +kernel
theorem d_Fl_at_4 : decode prog_5_method_6_code 4 = .ok (.iload_n 1, 1) := by decide +kernel
theorem d_Fl_at_5 : decode prog_5_method_6_code 5 = .ok (.aload_n 0, 1) := by decide +kernel
theorem d_Fl_at_6 : decode prog_5_method_6_code 6 = .ok (.getfield 15, 3) := by decide +kernel
theorem d_Fl_at_9 : decode prog_5_method_6_code 9 = .ok (.if_icmp .ge 12, 3) := by decide +kernel
theorem d_Fl_at_12 : decode prog_5_method_6_code 12 = .ok (.aload_n 0, 1) := by decide +kernel
theorem d_Fl_at_13 : decode prog_5_method_6_code 13 = .ok (.getfield 9, 3) := by decide +kernel
theorem d_Fl_at_16 : decode prog_5_method_6_code 16 = .ok (.iload_n 1, 1) := by decide +kernel
theorem d_Fl_at_17 : decode prog_5_method_6_code 17 = .ok (.iaload, 1) := by decide +kernel
theorem d_Fl_at_18 : decode prog_5_method_6_code 18 = .ok (.goto 5, 3) := by decide +kernel
theorem d_Fl_at_21 : decode prog_5_method_6_code 21 = .ok (.bipush (-2), 2) := by decide +kernel
theorem d_Fl_at_23 : decode prog_5_method_6_code 23 = .ok (.ireturn, 1) := by decide +kernel
theorem d_Fl_bringToFront_0 : decode prog_5_method_7_code 0 = .ok (.iload_n 1, 1) := by decide +kernel
theorem d_Fl_bringToFront_1 : decode prog_5_method_7_code 1 = .ok (.ifCond .lt 11, 3) := by decide +kernel
theorem d_Fl_bringToFront_4 : decode prog_5_method_7_code 4 = .ok (.iload_n 1, 1) := by decide +kernel
theorem d_Fl_bringToFront_5 : decode prog_5_method_7_code 5 = .ok (.aload_n 0, 1) := by decide +kernel
theorem d_Fl_bringToFront_6 : decode prog_5_method_7_code 6 = .ok (.getfield 15, 3) := by decide +kernel
theorem d_Fl_bringToFront_9 : decode prog_5_method_7_code 9 = .ok (.if_icmp .lt 4, 3) := by decide +kernel
theorem d_Fl_bringToFront_12 : decode prog_5_method_7_code 12 = .ok (.return_, 1) := by decide +kernel
theorem d_Fl_bringToFront_13 : decode prog_5_method_7_code 13 = .ok (.aload_n 0, 1) := by decide +kernel
theorem d_Fl_bringToFront_14 : decode prog_5_method_7_code 14 = .ok (.getfield 9, 3) := by decide +kernel
theorem d_Fl_bringToFront_17 : decode prog_5_method_7_code 17 = .ok (.iload_n 1, 1) := by decide +kernel
theorem d_Fl_bringToFront_18 : decode prog_5_method_7_code 18 = .ok (.iaload, 1) := by decide +kernel
theorem d_Fl_bringToFront_19 : decode prog_5_method_7_code 19 = .ok (.istore_n 2, 1) := by decide +kernel
theorem d_Fl_bringToFront_20 : decode prog_5_method_7_code 20 = .ok (.iload_n 1, 1) := by decide +kernel
theorem d_Fl_bringToFront_21 : decode prog_5_method_7_code 21 = .ok (.istore_n 3, 1) := by decide +kernel
theorem d_Fl_bringToFront_22 : decode prog_5_method_7_code 22 = .ok (.iload_n 3, 1) := by decide +kernel
theorem d_Fl_bringToFront_23 : decode prog_5_method_7_code 23 = .ok (.ifCond .le 23, 3) := by decide +kernel
theorem d_Fl_bringToFront_26 : decode prog_5_method_7_code 26 = .ok (.aload_n 0, 1) := by decide +kernel
theorem d_Fl_bringToFront_27 : decode prog_5_method_7_code 27 = .ok (.getfield 9, 3) := by decide +kernel
theorem d_Fl_bringToFront_30 : decode prog_5_method_7_code 30 = .ok (.iload_n 3, 1) := by decide +kernel
theorem d_Fl_bringToFront_31 : decode prog_5_method_7_code 31 = .ok (.aload_n 0, 1) := by decide +kernel
theorem d_Fl_bringToFront_32 : decode prog_5_method_7_code 32 = .ok (.getfield 9, 3) := by decide +kernel
theorem d_Fl_bringToFront_35 : decode prog_5_method_7_code 35 = .ok (.iload_n 3, 1) := by decide +kernel
theorem d_Fl_bringToFront_36 : decode prog_5_method_7_code 36 = .ok (.iconst 1, 1) := by decide +kernel
theorem d_Fl_bringToFront_37 : decode prog_5_method_7_code 37 = .ok (.isub, 1) := by decide +kernel
theorem d_Fl_bringToFront_38 : decode prog_5_method_7_code 38 = .ok (.iaload, 1) := by decide +kernel
theorem d_Fl_bringToFront_39 : decode prog_5_method_7_code 39 = .ok (.iastore, 1) := by decide +kernel
theorem d_Fl_bringToFront_40 : decode prog_5_method_7_code 40 = .ok (.iinc 3 (-1), 3) := by decide +kernel
theorem d_Fl_bringToFront_43 : decode prog_5_method_7_code 43 = .ok (.goto (-21), 3) := by decide +kernel
theorem d_Fl_bringToFront_46 : decode prog_5_method_7_code 46 = .ok (.aload_n 0, 1) := by decide +kernel
theorem d_Fl_bringToFront_47 : decode prog_5_method_7_code 47 = .ok (.getfield 9, 3) := by decide +kernel
theorem d_Fl_bringToFront_50 : decode prog_5_method_7_code 50 = .ok (.iconst 0, 1) := by decide +kernel
theorem d_Fl_bringToFront_51 : decode prog_5_method_7_code 51 = .ok (.iload_n 2, 1) := by decide +kernel
theorem d_Fl_bringToFront_52 : decode prog_5_method_7_code 52 = .ok (.iastore, 1) := by decide +kernel
theorem d_Fl_bringToFront_53 : decode prog_5_method_7_code 53 = .ok (.return_, 1) := by decide +kernel
theorem d_Jn_init_0 : decode prog_6_method_1_code 0 = .ok (.aload_n 0, 1) := by decide +kernel
theorem d_Jn_init_1 : decode prog_6_method_1_code 1 = .ok (.invokespecial 5, 3) := by decide +kernel
theorem d_Jn_init_4 : decode prog_6_method_1_code 4 = .ok (.aload_n 0, 1) := by decide +kernel
theorem d_Jn_init_5 : decode prog_6_method_1_code 5 = .ok (.sipush 258, 3) := by decide +kernel
theorem d_Jn_init_8 : decode prog_6_method_1_code 8 = .ok (.newarray .int, 2) := by decide +kernel
theorem d_Jn_init_10 : decode prog_6_method_1_code 10 = .ok (.putfield 11, 3) := by decide +kernel
theorem d_Jn_init_13 : decode prog_6_method_1_code 13 = .ok (.aload_n 0, 1) := by decide +kernel
theorem d_Jn_init_14 : decode prog_6_method_1_code 14 = .ok (.sipush 258, 3) := by decide +kernel
theorem d_Jn_init_17 : decode prog_6_method_1_code 17 = .ok (.newarray .int, 2) := by decide +kernel
theorem d_Jn_init_19 : decode prog_6_method_1_code 19 = .ok (.putfield 15, 3) := by decide +kernel
theorem d_Jn_init_22 : decode prog_6_method_1_code 22 = .ok (.aload_n 0, 1) := by decide +kernel
theorem d_Jn_init_23 : decode prog_6_method_1_code 23 = .ok (.sipush 516, 3) := by decide +kernel
theorem d_Jn_init_26 : decode prog_6_method_1_code 26 = .ok (.newarray .int, 2) := by decide +kernel
theorem d_Jn_init_28 : decode prog_6_method_1_code 28 = .ok (.putfield 18, 3) := by decide +kernel
theorem d_Jn_init_31 : decode prog_6_method_1_code 31 = .ok (.aload_n 0, 1) := by decide +kernel
theorem d_Jn_init_32 : decode prog_6_method_1_code 32 = .ok (.sipush 516, 3) := by decide +kernel
theorem d_Jn_init_35 : decode prog_6_method_1_code 35 = .ok (.newarray .int, 2) := by decide +kernel
theorem d_Jn_init_37 : decode prog_6_method_1_code 37 = .ok (.putfield 21, 3) := by decide +kernel
theorem d_Jn_init_40 : decode prog_6_method_1_code 40 = .ok (.return_, 1) := by decide +kernel
theorem d_Jn_findLengths_0 : decode prog_6_method_2_code 0 = .ok (.aload_n 0, 1) := by decide +kernel
theorem d_Jn_findLengths_1 : decode prog_6_method_2_code 1 = .ok (.iconst 0, 1) := by decide +kernel
theorem d_Jn_findLengths_2 : decode prog_6_method_2_code 2 = .ok (.putfield 24, 3) := by decide +kernel
theorem d_Jn_findLengths_5 : decode prog_6_method_2_code 5 = .ok (.iconst 0, 1) := by decide +kernel
theorem d_Jn_findLengths_6 : decode prog_6_method_2_code 6 = .ok (.istore 4, 2) := by decide +kernel
theorem d_Jn_findLengths_8 : decode prog_6_method_2_code 8 = .ok (.iload 4, 2) := by decide +kernel
theorem d_Jn_findLengths_10 : decode prog_6_method_2_code 10 = .ok (.iload_n 2, 1) := by decide +kernel
theorem d_Jn_findLengths_11 : decode prog_6_method_2_code 11 = .ok (.if_icmp .ge 32, 3) := by decide +kernel
theorem d_Jn_findLengths_14 : decode prog_6_method_2_code 14 = .ok (.aload_n 0, 1) := by decide +kernel
theorem d_Jn_findLengths_15 : decode prog_6_method_2_code 15 = .ok (.getfield 15, 3) := by decide +kernel
theorem d_Jn_findLengths_18 : decode prog_6_method_2_code 18 = .ok (.iload 4, 2) := by decide +kernel
theorem d_Jn_findLengths_20 : decode prog_6_method_2_code 20 = .ok (.iload 4, 2) := by decide +kernel
theorem d_Jn_findLengths_22 : decode prog_6_method_2_code 22 = .ok (.iastore, 1) := by decide +kernel
theorem d_Jn_findLengths_23 : decode prog_6_method_2_code 23 = .ok (.aload_n 0, 1) := by decide +kernel
theorem d_Jn_findLengths_24 : decode prog_6_method_2_code 24 = .ok (.aload_n 1, 1) := by decide +kernel
theorem d_Jn_findLengths_25 : decode prog_6_method_2_code 25 = .ok (.iload 4, 2) := by decide +kernel
theorem d_Jn_findLengths_27 : decode prog_6_method_2_code 27 = .ok (.iaload, 1) := by decide +kernel
theorem d_Jn_findLengths_28 : decode prog_6_method_2_code 28 = .ok (.bipush 9, 2) := by decide +kernel
theorem d_Jn_findLengths_30 : decode prog_6_method_2_code 30 = .ok (.ishl, 1) := by decide +kernel
theorem d_Jn_findLengths_31 : decode prog_6_method_2_code 31 = .ok (.iload 4, 2) := by decide +kernel
theorem d_Jn_findLengths_33 : decode prog_6_method_2_code 33 = .ok (.ior, 1) := by decide +kernel
theorem d_Jn_findLengths_34 : decode prog_6_method_2_code 34 = .ok (.invokevirtual 28, 3) := by decide +kernel
theorem d_Jn_findLengths_37 : decode prog_6_method_2_code 37 = .ok (.iinc 4 1, 3) := by decide +kernel
theorem d_Jn_findLengths_40 : decode prog_6_method_2_code 40 = .ok (.goto (-32), 3) := by decide +kernel
theorem d_Jn_findLengths_43 : decode prog_6_method_2_code 43 = .ok (.iload_n 2, 1) := by decide +kernel
theorem d_Jn_findLengths_44 : decode prog_6_method_2_code 44 = .ok (.istore 4, 2) := by decide +kernel
theorem d_Jn_findLengths_46 : decode prog_6_method_2_code 46 = .ok (.iconst 1, 1) := by decide +kernel
theorem d_Jn_findLengths_47 : decode prog_6_method_2_code 47 = .ok (.istore 5, 2) := by decide +kernel
theorem d_Jn_findLengths_49 : decode prog_6_method_2_code 49 = .ok (.iload 5, 2) := by decide +kernel
theorem d_Jn_findLengths_51 : decode prog_6_method_2_code 51 = .ok (.iload_n 2, 1) := by decide +kernel
theorem d_Jn_findLengths_52 : decode prog_6_method_2_code 52 = .ok (.if_icmp .ge 18, 3) := by decide +kernel
theorem d_Jn_findLengths_55 : decode prog_6_method_2_code 55 = .ok (.aload_n 0, 1) := by decide +kernel
theorem d_Jn_findLengths_56 : decode prog_6_method_2_code 56 = .ok (.iload 4, 2) := by decide +kernel
theorem d_Jn_findLengths_58 : decode prog_6_method_2_code 58 = .ok (.invokevirtual 32, 3) := by decide +kernel
theorem d_Jn_findLengths_61 : decode prog_6_method_2_code 61 = .ok (.iinc 4 1, 3) := by decide +kernel
theorem d_Jn_findLengths_64 : decode prog_6_method_2_code 64 = .ok (.iinc 5 1, 3) := by decide +kernel
theorem d_Jn_findLengths_67 : decode prog_6_method_2_code 67 = .ok (.goto (-18), 3) := by decide +kernel
theorem d_Jn_findLengths_70 : decode prog_6_method_2_code 70 = .ok (.aload_n 0, 1) := by decide +kernel
theorem d_Jn_findLengths_71 : decode prog_6_method_2_code 71 = .ok (.iload_n 2, 1) := by decide +kernel
theorem d_Jn_findLengths_72 : decode prog_6_method_2_code 72 = .ok (.iload 4, 2) := by decide +kernel
theorem d_Jn_findLengths_74 : decode prog_6_method_2_code 74 = .ok (.aload_n 3, 1) := by decide +kernel
theorem d_Jn_findLengths_75 : decode prog_6_method_2_code 75 = .ok (.invokevirtual 35, 3) := by decide +kernel
theorem d_Jn_findLengths_78 : decode prog_6_method_2_code 78 = .ok (.ireturn, 1) := by decide +kernel
theorem d_Jn_joinTwo_0 : decode prog_6_method_3_code 0 = .ok (.aload_n 0, 1) := by decide +kernel
theorem d_Jn_joinTwo_1 : decode prog_6_method_3_code 1 = .ok (.invokevirtual 39, 3) := by decide +kernel
theorem d_Jn_joinTwo_4 : decode prog_6_method_3_code 4 = .ok (.istore_n 2, 1) := by decide +kernel
theorem d_Jn_joinTwo_5 : decode prog_6_method_3_code 5 = .ok (.aload_n 0, 1) := by decide +kernel
theorem d_Jn_joinTwo_6 : decode prog_6_method_3_code 6 = .ok (.invokevirtual 39, 3) := by decide +kernel
theorem d_Jn_joinTwo_9 : decode prog_6_method_3_code 9 = .ok (.istore_n 3, 1) := by decide +kernel
theorem d_Jn_joinTwo_10 : decode prog_6_method_3_code 10 = .ok (.iload_n 2, 1) := by decide +kernel
theorem d_Jn_joinTwo_11 : decode prog_6_method_3_code 11 = .ok (.sipush 511, 3) := by decide +kernel
theorem d_Jn_joinTwo_14 : decode prog_6_method_3_code 14 = .ok (.iand, 1) := by decide +kernel
theorem d_Jn_joinTwo_15 : decode prog_6_method_3_code 15 = .ok (.iload_n 3, 1) := by decide +kernel
theorem d_Jn_joinTwo_16 : decode prog_6_method_3_code 16 = .ok (.sipush 511, 3) := by decide +kernel
theorem d_Jn_joinTwo_19 : decode prog_6_method_3_code 19 = .ok (.iand, 1) := by decide +kernel
theorem d_Jn_joinTwo_20 : decode prog_6_method_3_code 20 = .ok (.invokestatic 43, 3) := by decide +kernel
theorem d_Jn_joinTwo_23 : decode prog_6_method_3_code 23 = .ok (.istore 4, 2) := by decide +kernel
theorem d_Jn_joinTwo_25 : decode prog_6_method_3_code 25 = .ok (.aload_n 0, 1) := by decide +kernel
theorem d_Jn_joinTwo_26 : decode prog_6_method_3_code 26 = .ok (.getfield 18, 3) := by decide +kernel
theorem d_Jn_joinTwo_29 : decode prog_6_method_3_code 29 = .ok (.aload_n 0, 1) := by decide +kernel
theorem d_Jn_joinTwo_30 : decode prog_6_method_3_code 30 = .ok (.getfield 15, 3) := by decide +kernel
theorem d_Jn_joinTwo_33 : decode prog_6_method_3_code 33 = .ok (.iload_n 2, 1) := by decide +kernel
theorem d_Jn_joinTwo_34 : decode prog_6_method_3_code 34 = .ok (.sipush 511, 3) := by decide +kernel
theorem d_Jn_joinTwo_37 : decode prog_6_method_3_code 37 = .ok (.iand, 1) := by decide +kernel
theorem d_Jn_joinTwo_38 : decode prog_6_method_3_code 38 = .ok (.iaload, 1) := by decide +kernel
theorem d_Jn_joinTwo_39 : decode prog_6_method_3_code 39 = .ok (.iload_n 1, 1) := by decide +kernel
theorem d_Jn_joinTwo_40 : decode prog_6_method_3_code 40 = .ok (.iastore, 1) := by decide +kernel
theorem d_Jn_joinTwo_41 : decode prog_6_method_3_code 41 = .ok (.aload_n 0, 1) := by decide +kernel
theorem d_Jn_joinTwo_42 : decode prog_6_method_3_code 42 = .ok (.getfield 18, 3) := by decide +kernel
theorem d_Jn_joinTwo_45 : decode prog_6_method_3_code 45 = .ok (.aload_n 0, 1) := by decide +kernel
theorem d_Jn_joinTwo_46 : decode prog_6_method_3_code 46 = .ok (.getfield 15, 3) := by decide +kernel
theorem d_Jn_joinTwo_49 : decode prog_6_method_3_code 49 = .ok (.iload_n 3, 1) := by decide +kernel
theorem d_Jn_joinTwo_50 : decode prog_6_method_3_code 50 = .ok (.sipush 511, 3) := by decide +kernel
theorem d_Jn_joinTwo_53 : decode prog_6_method_3_code 53 = .ok (.iand, 1) := by decide +kernel
theorem d_Jn_joinTwo_54 : decode prog_6_method_3_code 54 = .ok (.iaload, 1) := by decide +kernel
theorem d_Jn_joinTwo_55 : decode prog_6_method_3_code 55 = .ok (.iload_n 1, 1) := by decide +kernel
theorem d_Jn_joinTwo_56 : decode prog_6_method_3_code 56 = .ok (.iastore, 1) := by decide +kernel
theorem d_Jn_joinTwo_57 : decode prog_6_method_3_code 57 = .ok (.aload_n 0, 1) := by decide +kernel
theorem d_Jn_joinTwo_58 : decode prog_6_method_3_code 58 = .ok (.getfield 15, 3) := by decide +kernel
theorem d_Jn_joinTwo_61 : decode prog_6_method_3_code 61 = .ok (.iload 4, 2) := by decide +kernel
theorem d_Jn_joinTwo_63 : decode prog_6_method_3_code 63 = .ok (.iload_n 1, 1) := by decide +kernel
theorem d_Jn_joinTwo_64 : decode prog_6_method_3_code 64 = .ok (.iastore, 1) := by decide +kernel
theorem d_Jn_joinTwo_65 : decode prog_6_method_3_code 65 = .ok (.iload_n 2, 1) := by decide +kernel
theorem d_Jn_joinTwo_66 : decode prog_6_method_3_code 66 = .ok (.bipush 9, 2) := by decide +kernel
theorem d_Jn_joinTwo_68 : decode prog_6_method_3_code 68 = .ok (.ishr, 1) := by decide +kernel
theorem d_Jn_joinTwo_69 : decode prog_6_method_3_code 69 = .ok (.iload_n 3, 1) := by decide +kernel
theorem d_Jn_joinTwo_70 : decode prog_6_method_3_code 70 = .ok (.bipush 9, 2) := by decide +kernel
theorem d_Jn_joinTwo_72 : decode prog_6_method_3_code 72 = .ok (.ishr, 1) := by decide +kernel
theorem d_Jn_joinTwo_73 : decode prog_6_method_3_code 73 = .ok (.iadd, 1) := by decide +kernel
theorem d_Jn_joinTwo_74 : decode prog_6_method_3_code 74 = .ok (.istore 5, 2) := by decide +kernel
theorem d_Jn_joinTwo_76 : decode prog_6_method_3_code 76 = .ok (.aload_n 0, 1) := by decide +kernel
theorem d_Jn_joinTwo_77 : decode prog_6_method_3_code 77 = .ok (.iload 5, 2) := by decide +kernel
theorem d_Jn_joinTwo_79 : decode prog_6_method_3_code 79 = .ok (.bipush 9, 2) := by decide +kernel
theorem d_Jn_joinTwo_81 : decode prog_6_method_3_code 81 = .ok (.ishl, 1) := by decide +kernel
theorem d_Jn_joinTwo_82 : decode prog_6_method_3_code 82 = .ok (.iload 4, 2) := by decide +kernel
theorem d_Jn_joinTwo_84 : decode prog_6_method_3_code 84 = .ok (.ior, 1) := by decide +kernel
theorem d_Jn_joinTwo_85 : decode prog_6_method_3_code 85 = .ok (.invokevirtual 28, 3) := by decide +kernel
theorem d_Jn_joinTwo_88 : decode prog_6_method_3_code 88 = .ok (.return_, 1) := by decide +kernel
theorem d_Jn_measureDepths_0 : decode prog_6_method_4_code 0 = .ok (.iconst 0, 1) := by decide +kernel
theorem d_Jn_measureDepths_1 : decode prog_6_method_4_code 1 = .ok (.istore 4, 2) := by decide +kernel
theorem d_Jn_measureDepths_3 : decode prog_6_method_4_code 3 = .ok (.iload_n 2, 1) := by decide +kernel
theorem d_Jn_measureDepths_4 : decode prog_6_method_4_code 4 = .ok (.iconst 1, 1) := by decide +kernel
theorem d_Jn_measureDepths_5 : decode prog_6_method_4_code 5 = .ok (.isub, 1) := by decide +kernel
theorem d_Jn_measureDepths_6 : decode prog_6_method_4_code 6 = .ok (.istore 5, 2) := by decide +kernel
theorem d_Jn_measureDepths_8 : decode prog_6_method_4_code 8 = .ok (.iload 5, 2) := by decide +kernel
theorem d_Jn_measureDepths_10 : decode prog_6_method_4_code 10 = .ok (.ifCond .lt 73, 3) := by decide +kernel
theorem d_Jn_measureDepths_13 : decode prog_6_method_4_code 13 = .ok (.aload_n 0, 1) := by decide +kernel
theorem d_Jn_measureDepths_14 : decode prog_6_method_4_code 14 = .ok (.getfield 21, 3) := by decide +kernel
theorem d_Jn_measureDepths_17 : decode prog_6_method_4_code 17 = .ok (.iload 5, 2) := by decide +kernel
theorem d_Jn_measureDepths_19 : decode prog_6_method_4_code 19 = .ok (.iload 5, 2) := by decide +kernel
theorem d_Jn_measureDepths_21 : decode prog_6_method_4_code 21 = .ok (.iload_n 2, 1) := by decide +kernel
theorem d_Jn_measureDepths_22 : decode prog_6_method_4_code 22 = .ok (.iconst 1, 1) := by decide +kernel
theorem d_Jn_measureDepths_23 : decode prog_6_method_4_code 23 = .ok (.isub, 1) := by decide +kernel
theorem d_Jn_measureDepths_24 : decode prog_6_method_4_code 24 = .ok (.if_icmp .ne 7, 3) := by decide +kernel
theorem d_Jn_measureDepths_27 : decode prog_6_method_4_code 27 = .ok (.iconst 0, 1) := by decide +kernel
theorem d_Jn_measureDepths_28 : decode prog_6_method_4_code 28 = .ok (.goto 17, 3) := by decide +kernel
theorem d_Jn_measureDepths_31 : decode prog_6_method_4_code 31 = .ok (.aload_n 0, 1) := by decide +kernel
theorem d_Jn_measureDepths_32 : decode prog_6_method_4_code 32 = .ok (.getfield 21, 3) := by decide +kernel
theorem d_Jn_measureDepths_35 : decode prog_6_method_4_code 35 = .ok (.aload_n 0, 1) := by decide +kernel
theorem d_Jn_measureDepths_36 : decode prog_6_method_4_code 36 = .ok (.getfield 18, 3) := by decide +kernel
theorem d_Jn_measureDepths_39 : decode prog_6_method_4_code 39 = .ok (.iload 5, 2) := by decide +kernel
theorem d_Jn_measureDepths_41 : decode prog_6_method_4_code 41 = .ok (.iaload, 1) := by decide +kernel
theorem d_Jn_measureDepths_42 : decode prog_6_method_4_code 42 = .ok (.iaload, 1) := by decide +kernel
theorem d_Jn_measureDepths_43 : decode prog_6_method_4_code 43 = .ok (.iconst 1, 1) := by decide +kernel
theorem d_Jn_measureDepths_44 : decode prog_6_method_4_code 44 = .ok (.iadd, 1) := by decide +kernel
theorem d_Jn_measureDepths_45 : decode prog_6_method_4_code 45 = .ok (.iastore, 1) := by decide +kernel
theorem d_Jn_measureDepths_46 : decode prog_6_method_4_code 46 = .ok (.iload 5, 2) := by decide +kernel
theorem d_Jn_measureDepths_48 : decode prog_6_method_4_code 48 = .ok (.iload_n 1, 1) := by decide +kernel
theorem d_Jn_measureDepths_49 : decode prog_6_method_4_code 49 = .ok (.if_icmp .ge 28, 3) := by decide +kernel
theorem d_Jn_measureDepths_52 : decode prog_6_method_4_code 52 = .ok (.aload_n 3, 1) := by decide +kernel
theorem d_Jn_measureDepths_53 : decode prog_6_method_4_code 53 = .ok (.iload 5, 2) := by decide +kernel
theorem d_Jn_measureDepths_55 : decode prog_6_method_4_code 55 = .ok (.aload_n 0, 1) := by decide +kernel
theorem d_Jn_measureDepths_56 : decode prog_6_method_4_code 56 = .ok (.getfield 21, 3) := by decide +kernel
theorem d_Jn_measureDepths_59 : decode prog_6_method_4_code 59 = .ok (.iload 5, 2) := by decide +kernel
theorem d_Jn_measureDepths_61 : decode prog_6_method_4_code 61 = .ok (.iaload, 1) := by decide +kernel
theorem d_Jn_measureDepths_62 : decode prog_6_method_4_code 62 = .ok (.iastore, 1) := by decide +kernel
theorem d_Jn_measureDepths_63 : decode prog_6_method_4_code 63 = .ok (.iload 4, 2) := by decide +kernel
theorem d_Jn_measureDepths_65 : decode prog_6_method_4_code 65 = .ok (.aload_n 0, 1) := by decide +kernel
theorem d_Jn_measureDepths_66 : decode prog_6_method_4_code 66 = .ok (.getfield 21, 3) := by decide +kernel
theorem d_Jn_measureDepths_69 : decode prog_6_method_4_code 69 = .ok (.iload 5, 2) := by decide +kernel
theorem d_Jn_measureDepths_71 : decode prog_6_method_4_code 71 = .ok (.iaload, 1) := by decide +kernel
theorem d_Jn_measureDepths_72 : decode prog_6_method_4_code 72 = .ok (.invokestatic 49, 3) := by decide +kernel
theorem d_Jn_measureDepths_75 : decode prog_6_method_4_code 75 = .ok (.istore 4, 2) := by decide +kernel
theorem d_Jn_measureDepths_77 : decode prog_6_method_4_code 77 = .ok (.iinc 5 (-1), 3) := by decide +kernel
theorem d_Jn_measureDepths_80 : decode prog_6_method_4_code 80 = .ok (.goto (-72), 3) := by decide +kernel
theorem d_Jn_measureDepths_83 : decode prog_6_method_4_code 83 = .ok (.iload 4, 2) := by decide +kernel
theorem d_Jn_measureDepths_85 : decode prog_6_method_4_code 85 = .ok (.ireturn, 1) := by decide +kernel
theorem d_Jn_push_0 : decode prog_6_method_5_code 0 = .ok (.aload_n 0, 1) := by decide +kernel
theorem d_Jn_push_1 : decode prog_6_method_5_code 1 = .ok (.getfield 24, 3) := by decide +kernel
theorem d_Jn_push_4 : decode prog_6_method_5_code 4 = .ok (.aload_n 0, 1) := by decide +kernel
theorem d_Jn_push_5 : decode prog_6_method_5_code 5 = .ok (.getfield 11, 3) := by decide +kernel
theorem d_Jn_push_8 : decode prog_6_method_5_code 8 = .ok (.arraylength, 1) := by decide +kernel
theorem d_Jn_push_9 : decode prog_6_method_5_code 9 = .ok (.if_icmp .lt 4, 3) := by decide +kernel
theorem d_Jn_push_12 : decode prog_6_method_5_code 12 = .ok (.return_, 1) := by decide +kernel
theorem d_Jn_push_13 : decode prog_6_method_5_code 13 = .ok (.aload_n 0, 1) := by decide +kernel
theorem d_Jn_push_14 : decode prog_6_method_5_code 14 = .ok (.getfield 24, 3) := by decide +kernel
theorem d_Jn_push_17 : decode prog_6_method_5_code 17 = .ok (.istore_n 2, 1) := by decide +kernel
theorem d_Jn_push_18 : decode prog_6_method_5_code 18 = .ok (.aload_n 0, 1) := by decide +kernel
theorem d_Jn_push_19 : decode prog_6_method_5_code 19 = .ok (.dup, 1) := by decide +kernel
theorem d_Jn_push_20 : decode prog_6_method_5_code 20 = .ok (.getfield 24, 3) := by decide +kernel
theorem d_Jn_push_23 : decode prog_6_method_5_code 23 = .ok (.iconst 1, 1) := by decide +kernel
theorem d_Jn_push_24 : decode prog_6_method_5_code 24 = .ok (.iadd, 1) := by decide +kernel
theorem d_Jn_push_25 : decode prog_6_method_5_code 25 = .ok (.putfield 24, 3) := by decide +kernel
theorem d_Jn_push_28 : decode prog_6_method_5_code 28 = .ok (.iload_n 2, 1) := by decide +kernel
theorem d_Jn_push_29 : decode prog_6_method_5_code 29 = .ok (.ifCond .le 42, 3) := by decide +kernel
theorem d_Jn_push_32 : decode prog_6_method_5_code 32 = .ok (.aload_n 0, 1) := by decide +kernel
theorem d_Jn_push_33 : decode prog_6_method_5_code 33 = .ok (.getfield 11, 3) := by decide +kernel
theorem d_Jn_push_36 : decode prog_6_method_5_code 36 = .ok (.iload_n 2, 1) := by decide +kernel
theorem d_Jn_push_37 : decode prog_6_method_5_code 37 = .ok (.iconst 1, 1) := by decide +kernel
theorem d_Jn_push_38 : decode prog_6_method_5_code 38 = .ok (.isub, 1) := by decide +kernel
theorem d_Jn_push_39 : decode prog_6_method_5_code 39 = .ok (.iconst 2, 1) := by decide +kernel
theorem d_Jn_push_40 : decode prog_6_method_5_code 40 = .ok (.idiv, 1) := by decide +kernel
theorem d_Jn_push_41 : decode prog_6_method_5_code 41 = .ok (.iaload, 1) := by decide +kernel
theorem d_Jn_push_42 : decode prog_6_method_5_code 42 = .ok (.iload_n 1, 1) := by decide +kernel
theorem d_Jn_push_43 : decode prog_6_method_5_code 43 = .ok (.if_icmp .le 28, 3) := by decide +kernel
theorem d_Jn_push_46 : decode prog_6_method_5_code 46 = .ok (.aload_n 0, 1) := by decide +kernel
theorem d_Jn_push_47 : decode prog_6_method_5_code 47 = .ok (.getfield 11, 3) := by decide +kernel
theorem d_Jn_push_50 : decode prog_6_method_5_code 50 = .ok (.iload_n 2, 1) := by decide +kernel
theorem d_Jn_push_51 : decode prog_6_method_5_code 51 = .ok (.aload_n 0, 1) := by decide +kernel
theorem d_Jn_push_52 : decode prog_6_method_5_code 52 = .ok (.getfield 11, 3) := by decide +kernel
theorem d_Jn_push_55 : decode prog_6_method_5_code 55 = .ok (.iload_n 2, 1) := by decide +kernel
theorem d_Jn_push_56 : decode prog_6_method_5_code 56 = .ok (.iconst 1, 1) := by decide +kernel
theorem d_Jn_push_57 : decode prog_6_method_5_code 57 = .ok (.isub, 1) := by decide +kernel
theorem d_Jn_push_58 : decode prog_6_method_5_code 58 = .ok (.iconst 2, 1) := by decide +kernel
theorem d_Jn_push_59 : decode prog_6_method_5_code 59 = .ok (.idiv, 1) := by decide +kernel
theorem d_Jn_push_60 : decode prog_6_method_5_code 60 = .ok (.iaload, 1) := by decide +kernel
theorem d_Jn_push_61 : decode prog_6_method_5_code 61 = .ok (.iastore, 1) := by decide +kernel
theorem d_Jn_push_62 : decode prog_6_method_5_code 62 = .ok (.iload_n 2, 1) := by decide +kernel
theorem d_Jn_push_63 : decode prog_6_method_5_code 63 = .ok (.iconst 1, 1) := by decide +kernel
theorem d_Jn_push_64 : decode prog_6_method_5_code 64 = .ok (.isub, 1) := by decide +kernel
theorem d_Jn_push_65 : decode prog_6_method_5_code 65 = .ok (.iconst 2, 1) := by decide +kernel
theorem d_Jn_push_66 : decode prog_6_method_5_code 66 = .ok (.idiv, 1) := by decide +kernel
theorem d_Jn_push_67 : decode prog_6_method_5_code 67 = .ok (.istore_n 2, 1) := by decide +kernel
theorem d_Jn_push_68 : decode prog_6_method_5_code 68 = .ok (.goto (-40), 3) := by decide +kernel
theorem d_Jn_push_71 : decode prog_6_method_5_code 71 = .ok (.aload_n 0, 1) := by decide +kernel
theorem d_Jn_push_72 : decode prog_6_method_5_code 72 = .ok (.getfield 11, 3) := by decide +kernel
theorem d_Jn_push_75 : decode prog_6_method_5_code 75 = .ok (.iload_n 2, 1) := by decide +kernel
theorem d_Jn_push_76 : decode prog_6_method_5_code 76 = .ok (.iload_n 1, 1) := by decide +kernel
theorem d_Jn_push_77 : decode prog_6_method_5_code 77 = .ok (.iastore, 1) := by decide +kernel
theorem d_Jn_push_78 : decode prog_6_method_5_code 78 = .ok (.return_, 1) := by decide +kernel
theorem d_Jn_pop_0 : decode prog_6_method_6_code 0 = .ok (.aload_n 0, 1) := by decide +kernel
theorem d_Jn_pop_1 : decode prog_6_method_6_code 1 = .ok (.getfield 24, 3) := by decide +kernel
theorem d_Jn_pop_4 : decode prog_6_method_6_code 4 = .ok (.ifCond .ne 5, 3) := by decide +kernel
theorem d_Jn_pop_7 : decode prog_6_method_6_code 7 = .ok (.iconst 0, 1) := by decide +kernel
theorem d_Jn_pop_8 : decode prog_6_method_6_code 8 = .ok (.ireturn, 1) := by decide +kernel
theorem d_Jn_pop_9 : decode prog_6_method_6_code 9 = .ok (.aload_n 0, 1) := by decide +kernel
theorem d_Jn_pop_10 : decode prog_6_method_6_code 10 = .ok (.getfield 11, 3) := by decide +kernel
theorem d_Jn_pop_13 : decode prog_6_method_6_code 13 = .ok (.iconst 0, 1) := by decide +kernel
theorem d_Jn_pop_14 : decode prog_6_method_6_code 14 = .ok (.iaload, 1) := by decide +kernel
theorem d_Jn_pop_15 : decode prog_6_method_6_code 15 = .ok (.istore_n 1, 1) := by decide +kernel
theorem d_Jn_pop_16 : decode prog_6_method_6_code 16 = .ok (.aload_n 0, 1) := by decide +kernel
theorem d_Jn_pop_17 : decode prog_6_method_6_code 17 = .ok (.dup, 1) := by decide +kernel
theorem d_Jn_pop_18 : decode prog_6_method_6_code 18 = .ok (.getfield 24, 3) := by decide +kernel
theorem d_Jn_pop_21 : decode prog_6_method_6_code 21 = .ok (.iconst 1, 1) := by decide +kernel
theorem d_Jn_pop_22 : decode prog_6_method_6_code 22 = .ok (.isub, 1) := by decide +kernel
theorem d_Jn_pop_23 : decode prog_6_method_6_code 23 = .ok (.putfield 24, 3) := by decide +kernel
theorem d_Jn_pop_26 : decode prog_6_method_6_code 26 = .ok (.aload_n 0, 1) := by decide +kernel
theorem d_Jn_pop_27 : decode prog_6_method_6_code 27 = .ok (.getfield 11, 3) := by decide +kernel
theorem d_Jn_pop_30 : decode prog_6_method_6_code 30 = .ok (.aload_n 0, 1) := by decide +kernel
theorem d_Jn_pop_31 : decode prog_6_method_6_code 31 = .ok (.getfield 24, 3) := by decide +kernel
theorem d_Jn_pop_34 : decode prog_6_method_6_code 34 = .ok (.iaload, 1) := by decide +kernel
theorem d_Jn_pop_35 : decode prog_6_method_6_code 35 = .ok (.istore_n 2, 1) := by decide +kernel
theorem d_Jn_pop_36 : decode prog_6_method_6_code 36 = .ok (.iconst 0, 1) := by decide +kernel
theorem d_Jn_pop_37 : decode prog_6_method_6_code 37 = .ok (.istore_n 3, 1) := by decide +kernel
theorem d_Jn_pop_38 : decode prog_6_method_6_code 38 = .ok (.iconst 1, 1) := by decide +kernel
theorem d_Jn_pop_39 : decode prog_6_method_6_code 39 = .ok (.istore 4, 2) := by decide +kernel
theorem d_Jn_pop_41 : decode prog_6_method_6_code 41 = .ok (.iload 4, 2) := by decide +kernel
theorem d_Jn_pop_43 : decode prog_6_method_6_code 43 = .ok (.aload_n 0, 1) := by decide +kernel
theorem d_Jn_pop_44 : decode prog_6_method_6_code 44 = .ok (.getfield 24, 3) := by decide +kernel
theorem d_Jn_pop_47 : decode prog_6_method_6_code 47 = .ok (.if_icmp .ge 76, 3) := by decide +kernel
theorem d_Jn_pop_50 : decode prog_6_method_6_code 50 = .ok (.iload 4, 2) := by decide +kernel
theorem d_Jn_pop_52 : decode prog_6_method_6_code 52 = .ok (.iconst 1, 1) := by decide +kernel
theorem d_Jn_pop_53 : decode prog_6_method_6_code 53 = .ok (.iadd, 1) := by decide +kernel
theorem d_Jn_pop_54 : decode prog_6_method_6_code 54 = .ok (.aload_n 0, 1) := by decide +kernel
theorem d_Jn_pop_55 : decode prog_6_method_6_code 55 = .ok (.getfield 24, 3) := by decide +kernel
theorem d_Jn_pop_58 : decode prog_6_method_6_code 58 = .ok (.if_icmp .ge 25, 3) := by decide +kernel
theorem d_Jn_pop_61 : decode prog_6_method_6_code 61 = .ok (.aload_n 0, 1) := by decide +kernel
theorem d_Jn_pop_62 : decode prog_6_method_6_code 62 = .ok (.getfield 11, 3) := by decide +kernel
theorem d_Jn_pop_65 : decode prog_6_method_6_code 65 = .ok (.iload 4, 2) := by decide +kernel
theorem d_Jn_pop_67 : decode prog_6_method_6_code 67 = .ok (.iconst 1, 1) := by decide +kernel
theorem d_Jn_pop_68 : decode prog_6_method_6_code 68 = .ok (.iadd, 1) := by decide +kernel
theorem d_Jn_pop_69 : decode prog_6_method_6_code 69 = .ok (.iaload, 1) := by decide +kernel
theorem d_Jn_pop_70 : decode prog_6_method_6_code 70 = .ok (.aload_n 0, 1) := by decide +kernel
theorem d_Jn_pop_71 : decode prog_6_method_6_code 71 = .ok (.getfield 11, 3) := by decide +kernel
theorem d_Jn_pop_74 : decode prog_6_method_6_code 74 = .ok (.iload 4, 2) := by decide +kernel
theorem d_Jn_pop_76 : decode prog_6_method_6_code 76 = .ok (.iaload, 1) := by decide +kernel
theorem d_Jn_pop_77 : decode prog_6_method_6_code 77 = .ok (.if_icmp .ge 6, 3) := by decide +kernel
theorem d_Jn_pop_80 : decode prog_6_method_6_code 80 = .ok (.iinc 4 1, 3) := by decide +kernel
theorem d_Jn_pop_83 : decode prog_6_method_6_code 83 = .ok (.aload_n 0, 1) := by decide +kernel
theorem d_Jn_pop_84 : decode prog_6_method_6_code 84 = .ok (.getfield 11, 3) := by decide +kernel
theorem d_Jn_pop_87 : decode prog_6_method_6_code 87 = .ok (.iload 4, 2) := by decide +kernel
theorem d_Jn_pop_89 : decode prog_6_method_6_code 89 = .ok (.iaload, 1) := by decide +kernel
theorem d_Jn_pop_90 : decode prog_6_method_6_code 90 = .ok (.iload_n 2, 1) := by decide +kernel
theorem d_Jn_pop_91 : decode prog_6_method_6_code 91 = .ok (.if_icmp .le 6, 3) := by decide +kernel
theorem d_Jn_pop_94 : decode prog_6_method_6_code 94 = .ok (.goto 29, 3) := by decide +kernel
theorem d_Jn_pop_97 : decode prog_6_method_6_code 97 = .ok (.aload_n 0, 1) := by decide +kernel
theorem d_Jn_pop_98 : decode prog_6_method_6_code 98 = .ok (.getfield 11, 3) := by decide +kernel
theorem d_Jn_pop_101 : decode prog_6_method_6_code 101 = .ok (.iload_n 3, 1) := by decide +kernel
theorem d_Jn_pop_102 : decode prog_6_method_6_code 102 = .ok (.aload_n 0, 1) := by decide +kernel
theorem d_Jn_pop_103 : decode prog_6_method_6_code 103 = .ok (.getfield 11, 3) := by decide +kernel
theorem d_Jn_pop_106 : decode prog_6_method_6_code 106 = .ok (.iload 4, 2) := by decide +kernel
theorem d_Jn_pop_108 : decode prog_6_method_6_code 108 = .ok (.iaload, 1) := by decide +kernel
theorem d_Jn_pop_109 : decode prog_6_method_6_code 109 = .ok (.iastore, 1) := by decide +kernel
theorem d_Jn_pop_110 : decode prog_6_method_6_code 110 = .ok (.iload 4, 2) := by decide +kernel
theorem d_Jn_pop_112 : decode prog_6_method_6_code 112 = .ok (.istore_n 3, 1) := by decide +kernel
theorem d_Jn_pop_113 : decode prog_6_method_6_code 113 = .ok (.iconst 2, 1) := by decide +kernel
theorem d_Jn_pop_114 : decode prog_6_method_6_code 114 = .ok (.iload_n 3, 1) := by decide +kernel
theorem d_Jn_pop_115 : decode prog_6_method_6_code 115 = .ok (.imul, 1) := by decide +kernel
theorem d_Jn_pop_116 : decode prog_6_method_6_code 116 = .ok (.iconst 1, 1) := by decide +kernel
theorem d_Jn_pop_117 : decode prog_6_method_6_code 117 = .ok (.iadd, 1) := by decide +kernel
theorem d_Jn_pop_118 : decode prog_6_method_6_code 118 = .ok (.istore 4, 2) := by decide +kernel
theorem d_Jn_pop_120 : decode prog_6_method_6_code 120 = .ok (.goto (-79), 3) := by decide +kernel
theorem d_Jn_pop_123 : decode prog_6_method_6_code 123 = .ok (.aload_n 0, 1) := by decide +kernel
theorem d_Jn_pop_124 : decode prog_6_method_6_code 124 = .ok (.getfield 11, 3) := by decide +kernel
theorem d_Jn_pop_127 : decode prog_6_method_6_code 127 = .ok (.iload_n 3, 1) := by decide +kernel
theorem d_Jn_pop_128 : decode prog_6_method_6_code 128 = .ok (.iload_n 2, 1) := by decide +kernel
theorem d_Jn_pop_129 : decode prog_6_method_6_code 129 = .ok (.iastore, 1) := by decide +kernel
theorem d_Jn_pop_130 : decode prog_6_method_6_code 130 = .ok (.iload_n 1, 1) := by decide +kernel
theorem d_Jn_pop_131 : decode prog_6_method_6_code 131 = .ok (.ireturn, 1) := by decide +kernel
theorem d_Rw_init_0 : decode prog_7_method_1_code 0 = .ok (.aload_n 0, 1) := by decide +kernel
theorem d_Rw_init_1 : decode prog_7_method_1_code 1 = .ok (.invokespecial 3, 3) := by decide +kernel
theorem d_Rw_init_4 : decode prog_7_method_1_code 4 = .ok (.aload_n 0, 1) := by decide +kernel
theorem d_Rw_init_5 : decode prog_7_method_1_code 5 = .ok (.iload_n 1, 1) := by decide +kernel
theorem d_Rw_init_6 : decode prog_7_method_1_code 6 = .ok (.iconst 0, 1) := by decide +kernel
theorem d_Rw_init_7 : decode prog_7_method_1_code 7 = .ok (.invokestatic 9, 3) := by decide +kernel
theorem d_Rw_init_10 : decode prog_7_method_1_code 10 = .ok (.newarray .int, 2) := by decide +kernel
theorem d_Rw_init_12 : decode prog_7_method_1_code 12 = .ok (.putfield 15, 3) := by decide +kernel
theorem d_Rw_init_15 : decode prog_7_method_1_code 15 = .ok (.return_, 1) := by decide +kernel
theorem d_Rw_has_0 : decode prog_7_method_2_code 0 = .ok (.iload_n 1, 1) := by decide +kernel
theorem d_Rw_has_1 : decode prog_7_method_2_code 1 = .ok (.ifCond .lt 15, 3) := by decide +kernel
theorem d_Rw_has_4 : decode prog_7_method_2_code 4 = .ok (.iload_n 1, 1) := by decide +kernel
theorem d_Rw_has_5 : decode prog_7_method_2_code 5 = .ok (.aload_n 0, 1) := by decide +kernel
theorem d_Rw_has_6 : decode prog_7_method_2_code 6 = .ok (.getfield 21, 3) := by decide +kernel
theorem d_Rw_has_9 : decode prog_7_method_2_code 9 = .ok (.if_icmp .ge 7, 3) := by decide +kernel
theorem d_Rw_has_12 : decode prog_7_method_2_code 12 = .ok (.iconst 1, 1) := by decide +kernel
theorem d_Rw_has_13 : decode prog_7_method_2_code 13 = .ok (.goto 4, 3) := by decide +kernel
theorem d_Rw_has_16 : decode prog_7_method_2_code 16 = .ok (.iconst 0, 1) := by decide +kernel
theorem d_Rw_has_17 : decode prog_7_method_2_code 17 = .ok (.ireturn, 1) := by decide +kernel
theorem d_Rw_hasRoom_0 : decode prog_7_method_3_code 0 = .ok (.iload_n 1, 1) := by decide +kernel
theorem d_Rw_hasRoom_1 : decode prog_7_method_3_code 1 = .ok (.aload_n 0, 1) := by decide +kernel
theorem d_Rw_hasRoom_2 : decode prog_7_method_3_code 2 = .ok (.getfield 15, 3) := by decide +kernel
theorem d_Rw_hasRoom_5 : decode prog_7_method_3_code 5 = .ok (.arraylength, 1) := by decide +kernel
theorem d_Rw_hasRoom_6 : decode prog_7_method_3_code 6 = .ok (.aload_n 0, 1) := by decide +kernel
theorem d_Rw_hasRoom_7 : decode prog_7_method_3_code 7 = .ok (.getfield 21, 3) := by decide +kernel
theorem d_Rw_hasRoom_10 : decode prog_7_method_3_code 10 = .ok (.isub, 1) := by decide +kernel
theorem d_Rw_hasRoom_11 : decode prog_7_method_3_code 11 = .ok (.if_icmp .gt 7, 3) := by decide +kernel
theorem d_Rw_hasRoom_14 : decode prog_7_method_3_code 14 = .ok (.iconst 1, 1) := by decide +kernel
theorem d_Rw_hasRoom_15 : decode prog_7_method_3_code 15 = .ok (.goto 4, 3) := by decide +kernel
theorem d_Rw_hasRoom_18 : decode prog_7_method_3_code 18 = .ok (.iconst 0, 1) := by decide +kernel
theorem d_Rw_hasRoom_19 : decode prog_7_method_3_code 19 = .ok (.ireturn, 1) := by decide +kernel
theorem d_Rw_at_0 : decode prog_7_method_4_code 0 = .ok (.iload_n 1, 1) := by decide +kernel
theorem d_Rw_at_1 : decode prog_7_method_4_code 1 = .ok (.ifCond .lt 20, 3) := by decide +kernel
theorem d_Rw_at_4 : decode prog_7_method_4_code 4 = .ok (.iload_n 1, 1) := by decide +kernel
theorem d_Rw_at_5 : decode prog_7_method_4_code 5 = .ok (.aload_n 0, 1) := by decide +kernel
theorem d_Rw_at_6 : decode prog_7_method_4_code 6 = .ok (.getfield 21, 3) := by decide +kernel
theorem d_Rw_at_9 : decode prog_7_method_4_code 9 = .ok (.if_icmp .ge 12, 3) := by decide +kernel
theorem d_Rw_at_12 : decode prog_7_method_4_code 12 = .ok (.aload_n 0, 1) := by decide +kernel
theorem d_Rw_at_13 : decode prog_7_method_4_code 13 = .ok (.getfield 15, 3) := by decide +kernel
theorem d_Rw_at_16 : decode prog_7_method_4_code 16 = .ok (.iload_n 1, 1) := by decide +kernel
theorem d_Rw_at_17 : decode prog_7_method_4_code 17 = .ok (.iaload, 1) := by decide +kernel
theorem d_Rw_at_18 : decode prog_7_method_4_code 18 = .ok (.goto 5, 3) := by decide +kernel
theorem d_Rw_at_21 : decode prog_7_method_4_code 21 = .ok (.bipush (-2), 2) := by decide +kernel
theorem d_Rw_at_23 : decode prog_7_method_4_code 23 = .ok (.ireturn, 1) := by decide +kernel
theorem d_Rw_add_0 : decode prog_7_method_5_code 0 = .ok (.aload_n 0, 1) := by decide +kernel
theorem d_Rw_add_1 : decode prog_7_method_5_code 1 = .ok (.getfield 21, 3) := by decide +kernel
theorem d_Rw_add_4 : decode prog_7_method_5_code 4 = .ok (.aload_n 0, 1) := by decide +kernel
theorem d_Rw_add_5 : decode prog_7_method_5_code 5 = .ok (.getfield 15, 3) := by decide +kernel
theorem d_Rw_add_8 : decode prog_7_method_5_code 8 = .ok (.arraylength, 1) := by decide +kernel
theorem d_Rw_add_9 : decode prog_7_method_5_code 9 = .ok (.if_icmp .ge 23, 3) := by decide +kernel
theorem d_Rw_add_12 : decode prog_7_method_5_code 12 = .ok (.aload_n 0, 1) := by decide +kernel
theorem d_Rw_add_13 : decode prog_7_method_5_code 13 = .ok (.getfield 15, 3) := by decide +kernel
theorem d_Rw_add_16 : decode prog_7_method_5_code 16 = .ok (.aload_n 0, 1) := by decide +kernel
theorem d_Rw_add_17 : decode prog_7_method_5_code 17 = .ok (.getfield 21, 3) := by decide +kernel
theorem d_Rw_add_20 : decode prog_7_method_5_code 20 = .ok (.iload_n 1, 1) := by decide +kernel
theorem d_Rw_add_21 : decode prog_7_method_5_code 21 = .ok (.iastore, 1) := by decide +kernel
theorem d_Rw_add_22 : decode prog_7_method_5_code 22 = .ok (.aload_n 0, 1) := by decide +kernel
theorem d_Rw_add_23 : decode prog_7_method_5_code 23 = .ok (.dup, 1) := by decide +kernel
theorem d_Rw_add_24 : decode prog_7_method_5_code 24 = .ok (.getfield 21, 3) := by decide +kernel
theorem d_Rw_add_27 : decode prog_7_method_5_code 27 = .ok (.iconst 1, 1) := by decide +kernel
theorem d_Rw_add_28 : decode prog_7_method_5_code 28 = .ok (.iadd, 1) := by decide +kernel
theorem d_Rw_add_29 : decode prog_7_method_5_code 29 = .ok (.putfield 21, 3) := by decide +kernel
theorem d_Rw_add_32 : decode prog_7_method_5_code 32 = .ok (.return_, 1) := by decide +kernel
theorem d_Rw_addMany_0 : decode prog_7_method_6_code 0 = .ok (.iconst 0, 1) := by decide +kernel
theorem d_Rw_addMany_1 : decode prog_7_method_6_code 1 = .ok (.istore_n 3, 1) := by decide +kernel
theorem d_Rw_addMany_2 : decode prog_7_method_6_code 2 = .ok (.iload_n 3, 1) := by decide +kernel
theorem d_Rw_addMany_3 : decode prog_7_method_6_code 3 = .ok (.iload_n 1, 1) := by decide +kernel
theorem d_Rw_addMany_4 : decode prog_7_method_6_code 4 = .ok (.if_icmp .ge 14, 3) := by decide +kernel
theorem d_Rw_addMany_7 : decode prog_7_method_6_code 7 = .ok (.aload_n 0, 1) := by decide +kernel
theorem d_Rw_addMany_8 : decode prog_7_method_6_code 8 = .ok (.iload_n 2, 1) := by decide +kernel
theorem d_Rw_addMany_9 : decode prog_7_method_6_code 9 = .ok (.invokevirtual 25, 3) := by decide +kernel
theorem d_Rw_addMany_12 : decode prog_7_method_6_code 12 = .ok (.iinc 3 1, 3) := by decide +kernel
theorem d_Rw_addMany_15 : decode prog_7_method_6_code 15 = .ok (.goto (-13), 3) := by decide +kernel
theorem d_Rw_addMany_18 : decode prog_7_method_6_code 18 = .ok (.return_, 1) := by decide +kernel
theorem d_Rw_joinWith_0 : decode prog_7_method_7_code 0 = .ok (.aload_n 0, 1) := by decide +kernel
theorem d_Rw_joinWith_1 : decode prog_7_method_7_code 1 = .ok (.iload_n 1, 1) := by decide +kernel
theorem d_Rw_joinWith_2 : decode prog_7_method_7_code 2 = .ok (.invokevirtual 29, 3) := by decide +kernel
theorem d_Rw_joinWith_5 : decode prog_7_method_7_code 5 = .ok (.ifCond .eq 13, 3) := by decide +kernel
theorem d_Rw_joinWith_8 : decode prog_7_method_7_code 8 = .ok (.aload_n 0, 1) := by decide +kernel
theorem d_Rw_joinWith_9 : decode prog_7_method_7_code 9 = .ok (.getfield 15, 3) := by decide +kernel
theorem d_Rw_joinWith_12 : decode prog_7_method_7_code 12 = .ok (.iload_n 1, 1) := by decide +kernel
theorem d_Rw_joinWith_13 : decode prog_7_method_7_code 13 = .ok (.dup2, 1) := by decide +kernel
theorem d_Rw_joinWith_14 : decode prog_7_method_7_code 14 = .ok (.iaload, 1) := by decide +kernel
theorem d_Rw_joinWith_15 : decode prog_7_method_7_code 15 = .ok (.iload_n 2, 1) := by decide +kernel
theorem d_Rw_joinWith_16 : decode prog_7_method_7_code 16 = .ok (.ixor, 1) := by decide +kernel
theorem d_Rw_joinWith_17 : decode prog_7_method_7_code 17 = .ok (.iastore, 1) := by decide +kernel
theorem d_Rw_joinWith_18 : decode prog_7_method_7_code 18 = .ok (.return_, 1) := by decide +kernel
theorem d_Rw_shorten_0 : decode prog_7_method_8_code 0 = .ok (.iload_n 1, 1) := by decide +kernel
theorem d_Rw_shorten_1 : decode prog_7_method_8_code 1 = .ok (.ifCond .lt 16, 3) := by decide +kernel
theorem d_Rw_shorten_4 : decode prog_7_method_8_code 4 = .ok (.iload_n 1, 1) := by decide +kernel
theorem d_Rw_shorten_5 : decode prog_7_method_8_code 5 = .ok (.aload_n 0, 1) := by decide +kernel
theorem d_Rw_shorten_6 : decode prog_7_method_8_code 6 = .ok (.getfield 21, 3) := by decide +kernel
theorem d_Rw_shorten_9 : decode prog_7_method_8_code 9 = .ok (.if_icmp .ge 8, 3) := by decide +kernel
theorem d_Rw_shorten_12 : decode prog_7_method_8_code 12 = .ok (.aload_n 0, 1) := by decide +kernel
theorem d_Rw_shorten_13 : decode prog_7_method_8_code 13 = .ok (.iload_n 1, 1) := by decide +kernel
theorem d_Rw_shorten_14 : decode prog_7_method_8_code 14 = .ok (.putfield 21, 3) := by decide +kernel
theorem d_Rw_shorten_17 : decode prog_7_method_8_code 17 = .ok (.return_, 1) := by decide +kernel
theorem d_Rw_copyOf_0 : decode prog_7_method_9_code 0 = .ok (.aload_n 0, 1) := by decide +kernel
theorem d_Rw_copyOf_1 : decode prog_7_method_9_code 1 = .ok (.iconst 0, 1) := by decide +kernel
theorem d_Rw_copyOf_2 : decode prog_7_method_9_code 2 = .ok (.putfield 21, 3) := by decide +kernel
theorem d_Rw_copyOf_5 : decode prog_7_method_9_code 5 = .ok (.iconst 0, 1) := by decide +kernel
theorem d_Rw_copyOf_6 : decode prog_7_method_9_code 6 = .ok (.istore_n 2, 1) := by decide +kernel
theorem d_Rw_copyOf_7 : decode prog_7_method_9_code 7 = .ok (.iload_n 2, 1) := by decide +kernel
theorem d_Rw_copyOf_8 : decode prog_7_method_9_code 8 = .ok (.aload_n 1, 1) := by decide +kernel
theorem d_Rw_copyOf_9 : decode prog_7_method_9_code 9 = .ok (.getfield 21, 3) := by decide +kernel
theorem d_Rw_copyOf_12 : decode prog_7_method_9_code 12 = .ok (.if_icmp .ge 18, 3) := by decide +kernel
theorem d_Rw_copyOf_15 : decode prog_7_method_9_code 15 = .ok (.aload_n 0, 1) := by decide +kernel
theorem d_Rw_copyOf_16 : decode prog_7_method_9_code 16 = .ok (.aload_n 1, 1) := by decide +kernel
theorem d_Rw_copyOf_17 : decode prog_7_method_9_code 17 = .ok (.iload_n 2, 1) := by decide +kernel
theorem d_Rw_copyOf_18 : decode prog_7_method_9_code 18 = .ok (.invokevirtual 33, 3) := by decide +kernel
theorem d_Rw_copyOf_21 : decode prog_7_method_9_code 21 = .ok (.invokevirtual 25, 3) := by decide +kernel
theorem d_Rw_copyOf_24 : decode prog_7_method_9_code 24 = .ok (.iinc 2 1, 3) := by decide +kernel
theorem d_Rw_copyOf_27 : decode prog_7_method_9_code 27 = .ok (.goto (-20), 3) := by decide +kernel
theorem d_Rw_copyOf_30 : decode prog_7_method_9_code 30 = .ok (.return_, 1) := by decide +kernel
theorem d_Rw_isLike_0 : decode prog_7_method_10_code 0 = .ok (.aload_n 0, 1) := by decide +kernel
theorem d_Rw_isLike_1 : decode prog_7_method_10_code 1 = .ok (.getfield 21, 3) := by decide +kernel
theorem d_Rw_isLike_4 : decode prog_7_method_10_code 4 = .ok (.aload_n 1, 1) := by decide +kernel
theorem d_Rw_isLike_5 : decode prog_7_method_10_code 5 = .ok (.getfield 21, 3) := by decide +kernel
theorem d_Rw_isLike_8 : decode prog_7_method_10_code 8 = .ok (.if_icmp .eq 5, 3) := by decide +kernel
theorem d_Rw_isLike_11 : decode prog_7_method_10_code 11 = .ok (.iconst 0, 1) := by decide +kernel
theorem d_Rw_isLike_12 : decode prog_7_method_10_code 12 = .ok (.ireturn, 1) := by decide +kernel
theorem d_Rw_isLike_13 : decode prog_7_method_10_code 13 = .ok (.iconst 0, 1) := by decide +kernel
theorem d_Rw_isLike_14 : decode prog_7_method_10_code 14 = .ok (.istore_n 2, 1) := by decide +kernel
theorem d_Rw_isLike_15 : decode prog_7_method_10_code 15 = .ok (.iload_n 2, 1) := by decide +kernel
theorem d_Rw_isLike_16 : decode prog_7_method_10_code 16 = .ok (.aload_n 0, 1) := by decide +kernel
theorem d_Rw_isLike_17 : decode prog_7_method_10_code 17 = .ok (.getfield 21, 3) := by decide +kernel
theorem d_Rw_isLike_20 : decode prog_7_method_10_code 20 = .ok (.if_icmp .ge 24, 3) := by decide +kernel
theorem d_Rw_isLike_23 : decode prog_7_method_10_code 23 = .ok (.aload_n 0, 1) := by decide +kernel
theorem d_Rw_isLike_24 : decode prog_7_method_10_code 24 = .ok (.iload_n 2, 1) := by decide +kernel
theorem d_Rw_isLike_25 : decode prog_7_method_10_code 25 = .ok (.invokevirtual 33, 3) := by decide +kernel
theorem d_Rw_isLike_28 : decode prog_7_method_10_code 28 = .ok (.aload_n 1, 1) := by decide +kernel
theorem d_Rw_isLike_29 : decode prog_7_method_10_code 29 = .ok (.iload_n 2, 1) := by decide +kernel
theorem d_Rw_isLike_30 : decode prog_7_method_10_code 30 = .ok (.invokevirtual 33, 3) := by decide +kernel
theorem d_Rw_isLike_33 : decode prog_7_method_10_code 33 = .ok (.if_icmp .eq 5, 3) := by decide +kernel
theorem d_Rw_isLike_36 : decode prog_7_method_10_code 36 = .ok (.iconst 0, 1) := by decide +kernel
theorem d_Rw_isLike_37 : decode prog_7_method_10_code 37 = .ok (.ireturn, 1) := by decide +kernel
theorem d_Rw_isLike_38 : decode prog_7_method_10_code 38 = .ok (.iinc 2 1, 3) := by decide +kernel
theorem d_Rw_isLike_41 : decode prog_7_method_10_code 41 = .ok (.goto (-26), 3) := by decide +kernel
theorem d_Rw_isLike_44 : decode prog_7_method_10_code 44 = .ok (.iconst 1, 1) := by decide +kernel
theorem d_Rw_isLike_45 : decode prog_7_method_10_code 45 = .ok (.ireturn, 1) := by decide +kernel
theorem d_Sr_init_0 : decode prog_8_method_1_code 0 = .ok (.aload_n 0, 1) := by decide +kernel
theorem d_Sr_init_1 : decode prog_8_method_1_code 1 = .ok (.invokespecial 3, 3) := by decide +kernel
theorem d_Sr_init_4 : decode prog_8_method_1_code 4 = .ok (.aload_n 0, 1) := by decide +kernel
theorem d_Sr_init_5 : decode prog_8_method_1_code 5 = .ok (.new 9, 3) := by decide +kernel
theorem d_Sr_init_8 : decode prog_8_method_1_code 8 = .ok (.dup, 1) := by decide +kernel
theorem d_Sr_init_9 : decode prog_8_method_1_code 9 = .ok (.sipush 3000, 3) := by decide +kernel
theorem d_Sr_init_12 : decode prog_8_method_1_code 12 = .ok (.invokespecial 11, 3) := by decide +kernel
theorem d_Sr_init_15 : decode prog_8_method_1_code 15 = .ok (.putfield 14, 3) := by decide +kernel
theorem d_Sr_init_18 : decode prog_8_method_1_code 18 = .ok (.aload_n 0, 1) := by decide +kernel
theorem d_Sr_init_19 : decode prog_8_method_1_code 19 = .ok (.new 9, 3) := by decide +kernel
theorem d_Sr_init_22 : decode prog_8_method_1_code 22 = .ok (.dup, 1) := by decide +kernel
theorem d_Sr_init_23 : decode prog_8_method_1_code 23 = .ok (.sipush 900, 3) := by decide +kernel
theorem d_Sr_init_26 : decode prog_8_method_1_code 26 = .ok (.invokespecial 11, 3) := by decide +kernel
theorem d_Sr_init_29 : decode prog_8_method_1_code 29 = .ok (.putfield 20, 3) := by decide +kernel
theorem d_Sr_init_32 : decode prog_8_method_1_code 32 = .ok (.aload_n 0, 1) := by decide +kernel
theorem d_Sr_init_33 : decode prog_8_method_1_code 33 = .ok (.bipush (-2), 2) := by decide +kernel
theorem d_Sr_init_35 : decode prog_8_method_1_code 35 = .ok (.putfield 23, 3) := by decide +kernel
theorem d_Sr_init_38 : decode prog_8_method_1_code 38 = .ok (.return_, 1) := by decide +kernel
theorem d_Sr_readStream_0 : decode prog_8_method_2_code 0 = .ok (.aload_n 0, 1) := by decide +kernel
theorem d_Sr_readStream_1 : decode prog_8_method_2_code 1 = .ok (.iconst 0, 1) := by decide +kernel
theorem d_Sr_readStream_2 : decode prog_8_method_2_code 2 = .ok (.putfield 27, 3) := by decide +kernel
theorem d_Sr_readStream_5 : decode prog_8_method_2_code 5 = .ok (.aload_n 0, 1) := by decide +kernel
theorem d_Sr_readStream_6 : decode prog_8_method_2_code 6 = .ok (.iconst 0, 1) := by decide +kernel
theorem d_Sr_readStream_7 : decode prog_8_method_2_code 7 = .ok (.putfield 30, 3) := by decide +kernel
theorem d_Sr_readStream_10 : decode prog_8_method_2_code 10 = .ok (.aload_n 0, 1) := by decide +kernel
theorem d_Sr_readStream_11 : decode prog_8_method_2_code 11 = .ok (.bipush (-2), 2) := by decide +kernel
theorem d_Sr_readStream_13 : decode prog_8_method_2_code 13 = .ok (.putfield 23, 3) := by decide +kernel
theorem d_Sr_readStream_16 : decode prog_8_method_2_code 16 = .ok (.aload_n 0, 1) := by decide +kernel
theorem d_Sr_readStream_17 : decode prog_8_method_2_code 17 = .ok (.getfield 20, 3) := by decide +kernel
theorem d_Sr_readStream_20 : decode prog_8_method_2_code 20 = .ok (.iconst 0, 1) := by decide +kernel
theorem d_Sr_readStream_21 : decode prog_8_method_2_code 21 = .ok (.invokevirtual 33, 3) := by decide +kernel
theorem d_Sr_readStream_24 : decode prog_8_method_2_code 24 = .ok (.aload_n 1, 1) := by decide +kernel
theorem d_Sr_readStream_25 : decode prog_8_method_2_code 25 = .ok (.getfield 36, 3) := by decide +kernel
theorem d_Sr_readStream_28 : decode prog_8_method_2_code 28 = .ok (.getfield 42, 3) := by decide +kernel
theorem d_Sr_readStream_31 : decode prog_8_method_2_code 31 = .ok (.astore_n 2, 1) := by decide +kernel
theorem d_Sr_readStream_32 : decode prog_8_method_2_code 32 = .ok (.aload_n 1, 1) := by decide +kernel
theorem d_Sr_readStream_33 : decode prog_8_method_2_code 33 = .ok (.getfield 48, 3) := by decide +kernel
theorem d_Sr_readStream_36 : decode prog_8_method_2_code 36 = .ok (.astore_n 3, 1) := by decide +kernel
theorem d_Sr_readStream_37 : decode prog_8_method_2_code 37 = .ok (.aload_n 0, 1) := by decide +kernel
theorem d_Sr_readStream_38 : decode prog_8_method_2_code 38 = .ok (.invokevirtual 52, 3) := by decide +kernel
theorem d_Sr_readStream_41 : decode prog_8_method_2_code 41 = .ok (.ifCond .eq 60, 3) := by decide +kernel
theorem d_Sr_readStream_44 : decode prog_8_method_2_code 44 = .ok (.aload_n 0, 1) := by decide +kernel
theorem d_Sr_readStream_45 : decode prog_8_method_2_code 45 = .ok (.getfield 56, 3) := by decide +kernel
theorem d_Sr_readStream_48 : decode prog_8_method_2_code 48 = .ok (.ifCond .eq 34, 3) := by decide +kernel
theorem d_Sr_readStream_51 : decode prog_8_method_2_code 51 = .ok (.aload_n 0, 1) := by decide +kernel
theorem d_Sr_readStream_52 : decode prog_8_method_2_code 52 = .ok (.aload_n 2, 1) := by decide +kernel
theorem d_Sr_readStream_53 : decode prog_8_method_2_code 53 = .ok (.invokevirtual 59, 3) := by decide +kernel
theorem d_Sr_readStream_56 : decode prog_8_method_2_code 56 = .ok (.ifCond .eq 45, 3) := by decide +kernel
theorem d_Sr_readStream_59 : decode prog_8_method_2_code 59 = .ok (.aload_n 0, 1) := by decide +kernel
theorem d_Sr_readStream_60 : decode prog_8_method_2_code 60 = .ok (.aload_n 3, 1) := by decide +kernel
theorem d_Sr_readStream_61 : decode prog_8_method_2_code 61 = .ok (.aload_n 2, 1) := by decide +kernel
theorem d_Sr_readStream_62 : decode prog_8_method_2_code 62 = .ok (.getfield 63, 3) := by decide +kernel
theorem d_Sr_readStream_65 : decode prog_8_method_2_code 65 = .ok (.iconst 2, 1) := by decide +kernel
theorem d_Sr_readStream_66 : decode prog_8_method_2_code 66 = .ok (.iadd, 1) := by decide +kernel
theorem d_Sr_readStream_67 : decode prog_8_method_2_code 67 = .ok (.invokevirtual 68, 3) := by decide +kernel
theorem d_Sr_readStream_70 : decode prog_8_method_2_code 70 = .ok (.ifCond .eq 31, 3) := by decide +kernel
theorem d_Sr_readStream_73 : decode prog_8_method_2_code 73 = .ok (.aload_n 0, 1) := by decide +kernel
theorem d_Sr_readStream_74 : decode prog_8_method_2_code 74 = .ok (.aload_n 3, 1) := by decide +kernel
theorem d_Sr_readStream_75 : decode prog_8_method_2_code 75 = .ok (.aload_n 2, 1) := by decide +kernel
theorem d_Sr_readStream_76 : decode prog_8_method_2_code 76 = .ok (.invokevirtual 72, 3) := by decide +kernel
theorem d_Sr_readStream_79 : decode prog_8_method_2_code 79 = .ok (.ifCond .eq 22, 3) := by decide +kernel
theorem d_Sr_readStream_82 : decode prog_8_method_2_code 82 = .ok (.aload_n 0, 1) := by decide +kernel
theorem d_Sr_readStream_83 : decode prog_8_method_2_code 83 = .ok (.aload_n 1, 1) := by decide +kernel
theorem d_Sr_readStream_84 : decode prog_8_method_2_code 84 = .ok (.invokevirtual 76, 3) := by decide +kernel
theorem d_Sr_readStream_87 : decode prog_8_method_2_code 87 = .ok (.ifCond .eq 14, 3) := by decide +kernel
theorem d_Sr_readStream_90 : decode prog_8_method_2_code 90 = .ok (.aload_n 0, 1) := by decide +kernel
theorem d_Sr_readStream_91 : decode prog_8_method_2_code 91 = .ok (.invokevirtual 80, 3) := by decide +kernel
theorem d_Sr_readStream_94 : decode prog_8_method_2_code 94 = .ok (.ifCond .eq 7, 3) := by decide +kernel
theorem d_Sr_readStream_97 : decode prog_8_method_2_code 97 = .ok (.iconst 1, 1) := by decide +kernel
theorem d_Sr_readStream_98 : decode prog_8_method_2_code 98 = .ok (.goto 4, 3) := by decide +kernel
theorem d_Sr_readStream_101 : decode prog_8_method_2_code 101 = .ok (.iconst 0, 1) := by decide +kernel
theorem d_Sr_readStream_102 : decode prog_8_method_2_code 102 = .ok (.ireturn, 1) := by decide +kernel
theorem d_Sr_fails_0 : decode prog_8_method_3_code 0 = .ok (.aload_n 0, 1) := by decide +kernel
theorem d_Sr_fails_1 : decode prog_8_method_3_code 1 = .ok (.iload_n 1, 1) := by decide +kernel
theorem d_Sr_fails_2 : decode prog_8_method_3_code 2 = .ok (.putfield 30, 3) := by decide +kernel
theorem d_Sr_fails_5 : decode prog_8_method_3_code 5 = .ok (.aload_n 0, 1) := by decide +kernel
theorem d_Sr_fails_6 : decode prog_8_method_3_code 6 = .ok (.iload_n 2, 1) := by decide +kernel
theorem d_Sr_fails_7 : decode prog_8_method_3_code 7 = .ok (.putfield 23, 3) := by decide +kernel
theorem d_Sr_fails_10 : decode prog_8_method_3_code 10 = .ok (.iconst 0, 1) := by decide +kernel
theorem d_Sr_fails_11 : decode prog_8_method_3_code 11 = .ok (.ireturn, 1) := by decide +kernel
theorem d_Sr_tapeEnds_0 : decode prog_8_method_4_code 0 = .ok (.aload_n 0, 1) := by decide +kernel
theorem d_Sr_tapeEnds_1 : decode prog_8_method_4_code 1 = .ok (.iconst 1, 1) := by decide +kernel
theorem d_Sr_tapeEnds_2 : decode prog_8_method_4_code 2 = .ok (.aload_n 0, 1) := by decide +kernel
theorem d_Sr_tapeEnds_3 : decode prog_8_method_4_code 3 = .ok (.getfield 14, 3) := by decide +kernel
theorem d_Sr_tapeEnds_6 : decode prog_8_method_4_code 6 = .ok (.getfield 83, 3) := by decide +kernel
theorem d_Sr_tapeEnds_9 : decode prog_8_method_4_code 9 = .ok (.invokevirtual 84, 3) := by decide +kernel
theorem d_Sr_tapeEnds_12 : decode prog_8_method_4_code 12 = .ok (.ireturn, 1) := by decide +kernel
theorem d_Sr_lacks_0 : decode prog_8_method_5_code 0 = .ok (.iload_n 1, 1) := by decide +kernel
theorem d_Sr_lacks_1 : decode prog_8_method_5_code 1 = .ok (.bipush 8, 2) := by decide +kernel
theorem d_Sr_lacks_3 : decode prog_8_method_5_code 3 = .ok (.aload_n 0, 1) := by decide +kernel
theorem d_Sr_lacks_4 : decode prog_8_method_5_code 4 = .ok (.getfield 14, 3) := by decide +kernel
theorem d_Sr_lacks_7 : decode prog_8_method_5_code 7 = .ok (.getfield 83, 3) := by decide +kernel
theorem d_Sr_lacks_10 : decode prog_8_method_5_code 10 = .ok (.imul, 1) := by decide +kernel
theorem d_Sr_lacks_11 : decode prog_8_method_5_code 11 = .ok (.aload_n 0, 1) := by decide +kernel
theorem d_Sr_lacks_12 : decode prog_8_method_5_code 12 = .ok (.getfield 27, 3) := by decide +kernel
theorem d_Sr_lacks_15 : decode prog_8_method_5_code 15 = .ok (.isub, 1) := by decide +kernel
theorem d_Sr_lacks_16 : decode prog_8_method_5_code 16 = .ok (.if_icmp .le 7, 3) := by decide +kernel
theorem d_Sr_lacks_19 : decode prog_8_method_5_code 19 = .ok (.iconst 1, 1) := by decide +kernel
theorem d_Sr_lacks_20 : decode prog_8_method_5_code 20 = .ok (.goto 4, 3) := by decide +kernel
theorem d_Sr_lacks_23 : decode prog_8_method_5_code 23 = .ok (.iconst 0, 1) := by decide +kernel
theorem d_Sr_lacks_24 : decode prog_8_method_5_code 24 = .ok (.ireturn, 1) := by decide +kernel
theorem d_Sr_next_0 : decode prog_8_method_6_code 0 = .ok (.iconst 0, 1) := by decide +kernel
theorem d_Sr_next_1 : decode prog_8_method_6_code 1 = .ok (.istore_n 2, 1) := by decide +kernel
theorem d_Sr_next_2 : decode prog_8_method_6_code 2 = .ok (.iconst 0, 1) := by decide +kernel
theorem d_Sr_next_3 : decode prog_8_method_6_code 3 = .ok (.istore_n 3, 1) := by decide +kernel
theorem d_Sr_next_4 : decode prog_8_method_6_code 4 = .ok (.iload_n 3, 1) := by decide +kernel
theorem d_Sr_next_5 : decode prog_8_method_6_code 5 = .ok (.iload_n 1, 1) := by decide +kernel
theorem d_Sr_next_6 : decode prog_8_method_6_code 6 = .ok (.if_icmp .ge 56, 3) := by decide +kernel
theorem d_Sr_next_9 : decode prog_8_method_6_code 9 = .ok (.aload_n 0, 1) := by decide +kernel
theorem d_Sr_next_10 : decode prog_8_method_6_code 10 = .ok (.iconst 1, 1) := by decide +kernel
theorem d_Sr_next_11 : decode prog_8_method_6_code 11 = .ok (.invokevirtual 88, 3) := by decide +kernel
theorem d_Sr_next_14 : decode prog_8_method_6_code 14 = .ok (.ifCond .ne 48, 3) := by decide +kernel
theorem d_Sr_next_17 : decode prog_8_method_6_code 17 = .ok (.iload_n 2, 1) := by decide +kernel
theorem d_Sr_next_18 : decode prog_8_method_6_code 18 = .ok (.iconst 1, 1) := by decide +kernel
theorem d_Sr_next_19 : decode prog_8_method_6_code 19 = .ok (.ishl, 1) := by decide +kernel
theorem d_Sr_next_20 : decode prog_8_method_6_code 20 = .ok (.aload_n 0, 1) := by decide +kernel
theorem d_Sr_next_21 : decode prog_8_method_6_code 21 = .ok (.getfield 14, 3) := by decide +kernel
theorem d_Sr_next_24 : decode prog_8_method_6_code 24 = .ok (.aload_n 0, 1) := by decide +kernel
theorem d_Sr_next_25 : decode prog_8_method_6_code 25 = .ok (.invokevirtual 92, 3) := by decide +kernel
theorem d_Sr_next_28 : decode prog_8_method_6_code 28 = .ok (.invokevirtual 96, 3) := by decide +kernel
theorem d_Sr_next_31 : decode prog_8_method_6_code 31 = .ok (.bipush 7, 2) := by decide +kernel
theorem d_Sr_next_33 : decode prog_8_method_6_code 33 = .ok (.aload_n 0, 1) := by decide +kernel
theorem d_Sr_next_34 : decode prog_8_method_6_code 34 = .ok (.getfield 27, 3) := by decide +kernel
theorem d_Sr_next_37 : decode prog_8_method_6_code 37 = .ok (.bipush 8, 2) := by decide +kernel
theorem d_Sr_next_39 : decode prog_8_method_6_code 39 = .ok (.irem, 1) := by decide +kernel
theorem d_Sr_next_40 : decode prog_8_method_6_code 40 = .ok (.isub, 1) := by decide +kernel
theorem d_Sr_next_41 : decode prog_8_method_6_code 41 = .ok (.ishr, 1) := by decide +kernel
theorem d_Sr_next_42 : decode prog_8_method_6_code 42 = .ok (.iconst 1, 1) := by decide +kernel
theorem d_Sr_next_43 : decode prog_8_method_6_code 43 = .ok (.iand, 1) := by decide +kernel
theorem d_Sr_next_44 : decode prog_8_method_6_code 44 = .ok (.ior, 1) := by decide +kernel
theorem d_Sr_next_45 : decode prog_8_method_6_code 45 = .ok (.istore_n 2, 1) := by decide +kernel
theorem d_Sr_next_46 : decode prog_8_method_6_code 46 = .ok (.aload_n 0, 1) := by decide +kernel
theorem d_Sr_next_47 : decode prog_8_method_6_code 47 = .ok (.dup, 1) := by decide +kernel
theorem d_Sr_next_48 : decode prog_8_method_6_code 48 = .ok (.getfield 27, 3) := by decide +kernel
theorem d_Sr_next_51 : decode prog_8_method_6_code 51 = .ok (.iconst 1, 1) := by decide +kernel
theorem d_Sr_next_52 : decode prog_8_method_6_code 52 = .ok (.iadd, 1) := by decide +kernel
theorem d_Sr_next_53 : decode prog_8_method_6_code 53 = .ok (.putfield 27, 3) := by decide +kernel
theorem d_Sr_next_56 : decode prog_8_method_6_code 56 = .ok (.iinc 3 1, 3) := by decide +kernel
theorem d_Sr_next_59 : decode prog_8_method_6_code 59 = .ok (.goto (-55), 3) := by decide +kernel
theorem d_Sr_next_62 : decode prog_8_method_6_code 62 = .ok (.iload_n 2, 1) := by decide +kernel
theorem d_Sr_next_63 : decode prog_8_method_6_code 63 = .ok (.ireturn, 1) := by decide +kernel
end
section
theorem d_Sr_byteNow_0 : decode prog_8_method_7_code 0 = .ok (.aload_n 0, 1) := by decide +kernel
theorem d_Sr_byteNow_1 : decode prog_8_method_7_code 1 = .ok (.getfield 27, 3) := by decide +kernel
theorem d_Sr_byteNow_4 : decode prog_8_method_7_code 4 = .ok (.bipush 8, 2) := by decide +kernel
theorem d_Sr_byteNow_6 : decode prog_8_method_7_code 6 = .ok (.idiv, 1) := by decide +kernel
theorem d_Sr_byteNow_7 : decode prog_8_method_7_code 7 = .ok (.ireturn, 1) := by decide +kernel
theorem d_Sr_readHead_0 : decode prog_8_method_8_code 0 = .ok (.aload_n 0, 1) := by decide +kernel
theorem d_Sr_readHead_1 : decode prog_8_method_8_code 1 = .ok (.bipush 16, 2) := by decide +kernel
theorem d_Sr_readHead_3 : decode prog_8_method_8_code 3 = .ok (.invokevirtual 88, 3) := by decide +kernel
theorem d_Sr_readHead_6 : decode prog_8_method_8_code 6 = .ok (.ifCond .eq 8, 3) := by decide +kernel
theorem d_Sr_readHead_9 : decode prog_8_method_8_code 9 = .ok (.aload_n 0, 1) := by decide +kernel
theorem d_Sr_readHead_10 : decode prog_8_method_8_code 10 = .ok (.invokevirtual 100, 3) := by decide +kernel
theorem d_Sr_readHead_13 : decode prog_8_method_8_code 13 = .ok (.ireturn, 1) := by decide +kernel
theorem d_Sr_readHead_14 : decode prog_8_method_8_code 14 = .ok (.aload_n 0, 1) := by decide +kernel
theorem d_Sr_readHead_15 : decode prog_8_method_8_code 15 = .ok (.bipush 16, 2) := by decide +kernel
theorem d_Sr_readHead_17 : decode prog_8_method_8_code 17 = .ok (.invokevirtual 103, 3) := by decide +kernel
theorem d_Sr_readHead_20 : decode prog_8_method_8_code 20 = .ok (.sipush 21332, 3) := by decide +kernel
theorem d_Sr_readHead_23 : decode prog_8_method_8_code 23 = .ok (.if_icmp .eq 10, 3) := by decide +kernel
theorem d_Sr_readHead_26 : decode prog_8_method_8_code 26 = .ok (.aload_n 0, 1) := by decide +kernel
theorem d_Sr_readHead_27 : decode prog_8_method_8_code 27 = .ok (.iconst 2, 1) := by decide +kernel
theorem d_Sr_readHead_28 : decode prog_8_method_8_code 28 = .ok (.iconst 0, 1) := by decide +kernel
theorem d_Sr_readHead_29 : decode prog_8_method_8_code 29 = .ok (.invokevirtual 84, 3) := by decide +kernel
theorem d_Sr_readHead_32 : decode prog_8_method_8_code 32 = .ok (.ireturn, 1) := by decide +kernel
theorem d_Sr_readHead_33 : decode prog_8_method_8_code 33 = .ok (.aload_n 0, 1) := by decide +kernel
theorem d_Sr_readHead_34 : decode prog_8_method_8_code 34 = .ok (.bipush 16, 2) := by decide +kernel
theorem d_Sr_readHead_36 : decode prog_8_method_8_code 36 = .ok (.invokevirtual 88, 3) := by decide +kernel
theorem d_Sr_readHead_39 : decode prog_8_method_8_code 39 = .ok (.ifCond .eq 8, 3) := by decide +kernel
theorem d_Sr_readHead_42 : decode prog_8_method_8_code 42 = .ok (.aload_n 0, 1) := by decide +kernel
theorem d_Sr_readHead_43 : decode prog_8_method_8_code 43 = .ok (.invokevirtual 100, 3) := by decide +kernel
theorem d_Sr_readHead_46 : decode prog_8_method_8_code 46 = .ok (.ireturn, 1) := by decide +kernel
theorem d_Sr_readHead_47 : decode prog_8_method_8_code 47 = .ok (.aload_n 0, 1) := by decide +kernel
theorem d_Sr_readHead_48 : decode prog_8_method_8_code 48 = .ok (.aload_n 0, 1) := by decide +kernel
theorem d_Sr_readHead_49 : decode prog_8_method_8_code 49 = .ok (.bipush 16, 2) := by decide +kernel
theorem d_Sr_readHead_51 : decode prog_8_method_8_code 51 = .ok (.invokevirtual 103, 3) := by decide +kernel
theorem d_Sr_readHead_54 : decode prog_8_method_8_code 54 = .ok (.putfield 56, 3) := by decide +kernel
theorem d_Sr_readHead_57 : decode prog_8_method_8_code 57 = .ok (.aload_n 0, 1) := by decide +kernel
theorem d_Sr_readHead_58 : decode prog_8_method_8_code 58 = .ok (.getfield 56, 3) := by decide +kernel
theorem d_Sr_readHead_61 : decode prog_8_method_8_code 61 = .ok (.sipush 900, 3) := by decide +kernel
theorem d_Sr_readHead_64 : decode prog_8_method_8_code 64 = .ok (.if_icmp .le 10, 3) := by decide +kernel
theorem d_Sr_readHead_67 : decode prog_8_method_8_code 67 = .ok (.aload_n 0, 1) := by decide +kernel
theorem d_Sr_readHead_68 : decode prog_8_method_8_code 68 = .ok (.iconst 3, 1) := by decide +kernel
theorem d_Sr_readHead_69 : decode prog_8_method_8_code 69 = .ok (.iconst 2, 1) := by decide +kernel
theorem d_Sr_readHead_70 : decode prog_8_method_8_code 70 = .ok (.invokevirtual 84, 3) := by decide +kernel
theorem d_Sr_readHead_73 : decode prog_8_method_8_code 73 = .ok (.ireturn, 1) := by decide +kernel
theorem d_Sr_readHead_74 : decode prog_8_method_8_code 74 = .ok (.aload_n 0, 1) := by decide +kernel
theorem d_Sr_readHead_75 : decode prog_8_method_8_code 75 = .ok (.bipush 16, 2) := by decide +kernel
theorem d_Sr_readHead_77 : decode prog_8_method_8_code 77 = .ok (.invokevirtual 88, 3) := by decide +kernel
theorem d_Sr_readHead_80 : decode prog_8_method_8_code 80 = .ok (.ifCond .eq 8, 3) := by decide +kernel
theorem d_Sr_readHead_83 : decode prog_8_method_8_code 83 = .ok (.aload_n 0, 1) := by decide +kernel
theorem d_Sr_readHead_84 : decode prog_8_method_8_code 84 = .ok (.invokevirtual 100, 3) := by decide +kernel
theorem d_Sr_readHead_87 : decode prog_8_method_8_code 87 = .ok (.ireturn, 1) := by decide +kernel
theorem d_Sr_readHead_88 : decode prog_8_method_8_code 88 = .ok (.aload_n 0, 1) := by decide +kernel
theorem d_Sr_readHead_89 : decode prog_8_method_8_code 89 = .ok (.aload_n 0, 1) := by decide +kernel
theorem d_Sr_readHead_90 : decode prog_8_method_8_code 90 = .ok (.bipush 16, 2) := by decide +kernel
theorem d_Sr_readHead_92 : decode prog_8_method_8_code 92 = .ok (.invokevirtual 103, 3) := by decide +kernel
theorem d_Sr_readHead_95 : decode prog_8_method_8_code 95 = .ok (.putfield 106, 3) := by decide +kernel
theorem d_Sr_readHead_98 : decode prog_8_method_8_code 98 = .ok (.aload_n 0, 1) := by decide +kernel
theorem d_Sr_readHead_99 : decode prog_8_method_8_code 99 = .ok (.getfield 106, 3) := by decide +kernel
theorem d_Sr_readHead_102 : decode prog_8_method_8_code 102 = .ok (.ifCond .eq 21, 3) := by decide +kernel
theorem d_Sr_readHead_105 : decode prog_8_method_8_code 105 = .ok (.aload_n 0, 1) := by decide +kernel
theorem d_Sr_readHead_106 : decode prog_8_method_8_code 106 = .ok (.getfield 106, 3) := by decide +kernel
theorem d_Sr_readHead_109 : decode prog_8_method_8_code 109 = .ok (.aload_n 0, 1) := by decide +kernel
theorem d_Sr_readHead_110 : decode prog_8_method_8_code 110 = .ok (.getfield 56, 3) := by decide +kernel
theorem d_Sr_readHead_113 : decode prog_8_method_8_code 113 = .ok (.if_icmp .lt 10, 3) := by decide +kernel
theorem d_Sr_readHead_116 : decode prog_8_method_8_code 116 = .ok (.aload_n 0, 1) := by decide +kernel
theorem d_Sr_readHead_117 : decode prog_8_method_8_code 117 = .ok (.iconst 4, 1) := by decide +kernel
theorem d_Sr_readHead_118 : decode prog_8_method_8_code 118 = .ok (.iconst 4, 1) := by decide +kernel
theorem d_Sr_readHead_119 : decode prog_8_method_8_code 119 = .ok (.invokevirtual 84, 3) := by decide +kernel
theorem d_Sr_readHead_122 : decode prog_8_method_8_code 122 = .ok (.ireturn, 1) := by decide +kernel
theorem d_Sr_readHead_123 : decode prog_8_method_8_code 123 = .ok (.aload_n 0, 1) := by decide +kernel
theorem d_Sr_readHead_124 : decode prog_8_method_8_code 124 = .ok (.bipush 32, 2) := by decide +kernel
theorem d_Sr_readHead_126 : decode prog_8_method_8_code 126 = .ok (.invokevirtual 88, 3) := by decide +kernel
theorem d_Sr_readHead_129 : decode prog_8_method_8_code 129 = .ok (.ifCond .eq 8, 3) := by decide +kernel
theorem d_Sr_readHead_132 : decode prog_8_method_8_code 132 = .ok (.aload_n 0, 1) := by decide +kernel
theorem d_Sr_readHead_133 : decode prog_8_method_8_code 133 = .ok (.invokevirtual 100, 3) := by decide +kernel
theorem d_Sr_readHead_136 : decode prog_8_method_8_code 136 = .ok (.ireturn, 1) := by decide +kernel
theorem d_Sr_readHead_137 : decode prog_8_method_8_code 137 = .ok (.aload_n 0, 1) := by decide +kernel
theorem d_Sr_readHead_138 : decode prog_8_method_8_code 138 = .ok (.aload_n 0, 1) := by decide +kernel
theorem d_Sr_readHead_139 : decode prog_8_method_8_code 139 = .ok (.bipush 32, 2) := by decide +kernel
theorem d_Sr_readHead_141 : decode prog_8_method_8_code 141 = .ok (.invokevirtual 103, 3) := by decide +kernel
theorem d_Sr_readHead_144 : decode prog_8_method_8_code 144 = .ok (.putfield 109, 3) := by decide +kernel
theorem d_Sr_readHead_147 : decode prog_8_method_8_code 147 = .ok (.iconst 1, 1) := by decide +kernel
theorem d_Sr_readHead_148 : decode prog_8_method_8_code 148 = .ok (.ireturn, 1) := by decide +kernel
theorem d_Sr_readList_0 : decode prog_8_method_9_code 0 = .ok (.aload_n 1, 1) := by decide +kernel
theorem d_Sr_readList_1 : decode prog_8_method_9_code 1 = .ok (.invokevirtual 112, 3) := by decide +kernel
theorem d_Sr_readList_4 : decode prog_8_method_9_code 4 = .ok (.aload_n 0, 1) := by decide +kernel
theorem d_Sr_readList_5 : decode prog_8_method_9_code 5 = .ok (.invokevirtual 92, 3) := by decide +kernel
theorem d_Sr_readList_8 : decode prog_8_method_9_code 8 = .ok (.istore_n 2, 1) := by decide +kernel
theorem d_Sr_readList_9 : decode prog_8_method_9_code 9 = .ok (.aload_n 0, 1) := by decide +kernel
theorem d_Sr_readList_10 : decode prog_8_method_9_code 10 = .ok (.bipush 16, 2) := by decide +kernel
theorem d_Sr_readList_12 : decode prog_8_method_9_code 12 = .ok (.invokevirtual 88, 3) := by decide +kernel
theorem d_Sr_readList_15 : decode prog_8_method_9_code 15 = .ok (.ifCond .eq 8, 3) := by decide +kernel
theorem d_Sr_readList_18 : decode prog_8_method_9_code 18 = .ok (.aload_n 0, 1) := by decide +kernel
theorem d_Sr_readList_19 : decode prog_8_method_9_code 19 = .ok (.invokevirtual 100, 3) := by decide +kernel
theorem d_Sr_readList_22 : decode prog_8_method_9_code 22 = .ok (.ireturn, 1) := by decide +kernel
theorem d_Sr_readList_23 : decode prog_8_method_9_code 23 = .ok (.aload_n 0, 1) := by decide +kernel
theorem d_Sr_readList_24 : decode prog_8_method_9_code 24 = .ok (.bipush 16, 2) := by decide +kernel
theorem d_Sr_readList_26 : decode prog_8_method_9_code 26 = .ok (.invokevirtual 103, 3) := by decide +kernel
theorem d_Sr_readList_29 : decode prog_8_method_9_code 29 = .ok (.istore_n 3, 1) := by decide +kernel
theorem d_Sr_readList_30 : decode prog_8_method_9_code 30 = .ok (.iload_n 3, 1) := by decide +kernel
theorem d_Sr_readList_31 : decode prog_8_method_9_code 31 = .ok (.ifCond .ne 10, 3) := by decide +kernel
theorem d_Sr_readList_34 : decode prog_8_method_9_code 34 = .ok (.aload_n 0, 1) := by decide +kernel
theorem d_Sr_readList_35 : decode prog_8_method_9_code 35 = .ok (.iconst 5, 1) := by decide +kernel
theorem d_Sr_readList_36 : decode prog_8_method_9_code 36 = .ok (.iload_n 2, 1) := by decide +kernel
theorem d_Sr_readList_37 : decode prog_8_method_9_code 37 = .ok (.invokevirtual 84, 3) := by decide +kernel
theorem d_Sr_readList_40 : decode prog_8_method_9_code 40 = .ok (.ireturn, 1) := by decide +kernel
theorem d_Sr_readList_41 : decode prog_8_method_9_code 41 = .ok (.iconst 0, 1) := by decide +kernel
theorem d_Sr_readList_42 : decode prog_8_method_9_code 42 = .ok (.istore 4, 2) := by decide +kernel
theorem d_Sr_readList_44 : decode prog_8_method_9_code 44 = .ok (.iload 4, 2) := by decide +kernel
theorem d_Sr_readList_46 : decode prog_8_method_9_code 46 = .ok (.bipush 16, 2) := by decide +kernel
theorem d_Sr_readList_48 : decode prog_8_method_9_code 48 = .ok (.if_icmp .ge 30, 3) := by decide +kernel
theorem d_Sr_readList_51 : decode prog_8_method_9_code 51 = .ok (.iload_n 3, 1) := by decide +kernel
theorem d_Sr_readList_52 : decode prog_8_method_9_code 52 = .ok (.iload 4, 2) := by decide +kernel
theorem d_Sr_readList_54 : decode prog_8_method_9_code 54 = .ok (.invokestatic 115, 3) := by decide +kernel
theorem d_Sr_readList_57 : decode prog_8_method_9_code 57 = .ok (.ifCond .eq 15, 3) := by decide +kernel
theorem d_Sr_readList_60 : decode prog_8_method_9_code 60 = .ok (.aload_n 0, 1) := by decide +kernel
theorem d_Sr_readList_61 : decode prog_8_method_9_code 61 = .ok (.aload_n 1, 1) := by decide +kernel
theorem d_Sr_readList_62 : decode prog_8_method_9_code 62 = .ok (.iload 4, 2) := by decide +kernel
theorem d_Sr_readList_64 : decode prog_8_method_9_code 64 = .ok (.invokevirtual 118, 3) := by decide +kernel
theorem d_Sr_readList_67 : decode prog_8_method_9_code 67 = .ok (.ifCond .ne 5, 3) := by decide +kernel
theorem d_Sr_readList_70 : decode prog_8_method_9_code 70 = .ok (.iconst 0, 1) := by decide +kernel
theorem d_Sr_readList_71 : decode prog_8_method_9_code 71 = .ok (.ireturn, 1) := by decide +kernel
theorem d_Sr_readList_72 : decode prog_8_method_9_code 72 = .ok (.iinc 4 1, 3) := by decide +kernel
theorem d_Sr_readList_75 : decode prog_8_method_9_code 75 = .ok (.goto (-31), 3) := by decide +kernel
theorem d_Sr_readList_78 : decode prog_8_method_9_code 78 = .ok (.iconst 1, 1) := by decide +kernel
theorem d_Sr_readList_79 : decode prog_8_method_9_code 79 = .ok (.ireturn, 1) := by decide +kernel
theorem d_Sr_readSixteenth_0 : decode prog_8_method_10_code 0 = .ok (.aload_n 0, 1) := by decide +kernel
theorem d_Sr_readSixteenth_1 : decode prog_8_method_10_code 1 = .ok (.invokevirtual 92, 3) := by decide +kernel
theorem d_Sr_readSixteenth_4 : decode prog_8_method_10_code 4 = .ok (.istore_n 3, 1) := by decide +kernel
theorem d_Sr_readSixteenth_5 : decode prog_8_method_10_code 5 = .ok (.aload_n 0, 1) := by decide +kernel
theorem d_Sr_readSixteenth_6 : decode prog_8_method_10_code 6 = .ok (.bipush 16, 2) := by decide +kernel
theorem d_Sr_readSixteenth_8 : decode prog_8_method_10_code 8 = .ok (.invokevirtual 88, 3) := by decide +kernel
theorem d_Sr_readSixteenth_11 : decode prog_8_method_10_code 11 = .ok (.ifCond .eq 8, 3) := by decide +kernel
theorem d_Sr_readSixteenth_14 : decode prog_8_method_10_code 14 = .ok (.aload_n 0, 1) := by decide +kernel
theorem d_Sr_readSixteenth_15 : decode prog_8_method_10_code 15 = .ok (.invokevirtual 100, 3) := by decide +kernel
theorem d_Sr_readSixteenth_18 : decode prog_8_method_10_code 18 = .ok (.ireturn, 1) := by decide +kernel
theorem d_Sr_readSixteenth_19 : decode prog_8_method_10_code 19 = .ok (.aload_n 0, 1) := by decide +kernel
theorem d_Sr_readSixteenth_20 : decode prog_8_method_10_code 20 = .ok (.bipush 16, 2) := by decide +kernel
theorem d_Sr_readSixteenth_22 : decode prog_8_method_10_code 22 = .ok (.invokevirtual 103, 3) := by decide +kernel
theorem d_Sr_readSixteenth_25 : decode prog_8_method_10_code 25 = .ok (.istore 4, 2) := by decide +kernel
theorem d_Sr_readSixteenth_27 : decode prog_8_method_10_code 27 = .ok (.iload 4, 2) := by decide +kernel
theorem d_Sr_readSixteenth_29 : decode prog_8_method_10_code 29 = .ok (.ifCond .ne 10, 3) := by decide +kernel
theorem d_Sr_readSixteenth_32 : decode prog_8_method_10_code 32 = .ok (.aload_n 0, 1) := by decide +kernel
theorem d_Sr_readSixteenth_33 : decode prog_8_method_10_code 33 = .ok (.iconst 5, 1) := by decide +kernel
theorem d_Sr_readSixteenth_34 : decode prog_8_method_10_code 34 = .ok (.iload_n 3, 1) := by decide +kernel
theorem d_Sr_readSixteenth_35 : decode prog_8_method_10_code 35 = .ok (.invokevirtual 84, 3) := by decide +kernel
theorem d_Sr_readSixteenth_38 : decode prog_8_method_10_code 38 = .ok (.ireturn, 1) := by decide +kernel
theorem d_Sr_readSixteenth_39 : decode prog_8_method_10_code 39 = .ok (.iconst 0, 1) := by decide +kernel
theorem d_Sr_readSixteenth_40 : decode prog_8_method_10_code 40 = .ok (.istore 5, 2) := by decide +kernel
theorem d_Sr_readSixteenth_42 : decode prog_8_method_10_code 42 = .ok (.iload 5, 2) := by decide +kernel
theorem d_Sr_readSixteenth_44 : decode prog_8_method_10_code 44 = .ok (.bipush 16, 2) := by decide +kernel
theorem d_Sr_readSixteenth_46 : decode prog_8_method_10_code 46 = .ok (.if_icmp .ge 30, 3) := by decide +kernel
theorem d_Sr_readSixteenth_49 : decode prog_8_method_10_code 49 = .ok (.iload 4, 2) := by decide +kernel
theorem d_Sr_readSixteenth_51 : decode prog_8_method_10_code 51 = .ok (.iload 5, 2) := by decide +kernel
theorem d_Sr_readSixteenth_53 : decode prog_8_method_10_code 53 = .ok (.invokestatic 115, 3) := by decide +kernel
theorem d_Sr_readSixteenth_56 : decode prog_8_method_10_code 56 = .ok (.ifCond .eq 14, 3) := by decide +kernel
theorem d_Sr_readSixteenth_59 : decode prog_8_method_10_code 59 = .ok (.aload_n 1, 1) := by decide +kernel
theorem d_Sr_readSixteenth_60 : decode prog_8_method_10_code 60 = .ok (.bipush 16, 2) := by decide +kernel
theorem d_Sr_readSixteenth_62 : decode prog_8_method_10_code 62 = .ok (.iload_n 2, 1) := by decide +kernel
theorem d_Sr_readSixteenth_63 : decode prog_8_method_10_code 63 = .ok (.imul, 1) := by decide +kernel
theorem d_Sr_readSixteenth_64 : decode prog_8_method_10_code 64 = .ok (.iload 5, 2) := by decide +kernel
theorem d_Sr_readSixteenth_66 : decode prog_8_method_10_code 66 = .ok (.iadd, 1) := by decide +kernel
theorem d_Sr_readSixteenth_67 : decode prog_8_method_10_code 67 = .ok (.invokevirtual 122, 3) := by decide +kernel
theorem d_Sr_readSixteenth_70 : decode prog_8_method_10_code 70 = .ok (.iinc 5 1, 3) := by decide +kernel
theorem d_Sr_readSixteenth_73 : decode prog_8_method_10_code 73 = .ok (.goto (-31), 3) := by decide +kernel
theorem d_Sr_readSixteenth_76 : decode prog_8_method_10_code 76 = .ok (.iconst 1, 1) := by decide +kernel
theorem d_Sr_readSixteenth_77 : decode prog_8_method_10_code 77 = .ok (.ireturn, 1) := by decide +kernel
theorem d_Sr_isMarked_0 : decode prog_8_method_11_code 0 = .ok (.iload_n 0, 1) := by decide +kernel
theorem d_Sr_isMarked_1 : decode prog_8_method_11_code 1 = .ok (.bipush 15, 2) := by decide +kernel
theorem d_Sr_isMarked_3 : decode prog_8_method_11_code 3 = .ok (.iload_n 1, 1) := by decide +kernel
theorem d_Sr_isMarked_4 : decode prog_8_method_11_code 4 = .ok (.isub, 1) := by decide +kernel
theorem d_Sr_isMarked_5 : decode prog_8_method_11_code 5 = .ok (.ishr, 1) := by decide +kernel
theorem d_Sr_isMarked_6 : decode prog_8_method_11_code 6 = .ok (.iconst 1, 1) := by decide +kernel
theorem d_Sr_isMarked_7 : decode prog_8_method_11_code 7 = .ok (.iand, 1) := by decide +kernel
theorem d_Sr_isMarked_8 : decode prog_8_method_11_code 8 = .ok (.iconst 1, 1) := by decide +kernel
theorem d_Sr_isMarked_9 : decode prog_8_method_11_code 9 = .ok (.if_icmp .ne 7, 3) := by decide +kernel
theorem d_Sr_isMarked_12 : decode prog_8_method_11_code 12 = .ok (.iconst 1, 1) := by decide +kernel
theorem d_Sr_isMarked_13 : decode prog_8_method_11_code 13 = .ok (.goto 4, 3) := by decide +kernel
theorem d_Sr_isMarked_16 : decode prog_8_method_11_code 16 = .ok (.iconst 0, 1) := by decide +kernel
theorem d_Sr_isMarked_17 : decode prog_8_method_11_code 17 = .ok (.ireturn, 1) := by decide +kernel
theorem d_Sr_readLengths_0 : decode prog_8_method_12_code 0 = .ok (.aload_n 0, 1) := by decide +kernel
theorem d_Sr_readLengths_1 : decode prog_8_method_12_code 1 = .ok (.invokevirtual 92, 3) := by decide +kernel
theorem d_Sr_readLengths_4 : decode prog_8_method_12_code 4 = .ok (.istore_n 3, 1) := by decide +kernel
theorem d_Sr_readLengths_5 : decode prog_8_method_12_code 5 = .ok (.aload_n 0, 1) := by decide +kernel
theorem d_Sr_readLengths_6 : decode prog_8_method_12_code 6 = .ok (.iconst 4, 1) := by decide +kernel
theorem d_Sr_readLengths_7 : decode prog_8_method_12_code 7 = .ok (.invokevirtual 88, 3) := by decide +kernel
theorem d_Sr_readLengths_10 : decode prog_8_method_12_code 10 = .ok (.ifCond .eq 8, 3) := by decide +kernel
theorem d_Sr_readLengths_13 : decode prog_8_method_12_code 13 = .ok (.aload_n 0, 1) := by decide +kernel
theorem d_Sr_readLengths_14 : decode prog_8_method_12_code 14 = .ok (.invokevirtual 100, 3) := by decide +kernel
theorem d_Sr_readLengths_17 : decode prog_8_method_12_code 17 = .ok (.ireturn, 1) := by decide +kernel
theorem d_Sr_readLengths_18 : decode prog_8_method_12_code 18 = .ok (.aload_n 0, 1) := by decide +kernel
theorem d_Sr_readLengths_19 : decode prog_8_method_12_code 19 = .ok (.aload_n 0, 1) := by decide +kernel
theorem d_Sr_readLengths_20 : decode prog_8_method_12_code 20 = .ok (.iconst 4, 1) := by decide +kernel
theorem d_Sr_readLengths_21 : decode prog_8_method_12_code 21 = .ok (.invokevirtual 103, 3) := by decide +kernel
theorem d_Sr_readLengths_24 : decode prog_8_method_12_code 24 = .ok (.putfield 125, 3) := by decide +kernel
theorem d_Sr_readLengths_27 : decode prog_8_method_12_code 27 = .ok (.aload_n 0, 1) := by decide +kernel
theorem d_Sr_readLengths_28 : decode prog_8_method_12_code 28 = .ok (.getfield 125, 3) := by decide +kernel
theorem d_Sr_readLengths_31 : decode prog_8_method_12_code 31 = .ok (.invokestatic 128, 3) := by decide +kernel
theorem d_Sr_readLengths_34 : decode prog_8_method_12_code 34 = .ok (.ifCond .eq 11, 3) := by decide +kernel
theorem d_Sr_readLengths_37 : decode prog_8_method_12_code 37 = .ok (.aload_n 0, 1) := by decide +kernel
theorem d_Sr_readLengths_38 : decode prog_8_method_12_code 38 = .ok (.bipush 6, 2) := by decide +kernel
theorem d_Sr_readLengths_40 : decode prog_8_method_12_code 40 = .ok (.iload_n 3, 1) := by decide +kernel
theorem d_Sr_readLengths_41 : decode prog_8_method_12_code 41 = .ok (.invokevirtual 84, 3) := by decide +kernel
theorem d_Sr_readLengths_44 : decode prog_8_method_12_code 44 = .ok (.ireturn, 1) := by decide +kernel
theorem d_Sr_readLengths_45 : decode prog_8_method_12_code 45 = .ok (.aload_n 1, 1) := by decide +kernel
theorem d_Sr_readLengths_46 : decode prog_8_method_12_code 46 = .ok (.iload_n 2, 1) := by decide +kernel
theorem d_Sr_readLengths_47 : decode prog_8_method_12_code 47 = .ok (.invokevirtual 131, 3) := by decide +kernel
theorem d_Sr_readLengths_50 : decode prog_8_method_12_code 50 = .ok (.iconst 0, 1) := by decide +kernel
theorem d_Sr_readLengths_51 : decode prog_8_method_12_code 51 = .ok (.istore 4, 2) := by decide +kernel
theorem d_Sr_readLengths_53 : decode prog_8_method_12_code 53 = .ok (.iload 4, 2) := by decide +kernel
theorem d_Sr_readLengths_55 : decode prog_8_method_12_code 55 = .ok (.iload_n 2, 1) := by decide +kernel
theorem d_Sr_readLengths_56 : decode prog_8_method_12_code 56 = .ok (.if_icmp .ge 21, 3) := by decide +kernel
theorem d_Sr_readLengths_59 : decode prog_8_method_12_code 59 = .ok (.aload_n 0, 1) := by decide +kernel
theorem d_Sr_readLengths_60 : decode prog_8_method_12_code 60 = .ok (.aload_n 1, 1) := by decide +kernel
theorem d_Sr_readLengths_61 : decode prog_8_method_12_code 61 = .ok (.iload 4, 2) := by decide +kernel
theorem d_Sr_readLengths_63 : decode prog_8_method_12_code 63 = .ok (.invokevirtual 136, 3) := by decide +kernel
theorem d_Sr_readLengths_66 : decode prog_8_method_12_code 66 = .ok (.ifCond .ne 5, 3) := by decide +kernel
theorem d_Sr_readLengths_69 : decode prog_8_method_12_code 69 = .ok (.iconst 0, 1) := by decide +kernel
theorem d_Sr_readLengths_70 : decode prog_8_method_12_code 70 = .ok (.ireturn, 1) := by decide +kernel
theorem d_Sr_readLengths_71 : decode prog_8_method_12_code 71 = .ok (.iinc 4 1, 3) := by decide +kernel
theorem d_Sr_readLengths_74 : decode prog_8_method_12_code 74 = .ok (.goto (-21), 3) := by decide +kernel
theorem d_Sr_readLengths_77 : decode prog_8_method_12_code 77 = .ok (.aload_n 1, 1) := by decide +kernel
theorem d_Sr_readLengths_78 : decode prog_8_method_12_code 78 = .ok (.invokevirtual 139, 3) := by decide +kernel
theorem d_Sr_readLengths_81 : decode prog_8_method_12_code 81 = .ok (.aload_n 1, 1) := by decide +kernel
theorem d_Sr_readLengths_82 : decode prog_8_method_12_code 82 = .ok (.invokevirtual 142, 3) := by decide +kernel
theorem d_Sr_readLengths_85 : decode prog_8_method_12_code 85 = .ok (.ifCond .ne 13, 3) := by decide +kernel
theorem d_Sr_readLengths_88 : decode prog_8_method_12_code 88 = .ok (.aload_n 0, 1) := by decide +kernel
theorem d_Sr_readLengths_89 : decode prog_8_method_12_code 89 = .ok (.bipush 7, 2) := by decide +kernel
theorem d_Sr_readLengths_91 : decode prog_8_method_12_code 91 = .ok (.iload_n 3, 1) := by decide +kernel
theorem d_Sr_readLengths_92 : decode prog_8_method_12_code 92 = .ok (.invokevirtual 84, 3) := by decide +kernel
theorem d_Sr_readLengths_95 : decode prog_8_method_12_code 95 = .ok (.ifCond .eq 7, 3) := by decide +kernel
theorem d_Sr_readLengths_98 : decode prog_8_method_12_code 98 = .ok (.iconst 1, 1) := by decide +kernel
theorem d_Sr_readLengths_99 : decode prog_8_method_12_code 99 = .ok (.goto 4, 3) := by decide +kernel
theorem d_Sr_readLengths_102 : decode prog_8_method_12_code 102 = .ok (.iconst 0, 1) := by decide +kernel
theorem d_Sr_readLengths_103 : decode prog_8_method_12_code 103 = .ok (.ireturn, 1) := by decide +kernel
theorem d_Sr_readLength_0 : decode prog_8_method_13_code 0 = .ok (.aload_n 0, 1) := by decide +kernel
theorem d_Sr_readLength_1 : decode prog_8_method_13_code 1 = .ok (.invokevirtual 92, 3) := by decide +kernel
theorem d_Sr_readLength_4 : decode prog_8_method_13_code 4 = .ok (.istore_n 3, 1) := by decide +kernel
theorem d_Sr_readLength_5 : decode prog_8_method_13_code 5 = .ok (.iconst 0, 1) := by decide +kernel
theorem d_Sr_readLength_6 : decode prog_8_method_13_code 6 = .ok (.istore 4, 2) := by decide +kernel
theorem d_Sr_readLength_8 : decode prog_8_method_13_code 8 = .ok (.iload 4, 2) := by decide +kernel
theorem d_Sr_readLength_10 : decode prog_8_method_13_code 10 = .ok (.sipush 24000, 3) := by decide +kernel
theorem d_Sr_readLength_13 : decode prog_8_method_13_code 13 = .ok (.if_icmp .ge 87, 3) := by decide +kernel
theorem d_Sr_readLength_16 : decode prog_8_method_13_code 16 = .ok (.aload_n 0, 1) := by decide +kernel
theorem d_Sr_readLength_17 : decode prog_8_method_13_code 17 = .ok (.iconst 1, 1) := by decide +kernel
theorem d_Sr_readLength_18 : decode prog_8_method_13_code 18 = .ok (.invokevirtual 88, 3) := by decide +kernel
theorem d_Sr_readLength_21 : decode prog_8_method_13_code 21 = .ok (.ifCond .ne 79, 3) := by decide +kernel
theorem d_Sr_readLength_24 : decode prog_8_method_13_code 24 = .ok (.aload_n 0, 1) := by decide +kernel
theorem d_Sr_readLength_25 : decode prog_8_method_13_code 25 = .ok (.iconst 1, 1) := by decide +kernel
theorem d_Sr_readLength_26 : decode prog_8_method_13_code 26 = .ok (.invokevirtual 103, 3) := by decide +kernel
theorem d_Sr_readLength_29 : decode prog_8_method_13_code 29 = .ok (.ifCond .ne 14, 3) := by decide +kernel
theorem d_Sr_readLength_32 : decode prog_8_method_13_code 32 = .ok (.aload_n 1, 1) := by decide +kernel
theorem d_Sr_readLength_33 : decode prog_8_method_13_code 33 = .ok (.iload_n 2, 1) := by decide +kernel
theorem d_Sr_readLength_34 : decode prog_8_method_13_code 34 = .ok (.aload_n 0, 1) := by decide +kernel
theorem d_Sr_readLength_35 : decode prog_8_method_13_code 35 = .ok (.getfield 125, 3) := by decide +kernel
theorem d_Sr_readLength_38 : decode prog_8_method_13_code 38 = .ok (.invokevirtual 145, 3) := by decide +kernel
theorem d_Sr_readLength_41 : decode prog_8_method_13_code 41 = .ok (.iconst 1, 1) := by decide +kernel
theorem d_Sr_readLength_42 : decode prog_8_method_13_code 42 = .ok (.ireturn, 1) := by decide +kernel
theorem d_Sr_readLength_43 : decode prog_8_method_13_code 43 = .ok (.aload_n 0, 1) := by decide +kernel
theorem d_Sr_readLength_44 : decode prog_8_method_13_code 44 = .ok (.iconst 1, 1) := by decide +kernel
theorem d_Sr_readLength_45 : decode prog_8_method_13_code 45 = .ok (.invokevirtual 88, 3) := by decide +kernel
theorem d_Sr_readLength_48 : decode prog_8_method_13_code 48 = .ok (.ifCond .eq 6, 3) := by decide +kernel
theorem d_Sr_readLength_51 : decode prog_8_method_13_code 51 = .ok (.goto 49, 3) := by decide +kernel
theorem d_Sr_readLength_54 : decode prog_8_method_13_code 54 = .ok (.aload_n 0, 1) := by decide +kernel
theorem d_Sr_readLength_55 : decode prog_8_method_13_code 55 = .ok (.dup, 1) := by decide +kernel
theorem d_Sr_readLength_56 : decode prog_8_method_13_code 56 = .ok (.getfield 125, 3) := by decide +kernel
theorem d_Sr_readLength_59 : decode prog_8_method_13_code 59 = .ok (.aload_n 0, 1) := by decide +kernel
theorem d_Sr_readLength_60 : decode prog_8_method_13_code 60 = .ok (.iconst 1, 1) := by decide +kernel
theorem d_Sr_readLength_61 : decode prog_8_method_13_code 61 = .ok (.invokevirtual 103, 3) := by decide +kernel
theorem d_Sr_readLength_64 : decode prog_8_method_13_code 64 = .ok (.ifCond .ne 7, 3) := by decide +kernel
theorem d_Sr_readLength_67 : decode prog_8_method_13_code 67 = .ok (.iconst 1, 1) := by decide +kernel
theorem d_Sr_readLength_68 : decode prog_8_method_13_code 68 = .ok (.goto 4, 3) := by decide +kernel
theorem d_Sr_readLength_71 : decode prog_8_method_13_code 71 = .ok (.iconst (-1), 1) := by decide +kernel
theorem d_Sr_readLength_72 : decode prog_8_method_13_code 72 = .ok (.iadd, 1) := by decide +kernel
theorem d_Sr_readLength_73 : decode prog_8_method_13_code 73 = .ok (.putfield 125, 3) := by decide +kernel
theorem d_Sr_readLength_76 : decode prog_8_method_13_code 76 = .ok (.aload_n 0, 1) := by decide +kernel
theorem d_Sr_readLength_77 : decode prog_8_method_13_code 77 = .ok (.getfield 125, 3) := by decide +kernel
theorem d_Sr_readLength_80 : decode prog_8_method_13_code 80 = .ok (.invokestatic 128, 3) := by decide +kernel
theorem d_Sr_readLength_83 : decode prog_8_method_13_code 83 = .ok (.ifCond .eq 11, 3) := by decide +kernel
theorem d_Sr_readLength_86 : decode prog_8_method_13_code 86 = .ok (.aload_n 0, 1) := by decide +kernel
theorem d_Sr_readLength_87 : decode prog_8_method_13_code 87 = .ok (.bipush 6, 2) := by decide +kernel
theorem d_Sr_readLength_89 : decode prog_8_method_13_code 89 = .ok (.iload_n 3, 1) := by decide +kernel
theorem d_Sr_readLength_90 : decode prog_8_method_13_code 90 = .ok (.invokevirtual 84, 3) := by decide +kernel
theorem d_Sr_readLength_93 : decode prog_8_method_13_code 93 = .ok (.ireturn, 1) := by decide +kernel
theorem d_Sr_readLength_94 : decode prog_8_method_13_code 94 = .ok (.iinc 4 1, 3) := by decide +kernel
theorem d_Sr_readLength_97 : decode prog_8_method_13_code 97 = .ok (.goto (-89), 3) := by decide +kernel
theorem d_Sr_readLength_100 : decode prog_8_method_13_code 100 = .ok (.aload_n 0, 1) := by decide +kernel
theorem d_Sr_readLength_101 : decode prog_8_method_13_code 101 = .ok (.invokevirtual 100, 3) := by decide +kernel
theorem d_Sr_readLength_104 : decode prog_8_method_13_code 104 = .ok (.ireturn, 1) := by decide +kernel
theorem d_Sr_isNoLength_0 : decode prog_8_method_14_code 0 = .ok (.iload_n 0, 1) := by decide +kernel
theorem d_Sr_isNoLength_1 : decode prog_8_method_14_code 1 = .ok (.iconst 1, 1) := by decide +kernel
theorem d_Sr_isNoLength_2 : decode prog_8_method_14_code 2 = .ok (.if_icmp .lt 9, 3) := by decide +kernel
theorem d_Sr_isNoLength_5 : decode prog_8_method_14_code 5 = .ok (.iload_n 0, 1) := by decide +kernel
theorem d_Sr_isNoLength_6 : decode prog_8_method_14_code 6 = .ok (.bipush 12, 2) := by decide +kernel
theorem d_Sr_isNoLength_8 : decode prog_8_method_14_code 8 = .ok (.if_icmp .le 7, 3) := by decide +kernel
theorem d_Sr_isNoLength_11 : decode prog_8_method_14_code 11 = .ok (.iconst 1, 1) := by decide +kernel
theorem d_Sr_isNoLength_12 : decode prog_8_method_14_code 12 = .ok (.goto 4, 3) := by decide +kernel
theorem d_Sr_isNoLength_15 : decode prog_8_method_14_code 15 = .ok (.iconst 0, 1) := by decide +kernel
theorem d_Sr_isNoLength_16 : decode prog_8_method_14_code 16 = .ok (.ireturn, 1) := by decide +kernel
theorem d_Sr_readSymbols_0 : decode prog_8_method_15_code 0 = .ok (.aload_n 2, 1) := by decide +kernel
theorem d_Sr_readSymbols_1 : decode prog_8_method_15_code 1 = .ok (.getfield 63, 3) := by decide +kernel
theorem d_Sr_readSymbols_4 : decode prog_8_method_15_code 4 = .ok (.iconst 1, 1) := by decide +kernel
theorem d_Sr_readSymbols_5 : decode prog_8_method_15_code 5 = .ok (.iadd, 1) := by decide +kernel
theorem d_Sr_readSymbols_6 : decode prog_8_method_15_code 6 = .ok (.istore_n 3, 1) := by decide +kernel
theorem d_Sr_readSymbols_7 : decode prog_8_method_15_code 7 = .ok (.iconst 1, 1) := by decide +kernel
theorem d_Sr_readSymbols_8 : decode prog_8_method_15_code 8 = .ok (.istore 4, 2) := by decide +kernel
theorem d_Sr_readSymbols_10 : decode prog_8_method_15_code 10 = .ok (.iconst 0, 1) := by decide +kernel
theorem d_Sr_readSymbols_11 : decode prog_8_method_15_code 11 = .ok (.istore 5, 2) := by decide +kernel
theorem d_Sr_readSymbols_13 : decode prog_8_method_15_code 13 = .ok (.iload 5, 2) := by decide +kernel
theorem d_Sr_readSymbols_15 : decode prog_8_method_15_code 15 = .ok (.aload_n 0, 1) := by decide +kernel
theorem d_Sr_readSymbols_16 : decode prog_8_method_15_code 16 = .ok (.getfield 56, 3) := by decide +kernel
theorem d_Sr_readSymbols_19 : decode prog_8_method_15_code 19 = .ok (.if_icmp .gt 172, 3) := by decide +kernel
theorem d_Sr_readSymbols_22 : decode prog_8_method_15_code 22 = .ok (.aload_n 0, 1) := by decide +kernel
theorem d_Sr_readSymbols_23 : decode prog_8_method_15_code 23 = .ok (.invokevirtual 92, 3) := by decide +kernel
theorem d_Sr_readSymbols_26 : decode prog_8_method_15_code 26 = .ok (.istore 6, 2) := by decide +kernel
theorem d_Sr_readSymbols_28 : decode prog_8_method_15_code 28 = .ok (.aload_n 0, 1) := by decide +kernel
theorem d_Sr_readSymbols_29 : decode prog_8_method_15_code 29 = .ok (.aload_n 1, 1) := by decide +kernel
theorem d_Sr_readSymbols_30 : decode prog_8_method_15_code 30 = .ok (.invokevirtual 149, 3) := by decide +kernel
theorem d_Sr_readSymbols_33 : decode prog_8_method_15_code 33 = .ok (.istore 7, 2) := by decide +kernel
theorem d_Sr_readSymbols_35 : decode prog_8_method_15_code 35 = .ok (.iload 7, 2) := by decide +kernel
theorem d_Sr_readSymbols_37 : decode prog_8_method_15_code 37 = .ok (.ifCond .ge 8, 3) := by decide +kernel
theorem d_Sr_readSymbols_40 : decode prog_8_method_15_code 40 = .ok (.aload_n 0, 1) := by decide +kernel
theorem d_Sr_readSymbols_41 : decode prog_8_method_15_code 41 = .ok (.invokevirtual 100, 3) := by decide +kernel
theorem d_Sr_readSymbols_44 : decode prog_8_method_15_code 44 = .ok (.ireturn, 1) := by decide +kernel
theorem d_Sr_readSymbols_45 : decode prog_8_method_15_code 45 = .ok (.iload 7, 2) := by decide +kernel
theorem d_Sr_readSymbols_47 : decode prog_8_method_15_code 47 = .ok (.iload_n 3, 1) := by decide +kernel
theorem d_Sr_readSymbols_48 : decode prog_8_method_15_code 48 = .ok (.if_icmp .ne 34, 3) := by decide +kernel
theorem d_Sr_readSymbols_51 : decode prog_8_method_15_code 51 = .ok (.aload_n 0, 1) := by decide +kernel
theorem d_Sr_readSymbols_52 : decode prog_8_method_15_code 52 = .ok (.getfield 20, 3) := by decide +kernel
theorem d_Sr_readSymbols_55 : decode prog_8_method_15_code 55 = .ok (.getfield 83, 3) := by decide +kernel
theorem d_Sr_readSymbols_58 : decode prog_8_method_15_code 58 = .ok (.aload_n 0, 1) := by decide +kernel
theorem d_Sr_readSymbols_59 : decode prog_8_method_15_code 59 = .ok (.getfield 56, 3) := by decide +kernel
theorem d_Sr_readSymbols_62 : decode prog_8_method_15_code 62 = .ok (.if_icmp .eq 14, 3) := by decide +kernel
theorem d_Sr_readSymbols_65 : decode prog_8_method_15_code 65 = .ok (.aload_n 0, 1) := by decide +kernel
theorem d_Sr_readSymbols_66 : decode prog_8_method_15_code 66 = .ok (.bipush 8, 2) := by decide +kernel
theorem d_Sr_readSymbols_68 : decode prog_8_method_15_code 68 = .ok (.iload 6, 2) := by decide +kernel
theorem d_Sr_readSymbols_70 : decode prog_8_method_15_code 70 = .ok (.invokevirtual 84, 3) := by decide +kernel
theorem d_Sr_readSymbols_73 : decode prog_8_method_15_code 73 = .ok (.ifCond .eq 7, 3) := by decide +kernel
theorem d_Sr_readSymbols_76 : decode prog_8_method_15_code 76 = .ok (.iconst 1, 1) := by decide +kernel
theorem d_Sr_readSymbols_77 : decode prog_8_method_15_code 77 = .ok (.goto 4, 3) := by decide +kernel
theorem d_Sr_readSymbols_80 : decode prog_8_method_15_code 80 = .ok (.iconst 0, 1) := by decide +kernel
theorem d_Sr_readSymbols_81 : decode prog_8_method_15_code 81 = .ok (.ireturn, 1) := by decide +kernel
theorem d_Sr_readSymbols_82 : decode prog_8_method_15_code 82 = .ok (.iload 7, 2) := by decide +kernel
theorem d_Sr_readSymbols_84 : decode prog_8_method_15_code 84 = .ok (.iconst 2, 1) := by decide +kernel
theorem d_Sr_readSymbols_85 : decode prog_8_method_15_code 85 = .ok (.if_icmp .ge 7, 3) := by decide +kernel
theorem d_Sr_readSymbols_88 : decode prog_8_method_15_code 88 = .ok (.iconst 1, 1) := by decide +kernel
theorem d_Sr_readSymbols_89 : decode prog_8_method_15_code 89 = .ok (.goto 4, 3) := by decide +kernel
theorem d_Sr_readSymbols_92 : decode prog_8_method_15_code 92 = .ok (.iconst 0, 1) := by decide +kernel
theorem d_Sr_readSymbols_93 : decode prog_8_method_15_code 93 = .ok (.istore 8, 2) := by decide +kernel
theorem d_Sr_readSymbols_95 : decode prog_8_method_15_code 95 = .ok (.iload 8, 2) := by decide +kernel
theorem d_Sr_readSymbols_97 : decode prog_8_method_15_code 97 = .ok (.ifCond .eq 13, 3) := by decide +kernel
theorem d_Sr_readSymbols_100 : decode prog_8_method_15_code 100 = .ok (.iload 7, 2) := by decide +kernel
theorem d_Sr_readSymbols_102 : decode prog_8_method_15_code 102 = .ok (.iconst 1, 1) := by decide +kernel
theorem d_Sr_readSymbols_103 : decode prog_8_method_15_code 103 = .ok (.iadd, 1) := by decide +kernel
theorem d_Sr_readSymbols_104 : decode prog_8_method_15_code 104 = .ok (.iload 4, 2) := by decide +kernel
theorem d_Sr_readSymbols_106 : decode prog_8_method_15_code 106 = .ok (.imul, 1) := by decide +kernel
theorem d_Sr_readSymbols_107 : decode prog_8_method_15_code 107 = .ok (.goto 4, 3) := by decide +kernel
theorem d_Sr_readSymbols_110 : decode prog_8_method_15_code 110 = .ok (.iconst 1, 1) := by decide +kernel
theorem d_Sr_readSymbols_111 : decode prog_8_method_15_code 111 = .ok (.istore 9, 2) := by decide +kernel
theorem d_Sr_readSymbols_113 : decode prog_8_method_15_code 113 = .ok (.iload 9, 2) := by decide +kernel
theorem d_Sr_readSymbols_115 : decode prog_8_method_15_code 115 = .ok (.aload_n 0, 1) := by decide +kernel
theorem d_Sr_readSymbols_116 : decode prog_8_method_15_code 116 = .ok (.getfield 56, 3) := by decide +kernel
theorem d_Sr_readSymbols_119 : decode prog_8_method_15_code 119 = .ok (.aload_n 0, 1) := by decide +kernel
theorem d_Sr_readSymbols_120 : decode prog_8_method_15_code 120 = .ok (.getfield 20, 3) := by decide +kernel
theorem d_Sr_readSymbols_123 : decode prog_8_method_15_code 123 = .ok (.getfield 83, 3) := by decide +kernel
theorem d_Sr_readSymbols_126 : decode prog_8_method_15_code 126 = .ok (.isub, 1) := by decide +kernel
theorem d_Sr_readSymbols_127 : decode prog_8_method_15_code 127 = .ok (.if_icmp .le 12, 3) := by decide +kernel
theorem d_Sr_readSymbols_130 : decode prog_8_method_15_code 130 = .ok (.aload_n 0, 1) := by decide +kernel
theorem d_Sr_readSymbols_131 : decode prog_8_method_15_code 131 = .ok (.bipush 8, 2) := by decide +kernel
theorem d_Sr_readSymbols_133 : decode prog_8_method_15_code 133 = .ok (.iload 6, 2) := by decide +kernel
theorem d_Sr_readSymbols_135 : decode prog_8_method_15_code 135 = .ok (.invokevirtual 84, 3) := by decide +kernel
theorem d_Sr_readSymbols_138 : decode prog_8_method_15_code 138 = .ok (.ireturn, 1) := by decide +kernel
theorem d_Sr_readSymbols_139 : decode prog_8_method_15_code 139 = .ok (.iload 8, 2) := by decide +kernel
theorem d_Sr_readSymbols_141 : decode prog_8_method_15_code 141 = .ok (.ifCond .eq 10, 3) := by decide +kernel
theorem d_Sr_readSymbols_144 : decode prog_8_method_15_code 144 = .ok (.iconst 2, 1) := by decide +kernel
theorem d_Sr_readSymbols_145 : decode prog_8_method_15_code 145 = .ok (.iload 4, 2) := by decide +kernel
theorem d_Sr_readSymbols_147 : decode prog_8_method_15_code 147 = .ok (.imul, 1) := by decide +kernel
theorem d_Sr_readSymbols_148 : decode prog_8_method_15_code 148 = .ok (.goto 4, 3) := by decide +kernel
theorem d_Sr_readSymbols_151 : decode prog_8_method_15_code 151 = .ok (.iconst 1, 1) := by decide +kernel
theorem d_Sr_readSymbols_152 : decode prog_8_method_15_code 152 = .ok (.istore 4, 2) := by decide +kernel
theorem d_Sr_readSymbols_154 : decode prog_8_method_15_code 154 = .ok (.aload_n 2, 1) := by decide +kernel
theorem d_Sr_readSymbols_155 : decode prog_8_method_15_code 155 = .ok (.iload 8, 2) := by decide +kernel
theorem d_Sr_readSymbols_157 : decode prog_8_method_15_code 157 = .ok (.ifCond .eq 7, 3) := by decide +kernel
theorem d_Sr_readSymbols_160 : decode prog_8_method_15_code 160 = .ok (.iconst 0, 1) := by decide +kernel
theorem d_Sr_readSymbols_161 : decode prog_8_method_15_code 161 = .ok (.goto 7, 3) := by decide +kernel
theorem d_Sr_readSymbols_164 : decode prog_8_method_15_code 164 = .ok (.iload 7, 2) := by decide +kernel
theorem d_Sr_readSymbols_166 : decode prog_8_method_15_code 166 = .ok (.iconst 1, 1) := by decide +kernel
theorem d_Sr_readSymbols_167 : decode prog_8_method_15_code 167 = .ok (.isub, 1) := by decide +kernel
theorem d_Sr_readSymbols_168 : decode prog_8_method_15_code 168 = .ok (.invokevirtual 153, 3) := by decide +kernel
theorem d_Sr_readSymbols_171 : decode prog_8_method_15_code 171 = .ok (.aload_n 0, 1) := by decide +kernel
theorem d_Sr_readSymbols_172 : decode prog_8_method_15_code 172 = .ok (.getfield 20, 3) := by decide +kernel
theorem d_Sr_readSymbols_175 : decode prog_8_method_15_code 175 = .ok (.iload 9, 2) := by decide +kernel
theorem d_Sr_readSymbols_177 : decode prog_8_method_15_code 177 = .ok (.aload_n 2, 1) := by decide +kernel
theorem d_Sr_readSymbols_178 : decode prog_8_method_15_code 178 = .ok (.iconst 0, 1) := by decide +kernel
theorem d_Sr_readSymbols_179 : decode prog_8_method_15_code 179 = .ok (.invokevirtual 156, 3) := by decide +kernel
theorem d_Sr_readSymbols_182 : decode prog_8_method_15_code 182 = .ok (.invokevirtual 157, 3) := by decide +kernel
theorem d_Sr_readSymbols_185 : decode prog_8_method_15_code 185 = .ok (.iinc 5 1, 3) := by decide +kernel
theorem d_Sr_readSymbols_188 : decode prog_8_method_15_code 188 = .ok (.goto (-175), 3) := by decide +kernel
theorem d_Sr_readSymbols_191 : decode prog_8_method_15_code 191 = .ok (.aload_n 0, 1) := by decide +kernel
theorem d_Sr_readSymbols_192 : decode prog_8_method_15_code 192 = .ok (.invokevirtual 100, 3) := by decide +kernel
theorem d_Sr_readSymbols_195 : decode prog_8_method_15_code 195 = .ok (.ireturn, 1) := by decide +kernel
theorem d_Sr_nextSymbol_0 : decode prog_8_method_16_code 0 = .ok (.iconst 0, 1) := by decide +kernel
theorem d_Sr_nextSymbol_1 : decode prog_8_method_16_code 1 = .ok (.istore_n 2, 1) := by decide +kernel
theorem d_Sr_nextSymbol_2 : decode prog_8_method_16_code 2 = .ok (.iconst 0, 1) := by decide +kernel
theorem d_Sr_nextSymbol_3 : decode prog_8_method_16_code 3 = .ok (.istore_n 3, 1) := by decide +kernel
theorem d_Sr_nextSymbol_4 : decode prog_8_method_16_code 4 = .ok (.iconst 0, 1) := by decide +kernel
theorem d_Sr_nextSymbol_5 : decode prog_8_method_16_code 5 = .ok (.istore 4, 2) := by decide +kernel
theorem d_Sr_nextSymbol_7 : decode prog_8_method_16_code 7 = .ok (.iconst 1, 1) := by decide +kernel
theorem d_Sr_nextSymbol_8 : decode prog_8_method_16_code 8 = .ok (.istore 5, 2) := by decide +kernel
theorem d_Sr_nextSymbol_10 : decode prog_8_method_16_code 10 = .ok (.iload 5, 2) := by decide +kernel
theorem d_Sr_nextSymbol_12 : decode prog_8_method_16_code 12 = .ok (.bipush 12, 2) := by decide +kernel
theorem d_Sr_nextSymbol_14 : decode prog_8_method_16_code 14 = .ok (.if_icmp .gt 71, 3) := by decide +kernel
theorem d_Sr_nextSymbol_17 : decode prog_8_method_16_code 17 = .ok (.aload_n 0, 1) := by decide +kernel
theorem d_Sr_nextSymbol_18 : decode prog_8_method_16_code 18 = .ok (.iconst 1, 1) := by decide +kernel
theorem d_Sr_nextSymbol_19 : decode prog_8_method_16_code 19 = .ok (.invokevirtual 88, 3) := by decide +kernel
theorem d_Sr_nextSymbol_22 : decode prog_8_method_16_code 22 = .ok (.ifCond .ne 63, 3) := by decide +kernel
theorem d_Sr_nextSymbol_25 : decode prog_8_method_16_code 25 = .ok (.iload_n 2, 1) := by decide +kernel
theorem d_Sr_nextSymbol_26 : decode prog_8_method_16_code 26 = .ok (.iconst 1, 1) := by decide +kernel
theorem d_Sr_nextSymbol_27 : decode prog_8_method_16_code 27 = .ok (.ishl, 1) := by decide +kernel
theorem d_Sr_nextSymbol_28 : decode prog_8_method_16_code 28 = .ok (.aload_n 0, 1) := by decide +kernel
theorem d_Sr_nextSymbol_29 : decode prog_8_method_16_code 29 = .ok (.iconst 1, 1) := by decide +kernel
theorem d_Sr_nextSymbol_30 : decode prog_8_method_16_code 30 = .ok (.invokevirtual 103, 3) := by decide +kernel
theorem d_Sr_nextSymbol_33 : decode prog_8_method_16_code 33 = .ok (.ior, 1) := by decide +kernel
theorem d_Sr_nextSymbol_34 : decode prog_8_method_16_code 34 = .ok (.istore_n 2, 1) := by decide +kernel
theorem d_Sr_nextSymbol_35 : decode prog_8_method_16_code 35 = .ok (.iload_n 3, 1) := by decide +kernel
theorem d_Sr_nextSymbol_36 : decode prog_8_method_16_code 36 = .ok (.iconst 1, 1) := by decide +kernel
theorem d_Sr_nextSymbol_37 : decode prog_8_method_16_code 37 = .ok (.ishl, 1) := by decide +kernel
theorem d_Sr_nextSymbol_38 : decode prog_8_method_16_code 38 = .ok (.istore_n 3, 1) := by decide +kernel
theorem d_Sr_nextSymbol_39 : decode prog_8_method_16_code 39 = .ok (.aload_n 1, 1) := by decide +kernel
theorem d_Sr_nextSymbol_40 : decode prog_8_method_16_code 40 = .ok (.getfield 160, 3) := by decide +kernel
theorem d_Sr_nextSymbol_43 : decode prog_8_method_16_code 43 = .ok (.iload 5, 2) := by decide +kernel
theorem d_Sr_nextSymbol_45 : decode prog_8_method_16_code 45 = .ok (.iaload, 1) := by decide +kernel
theorem d_Sr_nextSymbol_46 : decode prog_8_method_16_code 46 = .ok (.istore 6, 2) := by decide +kernel
theorem d_Sr_nextSymbol_48 : decode prog_8_method_16_code 48 = .ok (.iload_n 2, 1) := by decide +kernel
theorem d_Sr_nextSymbol_49 : decode prog_8_method_16_code 49 = .ok (.iload_n 3, 1) := by decide +kernel
theorem d_Sr_nextSymbol_50 : decode prog_8_method_16_code 50 = .ok (.isub, 1) := by decide +kernel
theorem d_Sr_nextSymbol_51 : decode prog_8_method_16_code 51 = .ok (.iload 6, 2) := by decide +kernel
theorem d_Sr_nextSymbol_53 : decode prog_8_method_16_code 53 = .ok (.if_icmp .ge 14, 3) := by decide +kernel
theorem d_Sr_nextSymbol_56 : decode prog_8_method_16_code 56 = .ok (.aload_n 1, 1) := by decide +kernel
theorem d_Sr_nextSymbol_57 : decode prog_8_method_16_code 57 = .ok (.iload 4, 2) := by decide +kernel
theorem d_Sr_nextSymbol_59 : decode prog_8_method_16_code 59 = .ok (.iload_n 2, 1) := by decide +kernel
theorem d_Sr_nextSymbol_60 : decode prog_8_method_16_code 60 = .ok (.iadd, 1) := by decide +kernel
theorem d_Sr_nextSymbol_61 : decode prog_8_method_16_code 61 = .ok (.iload_n 3, 1) := by decide +kernel
theorem d_Sr_nextSymbol_62 : decode prog_8_method_16_code 62 = .ok (.isub, 1) := by decide +kernel
theorem d_Sr_nextSymbol_63 : decode prog_8_method_16_code 63 = .ok (.invokevirtual 164, 3) := by decide +kernel
theorem d_Sr_nextSymbol_66 : decode prog_8_method_16_code 66 = .ok (.ireturn, 1) := by decide +kernel
theorem d_Sr_nextSymbol_67 : decode prog_8_method_16_code 67 = .ok (.iload_n 3, 1) := by decide +kernel
theorem d_Sr_nextSymbol_68 : decode prog_8_method_16_code 68 = .ok (.iload 6, 2) := by decide +kernel
theorem d_Sr_nextSymbol_70 : decode prog_8_method_16_code 70 = .ok (.iadd, 1) := by decide +kernel
theorem d_Sr_nextSymbol_71 : decode prog_8_method_16_code 71 = .ok (.istore_n 3, 1) := by decide +kernel
theorem d_Sr_nextSymbol_72 : decode prog_8_method_16_code 72 = .ok (.iload 4, 2) := by decide +kernel
theorem d_Sr_nextSymbol_74 : decode prog_8_method_16_code 74 = .ok (.iload 6, 2) := by decide +kernel
theorem d_Sr_nextSymbol_76 : decode prog_8_method_16_code 76 = .ok (.iadd, 1) := by decide +kernel
theorem d_Sr_nextSymbol_77 : decode prog_8_method_16_code 77 = .ok (.istore 4, 2) := by decide +kernel
theorem d_Sr_nextSymbol_79 : decode prog_8_method_16_code 79 = .ok (.iinc 5 1, 3) := by decide +kernel
theorem d_Sr_nextSymbol_82 : decode prog_8_method_16_code 82 = .ok (.goto (-72), 3) := by decide +kernel
theorem d_Sr_nextSymbol_85 : decode prog_8_method_16_code 85 = .ok (.bipush (-2), 2) := by decide +kernel
theorem d_Sr_nextSymbol_87 : decode prog_8_method_16_code 87 = .ok (.ireturn, 1) := by decide +kernel
theorem d_Sr_isGivenBack_0 : decode prog_8_method_17_code 0 = .ok (.aload_n 1, 1) := by decide +kernel
theorem d_Sr_isGivenBack_1 : decode prog_8_method_17_code 1 = .ok (.aload_n 0, 1) := by decide +kernel
theorem d_Sr_isGivenBack_2 : decode prog_8_method_17_code 2 = .ok (.getfield 20, 3) := by decide +kernel
theorem d_Sr_isGivenBack_5 : decode prog_8_method_17_code 5 = .ok (.aload_n 0, 1) := by decide +kernel
theorem d_Sr_isGivenBack_6 : decode prog_8_method_17_code 6 = .ok (.getfield 106, 3) := by decide +kernel
theorem d_Sr_isGivenBack_9 : decode prog_8_method_17_code 9 = .ok (.invokevirtual 167, 3) := by decide +kernel
theorem d_Sr_isGivenBack_12 : decode prog_8_method_17_code 12 = .ok (.ifCond .ne 11, 3) := by decide +kernel
theorem d_Sr_isGivenBack_15 : decode prog_8_method_17_code 15 = .ok (.aload_n 0, 1) := by decide +kernel
theorem d_Sr_isGivenBack_16 : decode prog_8_method_17_code 16 = .ok (.bipush 9, 2) := by decide +kernel
theorem d_Sr_isGivenBack_18 : decode prog_8_method_17_code 18 = .ok (.iconst 4, 1) := by decide +kernel
theorem d_Sr_isGivenBack_19 : decode prog_8_method_17_code 19 = .ok (.invokevirtual 84, 3) := by decide +kernel
theorem d_Sr_isGivenBack_22 : decode prog_8_method_17_code 22 = .ok (.ireturn, 1) := by decide +kernel
theorem d_Sr_isGivenBack_23 : decode prog_8_method_17_code 23 = .ok (.aload_n 1, 1) := by decide +kernel
theorem d_Sr_isGivenBack_24 : decode prog_8_method_17_code 24 = .ok (.invokevirtual 171, 3) := by decide +kernel
theorem d_Sr_isGivenBack_27 : decode prog_8_method_17_code 27 = .ok (.ifCond .ne 11, 3) := by decide +kernel
theorem d_Sr_isGivenBack_30 : decode prog_8_method_17_code 30 = .ok (.aload_n 0, 1) := by decide +kernel
theorem d_Sr_isGivenBack_31 : decode prog_8_method_17_code 31 = .ok (.bipush 10, 2) := by decide +kernel
theorem d_Sr_isGivenBack_33 : decode prog_8_method_17_code 33 = .ok (.iconst 2, 1) := by decide +kernel
theorem d_Sr_isGivenBack_34 : decode prog_8_method_17_code 34 = .ok (.invokevirtual 84, 3) := by decide +kernel
theorem d_Sr_isGivenBack_37 : decode prog_8_method_17_code 37 = .ok (.ireturn, 1) := by decide +kernel
theorem d_Sr_isGivenBack_38 : decode prog_8_method_17_code 38 = .ok (.aload_n 1, 1) := by decide +kernel
theorem d_Sr_isGivenBack_39 : decode prog_8_method_17_code 39 = .ok (.getfield 174, 3) := by decide +kernel
theorem d_Sr_isGivenBack_42 : decode prog_8_method_17_code 42 = .ok (.invokestatic 177, 3) := by decide +kernel
theorem d_Sr_isGivenBack_45 : decode prog_8_method_17_code 45 = .ok (.aload_n 0, 1) := by decide +kernel
theorem d_Sr_isGivenBack_46 : decode prog_8_method_17_code 46 = .ok (.getfield 109, 3) := by decide +kernel
theorem d_Sr_isGivenBack_49 : decode prog_8_method_17_code 49 = .ok (.if_icmp .eq 14, 3) := by decide +kernel
theorem d_Sr_isGivenBack_52 : decode prog_8_method_17_code 52 = .ok (.aload_n 0, 1) := by decide +kernel
theorem d_Sr_isGivenBack_53 : decode prog_8_method_17_code 53 = .ok (.bipush 11, 2) := by decide +kernel
theorem d_Sr_isGivenBack_55 : decode prog_8_method_17_code 55 = .ok (.bipush 6, 2) := by decide +kernel
theorem d_Sr_isGivenBack_57 : decode prog_8_method_17_code 57 = .ok (.invokevirtual 84, 3) := by decide +kernel
theorem d_Sr_isGivenBack_60 : decode prog_8_method_17_code 60 = .ok (.ifCond .eq 7, 3) := by decide +kernel
theorem d_Sr_isGivenBack_63 : decode prog_8_method_17_code 63 = .ok (.iconst 1, 1) := by decide +kernel
theorem d_Sr_isGivenBack_64 : decode prog_8_method_17_code 64 = .ok (.goto 4, 3) := by decide +kernel
theorem d_Sr_isGivenBack_67 : decode prog_8_method_17_code 67 = .ok (.iconst 0, 1) := by decide +kernel
theorem d_Sr_isGivenBack_68 : decode prog_8_method_17_code 68 = .ok (.ireturn, 1) := by decide +kernel
theorem d_Sr_isAtEnd_0 : decode prog_8_method_18_code 0 = .ok (.aload_n 0, 1) := by decide +kernel
theorem d_Sr_isAtEnd_1 : decode prog_8_method_18_code 1 = .ok (.invokevirtual 92, 3) := by decide +kernel
theorem d_Sr_isAtEnd_4 : decode prog_8_method_18_code 4 = .ok (.istore_n 1, 1) := by decide +kernel
theorem d_Sr_isAtEnd_5 : decode prog_8_method_18_code 5 = .ok (.bipush 8, 2) := by decide +kernel
theorem d_Sr_isAtEnd_7 : decode prog_8_method_18_code 7 = .ok (.aload_n 0, 1) := by decide +kernel
theorem d_Sr_isAtEnd_8 : decode prog_8_method_18_code 8 = .ok (.getfield 27, 3) := by decide +kernel
theorem d_Sr_isAtEnd_11 : decode prog_8_method_18_code 11 = .ok (.bipush 8, 2) := by decide +kernel
theorem d_Sr_isAtEnd_13 : decode prog_8_method_18_code 13 = .ok (.irem, 1) := by decide +kernel
theorem d_Sr_isAtEnd_14 : decode prog_8_method_18_code 14 = .ok (.isub, 1) := by decide +kernel
theorem d_Sr_isAtEnd_15 : decode prog_8_method_18_code 15 = .ok (.bipush 8, 2) := by decide +kernel
theorem d_Sr_isAtEnd_17 : decode prog_8_method_18_code 17 = .ok (.irem, 1) := by decide +kernel
theorem d_Sr_isAtEnd_18 : decode prog_8_method_18_code 18 = .ok (.istore_n 2, 1) := by decide +kernel
theorem d_Sr_isAtEnd_19 : decode prog_8_method_18_code 19 = .ok (.aload_n 0, 1) := by decide +kernel
theorem d_Sr_isAtEnd_20 : decode prog_8_method_18_code 20 = .ok (.iload_n 2, 1) := by decide +kernel
theorem d_Sr_isAtEnd_21 : decode prog_8_method_18_code 21 = .ok (.invokevirtual 103, 3) := by decide +kernel
theorem d_Sr_isAtEnd_24 : decode prog_8_method_18_code 24 = .ok (.ifCond .eq 11, 3) := by decide +kernel
theorem d_Sr_isAtEnd_27 : decode prog_8_method_18_code 27 = .ok (.aload_n 0, 1) := by decide +kernel
theorem d_Sr_isAtEnd_28 : decode prog_8_method_18_code 28 = .ok (.bipush 12, 2) := by decide +kernel
theorem d_Sr_isAtEnd_30 : decode prog_8_method_18_code 30 = .ok (.iload_n 1, 1) := by decide +kernel
theorem d_Sr_isAtEnd_31 : decode prog_8_method_18_code 31 = .ok (.invokevirtual 84, 3) := by decide +kernel
theorem d_Sr_isAtEnd_34 : decode prog_8_method_18_code 34 = .ok (.ireturn, 1) := by decide +kernel
theorem d_Sr_isAtEnd_35 : decode prog_8_method_18_code 35 = .ok (.aload_n 0, 1) := by decide +kernel
theorem d_Sr_isAtEnd_36 : decode prog_8_method_18_code 36 = .ok (.invokevirtual 92, 3) := by decide +kernel
theorem d_Sr_isAtEnd_39 : decode prog_8_method_18_code 39 = .ok (.aload_n 0, 1) := by decide +kernel
theorem d_Sr_isAtEnd_40 : decode prog_8_method_18_code 40 = .ok (.getfield 14, 3) := by decide +kernel
theorem d_Sr_isAtEnd_43 : decode prog_8_method_18_code 43 = .ok (.getfield 83, 3) := by decide +kernel
theorem d_Sr_isAtEnd_46 : decode prog_8_method_18_code 46 = .ok (.if_icmp .eq 16, 3) := by decide +kernel
theorem d_Sr_isAtEnd_49 : decode prog_8_method_18_code 49 = .ok (.aload_n 0, 1) := by decide +kernel
theorem d_Sr_isAtEnd_50 : decode prog_8_method_18_code 50 = .ok (.bipush 12, 2) := by decide +kernel
theorem d_Sr_isAtEnd_52 : decode prog_8_method_18_code 52 = .ok (.aload_n 0, 1) := by decide +kernel
theorem d_Sr_isAtEnd_53 : decode prog_8_method_18_code 53 = .ok (.invokevirtual 92, 3) := by decide +kernel
theorem d_Sr_isAtEnd_56 : decode prog_8_method_18_code 56 = .ok (.invokevirtual 84, 3) := by decide +kernel
theorem d_Sr_isAtEnd_59 : decode prog_8_method_18_code 59 = .ok (.ifCond .eq 7, 3) := by decide +kernel
theorem d_Sr_isAtEnd_62 : decode prog_8_method_18_code 62 = .ok (.iconst 1, 1) := by decide +kernel
theorem d_Sr_isAtEnd_63 : decode prog_8_method_18_code 63 = .ok (.goto 4, 3) := by decide +kernel
theorem d_Sr_isAtEnd_66 : decode prog_8_method_18_code 66 = .ok (.iconst 0, 1) := by decide +kernel
theorem d_Sr_isAtEnd_67 : decode prog_8_method_18_code 67 = .ok (.ireturn, 1) := by decide +kernel
theorem d_Sw_init_0 : decode prog_9_method_1_code 0 = .ok (.aload_n 0, 1) := by decide +kernel
theorem d_Sw_init_1 : decode prog_9_method_1_code 1 = .ok (.invokespecial 3, 3) := by decide +kernel
theorem d_Sw_init_4 : decode prog_9_method_1_code 4 = .ok (.aload_n 0, 1) := by decide +kernel
theorem d_Sw_init_5 : decode prog_9_method_1_code 5 = .ok (.new 9, 3) := by decide +kernel
theorem d_Sw_init_8 : decode prog_9_method_1_code 8 = .ok (.dup, 1) := by decide +kernel
theorem d_Sw_init_9 : decode prog_9_method_1_code 9 = .ok (.sipush 2000, 3) := by decide +kernel
theorem d_Sw_init_12 : decode prog_9_method_1_code 12 = .ok (.invokespecial 11, 3) := by decide +kernel
theorem d_Sw_init_15 : decode prog_9_method_1_code 15 = .ok (.putfield 14, 3) := by decide +kernel
theorem d_Sw_init_18 : decode prog_9_method_1_code 18 = .ok (.return_, 1) := by decide +kernel
theorem d_Sw_writeStream_0 : decode prog_9_method_2_code 0 = .ok (.aload_n 0, 1) := by decide +kernel
theorem d_Sw_writeStream_1 : decode prog_9_method_2_code 1 = .ok (.getfield 14, 3) := by decide +kernel
theorem d_Sw_writeStream_4 : decode prog_9_method_2_code 4 = .ok (.iconst 0, 1) := by decide +kernel
theorem d_Sw_writeStream_5 : decode prog_9_method_2_code 5 = .ok (.invokevirtual 20, 3) := by decide +kernel
theorem d_Sw_writeStream_8 : decode prog_9_method_2_code 8 = .ok (.aload_n 0, 1) := by decide +kernel
theorem d_Sw_writeStream_9 : decode prog_9_method_2_code 9 = .ok (.iconst 0, 1) := by decide +kernel
theorem d_Sw_writeStream_10 : decode prog_9_method_2_code 10 = .ok (.putfield 23, 3) := by decide +kernel
theorem d_Sw_writeStream_13 : decode prog_9_method_2_code 13 = .ok (.aload_n 0, 1) := by decide +kernel
theorem d_Sw_writeStream_14 : decode prog_9_method_2_code 14 = .ok (.iconst 0, 1) := by decide +kernel
theorem d_Sw_writeStream_15 : decode prog_9_method_2_code 15 = .ok (.putfield 27, 3) := by decide +kernel
theorem d_Sw_writeStream_18 : decode prog_9_method_2_code 18 = .ok (.aload_n 3, 1) := by decide +kernel
theorem d_Sw_writeStream_19 : decode prog_9_method_2_code 19 = .ok (.getfield 30, 3) := by decide +kernel
theorem d_Sw_writeStream_22 : decode prog_9_method_2_code 22 = .ok (.aload_n 1, 1) := by decide +kernel
theorem d_Sw_writeStream_23 : decode prog_9_method_2_code 23 = .ok (.invokevirtual 36, 3) := by decide +kernel
theorem d_Sw_writeStream_26 : decode prog_9_method_2_code 26 = .ok (.aload_n 0, 1) := by decide +kernel
theorem d_Sw_writeStream_27 : decode prog_9_method_2_code 27 = .ok (.sipush 21332, 3) := by decide +kernel
theorem d_Sw_writeStream_30 : decode prog_9_method_2_code 30 = .ok (.bipush 16, 2) := by decide +kernel
theorem d_Sw_writeStream_32 : decode prog_9_method_2_code 32 = .ok (.invokevirtual 42, 3) := by decide +kernel
theorem d_Sw_writeStream_35 : decode prog_9_method_2_code 35 = .ok (.aload_n 0, 1) := by decide +kernel
theorem d_Sw_writeStream_36 : decode prog_9_method_2_code 36 = .ok (.aload_n 1, 1) := by decide +kernel
theorem d_Sw_writeStream_37 : decode prog_9_method_2_code 37 = .ok (.getfield 46, 3) := by decide +kernel
theorem d_Sw_writeStream_40 : decode prog_9_method_2_code 40 = .ok (.bipush 16, 2) := by decide +kernel
theorem d_Sw_writeStream_42 : decode prog_9_method_2_code 42 = .ok (.invokevirtual 42, 3) := by decide +kernel
theorem d_Sw_writeStream_45 : decode prog_9_method_2_code 45 = .ok (.aload_n 0, 1) := by decide +kernel
theorem d_Sw_writeStream_46 : decode prog_9_method_2_code 46 = .ok (.aload_n 1, 1) := by decide +kernel
theorem d_Sw_writeStream_47 : decode prog_9_method_2_code 47 = .ok (.getfield 46, 3) := by decide +kernel
theorem d_Sw_writeStream_50 : decode prog_9_method_2_code 50 = .ok (.ifCond .ne 7, 3) := by decide +kernel
theorem d_Sw_writeStream_53 : decode prog_9_method_2_code 53 = .ok (.iconst 0, 1) := by decide +kernel
theorem d_Sw_writeStream_54 : decode prog_9_method_2_code 54 = .ok (.goto 11, 3) := by decide +kernel
theorem d_Sw_writeStream_57 : decode prog_9_method_2_code 57 = .ok (.aload_n 3, 1) := by decide +kernel
theorem d_Sw_writeStream_58 : decode prog_9_method_2_code 58 = .ok (.getfield 30, 3) := by decide +kernel
theorem d_Sw_writeStream_61 : decode prog_9_method_2_code 61 = .ok (.iconst 0, 1) := by decide +kernel
theorem d_Sw_writeStream_62 : decode prog_9_method_2_code 62 = .ok (.invokevirtual 49, 3) := by decide +kernel
theorem d_Sw_writeStream_65 : decode prog_9_method_2_code 65 = .ok (.bipush 16, 2) := by decide +kernel
theorem d_Sw_writeStream_67 : decode prog_9_method_2_code 67 = .ok (.invokevirtual 42, 3) := by decide +kernel
theorem d_Sw_writeStream_70 : decode prog_9_method_2_code 70 = .ok (.aload_n 0, 1) := by decide +kernel
theorem d_Sw_writeStream_71 : decode prog_9_method_2_code 71 = .ok (.iload_n 2, 1) := by decide +kernel
theorem d_Sw_writeStream_72 : decode prog_9_method_2_code 72 = .ok (.bipush 32, 2) := by decide +kernel
theorem d_Sw_writeStream_74 : decode prog_9_method_2_code 74 = .ok (.invokevirtual 42, 3) := by decide +kernel
theorem d_Sw_writeStream_77 : decode prog_9_method_2_code 77 = .ok (.aload_n 1, 1) := by decide +kernel
theorem d_Sw_writeStream_78 : decode prog_9_method_2_code 78 = .ok (.getfield 46, 3) := by decide +kernel
theorem d_Sw_writeStream_81 : decode prog_9_method_2_code 81 = .ok (.ifCond .le 59, 3) := by decide +kernel
theorem d_Sw_writeStream_84 : decode prog_9_method_2_code 84 = .ok (.aload_n 3, 1) := by decide +kernel
theorem d_Sw_writeStream_85 : decode prog_9_method_2_code 85 = .ok (.getfield 53, 3) := by decide +kernel
theorem d_Sw_writeStream_88 : decode prog_9_method_2_code 88 = .ok (.aload_n 3, 1) := by decide +kernel
theorem d_Sw_writeStream_89 : decode prog_9_method_2_code 89 = .ok (.getfield 30, 3) := by decide +kernel
theorem d_Sw_writeStream_92 : decode prog_9_method_2_code 92 = .ok (.getfield 57, 3) := by decide +kernel
theorem d_Sw_writeStream_95 : decode prog_9_method_2_code 95 = .ok (.invokevirtual 60, 3) := by decide +kernel
theorem d_Sw_writeStream_98 : decode prog_9_method_2_code 98 = .ok (.aload_n 3, 1) := by decide +kernel
theorem d_Sw_writeStream_99 : decode prog_9_method_2_code 99 = .ok (.getfield 65, 3) := by decide +kernel
theorem d_Sw_writeStream_102 : decode prog_9_method_2_code 102 = .ok (.aload_n 3, 1) := by decide +kernel
theorem d_Sw_writeStream_103 : decode prog_9_method_2_code 103 = .ok (.getfield 53, 3) := by decide +kernel
theorem d_Sw_writeStream_106 : decode prog_9_method_2_code 106 = .ok (.invokevirtual 69, 3) := by decide +kernel
theorem d_Sw_writeStream_109 : decode prog_9_method_2_code 109 = .ok (.aload_n 0, 1) := by decide +kernel
theorem d_Sw_writeStream_110 : decode prog_9_method_2_code 110 = .ok (.aload_n 3, 1) := by decide +kernel
theorem d_Sw_writeStream_111 : decode prog_9_method_2_code 111 = .ok (.getfield 53, 3) := by decide +kernel
theorem d_Sw_writeStream_114 : decode prog_9_method_2_code 114 = .ok (.getfield 74, 3) := by decide +kernel
theorem d_Sw_writeStream_117 : decode prog_9_method_2_code 117 = .ok (.invokevirtual 78, 3) := by decide +kernel
theorem d_Sw_writeStream_120 : decode prog_9_method_2_code 120 = .ok (.aload_n 0, 1) := by decide +kernel
theorem d_Sw_writeStream_121 : decode prog_9_method_2_code 121 = .ok (.aload_n 3, 1) := by decide +kernel
theorem d_Sw_writeStream_122 : decode prog_9_method_2_code 122 = .ok (.getfield 65, 3) := by decide +kernel
theorem d_Sw_writeStream_125 : decode prog_9_method_2_code 125 = .ok (.invokevirtual 82, 3) := by decide +kernel
theorem d_Sw_writeStream_128 : decode prog_9_method_2_code 128 = .ok (.aload_n 0, 1) := by decide +kernel
theorem d_Sw_writeStream_129 : decode prog_9_method_2_code 129 = .ok (.aload_n 3, 1) := by decide +kernel
theorem d_Sw_writeStream_130 : decode prog_9_method_2_code 130 = .ok (.getfield 53, 3) := by decide +kernel
theorem d_Sw_writeStream_133 : decode prog_9_method_2_code 133 = .ok (.aload_n 3, 1) := by decide +kernel
theorem d_Sw_writeStream_134 : decode prog_9_method_2_code 134 = .ok (.getfield 65, 3) := by decide +kernel
theorem d_Sw_writeStream_137 : decode prog_9_method_2_code 137 = .ok (.invokevirtual 86, 3) := by decide +kernel
theorem d_Sw_writeStream_140 : decode prog_9_method_2_code 140 = .ok (.aload_n 0, 1) := by decide +kernel
theorem d_Sw_writeStream_141 : decode prog_9_method_2_code 141 = .ok (.iconst 0, 1) := by decide +kernel
theorem d_Sw_writeStream_142 : decode prog_9_method_2_code 142 = .ok (.bipush 8, 2) := by decide +kernel
theorem d_Sw_writeStream_144 : decode prog_9_method_2_code 144 = .ok (.aload_n 0, 1) := by decide +kernel
theorem d_Sw_writeStream_145 : decode prog_9_method_2_code 145 = .ok (.getfield 27, 3) := by decide +kernel
theorem d_Sw_writeStream_148 : decode prog_9_method_2_code 148 = .ok (.isub, 1) := by decide +kernel
theorem d_Sw_writeStream_149 : decode prog_9_method_2_code 149 = .ok (.bipush 8, 2) := by decide +kernel
theorem d_Sw_writeStream_151 : decode prog_9_method_2_code 151 = .ok (.irem, 1) := by decide +kernel
theorem d_Sw_writeStream_152 : decode prog_9_method_2_code 152 = .ok (.invokevirtual 42, 3) := by decide +kernel
theorem d_Sw_writeStream_155 : decode prog_9_method_2_code 155 = .ok (.return_, 1) := by decide +kernel
end
section
theorem d_Sw_put_0 : decode prog_9_method_3_code 0 = .ok (.iload_n 2, 1) := by decide +kernel
theorem d_Sw_put_1 : decode prog_9_method_3_code 1 = .ok (.iconst 1, 1) := by decide +kernel
theorem d_Sw_put_2 : decode prog_9_method_3_code 2 = .ok (.isub, 1) := by decide +kernel
theorem d_Sw_put_3 : decode prog_9_method_3_code 3 = .ok (.istore_n 3, 1) := by decide +kernel
theorem d_Sw_put_4 : decode prog_9_method_3_code 4 = .ok (.iload_n 3, 1) := by decide +kernel
theorem d_Sw_put_5 : decode prog_9_method_3_code 5 = .ok (.ifCond .lt 65, 3) := by decide +kernel
theorem d_Sw_put_8 : decode prog_9_method_3_code 8 = .ok (.aload_n 0, 1) := by decide +kernel
theorem d_Sw_put_9 : decode prog_9_method_3_code 9 = .ok (.aload_n 0, 1) := by decide +kernel
theorem d_Sw_put_10 : decode prog_9_method_3_code 10 = .ok (.getfield 23, 3) := by decide +kernel
theorem d_Sw_put_13 : decode prog_9_method_3_code 13 = .ok (.iconst 1, 1) := by decide +kernel
theorem d_Sw_put_14 : decode prog_9_method_3_code 14 = .ok (.ishl, 1) := by decide +kernel
theorem d_Sw_put_15 : decode prog_9_method_3_code 15 = .ok (.iload_n 1, 1) := by decide +kernel
theorem d_Sw_put_16 : decode prog_9_method_3_code 16 = .ok (.iload_n 3, 1) := by decide +kernel
theorem d_Sw_put_17 : decode prog_9_method_3_code 17 = .ok (.iushr, 1) := by decide +kernel
theorem d_Sw_put_18 : decode prog_9_method_3_code 18 = .ok (.iconst 1, 1) := by decide +kernel
theorem d_Sw_put_19 : decode prog_9_method_3_code 19 = .ok (.iand, 1) := by decide +kernel
theorem d_Sw_put_20 : decode prog_9_method_3_code 20 = .ok (.ior, 1) := by decide +kernel
theorem d_Sw_put_21 : decode prog_9_method_3_code 21 = .ok (.putfield 23, 3) := by decide +kernel
theorem d_Sw_put_24 : decode prog_9_method_3_code 24 = .ok (.aload_n 0, 1) := by decide +kernel
theorem d_Sw_put_25 : decode prog_9_method_3_code 25 = .ok (.dup, 1) := by decide +kernel
theorem d_Sw_put_26 : decode prog_9_method_3_code 26 = .ok (.getfield 27, 3) := by decide +kernel
theorem d_Sw_put_29 : decode prog_9_method_3_code 29 = .ok (.iconst 1, 1) := by decide +kernel
theorem d_Sw_put_30 : decode prog_9_method_3_code 30 = .ok (.iadd, 1) := by decide +kernel
theorem d_Sw_put_31 : decode prog_9_method_3_code 31 = .ok (.putfield 27, 3) := by decide +kernel
theorem d_Sw_put_34 : decode prog_9_method_3_code 34 = .ok (.aload_n 0, 1) := by decide +kernel
theorem d_Sw_put_35 : decode prog_9_method_3_code 35 = .ok (.getfield 27, 3) := by decide +kernel
theorem d_Sw_put_38 : decode prog_9_method_3_code 38 = .ok (.bipush 8, 2) := by decide +kernel
theorem d_Sw_put_40 : decode prog_9_method_3_code 40 = .ok (.if_icmp .ne 24, 3) := by decide +kernel
theorem d_Sw_put_43 : decode prog_9_method_3_code 43 = .ok (.aload_n 0, 1) := by decide +kernel
theorem d_Sw_put_44 : decode prog_9_method_3_code 44 = .ok (.getfield 14, 3) := by decide +kernel
theorem d_Sw_put_47 : decode prog_9_method_3_code 47 = .ok (.aload_n 0, 1) := by decide +kernel
theorem d_Sw_put_48 : decode prog_9_method_3_code 48 = .ok (.getfield 23, 3) := by decide +kernel
theorem d_Sw_put_51 : decode prog_9_method_3_code 51 = .ok (.invokevirtual 90, 3) := by decide +kernel
theorem d_Sw_put_54 : decode prog_9_method_3_code 54 = .ok (.aload_n 0, 1) := by decide +kernel
theorem d_Sw_put_55 : decode prog_9_method_3_code 55 = .ok (.iconst 0, 1) := by decide +kernel
theorem d_Sw_put_56 : decode prog_9_method_3_code 56 = .ok (.putfield 23, 3) := by decide +kernel
theorem d_Sw_put_59 : decode prog_9_method_3_code 59 = .ok (.aload_n 0, 1) := by decide +kernel
theorem d_Sw_put_60 : decode prog_9_method_3_code 60 = .ok (.iconst 0, 1) := by decide +kernel
theorem d_Sw_put_61 : decode prog_9_method_3_code 61 = .ok (.putfield 27, 3) := by decide +kernel
theorem d_Sw_put_64 : decode prog_9_method_3_code 64 = .ok (.iinc 3 (-1), 3) := by decide +kernel
theorem d_Sw_put_67 : decode prog_9_method_3_code 67 = .ok (.goto (-63), 3) := by decide +kernel
theorem d_Sw_put_70 : decode prog_9_method_3_code 70 = .ok (.return_, 1) := by decide +kernel
theorem d_Sw_putList_0 : decode prog_9_method_4_code 0 = .ok (.iconst 0, 1) := by decide +kernel
theorem d_Sw_putList_1 : decode prog_9_method_4_code 1 = .ok (.istore_n 2, 1) := by decide +kernel
theorem d_Sw_putList_2 : decode prog_9_method_4_code 2 = .ok (.iconst 0, 1) := by decide +kernel
theorem d_Sw_putList_3 : decode prog_9_method_4_code 3 = .ok (.istore_n 3, 1) := by decide +kernel
theorem d_Sw_putList_4 : decode prog_9_method_4_code 4 = .ok (.iload_n 3, 1) := by decide +kernel
theorem d_Sw_putList_5 : decode prog_9_method_4_code 5 = .ok (.bipush 16, 2) := by decide +kernel
theorem d_Sw_putList_7 : decode prog_9_method_4_code 7 = .ok (.if_icmp .ge 28, 3) := by decide +kernel
theorem d_Sw_putList_10 : decode prog_9_method_4_code 10 = .ok (.iload_n 2, 1) := by decide +kernel
theorem d_Sw_putList_11 : decode prog_9_method_4_code 11 = .ok (.aload_n 1, 1) := by decide +kernel
theorem d_Sw_putList_12 : decode prog_9_method_4_code 12 = .ok (.iload_n 3, 1) := by decide +kernel
theorem d_Sw_putList_13 : decode prog_9_method_4_code 13 = .ok (.invokestatic 93, 3) := by decide +kernel
theorem d_Sw_putList_16 : decode prog_9_method_4_code 16 = .ok (.ifCond .ne 7, 3) := by decide +kernel
theorem d_Sw_putList_19 : decode prog_9_method_4_code 19 = .ok (.iconst 0, 1) := by decide +kernel
theorem d_Sw_putList_20 : decode prog_9_method_4_code 20 = .ok (.goto 7, 3) := by decide +kernel
theorem d_Sw_putList_23 : decode prog_9_method_4_code 23 = .ok (.iload_n 3, 1) := by decide +kernel
theorem d_Sw_putList_24 : decode prog_9_method_4_code 24 = .ok (.invokestatic 97, 3) := by decide +kernel
theorem d_Sw_putList_27 : decode prog_9_method_4_code 27 = .ok (.ior, 1) := by decide +kernel
theorem d_Sw_putList_28 : decode prog_9_method_4_code 28 = .ok (.istore_n 2, 1) := by decide +kernel
theorem d_Sw_putList_29 : decode prog_9_method_4_code 29 = .ok (.iinc 3 1, 3) := by decide +kernel
theorem d_Sw_putList_32 : decode prog_9_method_4_code 32 = .ok (.goto (-28), 3) := by decide +kernel
theorem d_Sw_putList_35 : decode prog_9_method_4_code 35 = .ok (.aload_n 0, 1) := by decide +kernel
theorem d_Sw_putList_36 : decode prog_9_method_4_code 36 = .ok (.iload_n 2, 1) := by decide +kernel
theorem d_Sw_putList_37 : decode prog_9_method_4_code 37 = .ok (.bipush 16, 2) := by decide +kernel
theorem d_Sw_putList_39 : decode prog_9_method_4_code 39 = .ok (.invokevirtual 42, 3) := by decide +kernel
theorem d_Sw_putList_42 : decode prog_9_method_4_code 42 = .ok (.iconst 0, 1) := by decide +kernel
theorem d_Sw_putList_43 : decode prog_9_method_4_code 43 = .ok (.istore_n 3, 1) := by decide +kernel
theorem d_Sw_putList_44 : decode prog_9_method_4_code 44 = .ok (.iload_n 3, 1) := by decide +kernel
theorem d_Sw_putList_45 : decode prog_9_method_4_code 45 = .ok (.bipush 16, 2) := by decide +kernel
theorem d_Sw_putList_47 : decode prog_9_method_4_code 47 = .ok (.if_icmp .ge 29, 3) := by decide +kernel
theorem d_Sw_putList_50 : decode prog_9_method_4_code 50 = .ok (.aload_n 1, 1) := by decide +kernel
theorem d_Sw_putList_51 : decode prog_9_method_4_code 51 = .ok (.iload_n 3, 1) := by decide +kernel
theorem d_Sw_putList_52 : decode prog_9_method_4_code 52 = .ok (.invokestatic 93, 3) := by decide +kernel
theorem d_Sw_putList_55 : decode prog_9_method_4_code 55 = .ok (.istore 4, 2) := by decide +kernel
theorem d_Sw_putList_57 : decode prog_9_method_4_code 57 = .ok (.iload 4, 2) := by decide +kernel
theorem d_Sw_putList_59 : decode prog_9_method_4_code 59 = .ok (.ifCond .eq 11, 3) := by decide +kernel
theorem d_Sw_putList_62 : decode prog_9_method_4_code 62 = .ok (.aload_n 0, 1) := by decide +kernel
theorem d_Sw_putList_63 : decode prog_9_method_4_code 63 = .ok (.iload 4, 2) := by decide +kernel
theorem d_Sw_putList_65 : decode prog_9_method_4_code 65 = .ok (.bipush 16, 2) := by decide +kernel
theorem d_Sw_putList_67 : decode prog_9_method_4_code 67 = .ok (.invokevirtual 42, 3) := by decide +kernel
theorem d_Sw_putList_70 : decode prog_9_method_4_code 70 = .ok (.iinc 3 1, 3) := by decide +kernel
theorem d_Sw_putList_73 : decode prog_9_method_4_code 73 = .ok (.goto (-29), 3) := by decide +kernel
theorem d_Sw_putList_76 : decode prog_9_method_4_code 76 = .ok (.return_, 1) := by decide +kernel
theorem d_Sw_marksIn_0 : decode prog_9_method_5_code 0 = .ok (.iconst 0, 1) := by decide +kernel
theorem d_Sw_marksIn_1 : decode prog_9_method_5_code 1 = .ok (.istore_n 2, 1) := by decide +kernel
theorem d_Sw_marksIn_2 : decode prog_9_method_5_code 2 = .ok (.iconst 0, 1) := by decide +kernel
theorem d_Sw_marksIn_3 : decode prog_9_method_5_code 3 = .ok (.istore_n 3, 1) := by decide +kernel
theorem d_Sw_marksIn_4 : decode prog_9_method_5_code 4 = .ok (.iload_n 3, 1) := by decide +kernel
theorem d_Sw_marksIn_5 : decode prog_9_method_5_code 5 = .ok (.aload_n 0, 1) := by decide +kernel
theorem d_Sw_marksIn_6 : decode prog_9_method_5_code 6 = .ok (.getfield 100, 3) := by decide +kernel
theorem d_Sw_marksIn_9 : decode prog_9_method_5_code 9 = .ok (.if_icmp .ge 36, 3) := by decide +kernel
theorem d_Sw_marksIn_12 : decode prog_9_method_5_code 12 = .ok (.aload_n 0, 1) := by decide +kernel
theorem d_Sw_marksIn_13 : decode prog_9_method_5_code 13 = .ok (.iload_n 3, 1) := by decide +kernel
theorem d_Sw_marksIn_14 : decode prog_9_method_5_code 14 = .ok (.invokevirtual 103, 3) := by decide +kernel
theorem d_Sw_marksIn_17 : decode prog_9_method_5_code 17 = .ok (.istore 4, 2) := by decide +kernel
theorem d_Sw_marksIn_19 : decode prog_9_method_5_code 19 = .ok (.iload 4, 2) := by decide +kernel
theorem d_Sw_marksIn_21 : decode prog_9_method_5_code 21 = .ok (.bipush 16, 2) := by decide +kernel
theorem d_Sw_marksIn_23 : decode prog_9_method_5_code 23 = .ok (.idiv, 1) := by decide +kernel
theorem d_Sw_marksIn_24 : decode prog_9_method_5_code 24 = .ok (.iload_n 1, 1) := by decide +kernel
theorem d_Sw_marksIn_25 : decode prog_9_method_5_code 25 = .ok (.if_icmp .ne 14, 3) := by decide +kernel
theorem d_Sw_marksIn_28 : decode prog_9_method_5_code 28 = .ok (.iload_n 2, 1) := by decide +kernel
theorem d_Sw_marksIn_29 : decode prog_9_method_5_code 29 = .ok (.iload 4, 2) := by decide +kernel
theorem d_Sw_marksIn_31 : decode prog_9_method_5_code 31 = .ok (.bipush 16, 2) := by decide +kernel
theorem d_Sw_marksIn_33 : decode prog_9_method_5_code 33 = .ok (.irem, 1) := by decide +kernel
theorem d_Sw_marksIn_34 : decode prog_9_method_5_code 34 = .ok (.invokestatic 97, 3) := by decide +kernel
theorem d_Sw_marksIn_37 : decode prog_9_method_5_code 37 = .ok (.ior, 1) := by decide +kernel
theorem d_Sw_marksIn_38 : decode prog_9_method_5_code 38 = .ok (.istore_n 2, 1) := by decide +kernel
theorem d_Sw_marksIn_39 : decode prog_9_method_5_code 39 = .ok (.iinc 3 1, 3) := by decide +kernel
theorem d_Sw_marksIn_42 : decode prog_9_method_5_code 42 = .ok (.goto (-38), 3) := by decide +kernel
theorem d_Sw_marksIn_45 : decode prog_9_method_5_code 45 = .ok (.iload_n 2, 1) := by decide +kernel
theorem d_Sw_marksIn_46 : decode prog_9_method_5_code 46 = .ok (.ireturn, 1) := by decide +kernel
theorem d_Sw_markOf_0 : decode prog_9_method_6_code 0 = .ok (.iconst 1, 1) := by decide +kernel
theorem d_Sw_markOf_1 : decode prog_9_method_6_code 1 = .ok (.bipush 15, 2) := by decide +kernel
theorem d_Sw_markOf_3 : decode prog_9_method_6_code 3 = .ok (.iload_n 0, 1) := by decide +kernel
theorem d_Sw_markOf_4 : decode prog_9_method_6_code 4 = .ok (.isub, 1) := by decide +kernel
theorem d_Sw_markOf_5 : decode prog_9_method_6_code 5 = .ok (.ishl, 1) := by decide +kernel
theorem d_Sw_markOf_6 : decode prog_9_method_6_code 6 = .ok (.ireturn, 1) := by decide +kernel
theorem d_Sw_putLengths_0 : decode prog_9_method_7_code 0 = .ok (.aload_n 1, 1) := by decide +kernel
theorem d_Sw_putLengths_1 : decode prog_9_method_7_code 1 = .ok (.iconst 0, 1) := by decide +kernel
theorem d_Sw_putLengths_2 : decode prog_9_method_7_code 2 = .ok (.invokevirtual 106, 3) := by decide +kernel
theorem d_Sw_putLengths_5 : decode prog_9_method_7_code 5 = .ok (.istore_n 2, 1) := by decide +kernel
theorem d_Sw_putLengths_6 : decode prog_9_method_7_code 6 = .ok (.aload_n 0, 1) := by decide +kernel
theorem d_Sw_putLengths_7 : decode prog_9_method_7_code 7 = .ok (.iload_n 2, 1) := by decide +kernel
theorem d_Sw_putLengths_8 : decode prog_9_method_7_code 8 = .ok (.iconst 4, 1) := by decide +kernel
theorem d_Sw_putLengths_9 : decode prog_9_method_7_code 9 = .ok (.invokevirtual 42, 3) := by decide +kernel
theorem d_Sw_putLengths_12 : decode prog_9_method_7_code 12 = .ok (.iconst 0, 1) := by decide +kernel
theorem d_Sw_putLengths_13 : decode prog_9_method_7_code 13 = .ok (.istore_n 3, 1) := by decide +kernel
theorem d_Sw_putLengths_14 : decode prog_9_method_7_code 14 = .ok (.iload_n 3, 1) := by decide +kernel
theorem d_Sw_putLengths_15 : decode prog_9_method_7_code 15 = .ok (.aload_n 1, 1) := by decide +kernel
theorem d_Sw_putLengths_16 : decode prog_9_method_7_code 16 = .ok (.getfield 109, 3) := by decide +kernel
theorem d_Sw_putLengths_19 : decode prog_9_method_7_code 19 = .ok (.if_icmp .ge 58, 3) := by decide +kernel
theorem d_Sw_putLengths_22 : decode prog_9_method_7_code 22 = .ok (.aload_n 1, 1) := by decide +kernel
theorem d_Sw_putLengths_23 : decode prog_9_method_7_code 23 = .ok (.iload_n 3, 1) := by decide +kernel
theorem d_Sw_putLengths_24 : decode prog_9_method_7_code 24 = .ok (.invokevirtual 106, 3) := by decide +kernel
theorem d_Sw_putLengths_27 : decode prog_9_method_7_code 27 = .ok (.istore 4, 2) := by decide +kernel
theorem d_Sw_putLengths_29 : decode prog_9_method_7_code 29 = .ok (.iload_n 2, 1) := by decide +kernel
theorem d_Sw_putLengths_30 : decode prog_9_method_7_code 30 = .ok (.iload 4, 2) := by decide +kernel
theorem d_Sw_putLengths_32 : decode prog_9_method_7_code 32 = .ok (.if_icmp .ge 15, 3) := by decide +kernel
theorem d_Sw_putLengths_35 : decode prog_9_method_7_code 35 = .ok (.aload_n 0, 1) := by decide +kernel
theorem d_Sw_putLengths_36 : decode prog_9_method_7_code 36 = .ok (.iconst 2, 1) := by decide +kernel
theorem d_Sw_putLengths_37 : decode prog_9_method_7_code 37 = .ok (.iconst 2, 1) := by decide +kernel
theorem d_Sw_putLengths_38 : decode prog_9_method_7_code 38 = .ok (.invokevirtual 42, 3) := by decide +kernel
theorem d_Sw_putLengths_41 : decode prog_9_method_7_code 41 = .ok (.iinc 2 1, 3) := by decide +kernel
theorem d_Sw_putLengths_44 : decode prog_9_method_7_code 44 = .ok (.goto (-15), 3) := by decide +kernel
theorem d_Sw_putLengths_47 : decode prog_9_method_7_code 47 = .ok (.iload_n 2, 1) := by decide +kernel
theorem d_Sw_putLengths_48 : decode prog_9_method_7_code 48 = .ok (.iload 4, 2) := by decide +kernel
theorem d_Sw_putLengths_50 : decode prog_9_method_7_code 50 = .ok (.if_icmp .le 15, 3) := by decide +kernel
theorem d_Sw_putLengths_53 : decode prog_9_method_7_code 53 = .ok (.aload_n 0, 1) := by decide +kernel
theorem d_Sw_putLengths_54 : decode prog_9_method_7_code 54 = .ok (.iconst 3, 1) := by decide +kernel
theorem d_Sw_putLengths_55 : decode prog_9_method_7_code 55 = .ok (.iconst 2, 1) := by decide +kernel
theorem d_Sw_putLengths_56 : decode prog_9_method_7_code 56 = .ok (.invokevirtual 42, 3) := by decide +kernel
theorem d_Sw_putLengths_59 : decode prog_9_method_7_code 59 = .ok (.iinc 2 (-1), 3) := by decide +kernel
theorem d_Sw_putLengths_62 : decode prog_9_method_7_code 62 = .ok (.goto (-15), 3) := by decide +kernel
theorem d_Sw_putLengths_65 : decode prog_9_method_7_code 65 = .ok (.aload_n 0, 1) := by decide +kernel
theorem d_Sw_putLengths_66 : decode prog_9_method_7_code 66 = .ok (.iconst 0, 1) := by decide +kernel
theorem d_Sw_putLengths_67 : decode prog_9_method_7_code 67 = .ok (.iconst 1, 1) := by decide +kernel
theorem d_Sw_putLengths_68 : decode prog_9_method_7_code 68 = .ok (.invokevirtual 42, 3) := by decide +kernel
theorem d_Sw_putLengths_71 : decode prog_9_method_7_code 71 = .ok (.iinc 3 1, 3) := by decide +kernel
theorem d_Sw_putLengths_74 : decode prog_9_method_7_code 74 = .ok (.goto (-60), 3) := by decide +kernel
theorem d_Sw_putLengths_77 : decode prog_9_method_7_code 77 = .ok (.return_, 1) := by decide +kernel
theorem d_Sw_putCodes_0 : decode prog_9_method_8_code 0 = .ok (.iconst 0, 1) := by decide +kernel
theorem d_Sw_putCodes_1 : decode prog_9_method_8_code 1 = .ok (.istore_n 3, 1) := by decide +kernel
theorem d_Sw_putCodes_2 : decode prog_9_method_8_code 2 = .ok (.iload_n 3, 1) := by decide +kernel
theorem d_Sw_putCodes_3 : decode prog_9_method_8_code 3 = .ok (.aload_n 1, 1) := by decide +kernel
theorem d_Sw_putCodes_4 : decode prog_9_method_8_code 4 = .ok (.getfield 112, 3) := by decide +kernel
theorem d_Sw_putCodes_7 : decode prog_9_method_8_code 7 = .ok (.if_icmp .ge 32, 3) := by decide +kernel
theorem d_Sw_putCodes_10 : decode prog_9_method_8_code 10 = .ok (.aload_n 1, 1) := by decide +kernel
theorem d_Sw_putCodes_11 : decode prog_9_method_8_code 11 = .ok (.iload_n 3, 1) := by decide +kernel
theorem d_Sw_putCodes_12 : decode prog_9_method_8_code 12 = .ok (.invokevirtual 113, 3) := by decide +kernel
theorem d_Sw_putCodes_15 : decode prog_9_method_8_code 15 = .ok (.istore 4, 2) := by decide +kernel
theorem d_Sw_putCodes_17 : decode prog_9_method_8_code 17 = .ok (.aload_n 0, 1) := by decide +kernel
theorem d_Sw_putCodes_18 : decode prog_9_method_8_code 18 = .ok (.aload_n 2, 1) := by decide +kernel
theorem d_Sw_putCodes_19 : decode prog_9_method_8_code 19 = .ok (.iload 4, 2) := by decide +kernel
theorem d_Sw_putCodes_21 : decode prog_9_method_8_code 21 = .ok (.invokevirtual 114, 3) := by decide +kernel
theorem d_Sw_putCodes_24 : decode prog_9_method_8_code 24 = .ok (.aload_n 2, 1) := by decide +kernel
theorem d_Sw_putCodes_25 : decode prog_9_method_8_code 25 = .ok (.iload 4, 2) := by decide +kernel
theorem d_Sw_putCodes_27 : decode prog_9_method_8_code 27 = .ok (.invokevirtual 106, 3) := by decide +kernel
theorem d_Sw_putCodes_30 : decode prog_9_method_8_code 30 = .ok (.invokevirtual 42, 3) := by decide +kernel
theorem d_Sw_putCodes_33 : decode prog_9_method_8_code 33 = .ok (.iinc 3 1, 3) := by decide +kernel
theorem d_Sw_putCodes_36 : decode prog_9_method_8_code 36 = .ok (.goto (-34), 3) := by decide +kernel
theorem d_Sw_putCodes_39 : decode prog_9_method_8_code 39 = .ok (.return_, 1) := by decide +kernel
theorem d_Sy_init_0 : decode prog_10_method_1_code 0 = .ok (.aload_n 0, 1) := by decide +kernel
theorem d_Sy_init_1 : decode prog_10_method_1_code 1 = .ok (.invokespecial 3, 3) := by decide +kernel
theorem d_Sy_init_4 : decode prog_10_method_1_code 4 = .ok (.aload_n 0, 1) := by decide +kernel
theorem d_Sy_init_5 : decode prog_10_method_1_code 5 = .ok (.new 9, 3) := by decide +kernel
theorem d_Sy_init_8 : decode prog_10_method_1_code 8 = .ok (.dup, 1) := by decide +kernel
theorem d_Sy_init_9 : decode prog_10_method_1_code 9 = .ok (.invokespecial 11, 3) := by decide +kernel
theorem d_Sy_init_12 : decode prog_10_method_1_code 12 = .ok (.putfield 12, 3) := by decide +kernel
theorem d_Sy_init_15 : decode prog_10_method_1_code 15 = .ok (.aload_n 0, 1) := by decide +kernel
theorem d_Sy_init_16 : decode prog_10_method_1_code 16 = .ok (.sipush 901, 3) := by decide +kernel
theorem d_Sy_init_19 : decode prog_10_method_1_code 19 = .ok (.newarray .int, 2) := by decide +kernel
theorem d_Sy_init_21 : decode prog_10_method_1_code 21 = .ok (.putfield 18, 3) := by decide +kernel
theorem d_Sy_init_24 : decode prog_10_method_1_code 24 = .ok (.return_, 1) := by decide +kernel
theorem d_Sy_at_0 : decode prog_10_method_2_code 0 = .ok (.iload_n 1, 1) := by decide +kernel
theorem d_Sy_at_1 : decode prog_10_method_2_code 1 = .ok (.ifCond .lt 20, 3) := by decide +kernel
theorem d_Sy_at_4 : decode prog_10_method_2_code 4 = .ok (.iload_n 1, 1) := by decide +kernel
theorem d_Sy_at_5 : decode prog_10_method_2_code 5 = .ok (.aload_n 0, 1) := by decide +kernel
theorem d_Sy_at_6 : decode prog_10_method_2_code 6 = .ok (.getfield 22, 3) := by decide +kernel
theorem d_Sy_at_9 : decode prog_10_method_2_code 9 = .ok (.if_icmp .ge 12, 3) := by decide +kernel
theorem d_Sy_at_12 : decode prog_10_method_2_code 12 = .ok (.aload_n 0, 1) := by decide +kernel
theorem d_Sy_at_13 : decode prog_10_method_2_code 13 = .ok (.getfield 18, 3) := by decide +kernel
theorem d_Sy_at_16 : decode prog_10_method_2_code 16 = .ok (.iload_n 1, 1) := by decide +kernel
theorem d_Sy_at_17 : decode prog_10_method_2_code 17 = .ok (.iaload, 1) := by decide +kernel
theorem d_Sy_at_18 : decode prog_10_method_2_code 18 = .ok (.goto 5, 3) := by decide +kernel
theorem d_Sy_at_21 : decode prog_10_method_2_code 21 = .ok (.bipush (-2), 2) := by decide +kernel
theorem d_Sy_at_23 : decode prog_10_method_2_code 23 = .ok (.ireturn, 1) := by decide +kernel
theorem d_Sy_makeFrom_0 : decode prog_10_method_3_code 0 = .ok (.aload_n 0, 1) := by decide +kernel
theorem d_Sy_makeFrom_1 : decode prog_10_method_3_code 1 = .ok (.getfield 12, 3) := by decide +kernel
theorem d_Sy_makeFrom_4 : decode prog_10_method_3_code 4 = .ok (.aload_n 1, 1) := by decide +kernel
theorem d_Sy_makeFrom_5 : decode prog_10_method_3_code 5 = .ok (.invokevirtual 26, 3) := by decide +kernel
theorem d_Sy_makeFrom_8 : decode prog_10_method_3_code 8 = .ok (.aload_n 0, 1) := by decide +kernel
theorem d_Sy_makeFrom_9 : decode prog_10_method_3_code 9 = .ok (.iconst 0, 1) := by decide +kernel
theorem d_Sy_makeFrom_10 : decode prog_10_method_3_code 10 = .ok (.putfield 22, 3) := by decide +kernel
theorem d_Sy_makeFrom_13 : decode prog_10_method_3_code 13 = .ok (.aload_n 0, 1) := by decide +kernel
theorem d_Sy_makeFrom_14 : decode prog_10_method_3_code 14 = .ok (.aload_n 0, 1) := by decide +kernel
theorem d_Sy_makeFrom_15 : decode prog_10_method_3_code 15 = .ok (.getfield 12, 3) := by decide +kernel
theorem d_Sy_makeFrom_18 : decode prog_10_method_3_code 18 = .ok (.getfield 30, 3) := by decide +kernel
theorem d_Sy_makeFrom_21 : decode prog_10_method_3_code 21 = .ok (.iconst 1, 1) := by decide +kernel
theorem d_Sy_makeFrom_22 : decode prog_10_method_3_code 22 = .ok (.iadd, 1) := by decide +kernel
theorem d_Sy_makeFrom_23 : decode prog_10_method_3_code 23 = .ok (.putfield 33, 3) := by decide +kernel
theorem d_Sy_makeFrom_26 : decode prog_10_method_3_code 26 = .ok (.iconst 0, 1) := by decide +kernel
theorem d_Sy_makeFrom_27 : decode prog_10_method_3_code 27 = .ok (.istore_n 2, 1) := by decide +kernel
theorem d_Sy_makeFrom_28 : decode prog_10_method_3_code 28 = .ok (.iconst 0, 1) := by decide +kernel
theorem d_Sy_makeFrom_29 : decode prog_10_method_3_code 29 = .ok (.istore_n 3, 1) := by decide +kernel
theorem d_Sy_makeFrom_30 : decode prog_10_method_3_code 30 = .ok (.iload_n 3, 1) := by decide +kernel
theorem d_Sy_makeFrom_31 : decode prog_10_method_3_code 31 = .ok (.aload_n 1, 1) := by decide +kernel
theorem d_Sy_makeFrom_32 : decode prog_10_method_3_code 32 = .ok (.getfield 36, 3) := by decide +kernel
theorem d_Sy_makeFrom_35 : decode prog_10_method_3_code 35 = .ok (.if_icmp .ge 58, 3) := by decide +kernel
theorem d_Sy_makeFrom_38 : decode prog_10_method_3_code 38 = .ok (.aload_n 0, 1) := by decide +kernel
theorem d_Sy_makeFrom_39 : decode prog_10_method_3_code 39 = .ok (.getfield 12, 3) := by decide +kernel
theorem d_Sy_makeFrom_42 : decode prog_10_method_3_code 42 = .ok (.aload_n 1, 1) := by decide +kernel
theorem d_Sy_makeFrom_43 : decode prog_10_method_3_code 43 = .ok (.iload_n 3, 1) := by decide +kernel
theorem d_Sy_makeFrom_44 : decode prog_10_method_3_code 44 = .ok (.invokevirtual 39, 3) := by decide +kernel
theorem d_Sy_makeFrom_47 : decode prog_10_method_3_code 47 = .ok (.invokevirtual 43, 3) := by decide +kernel
theorem d_Sy_makeFrom_50 : decode prog_10_method_3_code 50 = .ok (.istore 4, 2) := by decide +kernel
theorem d_Sy_makeFrom_52 : decode prog_10_method_3_code 52 = .ok (.iload 4, 2) := by decide +kernel
theorem d_Sy_makeFrom_54 : decode prog_10_method_3_code 54 = .ok (.ifCond .ne 9, 3) := by decide +kernel
theorem d_Sy_makeFrom_57 : decode prog_10_method_3_code 57 = .ok (.iinc 2 1, 3) := by decide +kernel
theorem d_Sy_makeFrom_60 : decode prog_10_method_3_code 60 = .ok (.goto 27, 3) := by decide +kernel
theorem d_Sy_makeFrom_63 : decode prog_10_method_3_code 63 = .ok (.aload_n 0, 1) := by decide +kernel
theorem d_Sy_makeFrom_64 : decode prog_10_method_3_code 64 = .ok (.iload_n 2, 1) := by decide +kernel
theorem d_Sy_makeFrom_65 : decode prog_10_method_3_code 65 = .ok (.invokevirtual 46, 3) := by decide +kernel
theorem d_Sy_makeFrom_68 : decode prog_10_method_3_code 68 = .ok (.iconst 0, 1) := by decide +kernel
theorem d_Sy_makeFrom_69 : decode prog_10_method_3_code 69 = .ok (.istore_n 2, 1) := by decide +kernel
theorem d_Sy_makeFrom_70 : decode prog_10_method_3_code 70 = .ok (.aload_n 0, 1) := by decide +kernel
theorem d_Sy_makeFrom_71 : decode prog_10_method_3_code 71 = .ok (.iload 4, 2) := by decide +kernel
theorem d_Sy_makeFrom_73 : decode prog_10_method_3_code 73 = .ok (.iconst 1, 1) := by decide +kernel
theorem d_Sy_makeFrom_74 : decode prog_10_method_3_code 74 = .ok (.iadd, 1) := by decide +kernel
theorem d_Sy_makeFrom_75 : decode prog_10_method_3_code 75 = .ok (.invokevirtual 50, 3) := by decide +kernel
theorem d_Sy_makeFrom_78 : decode prog_10_method_3_code 78 = .ok (.aload_n 0, 1) := by decide +kernel
theorem d_Sy_makeFrom_79 : decode prog_10_method_3_code 79 = .ok (.getfield 12, 3) := by decide +kernel
theorem d_Sy_makeFrom_82 : decode prog_10_method_3_code 82 = .ok (.iload 4, 2) := by decide +kernel
theorem d_Sy_makeFrom_84 : decode prog_10_method_3_code 84 = .ok (.invokevirtual 53, 3) := by decide +kernel
theorem d_Sy_makeFrom_87 : decode prog_10_method_3_code 87 = .ok (.iinc 3 1, 3) := by decide +kernel
theorem d_Sy_makeFrom_90 : decode prog_10_method_3_code 90 = .ok (.goto (-60), 3) := by decide +kernel
theorem d_Sy_makeFrom_93 : decode prog_10_method_3_code 93 = .ok (.aload_n 0, 1) := by decide +kernel
theorem d_Sy_makeFrom_94 : decode prog_10_method_3_code 94 = .ok (.iload_n 2, 1) := by decide +kernel
theorem d_Sy_makeFrom_95 : decode prog_10_method_3_code 95 = .ok (.invokevirtual 46, 3) := by decide +kernel
theorem d_Sy_makeFrom_98 : decode prog_10_method_3_code 98 = .ok (.aload_n 0, 1) := by decide +kernel
theorem d_Sy_makeFrom_99 : decode prog_10_method_3_code 99 = .ok (.aload_n 0, 1) := by decide +kernel
theorem d_Sy_makeFrom_100 : decode prog_10_method_3_code 100 = .ok (.getfield 33, 3) := by decide +kernel
theorem d_Sy_makeFrom_103 : decode prog_10_method_3_code 103 = .ok (.invokevirtual 50, 3) := by decide +kernel
theorem d_Sy_makeFrom_106 : decode prog_10_method_3_code 106 = .ok (.return_, 1) := by decide +kernel
theorem d_Sy_addDigits_0 : decode prog_10_method_4_code 0 = .ok (.iload_n 1, 1) := by decide +kernel
theorem d_Sy_addDigits_1 : decode prog_10_method_4_code 1 = .ok (.istore_n 2, 1) := by decide +kernel
theorem d_Sy_addDigits_2 : decode prog_10_method_4_code 2 = .ok (.iload_n 2, 1) := by decide +kernel
theorem d_Sy_addDigits_3 : decode prog_10_method_4_code 3 = .ok (.ifCond .le 21, 3) := by decide +kernel
theorem d_Sy_addDigits_6 : decode prog_10_method_4_code 6 = .ok (.aload_n 0, 1) := by decide +kernel
theorem d_Sy_addDigits_7 : decode prog_10_method_4_code 7 = .ok (.iload_n 2, 1) := by decide +kernel
theorem d_Sy_addDigits_8 : decode prog_10_method_4_code 8 = .ok (.iconst 1, 1) := by decide +kernel
theorem d_Sy_addDigits_9 : decode prog_10_method_4_code 9 = .ok (.isub, 1) := by decide +kernel
theorem d_Sy_addDigits_10 : decode prog_10_method_4_code 10 = .ok (.iconst 2, 1) := by decide +kernel
theorem d_Sy_addDigits_11 : decode prog_10_method_4_code 11 = .ok (.irem, 1) := by decide +kernel
theorem d_Sy_addDigits_12 : decode prog_10_method_4_code 12 = .ok (.invokevirtual 50, 3) := by decide +kernel
theorem d_Sy_addDigits_15 : decode prog_10_method_4_code 15 = .ok (.iload_n 2, 1) := by decide +kernel
theorem d_Sy_addDigits_16 : decode prog_10_method_4_code 16 = .ok (.iconst 1, 1) := by decide +kernel
theorem d_Sy_addDigits_17 : decode prog_10_method_4_code 17 = .ok (.isub, 1) := by decide +kernel
theorem d_Sy_addDigits_18 : decode prog_10_method_4_code 18 = .ok (.iconst 2, 1) := by decide +kernel
theorem d_Sy_addDigits_19 : decode prog_10_method_4_code 19 = .ok (.idiv, 1) := by decide +kernel
theorem d_Sy_addDigits_20 : decode prog_10_method_4_code 20 = .ok (.istore_n 2, 1) := by decide +kernel
theorem d_Sy_addDigits_21 : decode prog_10_method_4_code 21 = .ok (.goto (-19), 3) := by decide +kernel
theorem d_Sy_addDigits_24 : decode prog_10_method_4_code 24 = .ok (.return_, 1) := by decide +kernel
theorem d_Sy_addSymbol_0 : decode prog_10_method_5_code 0 = .ok (.aload_n 0, 1) := by decide +kernel
theorem d_Sy_addSymbol_1 : decode prog_10_method_5_code 1 = .ok (.getfield 22, 3) := by decide +kernel
theorem d_Sy_addSymbol_4 : decode prog_10_method_5_code 4 = .ok (.aload_n 0, 1) := by decide +kernel
theorem d_Sy_addSymbol_5 : decode prog_10_method_5_code 5 = .ok (.getfield 18, 3) := by decide +kernel
theorem d_Sy_addSymbol_8 : decode prog_10_method_5_code 8 = .ok (.arraylength, 1) := by decide +kernel
theorem d_Sy_addSymbol_9 : decode prog_10_method_5_code 9 = .ok (.if_icmp .ge 23, 3) := by decide +kernel
theorem d_Sy_addSymbol_12 : decode prog_10_method_5_code 12 = .ok (.aload_n 0, 1) := by decide +kernel
theorem d_Sy_addSymbol_13 : decode prog_10_method_5_code 13 = .ok (.getfield 18, 3) := by decide +kernel
theorem d_Sy_addSymbol_16 : decode prog_10_method_5_code 16 = .ok (.aload_n 0, 1) := by decide +kernel
theorem d_Sy_addSymbol_17 : decode prog_10_method_5_code 17 = .ok (.getfield 22, 3) := by decide +kernel
theorem d_Sy_addSymbol_20 : decode prog_10_method_5_code 20 = .ok (.iload_n 1, 1) := by decide +kernel
theorem d_Sy_addSymbol_21 : decode prog_10_method_5_code 21 = .ok (.iastore, 1) := by decide +kernel
theorem d_Sy_addSymbol_22 : decode prog_10_method_5_code 22 = .ok (.aload_n 0, 1) := by decide +kernel
theorem d_Sy_addSymbol_23 : decode prog_10_method_5_code 23 = .ok (.dup, 1) := by decide +kernel
theorem d_Sy_addSymbol_24 : decode prog_10_method_5_code 24 = .ok (.getfield 22, 3) := by decide +kernel
theorem d_Sy_addSymbol_27 : decode prog_10_method_5_code 27 = .ok (.iconst 1, 1) := by decide +kernel
theorem d_Sy_addSymbol_28 : decode prog_10_method_5_code 28 = .ok (.iadd, 1) := by decide +kernel
theorem d_Sy_addSymbol_29 : decode prog_10_method_5_code 29 = .ok (.putfield 22, 3) := by decide +kernel
theorem d_Sy_addSymbol_32 : decode prog_10_method_5_code 32 = .ok (.return_, 1) := by decide +kernel
theorem d_Tu_init_0 : decode prog_11_method_1_code 0 = .ok (.aload_n 0, 1) := by decide +kernel
theorem d_Tu_init_1 : decode prog_11_method_1_code 1 = .ok (.invokespecial 3, 3) := by decide +kernel
theorem d_Tu_init_4 : decode prog_11_method_1_code 4 = .ok (.aload_n 0, 1) := by decide +kernel
theorem d_Tu_init_5 : decode prog_11_method_1_code 5 = .ok (.new 9, 3) := by decide +kernel
theorem d_Tu_init_8 : decode prog_11_method_1_code 8 = .ok (.dup, 1) := by decide +kernel
theorem d_Tu_init_9 : decode prog_11_method_1_code 9 = .ok (.sipush 900, 3) := by decide +kernel
theorem d_Tu_init_12 : decode prog_11_method_1_code 12 = .ok (.invokespecial 11, 3) := by decide +kernel
theorem d_Tu_init_15 : decode prog_11_method_1_code 15 = .ok (.putfield 14, 3) := by decide +kernel
theorem d_Tu_init_18 : decode prog_11_method_1_code 18 = .ok (.aload_n 0, 1) := by decide +kernel
theorem d_Tu_init_19 : decode prog_11_method_1_code 19 = .ok (.sipush 900, 3) := by decide +kernel
theorem d_Tu_init_22 : decode prog_11_method_1_code 22 = .ok (.newarray .int, 2) := by decide +kernel
theorem d_Tu_init_24 : decode prog_11_method_1_code 24 = .ok (.putfield 20, 3) := by decide +kernel
theorem d_Tu_init_27 : decode prog_11_method_1_code 27 = .ok (.aload_n 0, 1) := by decide +kernel
theorem d_Tu_init_28 : decode prog_11_method_1_code 28 = .ok (.sipush 900, 3) := by decide +kernel
theorem d_Tu_init_31 : decode prog_11_method_1_code 31 = .ok (.newarray .int, 2) := by decide +kernel
theorem d_Tu_init_33 : decode prog_11_method_1_code 33 = .ok (.putfield 24, 3) := by decide +kernel
theorem d_Tu_init_36 : decode prog_11_method_1_code 36 = .ok (.aload_n 0, 1) := by decide +kernel
theorem d_Tu_init_37 : decode prog_11_method_1_code 37 = .ok (.sipush 900, 3) := by decide +kernel
theorem d_Tu_init_40 : decode prog_11_method_1_code 40 = .ok (.newarray .int, 2) := by decide +kernel
theorem d_Tu_init_42 : decode prog_11_method_1_code 42 = .ok (.putfield 27, 3) := by decide +kernel
theorem d_Tu_init_45 : decode prog_11_method_1_code 45 = .ok (.aload_n 0, 1) := by decide +kernel
theorem d_Tu_init_46 : decode prog_11_method_1_code 46 = .ok (.sipush 900, 3) := by decide +kernel
theorem d_Tu_init_49 : decode prog_11_method_1_code 49 = .ok (.newarray .int, 2) := by decide +kernel
theorem d_Tu_init_51 : decode prog_11_method_1_code 51 = .ok (.putfield 30, 3) := by decide +kernel
theorem d_Tu_init_54 : decode prog_11_method_1_code 54 = .ok (.aload_n 0, 1) := by decide +kernel
theorem d_Tu_init_55 : decode prog_11_method_1_code 55 = .ok (.sipush 901, 3) := by decide +kernel
theorem d_Tu_init_58 : decode prog_11_method_1_code 58 = .ok (.newarray .int, 2) := by decide +kernel
theorem d_Tu_init_60 : decode prog_11_method_1_code 60 = .ok (.putfield 33, 3) := by decide +kernel
theorem d_Tu_init_63 : decode prog_11_method_1_code 63 = .ok (.return_, 1) := by decide +kernel
theorem d_Tu_turnAt_0 : decode prog_11_method_2_code 0 = .ok (.iload_n 1, 1) := by decide +kernel
theorem d_Tu_turnAt_1 : decode prog_11_method_2_code 1 = .ok (.ifCond .lt 20, 3) := by decide +kernel
theorem d_Tu_turnAt_4 : decode prog_11_method_2_code 4 = .ok (.iload_n 1, 1) := by decide +kernel
theorem d_Tu_turnAt_5 : decode prog_11_method_2_code 5 = .ok (.aload_n 0, 1) := by decide +kernel
theorem d_Tu_turnAt_6 : decode prog_11_method_2_code 6 = .ok (.getfield 36, 3) := by decide +kernel
theorem d_Tu_turnAt_9 : decode prog_11_method_2_code 9 = .ok (.if_icmp .ge 12, 3) := by decide +kernel
theorem d_Tu_turnAt_12 : decode prog_11_method_2_code 12 = .ok (.aload_n 0, 1) := by decide +kernel
theorem d_Tu_turnAt_13 : decode prog_11_method_2_code 13 = .ok (.getfield 20, 3) := by decide +kernel
theorem d_Tu_turnAt_16 : decode prog_11_method_2_code 16 = .ok (.iload_n 1, 1) := by decide +kernel
theorem d_Tu_turnAt_17 : decode prog_11_method_2_code 17 = .ok (.iaload, 1) := by decide +kernel
theorem d_Tu_turnAt_18 : decode prog_11_method_2_code 18 = .ok (.goto 5, 3) := by decide +kernel
theorem d_Tu_turnAt_21 : decode prog_11_method_2_code 21 = .ok (.bipush (-2), 2) := by decide +kernel
theorem d_Tu_turnAt_23 : decode prog_11_method_2_code 23 = .ok (.ireturn, 1) := by decide +kernel
theorem d_Tu_placeOf_0 : decode prog_11_method_3_code 0 = .ok (.iload_n 1, 1) := by decide +kernel
theorem d_Tu_placeOf_1 : decode prog_11_method_3_code 1 = .ok (.ifCond .lt 20, 3) := by decide +kernel
theorem d_Tu_placeOf_4 : decode prog_11_method_3_code 4 = .ok (.iload_n 1, 1) := by decide +kernel
theorem d_Tu_placeOf_5 : decode prog_11_method_3_code 5 = .ok (.aload_n 0, 1) := by decide +kernel
theorem d_Tu_placeOf_6 : decode prog_11_method_3_code 6 = .ok (.getfield 36, 3) := by decide +kernel
theorem d_Tu_placeOf_9 : decode prog_11_method_3_code 9 = .ok (.if_icmp .ge 12, 3) := by decide +kernel
theorem d_Tu_placeOf_12 : decode prog_11_method_3_code 12 = .ok (.aload_n 0, 1) := by decide +kernel
theorem d_Tu_placeOf_13 : decode prog_11_method_3_code 13 = .ok (.getfield 24, 3) := by decide +kernel
theorem d_Tu_placeOf_16 : decode prog_11_method_3_code 16 = .ok (.iload_n 1, 1) := by decide +kernel
theorem d_Tu_placeOf_17 : decode prog_11_method_3_code 17 = .ok (.iaload, 1) := by decide +kernel
theorem d_Tu_placeOf_18 : decode prog_11_method_3_code 18 = .ok (.goto 5, 3) := by decide +kernel
theorem d_Tu_placeOf_21 : decode prog_11_method_3_code 21 = .ok (.bipush (-2), 2) := by decide +kernel
theorem d_Tu_placeOf_23 : decode prog_11_method_3_code 23 = .ok (.ireturn, 1) := by decide +kernel
theorem d_Tu_sortTurns_0 : decode prog_11_method_4_code 0 = .ok (.aload_n 0, 1) := by decide +kernel
theorem d_Tu_sortTurns_1 : decode prog_11_method_4_code 1 = .ok (.aload_n 1, 1) := by decide +kernel
theorem d_Tu_sortTurns_2 : decode prog_11_method_4_code 2 = .ok (.getfield 40, 3) := by decide +kernel
theorem d_Tu_sortTurns_5 : decode prog_11_method_4_code 5 = .ok (.sipush 900, 3) := by decide +kernel
theorem d_Tu_sortTurns_8 : decode prog_11_method_4_code 8 = .ok (.invokestatic 41, 3) := by decide +kernel
theorem d_Tu_sortTurns_11 : decode prog_11_method_4_code 11 = .ok (.putfield 36, 3) := by decide +kernel
theorem d_Tu_sortTurns_14 : decode prog_11_method_4_code 14 = .ok (.iconst 0, 1) := by decide +kernel
theorem d_Tu_sortTurns_15 : decode prog_11_method_4_code 15 = .ok (.istore_n 2, 1) := by decide +kernel
theorem d_Tu_sortTurns_16 : decode prog_11_method_4_code 16 = .ok (.iload_n 2, 1) := by decide +kernel
theorem d_Tu_sortTurns_17 : decode prog_11_method_4_code 17 = .ok (.aload_n 0, 1) := by decide +kernel
theorem d_Tu_sortTurns_18 : decode prog_11_method_4_code 18 = .ok (.getfield 36, 3) := by decide +kernel
theorem d_Tu_sortTurns_21 : decode prog_11_method_4_code 21 = .ok (.if_icmp .ge 20, 3) := by decide +kernel
theorem d_Tu_sortTurns_24 : decode prog_11_method_4_code 24 = .ok (.aload_n 0, 1) := by decide +kernel
theorem d_Tu_sortTurns_25 : decode prog_11_method_4_code 25 = .ok (.getfield 27, 3) := by decide +kernel
theorem d_Tu_sortTurns_28 : decode prog_11_method_4_code 28 = .ok (.iload_n 2, 1) := by decide +kernel
theorem d_Tu_sortTurns_29 : decode prog_11_method_4_code 29 = .ok (.aload_n 1, 1) := by decide +kernel
theorem d_Tu_sortTurns_30 : decode prog_11_method_4_code 30 = .ok (.iload_n 2, 1) := by decide +kernel
theorem d_Tu_sortTurns_31 : decode prog_11_method_4_code 31 = .ok (.invokevirtual 47, 3) := by decide +kernel
theorem d_Tu_sortTurns_34 : decode prog_11_method_4_code 34 = .ok (.iastore, 1) := by decide +kernel
theorem d_Tu_sortTurns_35 : decode prog_11_method_4_code 35 = .ok (.iinc 2 1, 3) := by decide +kernel
theorem d_Tu_sortTurns_38 : decode prog_11_method_4_code 38 = .ok (.goto (-22), 3) := by decide +kernel
theorem d_Tu_sortTurns_41 : decode prog_11_method_4_code 41 = .ok (.aload_n 0, 1) := by decide +kernel
theorem d_Tu_sortTurns_42 : decode prog_11_method_4_code 42 = .ok (.sipush 256, 3) := by decide +kernel
theorem d_Tu_sortTurns_45 : decode prog_11_method_4_code 45 = .ok (.putfield 51, 3) := by decide +kernel
theorem d_Tu_sortTurns_48 : decode prog_11_method_4_code 48 = .ok (.aload_n 0, 1) := by decide +kernel
theorem d_Tu_sortTurns_49 : decode prog_11_method_4_code 49 = .ok (.invokevirtual 54, 3) := by decide +kernel
theorem d_Tu_sortTurns_52 : decode prog_11_method_4_code 52 = .ok (.aload_n 0, 1) := by decide +kernel
theorem d_Tu_sortTurns_53 : decode prog_11_method_4_code 53 = .ok (.invokevirtual 57, 3) := by decide +kernel
theorem d_Tu_sortTurns_56 : decode prog_11_method_4_code 56 = .ok (.aload_n 0, 1) := by decide +kernel
theorem d_Tu_sortTurns_57 : decode prog_11_method_4_code 57 = .ok (.iconst 0, 1) := by decide +kernel
theorem d_Tu_sortTurns_58 : decode prog_11_method_4_code 58 = .ok (.invokevirtual 60, 3) := by decide +kernel
theorem d_Tu_sortTurns_61 : decode prog_11_method_4_code 61 = .ok (.aload_n 0, 1) := by decide +kernel
theorem d_Tu_sortTurns_62 : decode prog_11_method_4_code 62 = .ok (.iconst 0, 1) := by decide +kernel
theorem d_Tu_sortTurns_63 : decode prog_11_method_4_code 63 = .ok (.putfield 63, 3) := by decide +kernel
theorem d_Tu_sortTurns_66 : decode prog_11_method_4_code 66 = .ok (.iconst 1, 1) := by decide +kernel
theorem d_Tu_sortTurns_67 : decode prog_11_method_4_code 67 = .ok (.istore_n 2, 1) := by decide +kernel
theorem d_Tu_sortTurns_68 : decode prog_11_method_4_code 68 = .ok (.iload_n 2, 1) := by decide +kernel
theorem d_Tu_sortTurns_69 : decode prog_11_method_4_code 69 = .ok (.aload_n 0, 1) := by decide +kernel
theorem d_Tu_sortTurns_70 : decode prog_11_method_4_code 70 = .ok (.getfield 36, 3) := by decide +kernel
theorem d_Tu_sortTurns_73 : decode prog_11_method_4_code 73 = .ok (.if_icmp .ge 61, 3) := by decide +kernel
theorem d_Tu_sortTurns_76 : decode prog_11_method_4_code 76 = .ok (.aload_n 0, 1) := by decide +kernel
theorem d_Tu_sortTurns_77 : decode prog_11_method_4_code 77 = .ok (.getfield 51, 3) := by decide +kernel
theorem d_Tu_sortTurns_80 : decode prog_11_method_4_code 80 = .ok (.aload_n 0, 1) := by decide +kernel
theorem d_Tu_sortTurns_81 : decode prog_11_method_4_code 81 = .ok (.getfield 36, 3) := by decide +kernel
theorem d_Tu_sortTurns_84 : decode prog_11_method_4_code 84 = .ok (.if_icmp .ge 50, 3) := by decide +kernel
theorem d_Tu_sortTurns_87 : decode prog_11_method_4_code 87 = .ok (.aload_n 0, 1) := by decide +kernel
theorem d_Tu_sortTurns_88 : decode prog_11_method_4_code 88 = .ok (.getfield 51, 3) := by decide +kernel
theorem d_Tu_sortTurns_91 : decode prog_11_method_4_code 91 = .ok (.istore_n 3, 1) := by decide +kernel
theorem d_Tu_sortTurns_92 : decode prog_11_method_4_code 92 = .ok (.aload_n 0, 1) := by decide +kernel
theorem d_Tu_sortTurns_93 : decode prog_11_method_4_code 93 = .ok (.iload_n 2, 1) := by decide +kernel
theorem d_Tu_sortTurns_94 : decode prog_11_method_4_code 94 = .ok (.invokevirtual 66, 3) := by decide +kernel
theorem d_Tu_sortTurns_97 : decode prog_11_method_4_code 97 = .ok (.aload_n 0, 1) := by decide +kernel
theorem d_Tu_sortTurns_98 : decode prog_11_method_4_code 98 = .ok (.invokevirtual 57, 3) := by decide +kernel
theorem d_Tu_sortTurns_101 : decode prog_11_method_4_code 101 = .ok (.aload_n 0, 1) := by decide +kernel
theorem d_Tu_sortTurns_102 : decode prog_11_method_4_code 102 = .ok (.iload_n 2, 1) := by decide +kernel
theorem d_Tu_sortTurns_103 : decode prog_11_method_4_code 103 = .ok (.invokevirtual 60, 3) := by decide +kernel
theorem d_Tu_sortTurns_106 : decode prog_11_method_4_code 106 = .ok (.aload_n 0, 1) := by decide +kernel
theorem d_Tu_sortTurns_107 : decode prog_11_method_4_code 107 = .ok (.getfield 51, 3) := by decide +kernel
theorem d_Tu_sortTurns_110 : decode prog_11_method_4_code 110 = .ok (.iload_n 3, 1) := by decide +kernel
theorem d_Tu_sortTurns_111 : decode prog_11_method_4_code 111 = .ok (.if_icmp .ne 6, 3) := by decide +kernel
theorem d_Tu_sortTurns_114 : decode prog_11_method_4_code 114 = .ok (.goto 20, 3) := by decide +kernel
theorem d_Tu_sortTurns_117 : decode prog_11_method_4_code 117 = .ok (.aload_n 0, 1) := by decide +kernel
theorem d_Tu_sortTurns_118 : decode prog_11_method_4_code 118 = .ok (.dup, 1) := by decide +kernel
theorem d_Tu_sortTurns_119 : decode prog_11_method_4_code 119 = .ok (.getfield 63, 3) := by decide +kernel
theorem d_Tu_sortTurns_122 : decode prog_11_method_4_code 122 = .ok (.iconst 1, 1) := by decide +kernel
theorem d_Tu_sortTurns_123 : decode prog_11_method_4_code 123 = .ok (.iadd, 1) := by decide +kernel
theorem d_Tu_sortTurns_124 : decode prog_11_method_4_code 124 = .ok (.putfield 63, 3) := by decide +kernel
theorem d_Tu_sortTurns_127 : decode prog_11_method_4_code 127 = .ok (.iload_n 2, 1) := by decide +kernel
theorem d_Tu_sortTurns_128 : decode prog_11_method_4_code 128 = .ok (.iconst 2, 1) := by decide +kernel
theorem d_Tu_sortTurns_129 : decode prog_11_method_4_code 129 = .ok (.imul, 1) := by decide +kernel
theorem d_Tu_sortTurns_130 : decode prog_11_method_4_code 130 = .ok (.istore_n 2, 1) := by decide +kernel
theorem d_Tu_sortTurns_131 : decode prog_11_method_4_code 131 = .ok (.goto (-63), 3) := by decide +kernel
theorem d_Tu_sortTurns_134 : decode prog_11_method_4_code 134 = .ok (.aload_n 0, 1) := by decide +kernel
theorem d_Tu_sortTurns_135 : decode prog_11_method_4_code 135 = .ok (.invokevirtual 54, 3) := by decide +kernel
theorem d_Tu_sortTurns_138 : decode prog_11_method_4_code 138 = .ok (.aload_n 0, 1) := by decide +kernel
theorem d_Tu_sortTurns_139 : decode prog_11_method_4_code 139 = .ok (.invokevirtual 57, 3) := by decide +kernel
theorem d_Tu_sortTurns_142 : decode prog_11_method_4_code 142 = .ok (.aload_n 0, 1) := by decide +kernel
theorem d_Tu_sortTurns_143 : decode prog_11_method_4_code 143 = .ok (.aload_n 1, 1) := by decide +kernel
theorem d_Tu_sortTurns_144 : decode prog_11_method_4_code 144 = .ok (.invokevirtual 69, 3) := by decide +kernel
theorem d_Tu_sortTurns_147 : decode prog_11_method_4_code 147 = .ok (.return_, 1) := by decide +kernel
theorem d_Tu_lineUp_0 : decode prog_11_method_5_code 0 = .ok (.iconst 0, 1) := by decide +kernel
theorem d_Tu_lineUp_1 : decode prog_11_method_5_code 1 = .ok (.istore_n 1, 1) := by decide +kernel
theorem d_Tu_lineUp_2 : decode prog_11_method_5_code 2 = .ok (.iload_n 1, 1) := by decide +kernel
theorem d_Tu_lineUp_3 : decode prog_11_method_5_code 3 = .ok (.aload_n 0, 1) := by decide +kernel
theorem d_Tu_lineUp_4 : decode prog_11_method_5_code 4 = .ok (.getfield 36, 3) := by decide +kernel
theorem d_Tu_lineUp_7 : decode prog_11_method_5_code 7 = .ok (.if_icmp .ge 16, 3) := by decide +kernel
theorem d_Tu_lineUp_10 : decode prog_11_method_5_code 10 = .ok (.aload_n 0, 1) := by decide +kernel
theorem d_Tu_lineUp_11 : decode prog_11_method_5_code 11 = .ok (.getfield 30, 3) := by decide +kernel
theorem d_Tu_lineUp_14 : decode prog_11_method_5_code 14 = .ok (.iload_n 1, 1) := by decide +kernel
theorem d_Tu_lineUp_15 : decode prog_11_method_5_code 15 = .ok (.iload_n 1, 1) := by decide +kernel
theorem d_Tu_lineUp_16 : decode prog_11_method_5_code 16 = .ok (.iastore, 1) := by decide +kernel
theorem d_Tu_lineUp_17 : decode prog_11_method_5_code 17 = .ok (.iinc 1 1, 3) := by decide +kernel
theorem d_Tu_lineUp_20 : decode prog_11_method_5_code 20 = .ok (.goto (-18), 3) := by decide +kernel
theorem d_Tu_lineUp_23 : decode prog_11_method_5_code 23 = .ok (.return_, 1) := by decide +kernel
theorem d_Tu_shift_0 : decode prog_11_method_6_code 0 = .ok (.iconst 0, 1) := by decide +kernel
theorem d_Tu_shift_1 : decode prog_11_method_6_code 1 = .ok (.istore_n 2, 1) := by decide +kernel
theorem d_Tu_shift_2 : decode prog_11_method_6_code 2 = .ok (.iload_n 2, 1) := by decide +kernel
theorem d_Tu_shift_3 : decode prog_11_method_6_code 3 = .ok (.aload_n 0, 1) := by decide +kernel
theorem d_Tu_shift_4 : decode prog_11_method_6_code 4 = .ok (.getfield 36, 3) := by decide +kernel
theorem d_Tu_shift_7 : decode prog_11_method_6_code 7 = .ok (.if_icmp .ge 27, 3) := by decide +kernel
theorem d_Tu_shift_10 : decode prog_11_method_6_code 10 = .ok (.aload_n 0, 1) := by decide +kernel
theorem d_Tu_shift_11 : decode prog_11_method_6_code 11 = .ok (.getfield 30, 3) := by decide +kernel
theorem d_Tu_shift_14 : decode prog_11_method_6_code 14 = .ok (.iload_n 2, 1) := by decide +kernel
theorem d_Tu_shift_15 : decode prog_11_method_6_code 15 = .ok (.aload_n 0, 1) := by decide +kernel
theorem d_Tu_shift_16 : decode prog_11_method_6_code 16 = .ok (.aload_n 0, 1) := by decide +kernel
theorem d_Tu_shift_17 : decode prog_11_method_6_code 17 = .ok (.getfield 20, 3) := by decide +kernel
theorem d_Tu_shift_20 : decode prog_11_method_6_code 20 = .ok (.iload_n 2, 1) := by decide +kernel
theorem d_Tu_shift_21 : decode prog_11_method_6_code 21 = .ok (.iaload, 1) := by decide +kernel
theorem d_Tu_shift_22 : decode prog_11_method_6_code 22 = .ok (.iload_n 1, 1) := by decide +kernel
theorem d_Tu_shift_23 : decode prog_11_method_6_code 23 = .ok (.isub, 1) := by decide +kernel
theorem d_Tu_shift_24 : decode prog_11_method_6_code 24 = .ok (.invokevirtual 73, 3) := by decide +kernel
theorem d_Tu_shift_27 : decode prog_11_method_6_code 27 = .ok (.iastore, 1) := by decide +kernel
theorem d_Tu_shift_28 : decode prog_11_method_6_code 28 = .ok (.iinc 2 1, 3) := by decide +kernel
theorem d_Tu_shift_31 : decode prog_11_method_6_code 31 = .ok (.goto (-29), 3) := by decide +kernel
theorem d_Tu_shift_34 : decode prog_11_method_6_code 34 = .ok (.return_, 1) := by decide +kernel
theorem d_Tu_sortByRank_0 : decode prog_11_method_7_code 0 = .ok (.iconst 0, 1) := by decide +kernel
theorem d_Tu_sortByRank_1 : decode prog_11_method_7_code 1 = .ok (.istore_n 1, 1) := by decide +kernel
theorem d_Tu_sortByRank_2 : decode prog_11_method_7_code 2 = .ok (.iload_n 1, 1) := by decide +kernel
theorem d_Tu_sortByRank_3 : decode prog_11_method_7_code 3 = .ok (.aload_n 0, 1) := by decide +kernel
theorem d_Tu_sortByRank_4 : decode prog_11_method_7_code 4 = .ok (.getfield 51, 3) := by decide +kernel
theorem d_Tu_sortByRank_7 : decode prog_11_method_7_code 7 = .ok (.if_icmp .gt 16, 3) := by decide +kernel
theorem d_Tu_sortByRank_10 : decode prog_11_method_7_code 10 = .ok (.aload_n 0, 1) := by decide +kernel
theorem d_Tu_sortByRank_11 : decode prog_11_method_7_code 11 = .ok (.getfield 33, 3) := by decide +kernel
theorem d_Tu_sortByRank_14 : decode prog_11_method_7_code 14 = .ok (.iload_n 1, 1) := by decide +kernel
theorem d_Tu_sortByRank_15 : decode prog_11_method_7_code 15 = .ok (.iconst 0, 1) := by decide +kernel
theorem d_Tu_sortByRank_16 : decode prog_11_method_7_code 16 = .ok (.iastore, 1) := by decide +kernel
theorem d_Tu_sortByRank_17 : decode prog_11_method_7_code 17 = .ok (.iinc 1 1, 3) := by decide +kernel
theorem d_Tu_sortByRank_20 : decode prog_11_method_7_code 20 = .ok (.goto (-18), 3) := by decide +kernel
theorem d_Tu_sortByRank_23 : decode prog_11_method_7_code 23 = .ok (.iconst 0, 1) := by decide +kernel
theorem d_Tu_sortByRank_24 : decode prog_11_method_7_code 24 = .ok (.istore_n 1, 1) := by decide +kernel
theorem d_Tu_sortByRank_25 : decode prog_11_method_7_code 25 = .ok (.iload_n 1, 1) := by decide +kernel
theorem d_Tu_sortByRank_26 : decode prog_11_method_7_code 26 = .ok (.aload_n 0, 1) := by decide +kernel
theorem d_Tu_sortByRank_27 : decode prog_11_method_7_code 27 = .ok (.getfield 36, 3) := by decide +kernel
theorem d_Tu_sortByRank_30 : decode prog_11_method_7_code 30 = .ok (.if_icmp .ge 26, 3) := by decide +kernel
theorem d_Tu_sortByRank_33 : decode prog_11_method_7_code 33 = .ok (.aload_n 0, 1) := by decide +kernel
theorem d_Tu_sortByRank_34 : decode prog_11_method_7_code 34 = .ok (.getfield 33, 3) := by decide +kernel
theorem d_Tu_sortByRank_37 : decode prog_11_method_7_code 37 = .ok (.aload_n 0, 1) := by decide +kernel
theorem d_Tu_sortByRank_38 : decode prog_11_method_7_code 38 = .ok (.getfield 27, 3) := by decide +kernel
theorem d_Tu_sortByRank_41 : decode prog_11_method_7_code 41 = .ok (.iload_n 1, 1) := by decide +kernel
theorem d_Tu_sortByRank_42 : decode prog_11_method_7_code 42 = .ok (.iaload, 1) := by decide +kernel
theorem d_Tu_sortByRank_43 : decode prog_11_method_7_code 43 = .ok (.iconst 1, 1) := by decide +kernel
theorem d_Tu_sortByRank_44 : decode prog_11_method_7_code 44 = .ok (.iadd, 1) := by decide +kernel
theorem d_Tu_sortByRank_45 : decode prog_11_method_7_code 45 = .ok (.dup2, 1) := by decide +kernel
theorem d_Tu_sortByRank_46 : decode prog_11_method_7_code 46 = .ok (.iaload, 1) := by decide +kernel
theorem d_Tu_sortByRank_47 : decode prog_11_method_7_code 47 = .ok (.iconst 1, 1) := by decide +kernel
theorem d_Tu_sortByRank_48 : decode prog_11_method_7_code 48 = .ok (.iadd, 1) := by decide +kernel
theorem d_Tu_sortByRank_49 : decode prog_11_method_7_code 49 = .ok (.iastore, 1) := by decide +kernel
theorem d_Tu_sortByRank_50 : decode prog_11_method_7_code 50 = .ok (.iinc 1 1, 3) := by decide +kernel
theorem d_Tu_sortByRank_53 : decode prog_11_method_7_code 53 = .ok (.goto (-28), 3) := by decide +kernel
theorem d_Tu_sortByRank_56 : decode prog_11_method_7_code 56 = .ok (.iconst 0, 1) := by decide +kernel
theorem d_Tu_sortByRank_57 : decode prog_11_method_7_code 57 = .ok (.istore_n 1, 1) := by decide +kernel
theorem d_Tu_sortByRank_58 : decode prog_11_method_7_code 58 = .ok (.iload_n 1, 1) := by decide +kernel
theorem d_Tu_sortByRank_59 : decode prog_11_method_7_code 59 = .ok (.aload_n 0, 1) := by decide +kernel
theorem d_Tu_sortByRank_60 : decode prog_11_method_7_code 60 = .ok (.getfield 51, 3) := by decide +kernel
theorem d_Tu_sortByRank_63 : decode prog_11_method_7_code 63 = .ok (.if_icmp .ge 26, 3) := by decide +kernel
theorem d_Tu_sortByRank_66 : decode prog_11_method_7_code 66 = .ok (.aload_n 0, 1) := by decide +kernel
theorem d_Tu_sortByRank_67 : decode prog_11_method_7_code 67 = .ok (.getfield 33, 3) := by decide +kernel
theorem d_Tu_sortByRank_70 : decode prog_11_method_7_code 70 = .ok (.iload_n 1, 1) := by decide +kernel
theorem d_Tu_sortByRank_71 : decode prog_11_method_7_code 71 = .ok (.iconst 1, 1) := by decide +kernel
theorem d_Tu_sortByRank_72 : decode prog_11_method_7_code 72 = .ok (.iadd, 1) := by decide +kernel
theorem d_Tu_sortByRank_73 : decode prog_11_method_7_code 73 = .ok (.dup2, 1) := by decide +kernel
theorem d_Tu_sortByRank_74 : decode prog_11_method_7_code 74 = .ok (.iaload, 1) := by decide +kernel
theorem d_Tu_sortByRank_75 : decode prog_11_method_7_code 75 = .ok (.aload_n 0, 1) := by decide +kernel
theorem d_Tu_sortByRank_76 : decode prog_11_method_7_code 76 = .ok (.getfield 33, 3) := by decide +kernel
theorem d_Tu_sortByRank_79 : decode prog_11_method_7_code 79 = .ok (.iload_n 1, 1) := by decide +kernel
theorem d_Tu_sortByRank_80 : decode prog_11_method_7_code 80 = .ok (.iaload, 1) := by decide +kernel
theorem d_Tu_sortByRank_81 : decode prog_11_method_7_code 81 = .ok (.iadd, 1) := by decide +kernel
theorem d_Tu_sortByRank_82 : decode prog_11_method_7_code 82 = .ok (.iastore, 1) := by decide +kernel
theorem d_Tu_sortByRank_83 : decode prog_11_method_7_code 83 = .ok (.iinc 1 1, 3) := by decide +kernel
theorem d_Tu_sortByRank_86 : decode prog_11_method_7_code 86 = .ok (.goto (-28), 3) := by decide +kernel
theorem d_Tu_sortByRank_89 : decode prog_11_method_7_code 89 = .ok (.iconst 0, 1) := by decide +kernel
theorem d_Tu_sortByRank_90 : decode prog_11_method_7_code 90 = .ok (.istore_n 1, 1) := by decide +kernel
theorem d_Tu_sortByRank_91 : decode prog_11_method_7_code 91 = .ok (.iload_n 1, 1) := by decide +kernel
theorem d_Tu_sortByRank_92 : decode prog_11_method_7_code 92 = .ok (.aload_n 0, 1) := by decide +kernel
theorem d_Tu_sortByRank_93 : decode prog_11_method_7_code 93 = .ok (.getfield 36, 3) := by decide +kernel
theorem d_Tu_sortByRank_96 : decode prog_11_method_7_code 96 = .ok (.if_icmp .ge 48, 3) := by decide +kernel
theorem d_Tu_sortByRank_99 : decode prog_11_method_7_code 99 = .ok (.aload_n 0, 1) := by decide +kernel
theorem d_Tu_sortByRank_100 : decode prog_11_method_7_code 100 = .ok (.getfield 27, 3) := by decide +kernel
theorem d_Tu_sortByRank_103 : decode prog_11_method_7_code 103 = .ok (.aload_n 0, 1) := by decide +kernel
theorem d_Tu_sortByRank_104 : decode prog_11_method_7_code 104 = .ok (.getfield 30, 3) := by decide +kernel
theorem d_Tu_sortByRank_107 : decode prog_11_method_7_code 107 = .ok (.iload_n 1, 1) := by decide +kernel
theorem d_Tu_sortByRank_108 : decode prog_11_method_7_code 108 = .ok (.iaload, 1) := by decide +kernel
theorem d_Tu_sortByRank_109 : decode prog_11_method_7_code 109 = .ok (.iaload, 1) := by decide +kernel
theorem d_Tu_sortByRank_110 : decode prog_11_method_7_code 110 = .ok (.istore_n 2, 1) := by decide +kernel
theorem d_Tu_sortByRank_111 : decode prog_11_method_7_code 111 = .ok (.aload_n 0, 1) := by decide +kernel
theorem d_Tu_sortByRank_112 : decode prog_11_method_7_code 112 = .ok (.getfield 20, 3) := by decide +kernel
theorem d_Tu_sortByRank_115 : decode prog_11_method_7_code 115 = .ok (.aload_n 0, 1) := by decide +kernel
theorem d_Tu_sortByRank_116 : decode prog_11_method_7_code 116 = .ok (.getfield 33, 3) := by decide +kernel
theorem d_Tu_sortByRank_119 : decode prog_11_method_7_code 119 = .ok (.iload_n 2, 1) := by decide +kernel
theorem d_Tu_sortByRank_120 : decode prog_11_method_7_code 120 = .ok (.iaload, 1) := by decide +kernel
theorem d_Tu_sortByRank_121 : decode prog_11_method_7_code 121 = .ok (.aload_n 0, 1) := by decide +kernel
theorem d_Tu_sortByRank_122 : decode prog_11_method_7_code 122 = .ok (.getfield 30, 3) := by decide +kernel
theorem d_Tu_sortByRank_125 : decode prog_11_method_7_code 125 = .ok (.iload_n 1, 1) := by decide +kernel
theorem d_Tu_sortByRank_126 : decode prog_11_method_7_code 126 = .ok (.iaload, 1) := by decide +kernel
theorem d_Tu_sortByRank_127 : decode prog_11_method_7_code 127 = .ok (.iastore, 1) := by decide +kernel
theorem d_Tu_sortByRank_128 : decode prog_11_method_7_code 128 = .ok (.aload_n 0, 1) := by decide +kernel
theorem d_Tu_sortByRank_129 : decode prog_11_method_7_code 129 = .ok (.getfield 33, 3) := by decide +kernel
theorem d_Tu_sortByRank_132 : decode prog_11_method_7_code 132 = .ok (.iload_n 2, 1) := by decide +kernel
theorem d_Tu_sortByRank_133 : decode prog_11_method_7_code 133 = .ok (.dup2, 1) := by decide +kernel
theorem d_Tu_sortByRank_134 : decode prog_11_method_7_code 134 = .ok (.iaload, 1) := by decide +kernel
theorem d_Tu_sortByRank_135 : decode prog_11_method_7_code 135 = .ok (.iconst 1, 1) := by decide +kernel
theorem d_Tu_sortByRank_136 : decode prog_11_method_7_code 136 = .ok (.iadd, 1) := by decide +kernel
theorem d_Tu_sortByRank_137 : decode prog_11_method_7_code 137 = .ok (.iastore, 1) := by decide +kernel
theorem d_Tu_sortByRank_138 : decode prog_11_method_7_code 138 = .ok (.iinc 1 1, 3) := by decide +kernel
theorem d_Tu_sortByRank_141 : decode prog_11_method_7_code 141 = .ok (.goto (-50), 3) := by decide +kernel
theorem d_Tu_sortByRank_144 : decode prog_11_method_7_code 144 = .ok (.return_, 1) := by decide +kernel
theorem d_Tu_numberRanks_0 : decode prog_11_method_8_code 0 = .ok (.iconst (-1), 1) := by decide +kernel
theorem d_Tu_numberRanks_1 : decode prog_11_method_8_code 1 = .ok (.istore_n 2, 1) := by decide +kernel
theorem d_Tu_numberRanks_2 : decode prog_11_method_8_code 2 = .ok (.iconst (-1), 1) := by decide +kernel
theorem d_Tu_numberRanks_3 : decode prog_11_method_8_code 3 = .ok (.istore_n 3, 1) := by decide +kernel
theorem d_Tu_numberRanks_4 : decode prog_11_method_8_code 4 = .ok (.iconst (-1), 1) := by decide +kernel
theorem d_Tu_numberRanks_5 : decode prog_11_method_8_code 5 = .ok (.istore 4, 2) := by decide +kernel
theorem d_Tu_numberRanks_7 : decode prog_11_method_8_code 7 = .ok (.iconst 0, 1) := by decide +kernel
theorem d_Tu_numberRanks_8 : decode prog_11_method_8_code 8 = .ok (.istore 5, 2) := by decide +kernel
theorem d_Tu_numberRanks_10 : decode prog_11_method_8_code 10 = .ok (.iload 5, 2) := by decide +kernel
theorem d_Tu_numberRanks_12 : decode prog_11_method_8_code 12 = .ok (.aload_n 0, 1) := by decide +kernel
theorem d_Tu_numberRanks_13 : decode prog_11_method_8_code 13 = .ok (.getfield 36, 3) := by decide +kernel
theorem d_Tu_numberRanks_16 : decode prog_11_method_8_code 16 = .ok (.if_icmp .ge 74, 3) := by decide +kernel
theorem d_Tu_numberRanks_19 : decode prog_11_method_8_code 19 = .ok (.aload_n 0, 1) := by decide +kernel
theorem d_Tu_numberRanks_20 : decode prog_11_method_8_code 20 = .ok (.getfield 20, 3) := by decide +kernel
theorem d_Tu_numberRanks_23 : decode prog_11_method_8_code 23 = .ok (.iload 5, 2) := by decide +kernel
theorem d_Tu_numberRanks_25 : decode prog_11_method_8_code 25 = .ok (.iaload, 1) := by decide +kernel
theorem d_Tu_numberRanks_26 : decode prog_11_method_8_code 26 = .ok (.istore 6, 2) := by decide +kernel
theorem d_Tu_numberRanks_28 : decode prog_11_method_8_code 28 = .ok (.aload_n 0, 1) := by decide +kernel
theorem d_Tu_numberRanks_29 : decode prog_11_method_8_code 29 = .ok (.getfield 27, 3) := by decide +kernel
theorem d_Tu_numberRanks_32 : decode prog_11_method_8_code 32 = .ok (.aload_n 0, 1) := by decide +kernel
theorem d_Tu_numberRanks_33 : decode prog_11_method_8_code 33 = .ok (.iload 6, 2) := by decide +kernel
theorem d_Tu_numberRanks_35 : decode prog_11_method_8_code 35 = .ok (.iload_n 1, 1) := by decide +kernel
theorem d_Tu_numberRanks_36 : decode prog_11_method_8_code 36 = .ok (.iadd, 1) := by decide +kernel
theorem d_Tu_numberRanks_37 : decode prog_11_method_8_code 37 = .ok (.invokevirtual 73, 3) := by decide +kernel
theorem d_Tu_numberRanks_40 : decode prog_11_method_8_code 40 = .ok (.iaload, 1) := by decide +kernel
theorem d_Tu_numberRanks_41 : decode prog_11_method_8_code 41 = .ok (.istore 7, 2) := by decide +kernel
theorem d_Tu_numberRanks_43 : decode prog_11_method_8_code 43 = .ok (.aload_n 0, 1) := by decide +kernel
theorem d_Tu_numberRanks_44 : decode prog_11_method_8_code 44 = .ok (.getfield 27, 3) := by decide +kernel
theorem d_Tu_numberRanks_47 : decode prog_11_method_8_code 47 = .ok (.iload 6, 2) := by decide +kernel
theorem d_Tu_numberRanks_49 : decode prog_11_method_8_code 49 = .ok (.iaload, 1) := by decide +kernel
theorem d_Tu_numberRanks_50 : decode prog_11_method_8_code 50 = .ok (.iload_n 3, 1) := by decide +kernel
theorem d_Tu_numberRanks_51 : decode prog_11_method_8_code 51 = .ok (.if_icmp .ne 10, 3) := by decide +kernel
theorem d_Tu_numberRanks_54 : decode prog_11_method_8_code 54 = .ok (.iload 7, 2) := by decide +kernel
theorem d_Tu_numberRanks_56 : decode prog_11_method_8_code 56 = .ok (.iload 4, 2) := by decide +kernel
theorem d_Tu_numberRanks_58 : decode prog_11_method_8_code 58 = .ok (.if_icmp .eq 6, 3) := by decide +kernel
theorem d_Tu_numberRanks_61 : decode prog_11_method_8_code 61 = .ok (.iinc 2 1, 3) := by decide +kernel
theorem d_Tu_numberRanks_64 : decode prog_11_method_8_code 64 = .ok (.aload_n 0, 1) := by decide +kernel
theorem d_Tu_numberRanks_65 : decode prog_11_method_8_code 65 = .ok (.getfield 27, 3) := by decide +kernel
theorem d_Tu_numberRanks_68 : decode prog_11_method_8_code 68 = .ok (.iload 6, 2) := by decide +kernel
theorem d_Tu_numberRanks_70 : decode prog_11_method_8_code 70 = .ok (.iaload, 1) := by decide +kernel
theorem d_Tu_numberRanks_71 : decode prog_11_method_8_code 71 = .ok (.istore_n 3, 1) := by decide +kernel
theorem d_Tu_numberRanks_72 : decode prog_11_method_8_code 72 = .ok (.iload 7, 2) := by decide +kernel
theorem d_Tu_numberRanks_74 : decode prog_11_method_8_code 74 = .ok (.istore 4, 2) := by decide +kernel
theorem d_Tu_numberRanks_76 : decode prog_11_method_8_code 76 = .ok (.aload_n 0, 1) := by decide +kernel
theorem d_Tu_numberRanks_77 : decode prog_11_method_8_code 77 = .ok (.getfield 24, 3) := by decide +kernel
theorem d_Tu_numberRanks_80 : decode prog_11_method_8_code 80 = .ok (.iload 6, 2) := by decide +kernel
theorem d_Tu_numberRanks_82 : decode prog_11_method_8_code 82 = .ok (.iload_n 2, 1) := by decide +kernel
theorem d_Tu_numberRanks_83 : decode prog_11_method_8_code 83 = .ok (.iastore, 1) := by decide +kernel
theorem d_Tu_numberRanks_84 : decode prog_11_method_8_code 84 = .ok (.iinc 5 1, 3) := by decide +kernel
theorem d_Tu_numberRanks_87 : decode prog_11_method_8_code 87 = .ok (.goto (-77), 3) := by decide +kernel
theorem d_Tu_numberRanks_90 : decode prog_11_method_8_code 90 = .ok (.aload_n 0, 1) := by decide +kernel
theorem d_Tu_numberRanks_91 : decode prog_11_method_8_code 91 = .ok (.getfield 24, 3) := by decide +kernel
theorem d_Tu_numberRanks_94 : decode prog_11_method_8_code 94 = .ok (.iconst 0, 1) := by decide +kernel
theorem d_Tu_numberRanks_95 : decode prog_11_method_8_code 95 = .ok (.aload_n 0, 1) := by decide +kernel
theorem d_Tu_numberRanks_96 : decode prog_11_method_8_code 96 = .ok (.getfield 27, 3) := by decide +kernel
theorem d_Tu_numberRanks_99 : decode prog_11_method_8_code 99 = .ok (.iconst 0, 1) := by decide +kernel
theorem d_Tu_numberRanks_100 : decode prog_11_method_8_code 100 = .ok (.aload_n 0, 1) := by decide +kernel
theorem d_Tu_numberRanks_101 : decode prog_11_method_8_code 101 = .ok (.getfield 36, 3) := by decide +kernel
theorem d_Tu_numberRanks_104 : decode prog_11_method_8_code 104 = .ok (.invokestatic 76, 3) := by decide +kernel
theorem d_Tu_numberRanks_107 : decode prog_11_method_8_code 107 = .ok (.aload_n 0, 1) := by decide +kernel
theorem d_Tu_numberRanks_108 : decode prog_11_method_8_code 108 = .ok (.iload_n 2, 1) := by decide +kernel
theorem d_Tu_numberRanks_109 : decode prog_11_method_8_code 109 = .ok (.iconst 1, 1) := by decide +kernel
theorem d_Tu_numberRanks_110 : decode prog_11_method_8_code 110 = .ok (.iadd, 1) := by decide +kernel
theorem d_Tu_numberRanks_111 : decode prog_11_method_8_code 111 = .ok (.putfield 51, 3) := by decide +kernel
theorem d_Tu_numberRanks_114 : decode prog_11_method_8_code 114 = .ok (.return_, 1) := by decide +kernel
end
section
theorem d_Tu_around_0 : decode prog_11_method_9_code 0 = .ok (.iload_n 1, 1) := by decide +kernel
theorem d_Tu_around_1 : decode prog_11_method_9_code 1 = .ok (.ifCond .ge 10, 3) := by decide +kernel
theorem d_Tu_around_4 : decode prog_11_method_9_code 4 = .ok (.iload_n 1, 1) := by decide +kernel
theorem d_Tu_around_5 : decode prog_11_method_9_code 5 = .ok (.aload_n 0, 1) := by decide +kernel
theorem d_Tu_around_6 : decode prog_11_method_9_code 6 = .ok (.getfield 36, 3) := by decide +kernel
theorem d_Tu_around_9 : decode prog_11_method_9_code 9 = .ok (.iadd, 1) := by decide +kernel
theorem d_Tu_around_10 : decode prog_11_method_9_code 10 = .ok (.ireturn, 1) := by decide +kernel
theorem d_Tu_around_11 : decode prog_11_method_9_code 11 = .ok (.iload_n 1, 1) := by decide +kernel
theorem d_Tu_around_12 : decode prog_11_method_9_code 12 = .ok (.aload_n 0, 1) := by decide +kernel
theorem d_Tu_around_13 : decode prog_11_method_9_code 13 = .ok (.getfield 36, 3) := by decide +kernel
theorem d_Tu_around_16 : decode prog_11_method_9_code 16 = .ok (.if_icmp .ge 7, 3) := by decide +kernel
theorem d_Tu_around_19 : decode prog_11_method_9_code 19 = .ok (.iload_n 1, 1) := by decide +kernel
theorem d_Tu_around_20 : decode prog_11_method_9_code 20 = .ok (.goto 9, 3) := by decide +kernel
theorem d_Tu_around_23 : decode prog_11_method_9_code 23 = .ok (.iload_n 1, 1) := by decide +kernel
theorem d_Tu_around_24 : decode prog_11_method_9_code 24 = .ok (.aload_n 0, 1) := by decide +kernel
theorem d_Tu_around_25 : decode prog_11_method_9_code 25 = .ok (.getfield 36, 3) := by decide +kernel
theorem d_Tu_around_28 : decode prog_11_method_9_code 28 = .ok (.isub, 1) := by decide +kernel
theorem d_Tu_around_29 : decode prog_11_method_9_code 29 = .ok (.ireturn, 1) := by decide +kernel
theorem d_Tu_notePlaces_0 : decode prog_11_method_10_code 0 = .ok (.aload_n 0, 1) := by decide +kernel
theorem d_Tu_notePlaces_1 : decode prog_11_method_10_code 1 = .ok (.getfield 14, 3) := by decide +kernel
theorem d_Tu_notePlaces_4 : decode prog_11_method_10_code 4 = .ok (.iconst 0, 1) := by decide +kernel
theorem d_Tu_notePlaces_5 : decode prog_11_method_10_code 5 = .ok (.invokevirtual 82, 3) := by decide +kernel
theorem d_Tu_notePlaces_8 : decode prog_11_method_10_code 8 = .ok (.iconst 0, 1) := by decide +kernel
theorem d_Tu_notePlaces_9 : decode prog_11_method_10_code 9 = .ok (.istore_n 2, 1) := by decide +kernel
theorem d_Tu_notePlaces_10 : decode prog_11_method_10_code 10 = .ok (.iload_n 2, 1) := by decide +kernel
theorem d_Tu_notePlaces_11 : decode prog_11_method_10_code 11 = .ok (.aload_n 0, 1) := by decide +kernel
theorem d_Tu_notePlaces_12 : decode prog_11_method_10_code 12 = .ok (.getfield 36, 3) := by decide +kernel
theorem d_Tu_notePlaces_15 : decode prog_11_method_10_code 15 = .ok (.if_icmp .ge 50, 3) := by decide +kernel
theorem d_Tu_notePlaces_18 : decode prog_11_method_10_code 18 = .ok (.aload_n 0, 1) := by decide +kernel
theorem d_Tu_notePlaces_19 : decode prog_11_method_10_code 19 = .ok (.getfield 20, 3) := by decide +kernel
theorem d_Tu_notePlaces_22 : decode prog_11_method_10_code 22 = .ok (.iload_n 2, 1) := by decide +kernel
theorem d_Tu_notePlaces_23 : decode prog_11_method_10_code 23 = .ok (.iaload, 1) := by decide +kernel
theorem d_Tu_notePlaces_24 : decode prog_11_method_10_code 24 = .ok (.istore_n 3, 1) := by decide +kernel
theorem d_Tu_notePlaces_25 : decode prog_11_method_10_code 25 = .ok (.aload_n 0, 1) := by decide +kernel
theorem d_Tu_notePlaces_26 : decode prog_11_method_10_code 26 = .ok (.getfield 24, 3) := by decide +kernel
theorem d_Tu_notePlaces_29 : decode prog_11_method_10_code 29 = .ok (.iload_n 3, 1) := by decide +kernel
theorem d_Tu_notePlaces_30 : decode prog_11_method_10_code 30 = .ok (.iload_n 2, 1) := by decide +kernel
theorem d_Tu_notePlaces_31 : decode prog_11_method_10_code 31 = .ok (.iastore, 1) := by decide +kernel
theorem d_Tu_notePlaces_32 : decode prog_11_method_10_code 32 = .ok (.aload_n 0, 1) := by decide +kernel
theorem d_Tu_notePlaces_33 : decode prog_11_method_10_code 33 = .ok (.getfield 14, 3) := by decide +kernel
theorem d_Tu_notePlaces_36 : decode prog_11_method_10_code 36 = .ok (.aload_n 1, 1) := by decide +kernel
theorem d_Tu_notePlaces_37 : decode prog_11_method_10_code 37 = .ok (.iload_n 3, 1) := by decide +kernel
theorem d_Tu_notePlaces_38 : decode prog_11_method_10_code 38 = .ok (.ifCond .ne 12, 3) := by decide +kernel
theorem d_Tu_notePlaces_41 : decode prog_11_method_10_code 41 = .ok (.aload_n 0, 1) := by decide +kernel
theorem d_Tu_notePlaces_42 : decode prog_11_method_10_code 42 = .ok (.getfield 36, 3) := by decide +kernel
theorem d_Tu_notePlaces_45 : decode prog_11_method_10_code 45 = .ok (.iconst 1, 1) := by decide +kernel
theorem d_Tu_notePlaces_46 : decode prog_11_method_10_code 46 = .ok (.isub, 1) := by decide +kernel
theorem d_Tu_notePlaces_47 : decode prog_11_method_10_code 47 = .ok (.goto 6, 3) := by decide +kernel
theorem d_Tu_notePlaces_50 : decode prog_11_method_10_code 50 = .ok (.iload_n 3, 1) := by decide +kernel
theorem d_Tu_notePlaces_51 : decode prog_11_method_10_code 51 = .ok (.iconst 1, 1) := by decide +kernel
theorem d_Tu_notePlaces_52 : decode prog_11_method_10_code 52 = .ok (.isub, 1) := by decide +kernel
theorem d_Tu_notePlaces_53 : decode prog_11_method_10_code 53 = .ok (.invokevirtual 47, 3) := by decide +kernel
theorem d_Tu_notePlaces_56 : decode prog_11_method_10_code 56 = .ok (.invokevirtual 85, 3) := by decide +kernel
theorem d_Tu_notePlaces_59 : decode prog_11_method_10_code 59 = .ok (.iinc 2 1, 3) := by decide +kernel
theorem d_Tu_notePlaces_62 : decode prog_11_method_10_code 62 = .ok (.goto (-52), 3) := by decide +kernel
theorem d_Tu_notePlaces_65 : decode prog_11_method_10_code 65 = .ok (.return_, 1) := by decide +kernel
theorem d_Lw_law_0 : decode code 0 = .ok (.new 7, 3) := by decide +kernel
theorem d_Lw_law_3 : decode code 3 = .ok (.dup, 1) := by decide +kernel
theorem d_Lw_law_4 : decode code 4 = .ok (.invokespecial 9, 3) := by decide +kernel
theorem d_Lw_law_7 : decode code 7 = .ok (.astore_n 1, 1) := by decide +kernel
theorem d_Lw_law_8 : decode code 8 = .ok (.new 10, 3) := by decide +kernel
theorem d_Lw_law_11 : decode code 11 = .ok (.dup, 1) := by decide +kernel
theorem d_Lw_law_12 : decode code 12 = .ok (.invokespecial 12, 3) := by decide +kernel
theorem d_Lw_law_15 : decode code 15 = .ok (.astore_n 2, 1) := by decide +kernel
theorem d_Lw_law_16 : decode code 16 = .ok (.iconst 0, 1) := by decide +kernel
theorem d_Lw_law_17 : decode code 17 = .ok (.istore_n 3, 1) := by decide +kernel
theorem d_Lw_law_18 : decode code 18 = .ok (.iload_n 3, 1) := by decide +kernel
theorem d_Lw_law_19 : decode code 19 = .ok (.aload_n 0, 1) := by decide +kernel
theorem d_Lw_law_20 : decode code 20 = .ok (.arraylength, 1) := by decide +kernel
theorem d_Lw_law_21 : decode code 21 = .ok (.iconst 5, 1) := by decide +kernel
theorem d_Lw_law_22 : decode code 22 = .ok (.isub, 1) := by decide +kernel
theorem d_Lw_law_23 : decode code 23 = .ok (.if_icmp .gt 803, 3) := by decide +kernel
theorem d_Lw_law_26 : decode code 26 = .ok (.aload_n 0, 1) := by decide +kernel
theorem d_Lw_law_27 : decode code 27 = .ok (.iload_n 3, 1) := by decide +kernel
theorem d_Lw_law_28 : decode code 28 = .ok (.iaload, 1) := by decide +kernel
theorem d_Lw_law_29 : decode code 29 = .ok (.bipush 31, 2) := by decide +kernel
theorem d_Lw_law_31 : decode code 31 = .ok (.iand, 1) := by decide +kernel
theorem d_Lw_law_32 : decode code 32 = .ok (.tableswitch 788 0 25 #[120, 183, 216, 229, 252, 265, 288, 311, 334, 347, 360, 393, 466, 489, 512, 535, 568, 581, 594, 617, 680, 693, 726, 749, 762, 775], 120) := by decide +kernel
theorem d_Lw_law_152 : decode code 152 = .ok (.aload_n 1, 1) := by decide +kernel
theorem d_Lw_law_153 : decode code 153 = .ok (.aload_n 0, 1) := by decide +kernel
theorem d_Lw_law_154 : decode code 154 = .ok (.iload_n 3, 1) := by decide +kernel
theorem d_Lw_law_155 : decode code 155 = .ok (.iconst 1, 1) := by decide +kernel
theorem d_Lw_law_156 : decode code 156 = .ok (.iadd, 1) := by decide +kernel
theorem d_Lw_law_157 : decode code 157 = .ok (.iaload, 1) := by decide +kernel
theorem d_Lw_law_158 : decode code 158 = .ok (.i2l, 1) := by decide +kernel
theorem d_Lw_law_159 : decode code 159 = .ok (.bipush 32, 2) := by decide +kernel
theorem d_Lw_law_161 : decode code 161 = .ok (.lshl, 1) := by decide +kernel
theorem d_Lw_law_162 : decode code 162 = .ok (.aload_n 0, 1) := by decide +kernel
theorem d_Lw_law_163 : decode code 163 = .ok (.iload_n 3, 1) := by decide +kernel
theorem d_Lw_law_164 : decode code 164 = .ok (.iconst 2, 1) := by decide +kernel
theorem d_Lw_law_165 : decode code 165 = .ok (.iadd, 1) := by decide +kernel
theorem d_Lw_law_166 : decode code 166 = .ok (.iaload, 1) := by decide +kernel
theorem d_Lw_law_167 : decode code 167 = .ok (.i2l, 1) := by decide +kernel
theorem d_Lw_law_168 : decode code 168 = .ok (.ldc2_w 13, 3) := by decide +kernel
theorem d_Lw_law_171 : decode code 171 = .ok (.land, 1) := by decide +kernel
theorem d_Lw_law_172 : decode code 172 = .ok (.lor, 1) := by decide +kernel
theorem d_Lw_law_173 : decode code 173 = .ok (.aload_n 0, 1) := by decide +kernel
theorem d_Lw_law_174 : decode code 174 = .ok (.iload_n 3, 1) := by decide +kernel
theorem d_Lw_law_175 : decode code 175 = .ok (.iconst 3, 1) := by decide +kernel
theorem d_Lw_law_176 : decode code 176 = .ok (.iadd, 1) := by decide +kernel
theorem d_Lw_law_177 : decode code 177 = .ok (.iaload, 1) := by decide +kernel
theorem d_Lw_law_178 : decode code 178 = .ok (.invokevirtual 15, 3) := by decide +kernel
theorem d_Lw_law_181 : decode code 181 = .ok (.aload_n 2, 1) := by decide +kernel
theorem d_Lw_law_182 : decode code 182 = .ok (.aload_n 0, 1) := by decide +kernel
theorem d_Lw_law_183 : decode code 183 = .ok (.iload_n 3, 1) := by decide +kernel
theorem d_Lw_law_184 : decode code 184 = .ok (.iconst 1, 1) := by decide +kernel
theorem d_Lw_law_185 : decode code 185 = .ok (.iadd, 1) := by decide +kernel
theorem d_Lw_law_186 : decode code 186 = .ok (.iaload, 1) := by decide +kernel
theorem d_Lw_law_187 : decode code 187 = .ok (.i2l, 1) := by decide +kernel
theorem d_Lw_law_188 : decode code 188 = .ok (.bipush 32, 2) := by decide +kernel
theorem d_Lw_law_190 : decode code 190 = .ok (.lshl, 1) := by decide +kernel
theorem d_Lw_law_191 : decode code 191 = .ok (.aload_n 0, 1) := by decide +kernel
theorem d_Lw_law_192 : decode code 192 = .ok (.iload_n 3, 1) := by decide +kernel
theorem d_Lw_law_193 : decode code 193 = .ok (.iconst 2, 1) := by decide +kernel
theorem d_Lw_law_194 : decode code 194 = .ok (.iadd, 1) := by decide +kernel
theorem d_Lw_law_195 : decode code 195 = .ok (.iaload, 1) := by decide +kernel
theorem d_Lw_law_196 : decode code 196 = .ok (.i2l, 1) := by decide +kernel
theorem d_Lw_law_197 : decode code 197 = .ok (.ldc2_w 13, 3) := by decide +kernel
theorem d_Lw_law_200 : decode code 200 = .ok (.land, 1) := by decide +kernel
theorem d_Lw_law_201 : decode code 201 = .ok (.lor, 1) := by decide +kernel
theorem d_Lw_law_202 : decode code 202 = .ok (.aload_n 0, 1) := by decide +kernel
theorem d_Lw_law_203 : decode code 203 = .ok (.iload_n 3, 1) := by decide +kernel
theorem d_Lw_law_204 : decode code 204 = .ok (.iconst 3, 1) := by decide +kernel
theorem d_Lw_law_205 : decode code 205 = .ok (.iadd, 1) := by decide +kernel
theorem d_Lw_law_206 : decode code 206 = .ok (.iaload, 1) := by decide +kernel
theorem d_Lw_law_207 : decode code 207 = .ok (.invokevirtual 19, 3) := by decide +kernel
theorem d_Lw_law_210 : decode code 210 = .ok (.if_icmp .eq 610, 3) := by decide +kernel
theorem d_Lw_law_213 : decode code 213 = .ok (.iconst 0, 1) := by decide +kernel
theorem d_Lw_law_214 : decode code 214 = .ok (.ireturn, 1) := by decide +kernel
theorem d_Lw_law_215 : decode code 215 = .ok (.aload_n 1, 1) := by decide +kernel
theorem d_Lw_law_216 : decode code 216 = .ok (.aload_n 0, 1) := by decide +kernel
theorem d_Lw_law_217 : decode code 217 = .ok (.iload_n 3, 1) := by decide +kernel
theorem d_Lw_law_218 : decode code 218 = .ok (.iconst 1, 1) := by decide +kernel
theorem d_Lw_law_219 : decode code 219 = .ok (.iadd, 1) := by decide +kernel
theorem d_Lw_law_220 : decode code 220 = .ok (.iaload, 1) := by decide +kernel
theorem d_Lw_law_221 : decode code 221 = .ok (.aload_n 0, 1) := by decide +kernel
theorem d_Lw_law_222 : decode code 222 = .ok (.iload_n 3, 1) := by decide +kernel
theorem d_Lw_law_223 : decode code 223 = .ok (.iconst 2, 1) := by decide +kernel
theorem d_Lw_law_224 : decode code 224 = .ok (.iadd, 1) := by decide +kernel
theorem d_Lw_law_225 : decode code 225 = .ok (.iaload, 1) := by decide +kernel
theorem d_Lw_law_226 : decode code 226 = .ok (.invokevirtual 20, 3) := by decide +kernel
theorem d_Lw_law_229 : decode code 229 = .ok (.aload_n 2, 1) := by decide +kernel
theorem d_Lw_law_230 : decode code 230 = .ok (.aload_n 0, 1) := by decide +kernel
theorem d_Lw_law_231 : decode code 231 = .ok (.iload_n 3, 1) := by decide +kernel
theorem d_Lw_law_232 : decode code 232 = .ok (.iconst 1, 1) := by decide +kernel
theorem d_Lw_law_233 : decode code 233 = .ok (.iadd, 1) := by decide +kernel
theorem d_Lw_law_234 : decode code 234 = .ok (.iaload, 1) := by decide +kernel
theorem d_Lw_law_235 : decode code 235 = .ok (.aload_n 0, 1) := by decide +kernel
theorem d_Lw_law_236 : decode code 236 = .ok (.iload_n 3, 1) := by decide +kernel
theorem d_Lw_law_237 : decode code 237 = .ok (.iconst 2, 1) := by decide +kernel
theorem d_Lw_law_238 : decode code 238 = .ok (.iadd, 1) := by decide +kernel
theorem d_Lw_law_239 : decode code 239 = .ok (.iaload, 1) := by decide +kernel
theorem d_Lw_law_240 : decode code 240 = .ok (.invokevirtual 24, 3) := by decide +kernel
theorem d_Lw_law_243 : decode code 243 = .ok (.if_icmp .eq 577, 3) := by decide +kernel
theorem d_Lw_law_246 : decode code 246 = .ok (.iconst 0, 1) := by decide +kernel
theorem d_Lw_law_247 : decode code 247 = .ok (.ireturn, 1) := by decide +kernel
theorem d_Lw_law_248 : decode code 248 = .ok (.aload_n 1, 1) := by decide +kernel
theorem d_Lw_law_249 : decode code 249 = .ok (.invokevirtual 25, 3) := by decide +kernel
theorem d_Lw_law_252 : decode code 252 = .ok (.aload_n 2, 1) := by decide +kernel
theorem d_Lw_law_253 : decode code 253 = .ok (.invokevirtual 29, 3) := by decide +kernel
theorem d_Lw_law_256 : decode code 256 = .ok (.if_icmp .eq 564, 3) := by decide +kernel
theorem d_Lw_law_259 : decode code 259 = .ok (.iconst 0, 1) := by decide +kernel
theorem d_Lw_law_260 : decode code 260 = .ok (.ireturn, 1) := by decide +kernel
theorem d_Lw_law_261 : decode code 261 = .ok (.aload_n 1, 1) := by decide +kernel
theorem d_Lw_law_262 : decode code 262 = .ok (.aload_n 0, 1) := by decide +kernel
theorem d_Lw_law_263 : decode code 263 = .ok (.iload_n 3, 1) := by decide +kernel
theorem d_Lw_law_264 : decode code 264 = .ok (.iconst 1, 1) := by decide +kernel
theorem d_Lw_law_265 : decode code 265 = .ok (.iadd, 1) := by decide +kernel
theorem d_Lw_law_266 : decode code 266 = .ok (.iaload, 1) := by decide +kernel
theorem d_Lw_law_267 : decode code 267 = .ok (.invokevirtual 30, 3) := by decide +kernel
theorem d_Lw_law_270 : decode code 270 = .ok (.aload_n 2, 1) := by decide +kernel
theorem d_Lw_law_271 : decode code 271 = .ok (.aload_n 0, 1) := by decide +kernel
theorem d_Lw_law_272 : decode code 272 = .ok (.iload_n 3, 1) := by decide +kernel
theorem d_Lw_law_273 : decode code 273 = .ok (.iconst 1, 1) := by decide +kernel
theorem d_Lw_law_274 : decode code 274 = .ok (.iadd, 1) := by decide +kernel
theorem d_Lw_law_275 : decode code 275 = .ok (.iaload, 1) := by decide +kernel
theorem d_Lw_law_276 : decode code 276 = .ok (.invokevirtual 34, 3) := by decide +kernel
theorem d_Lw_law_279 : decode code 279 = .ok (.if_icmp .eq 541, 3) := by decide +kernel
theorem d_Lw_law_282 : decode code 282 = .ok (.iconst 0, 1) := by decide +kernel
theorem d_Lw_law_283 : decode code 283 = .ok (.ireturn, 1) := by decide +kernel
theorem d_Lw_law_284 : decode code 284 = .ok (.aload_n 1, 1) := by decide +kernel
theorem d_Lw_law_285 : decode code 285 = .ok (.invokevirtual 35, 3) := by decide +kernel
theorem d_Lw_law_288 : decode code 288 = .ok (.aload_n 2, 1) := by decide +kernel
theorem d_Lw_law_289 : decode code 289 = .ok (.invokevirtual 38, 3) := by decide +kernel
theorem d_Lw_law_292 : decode code 292 = .ok (.if_icmp .eq 528, 3) := by decide +kernel
theorem d_Lw_law_295 : decode code 295 = .ok (.iconst 0, 1) := by decide +kernel
theorem d_Lw_law_296 : decode code 296 = .ok (.ireturn, 1) := by decide +kernel
theorem d_Lw_law_297 : decode code 297 = .ok (.aload_n 1, 1) := by decide +kernel
theorem d_Lw_law_298 : decode code 298 = .ok (.aload_n 0, 1) := by decide +kernel
theorem d_Lw_law_299 : decode code 299 = .ok (.iload_n 3, 1) := by decide +kernel
theorem d_Lw_law_300 : decode code 300 = .ok (.iconst 1, 1) := by decide +kernel
theorem d_Lw_law_301 : decode code 301 = .ok (.iadd, 1) := by decide +kernel
theorem d_Lw_law_302 : decode code 302 = .ok (.iaload, 1) := by decide +kernel
theorem d_Lw_law_303 : decode code 303 = .ok (.invokevirtual 39, 3) := by decide +kernel
theorem d_Lw_law_306 : decode code 306 = .ok (.aload_n 2, 1) := by decide +kernel
theorem d_Lw_law_307 : decode code 307 = .ok (.aload_n 0, 1) := by decide +kernel
theorem d_Lw_law_308 : decode code 308 = .ok (.iload_n 3, 1) := by decide +kernel
theorem d_Lw_law_309 : decode code 309 = .ok (.iconst 1, 1) := by decide +kernel
theorem d_Lw_law_310 : decode code 310 = .ok (.iadd, 1) := by decide +kernel
theorem d_Lw_law_311 : decode code 311 = .ok (.iaload, 1) := by decide +kernel
theorem d_Lw_law_312 : decode code 312 = .ok (.invokevirtual 42, 3) := by decide +kernel
theorem d_Lw_law_315 : decode code 315 = .ok (.if_icmp .eq 505, 3) := by decide +kernel
theorem d_Lw_law_318 : decode code 318 = .ok (.iconst 0, 1) := by decide +kernel
theorem d_Lw_law_319 : decode code 319 = .ok (.ireturn, 1) := by decide +kernel
theorem d_Lw_law_320 : decode code 320 = .ok (.aload_n 1, 1) := by decide +kernel
theorem d_Lw_law_321 : decode code 321 = .ok (.aload_n 0, 1) := by decide +kernel
theorem d_Lw_law_322 : decode code 322 = .ok (.iload_n 3, 1) := by decide +kernel
theorem d_Lw_law_323 : decode code 323 = .ok (.iconst 1, 1) := by decide +kernel
theorem d_Lw_law_324 : decode code 324 = .ok (.iadd, 1) := by decide +kernel
theorem d_Lw_law_325 : decode code 325 = .ok (.iaload, 1) := by decide +kernel
theorem d_Lw_law_326 : decode code 326 = .ok (.invokevirtual 43, 3) := by decide +kernel
theorem d_Lw_law_329 : decode code 329 = .ok (.aload_n 2, 1) := by decide +kernel
theorem d_Lw_law_330 : decode code 330 = .ok (.aload_n 0, 1) := by decide +kernel
theorem d_Lw_law_331 : decode code 331 = .ok (.iload_n 3, 1) := by decide +kernel
theorem d_Lw_law_332 : decode code 332 = .ok (.iconst 1, 1) := by decide +kernel
theorem d_Lw_law_333 : decode code 333 = .ok (.iadd, 1) := by decide +kernel
theorem d_Lw_law_334 : decode code 334 = .ok (.iaload, 1) := by decide +kernel
theorem d_Lw_law_335 : decode code 335 = .ok (.invokevirtual 46, 3) := by decide +kernel
theorem d_Lw_law_338 : decode code 338 = .ok (.if_icmp .eq 482, 3) := by decide +kernel
theorem d_Lw_law_341 : decode code 341 = .ok (.iconst 0, 1) := by decide +kernel
theorem d_Lw_law_342 : decode code 342 = .ok (.ireturn, 1) := by decide +kernel
theorem d_Lw_law_343 : decode code 343 = .ok (.aload_n 1, 1) := by decide +kernel
theorem d_Lw_law_344 : decode code 344 = .ok (.aload_n 0, 1) := by decide +kernel
theorem d_Lw_law_345 : decode code 345 = .ok (.iload_n 3, 1) := by decide +kernel
theorem d_Lw_law_346 : decode code 346 = .ok (.iconst 1, 1) := by decide +kernel
theorem d_Lw_law_347 : decode code 347 = .ok (.iadd, 1) := by decide +kernel
theorem d_Lw_law_348 : decode code 348 = .ok (.iaload, 1) := by decide +kernel
theorem d_Lw_law_349 : decode code 349 = .ok (.invokevirtual 47, 3) := by decide +kernel
theorem d_Lw_law_352 : decode code 352 = .ok (.aload_n 2, 1) := by decide +kernel
theorem d_Lw_law_353 : decode code 353 = .ok (.aload_n 0, 1) := by decide +kernel
theorem d_Lw_law_354 : decode code 354 = .ok (.iload_n 3, 1) := by decide +kernel
theorem d_Lw_law_355 : decode code 355 = .ok (.iconst 1, 1) := by decide +kernel
theorem d_Lw_law_356 : decode code 356 = .ok (.iadd, 1) := by decide +kernel
theorem d_Lw_law_357 : decode code 357 = .ok (.iaload, 1) := by decide +kernel
theorem d_Lw_law_358 : decode code 358 = .ok (.invokevirtual 50, 3) := by decide +kernel
theorem d_Lw_law_361 : decode code 361 = .ok (.if_icmp .eq 459, 3) := by decide +kernel
theorem d_Lw_law_364 : decode code 364 = .ok (.iconst 0, 1) := by decide +kernel
theorem d_Lw_law_365 : decode code 365 = .ok (.ireturn, 1) := by decide +kernel
theorem d_Lw_law_366 : decode code 366 = .ok (.aload_n 1, 1) := by decide +kernel
theorem d_Lw_law_367 : decode code 367 = .ok (.invokevirtual 51, 3) := by decide +kernel
theorem d_Lw_law_370 : decode code 370 = .ok (.aload_n 2, 1) := by decide +kernel
theorem d_Lw_law_371 : decode code 371 = .ok (.invokevirtual 54, 3) := by decide +kernel
theorem d_Lw_law_374 : decode code 374 = .ok (.if_icmp .eq 446, 3) := by decide +kernel
theorem d_Lw_law_377 : decode code 377 = .ok (.iconst 0, 1) := by decide +kernel
theorem d_Lw_law_378 : decode code 378 = .ok (.ireturn, 1) := by decide +kernel
theorem d_Lw_law_379 : decode code 379 = .ok (.aload_n 1, 1) := by decide +kernel
theorem d_Lw_law_380 : decode code 380 = .ok (.invokevirtual 55, 3) := by decide +kernel
theorem d_Lw_law_383 : decode code 383 = .ok (.aload_n 2, 1) := by decide +kernel
theorem d_Lw_law_384 : decode code 384 = .ok (.invokevirtual 58, 3) := by decide +kernel
theorem d_Lw_law_387 : decode code 387 = .ok (.if_icmp .eq 433, 3) := by decide +kernel
theorem d_Lw_law_390 : decode code 390 = .ok (.iconst 0, 1) := by decide +kernel
theorem d_Lw_law_391 : decode code 391 = .ok (.ireturn, 1) := by decide +kernel
theorem d_Lw_law_392 : decode code 392 = .ok (.aload_n 1, 1) := by decide +kernel
theorem d_Lw_law_393 : decode code 393 = .ok (.aload_n 0, 1) := by decide +kernel
theorem d_Lw_law_394 : decode code 394 = .ok (.iload_n 3, 1) := by decide +kernel
theorem d_Lw_law_395 : decode code 395 = .ok (.iconst 1, 1) := by decide +kernel
theorem d_Lw_law_396 : decode code 396 = .ok (.iadd, 1) := by decide +kernel
theorem d_Lw_law_397 : decode code 397 = .ok (.iaload, 1) := by decide +kernel
theorem d_Lw_law_398 : decode code 398 = .ok (.aload_n 0, 1) := by decide +kernel
theorem d_Lw_law_399 : decode code 399 = .ok (.iload_n 3, 1) := by decide +kernel
theorem d_Lw_law_400 : decode code 400 = .ok (.iconst 2, 1) := by decide +kernel
theorem d_Lw_law_401 : decode code 401 = .ok (.iadd, 1) := by decide +kernel
theorem d_Lw_law_402 : decode code 402 = .ok (.iaload, 1) := by decide +kernel
theorem d_Lw_law_403 : decode code 403 = .ok (.invokevirtual 59, 3) := by decide +kernel
theorem d_Lw_law_406 : decode code 406 = .ok (.aload_n 2, 1) := by decide +kernel
theorem d_Lw_law_407 : decode code 407 = .ok (.aload_n 0, 1) := by decide +kernel
theorem d_Lw_law_408 : decode code 408 = .ok (.iload_n 3, 1) := by decide +kernel
theorem d_Lw_law_409 : decode code 409 = .ok (.iconst 1, 1) := by decide +kernel
theorem d_Lw_law_410 : decode code 410 = .ok (.iadd, 1) := by decide +kernel
theorem d_Lw_law_411 : decode code 411 = .ok (.iaload, 1) := by decide +kernel
theorem d_Lw_law_412 : decode code 412 = .ok (.aload_n 0, 1) := by decide +kernel
theorem d_Lw_law_413 : decode code 413 = .ok (.iload_n 3, 1) := by decide +kernel
theorem d_Lw_law_414 : decode code 414 = .ok (.iconst 2, 1) := by decide +kernel
theorem d_Lw_law_415 : decode code 415 = .ok (.iadd, 1) := by decide +kernel
theorem d_Lw_law_416 : decode code 416 = .ok (.iaload, 1) := by decide +kernel
theorem d_Lw_law_417 : decode code 417 = .ok (.invokevirtual 62, 3) := by decide +kernel
theorem d_Lw_law_420 : decode code 420 = .ok (.if_icmp .eq 400, 3) := by decide +kernel
theorem d_Lw_law_423 : decode code 423 = .ok (.iconst 0, 1) := by decide +kernel
theorem d_Lw_law_424 : decode code 424 = .ok (.ireturn, 1) := by decide +kernel
theorem d_Lw_law_425 : decode code 425 = .ok (.aload_n 1, 1) := by decide +kernel
theorem d_Lw_law_426 : decode code 426 = .ok (.aload_n 0, 1) := by decide +kernel
theorem d_Lw_law_427 : decode code 427 = .ok (.iload_n 3, 1) := by decide +kernel
theorem d_Lw_law_428 : decode code 428 = .ok (.iconst 1, 1) := by decide +kernel
theorem d_Lw_law_429 : decode code 429 = .ok (.iadd, 1) := by decide +kernel
theorem d_Lw_law_430 : decode code 430 = .ok (.iaload, 1) := by decide +kernel
theorem d_Lw_law_431 : decode code 431 = .ok (.i2l, 1) := by decide +kernel
theorem d_Lw_law_432 : decode code 432 = .ok (.bipush 32, 2) := by decide +kernel
theorem d_Lw_law_434 : decode code 434 = .ok (.lshl, 1) := by decide +kernel
theorem d_Lw_law_435 : decode code 435 = .ok (.aload_n 0, 1) := by decide +kernel
theorem d_Lw_law_436 : decode code 436 = .ok (.iload_n 3, 1) := by decide +kernel
theorem d_Lw_law_437 : decode code 437 = .ok (.iconst 2, 1) := by decide +kernel
theorem d_Lw_law_438 : decode code 438 = .ok (.iadd, 1) := by decide +kernel
theorem d_Lw_law_439 : decode code 439 = .ok (.iaload, 1) := by decide +kernel
theorem d_Lw_law_440 : decode code 440 = .ok (.i2l, 1) := by decide +kernel
theorem d_Lw_law_441 : decode code 441 = .ok (.ldc2_w 13, 3) := by decide +kernel
theorem d_Lw_law_444 : decode code 444 = .ok (.land, 1) := by decide +kernel
theorem d_Lw_law_445 : decode code 445 = .ok (.lor, 1) := by decide +kernel
theorem d_Lw_law_446 : decode code 446 = .ok (.aload_n 0, 1) := by decide +kernel
theorem d_Lw_law_447 : decode code 447 = .ok (.iload_n 3, 1) := by decide +kernel
theorem d_Lw_law_448 : decode code 448 = .ok (.iconst 3, 1) := by decide +kernel
theorem d_Lw_law_449 : decode code 449 = .ok (.iadd, 1) := by decide +kernel
theorem d_Lw_law_450 : decode code 450 = .ok (.iaload, 1) := by decide +kernel
theorem d_Lw_law_451 : decode code 451 = .ok (.aload_n 0, 1) := by decide +kernel
theorem d_Lw_law_452 : decode code 452 = .ok (.iload_n 3, 1) := by decide +kernel
theorem d_Lw_law_453 : decode code 453 = .ok (.iconst 4, 1) := by decide +kernel
theorem d_Lw_law_454 : decode code 454 = .ok (.iadd, 1) := by decide +kernel
theorem d_Lw_law_455 : decode code 455 = .ok (.iaload, 1) := by decide +kernel
theorem d_Lw_law_456 : decode code 456 = .ok (.invokevirtual 63, 3) := by decide +kernel
theorem d_Lw_law_459 : decode code 459 = .ok (.aload_n 2, 1) := by decide +kernel
theorem d_Lw_law_460 : decode code 460 = .ok (.aload_n 0, 1) := by decide +kernel
theorem d_Lw_law_461 : decode code 461 = .ok (.iload_n 3, 1) := by decide +kernel
theorem d_Lw_law_462 : decode code 462 = .ok (.iconst 1, 1) := by decide +kernel
theorem d_Lw_law_463 : decode code 463 = .ok (.iadd, 1) := by decide +kernel
theorem d_Lw_law_464 : decode code 464 = .ok (.iaload, 1) := by decide +kernel
theorem d_Lw_law_465 : decode code 465 = .ok (.i2l, 1) := by decide +kernel
theorem d_Lw_law_466 : decode code 466 = .ok (.bipush 32, 2) := by decide +kernel
theorem d_Lw_law_468 : decode code 468 = .ok (.lshl, 1) := by decide +kernel
theorem d_Lw_law_469 : decode code 469 = .ok (.aload_n 0, 1) := by decide +kernel
theorem d_Lw_law_470 : decode code 470 = .ok (.iload_n 3, 1) := by decide +kernel
theorem d_Lw_law_471 : decode code 471 = .ok (.iconst 2, 1) := by decide +kernel
theorem d_Lw_law_472 : decode code 472 = .ok (.iadd, 1) := by decide +kernel
theorem d_Lw_law_473 : decode code 473 = .ok (.iaload, 1) := by decide +kernel
theorem d_Lw_law_474 : decode code 474 = .ok (.i2l, 1) := by decide +kernel
theorem d_Lw_law_475 : decode code 475 = .ok (.ldc2_w 13, 3) := by decide +kernel
theorem d_Lw_law_478 : decode code 478 = .ok (.land, 1) := by decide +kernel
theorem d_Lw_law_479 : decode code 479 = .ok (.lor, 1) := by decide +kernel
theorem d_Lw_law_480 : decode code 480 = .ok (.aload_n 0, 1) := by decide +kernel
theorem d_Lw_law_481 : decode code 481 = .ok (.iload_n 3, 1) := by decide +kernel
theorem d_Lw_law_482 : decode code 482 = .ok (.iconst 3, 1) := by decide +kernel
theorem d_Lw_law_483 : decode code 483 = .ok (.iadd, 1) := by decide +kernel
theorem d_Lw_law_484 : decode code 484 = .ok (.iaload, 1) := by decide +kernel
theorem d_Lw_law_485 : decode code 485 = .ok (.aload_n 0, 1) := by decide +kernel
theorem d_Lw_law_486 : decode code 486 = .ok (.iload_n 3, 1) := by decide +kernel
theorem d_Lw_law_487 : decode code 487 = .ok (.iconst 4, 1) := by decide +kernel
theorem d_Lw_law_488 : decode code 488 = .ok (.iadd, 1) := by decide +kernel
theorem d_Lw_law_489 : decode code 489 = .ok (.iaload, 1) := by decide +kernel
theorem d_Lw_law_490 : decode code 490 = .ok (.invokevirtual 67, 3) := by decide +kernel
theorem d_Lw_law_493 : decode code 493 = .ok (.if_icmp .eq 327, 3) := by decide +kernel
theorem d_Lw_law_496 : decode code 496 = .ok (.iconst 0, 1) := by decide +kernel
theorem d_Lw_law_497 : decode code 497 = .ok (.ireturn, 1) := by decide +kernel
theorem d_Lw_law_498 : decode code 498 = .ok (.aload_n 1, 1) := by decide +kernel
theorem d_Lw_law_499 : decode code 499 = .ok (.aload_n 0, 1) := by decide +kernel
theorem d_Lw_law_500 : decode code 500 = .ok (.iload_n 3, 1) := by decide +kernel
theorem d_Lw_law_501 : decode code 501 = .ok (.iconst 1, 1) := by decide +kernel
theorem d_Lw_law_502 : decode code 502 = .ok (.iadd, 1) := by decide +kernel
theorem d_Lw_law_503 : decode code 503 = .ok (.iaload, 1) := by decide +kernel
theorem d_Lw_law_504 : decode code 504 = .ok (.invokevirtual 68, 3) := by decide +kernel
theorem d_Lw_law_507 : decode code 507 = .ok (.aload_n 2, 1) := by decide +kernel
theorem d_Lw_law_508 : decode code 508 = .ok (.aload_n 0, 1) := by decide +kernel
theorem d_Lw_law_509 : decode code 509 = .ok (.iload_n 3, 1) := by decide +kernel
theorem d_Lw_law_510 : decode code 510 = .ok (.iconst 1, 1) := by decide +kernel
theorem d_Lw_law_511 : decode code 511 = .ok (.iadd, 1) := by decide +kernel
theorem d_Lw_law_512 : decode code 512 = .ok (.iaload, 1) := by decide +kernel
theorem d_Lw_law_513 : decode code 513 = .ok (.invokevirtual 71, 3) := by decide +kernel
theorem d_Lw_law_516 : decode code 516 = .ok (.if_icmp .eq 304, 3) := by decide +kernel
theorem d_Lw_law_519 : decode code 519 = .ok (.iconst 0, 1) := by decide +kernel
theorem d_Lw_law_520 : decode code 520 = .ok (.ireturn, 1) := by decide +kernel
theorem d_Lw_law_521 : decode code 521 = .ok (.aload_n 1, 1) := by decide +kernel
theorem d_Lw_law_522 : decode code 522 = .ok (.aload_n 0, 1) := by decide +kernel
theorem d_Lw_law_523 : decode code 523 = .ok (.iload_n 3, 1) := by decide +kernel
theorem d_Lw_law_524 : decode code 524 = .ok (.iconst 1, 1) := by decide +kernel
theorem d_Lw_law_525 : decode code 525 = .ok (.iadd, 1) := by decide +kernel
theorem d_Lw_law_526 : decode code 526 = .ok (.iaload, 1) := by decide +kernel
theorem d_Lw_law_527 : decode code 527 = .ok (.invokevirtual 72, 3) := by decide +kernel
theorem d_Lw_law_530 : decode code 530 = .ok (.aload_n 2, 1) := by decide +kernel
theorem d_Lw_law_531 : decode code 531 = .ok (.aload_n 0, 1) := by decide +kernel
theorem d_Lw_law_532 : decode code 532 = .ok (.iload_n 3, 1) := by decide +kernel
theorem d_Lw_law_533 : decode code 533 = .ok (.iconst 1, 1) := by decide +kernel
theorem d_Lw_law_534 : decode code 534 = .ok (.iadd, 1) := by decide +kernel
theorem d_Lw_law_535 : decode code 535 = .ok (.iaload, 1) := by decide +kernel
theorem d_Lw_law_536 : decode code 536 = .ok (.invokevirtual 75, 3) := by decide +kernel
theorem d_Lw_law_539 : decode code 539 = .ok (.if_icmp .eq 281, 3) := by decide +kernel
theorem d_Lw_law_542 : decode code 542 = .ok (.iconst 0, 1) := by decide +kernel
theorem d_Lw_law_543 : decode code 543 = .ok (.ireturn, 1) := by decide +kernel
theorem d_Lw_law_544 : decode code 544 = .ok (.aload_n 1, 1) := by decide +kernel
theorem d_Lw_law_545 : decode code 545 = .ok (.aload_n 0, 1) := by decide +kernel
theorem d_Lw_law_546 : decode code 546 = .ok (.iload_n 3, 1) := by decide +kernel
theorem d_Lw_law_547 : decode code 547 = .ok (.iconst 1, 1) := by decide +kernel
theorem d_Lw_law_548 : decode code 548 = .ok (.iadd, 1) := by decide +kernel
theorem d_Lw_law_549 : decode code 549 = .ok (.iaload, 1) := by decide +kernel
theorem d_Lw_law_550 : decode code 550 = .ok (.invokevirtual 76, 3) := by decide +kernel
theorem d_Lw_law_553 : decode code 553 = .ok (.aload_n 2, 1) := by decide +kernel
theorem d_Lw_law_554 : decode code 554 = .ok (.aload_n 0, 1) := by decide +kernel
theorem d_Lw_law_555 : decode code 555 = .ok (.iload_n 3, 1) := by decide +kernel
theorem d_Lw_law_556 : decode code 556 = .ok (.iconst 1, 1) := by decide +kernel
theorem d_Lw_law_557 : decode code 557 = .ok (.iadd, 1) := by decide +kernel
theorem d_Lw_law_558 : decode code 558 = .ok (.iaload, 1) := by decide +kernel
theorem d_Lw_law_559 : decode code 559 = .ok (.invokevirtual 79, 3) := by decide +kernel
theorem d_Lw_law_562 : decode code 562 = .ok (.if_icmp .eq 258, 3) := by decide +kernel
theorem d_Lw_law_565 : decode code 565 = .ok (.iconst 0, 1) := by decide +kernel
theorem d_Lw_law_566 : decode code 566 = .ok (.ireturn, 1) := by decide +kernel
theorem d_Lw_law_567 : decode code 567 = .ok (.aload_n 1, 1) := by decide +kernel
theorem d_Lw_law_568 : decode code 568 = .ok (.aload_n 0, 1) := by decide +kernel
theorem d_Lw_law_569 : decode code 569 = .ok (.iload_n 3, 1) := by decide +kernel
theorem d_Lw_law_570 : decode code 570 = .ok (.iconst 1, 1) := by decide +kernel
theorem d_Lw_law_571 : decode code 571 = .ok (.iadd, 1) := by decide +kernel
theorem d_Lw_law_572 : decode code 572 = .ok (.iaload, 1) := by decide +kernel
theorem d_Lw_law_573 : decode code 573 = .ok (.aload_n 0, 1) := by decide +kernel
theorem d_Lw_law_574 : decode code 574 = .ok (.iload_n 3, 1) := by decide +kernel
theorem d_Lw_law_575 : decode code 575 = .ok (.iconst 2, 1) := by decide +kernel
theorem d_Lw_law_576 : decode code 576 = .ok (.iadd, 1) := by decide +kernel
theorem d_Lw_law_577 : decode code 577 = .ok (.iaload, 1) := by decide +kernel
theorem d_Lw_law_578 : decode code 578 = .ok (.invokevirtual 80, 3) := by decide +kernel
theorem d_Lw_law_581 : decode code 581 = .ok (.aload_n 2, 1) := by decide +kernel
theorem d_Lw_law_582 : decode code 582 = .ok (.aload_n 0, 1) := by decide +kernel
theorem d_Lw_law_583 : decode code 583 = .ok (.iload_n 3, 1) := by decide +kernel
theorem d_Lw_law_584 : decode code 584 = .ok (.iconst 1, 1) := by decide +kernel
theorem d_Lw_law_585 : decode code 585 = .ok (.iadd, 1) := by decide +kernel
theorem d_Lw_law_586 : decode code 586 = .ok (.iaload, 1) := by decide +kernel
theorem d_Lw_law_587 : decode code 587 = .ok (.aload_n 0, 1) := by decide +kernel
theorem d_Lw_law_588 : decode code 588 = .ok (.iload_n 3, 1) := by decide +kernel
theorem d_Lw_law_589 : decode code 589 = .ok (.iconst 2, 1) := by decide +kernel
theorem d_Lw_law_590 : decode code 590 = .ok (.iadd, 1) := by decide +kernel
theorem d_Lw_law_591 : decode code 591 = .ok (.iaload, 1) := by decide +kernel
theorem d_Lw_law_592 : decode code 592 = .ok (.invokevirtual 83, 3) := by decide +kernel
theorem d_Lw_law_595 : decode code 595 = .ok (.if_icmp .eq 225, 3) := by decide +kernel
theorem d_Lw_law_598 : decode code 598 = .ok (.iconst 0, 1) := by decide +kernel
theorem d_Lw_law_599 : decode code 599 = .ok (.ireturn, 1) := by decide +kernel
theorem d_Lw_law_600 : decode code 600 = .ok (.aload_n 1, 1) := by decide +kernel
theorem d_Lw_law_601 : decode code 601 = .ok (.invokevirtual 84, 3) := by decide +kernel
theorem d_Lw_law_604 : decode code 604 = .ok (.aload_n 2, 1) := by decide +kernel
theorem d_Lw_law_605 : decode code 605 = .ok (.invokevirtual 87, 3) := by decide +kernel
theorem d_Lw_law_608 : decode code 608 = .ok (.if_icmp .eq 212, 3) := by decide +kernel
theorem d_Lw_law_611 : decode code 611 = .ok (.iconst 0, 1) := by decide +kernel
theorem d_Lw_law_612 : decode code 612 = .ok (.ireturn, 1) := by decide +kernel
theorem d_Lw_law_613 : decode code 613 = .ok (.aload_n 1, 1) := by decide +kernel
theorem d_Lw_law_614 : decode code 614 = .ok (.invokevirtual 88, 3) := by decide +kernel
theorem d_Lw_law_617 : decode code 617 = .ok (.aload_n 2, 1) := by decide +kernel
theorem d_Lw_law_618 : decode code 618 = .ok (.invokevirtual 91, 3) := by decide +kernel
theorem d_Lw_law_621 : decode code 621 = .ok (.if_icmp .eq 199, 3) := by decide +kernel
theorem d_Lw_law_624 : decode code 624 = .ok (.iconst 0, 1) := by decide +kernel
theorem d_Lw_law_625 : decode code 625 = .ok (.ireturn, 1) := by decide +kernel
theorem d_Lw_law_626 : decode code 626 = .ok (.aload_n 1, 1) := by decide +kernel
theorem d_Lw_law_627 : decode code 627 = .ok (.aload_n 0, 1) := by decide +kernel
theorem d_Lw_law_628 : decode code 628 = .ok (.iload_n 3, 1) := by decide +kernel
theorem d_Lw_law_629 : decode code 629 = .ok (.iconst 1, 1) := by decide +kernel
theorem d_Lw_law_630 : decode code 630 = .ok (.iadd, 1) := by decide +kernel
theorem d_Lw_law_631 : decode code 631 = .ok (.iaload, 1) := by decide +kernel
theorem d_Lw_law_632 : decode code 632 = .ok (.invokevirtual 92, 3) := by decide +kernel
theorem d_Lw_law_635 : decode code 635 = .ok (.aload_n 2, 1) := by decide +kernel
theorem d_Lw_law_636 : decode code 636 = .ok (.aload_n 0, 1) := by decide +kernel
theorem d_Lw_law_637 : decode code 637 = .ok (.iload_n 3, 1) := by decide +kernel
theorem d_Lw_law_638 : decode code 638 = .ok (.iconst 1, 1) := by decide +kernel
theorem d_Lw_law_639 : decode code 639 = .ok (.iadd, 1) := by decide +kernel
theorem d_Lw_law_640 : decode code 640 = .ok (.iaload, 1) := by decide +kernel
theorem d_Lw_law_641 : decode code 641 = .ok (.invokevirtual 95, 3) := by decide +kernel
theorem d_Lw_law_644 : decode code 644 = .ok (.if_icmp .eq 176, 3) := by decide +kernel
theorem d_Lw_law_647 : decode code 647 = .ok (.iconst 0, 1) := by decide +kernel
theorem d_Lw_law_648 : decode code 648 = .ok (.ireturn, 1) := by decide +kernel
theorem d_Lw_law_649 : decode code 649 = .ok (.aload_n 1, 1) := by decide +kernel
theorem d_Lw_law_650 : decode code 650 = .ok (.aload_n 0, 1) := by decide +kernel
theorem d_Lw_law_651 : decode code 651 = .ok (.iload_n 3, 1) := by decide +kernel
theorem d_Lw_law_652 : decode code 652 = .ok (.iconst 1, 1) := by decide +kernel
theorem d_Lw_law_653 : decode code 653 = .ok (.iadd, 1) := by decide +kernel
theorem d_Lw_law_654 : decode code 654 = .ok (.iaload, 1) := by decide +kernel
theorem d_Lw_law_655 : decode code 655 = .ok (.i2l, 1) := by decide +kernel
theorem d_Lw_law_656 : decode code 656 = .ok (.bipush 32, 2) := by decide +kernel
theorem d_Lw_law_658 : decode code 658 = .ok (.lshl, 1) := by decide +kernel
theorem d_Lw_law_659 : decode code 659 = .ok (.aload_n 0, 1) := by decide +kernel
theorem d_Lw_law_660 : decode code 660 = .ok (.iload_n 3, 1) := by decide +kernel
theorem d_Lw_law_661 : decode code 661 = .ok (.iconst 2, 1) := by decide +kernel
theorem d_Lw_law_662 : decode code 662 = .ok (.iadd, 1) := by decide +kernel
theorem d_Lw_law_663 : decode code 663 = .ok (.iaload, 1) := by decide +kernel
theorem d_Lw_law_664 : decode code 664 = .ok (.i2l, 1) := by decide +kernel
theorem d_Lw_law_665 : decode code 665 = .ok (.ldc2_w 13, 3) := by decide +kernel
theorem d_Lw_law_668 : decode code 668 = .ok (.land, 1) := by decide +kernel
theorem d_Lw_law_669 : decode code 669 = .ok (.lor, 1) := by decide +kernel
theorem d_Lw_law_670 : decode code 670 = .ok (.aload_n 0, 1) := by decide +kernel
theorem d_Lw_law_671 : decode code 671 = .ok (.iload_n 3, 1) := by decide +kernel
theorem d_Lw_law_672 : decode code 672 = .ok (.iconst 3, 1) := by decide +kernel
theorem d_Lw_law_673 : decode code 673 = .ok (.iadd, 1) := by decide +kernel
theorem d_Lw_law_674 : decode code 674 = .ok (.iaload, 1) := by decide +kernel
theorem d_Lw_law_675 : decode code 675 = .ok (.invokevirtual 96, 3) := by decide +kernel
theorem d_Lw_law_678 : decode code 678 = .ok (.aload_n 2, 1) := by decide +kernel
theorem d_Lw_law_679 : decode code 679 = .ok (.aload_n 0, 1) := by decide +kernel
theorem d_Lw_law_680 : decode code 680 = .ok (.iload_n 3, 1) := by decide +kernel
theorem d_Lw_law_681 : decode code 681 = .ok (.iconst 1, 1) := by decide +kernel
theorem d_Lw_law_682 : decode code 682 = .ok (.iadd, 1) := by decide +kernel
theorem d_Lw_law_683 : decode code 683 = .ok (.iaload, 1) := by decide +kernel
theorem d_Lw_law_684 : decode code 684 = .ok (.i2l, 1) := by decide +kernel
theorem d_Lw_law_685 : decode code 685 = .ok (.bipush 32, 2) := by decide +kernel
theorem d_Lw_law_687 : decode code 687 = .ok (.lshl, 1) := by decide +kernel
theorem d_Lw_law_688 : decode code 688 = .ok (.aload_n 0, 1) := by decide +kernel
theorem d_Lw_law_689 : decode code 689 = .ok (.iload_n 3, 1) := by decide +kernel
theorem d_Lw_law_690 : decode code 690 = .ok (.iconst 2, 1) := by decide +kernel
theorem d_Lw_law_691 : decode code 691 = .ok (.iadd, 1) := by decide +kernel
theorem d_Lw_law_692 : decode code 692 = .ok (.iaload, 1) := by decide +kernel
theorem d_Lw_law_693 : decode code 693 = .ok (.i2l, 1) := by decide +kernel
theorem d_Lw_law_694 : decode code 694 = .ok (.ldc2_w 13, 3) := by decide +kernel
theorem d_Lw_law_697 : decode code 697 = .ok (.land, 1) := by decide +kernel
theorem d_Lw_law_698 : decode code 698 = .ok (.lor, 1) := by decide +kernel
theorem d_Lw_law_699 : decode code 699 = .ok (.aload_n 0, 1) := by decide +kernel
theorem d_Lw_law_700 : decode code 700 = .ok (.iload_n 3, 1) := by decide +kernel
theorem d_Lw_law_701 : decode code 701 = .ok (.iconst 3, 1) := by decide +kernel
theorem d_Lw_law_702 : decode code 702 = .ok (.iadd, 1) := by decide +kernel
theorem d_Lw_law_703 : decode code 703 = .ok (.iaload, 1) := by decide +kernel
theorem d_Lw_law_704 : decode code 704 = .ok (.invokevirtual 99, 3) := by decide +kernel
theorem d_Lw_law_707 : decode code 707 = .ok (.if_icmp .eq 113, 3) := by decide +kernel
theorem d_Lw_law_710 : decode code 710 = .ok (.iconst 0, 1) := by decide +kernel
theorem d_Lw_law_711 : decode code 711 = .ok (.ireturn, 1) := by decide +kernel
theorem d_Lw_law_712 : decode code 712 = .ok (.aload_n 1, 1) := by decide +kernel
theorem d_Lw_law_713 : decode code 713 = .ok (.invokevirtual 100, 3) := by decide +kernel
theorem d_Lw_law_716 : decode code 716 = .ok (.aload_n 2, 1) := by decide +kernel
theorem d_Lw_law_717 : decode code 717 = .ok (.invokevirtual 103, 3) := by decide +kernel
theorem d_Lw_law_720 : decode code 720 = .ok (.if_icmp .eq 100, 3) := by decide +kernel
theorem d_Lw_law_723 : decode code 723 = .ok (.iconst 0, 1) := by decide +kernel
theorem d_Lw_law_724 : decode code 724 = .ok (.ireturn, 1) := by decide +kernel
theorem d_Lw_law_725 : decode code 725 = .ok (.aload_n 1, 1) := by decide +kernel
theorem d_Lw_law_726 : decode code 726 = .ok (.aload_n 0, 1) := by decide +kernel
theorem d_Lw_law_727 : decode code 727 = .ok (.iload_n 3, 1) := by decide +kernel
theorem d_Lw_law_728 : decode code 728 = .ok (.iconst 1, 1) := by decide +kernel
theorem d_Lw_law_729 : decode code 729 = .ok (.iadd, 1) := by decide +kernel
theorem d_Lw_law_730 : decode code 730 = .ok (.iaload, 1) := by decide +kernel
theorem d_Lw_law_731 : decode code 731 = .ok (.aload_n 0, 1) := by decide +kernel
theorem d_Lw_law_732 : decode code 732 = .ok (.iload_n 3, 1) := by decide +kernel
theorem d_Lw_law_733 : decode code 733 = .ok (.iconst 2, 1) := by decide +kernel
theorem d_Lw_law_734 : decode code 734 = .ok (.iadd, 1) := by decide +kernel
theorem d_Lw_law_735 : decode code 735 = .ok (.iaload, 1) := by decide +kernel
theorem d_Lw_law_736 : decode code 736 = .ok (.invokevirtual 104, 3) := by decide +kernel
theorem d_Lw_law_739 : decode code 739 = .ok (.aload_n 2, 1) := by decide +kernel
theorem d_Lw_law_740 : decode code 740 = .ok (.aload_n 0, 1) := by decide +kernel
theorem d_Lw_law_741 : decode code 741 = .ok (.iload_n 3, 1) := by decide +kernel
theorem d_Lw_law_742 : decode code 742 = .ok (.iconst 1, 1) := by decide +kernel
theorem d_Lw_law_743 : decode code 743 = .ok (.iadd, 1) := by decide +kernel
theorem d_Lw_law_744 : decode code 744 = .ok (.iaload, 1) := by decide +kernel
theorem d_Lw_law_745 : decode code 745 = .ok (.aload_n 0, 1) := by decide +kernel
theorem d_Lw_law_746 : decode code 746 = .ok (.iload_n 3, 1) := by decide +kernel
theorem d_Lw_law_747 : decode code 747 = .ok (.iconst 2, 1) := by decide +kernel
theorem d_Lw_law_748 : decode code 748 = .ok (.iadd, 1) := by decide +kernel
theorem d_Lw_law_749 : decode code 749 = .ok (.iaload, 1) := by decide +kernel
theorem d_Lw_law_750 : decode code 750 = .ok (.invokevirtual 107, 3) := by decide +kernel
theorem d_Lw_law_753 : decode code 753 = .ok (.if_icmp .eq 67, 3) := by decide +kernel
theorem d_Lw_law_756 : decode code 756 = .ok (.iconst 0, 1) := by decide +kernel
theorem d_Lw_law_757 : decode code 757 = .ok (.ireturn, 1) := by decide +kernel
theorem d_Lw_law_758 : decode code 758 = .ok (.aload_n 1, 1) := by decide +kernel
theorem d_Lw_law_759 : decode code 759 = .ok (.aload_n 0, 1) := by decide +kernel
theorem d_Lw_law_760 : decode code 760 = .ok (.iload_n 3, 1) := by decide +kernel
theorem d_Lw_law_761 : decode code 761 = .ok (.iconst 1, 1) := by decide +kernel
theorem d_Lw_law_762 : decode code 762 = .ok (.iadd, 1) := by decide +kernel
theorem d_Lw_law_763 : decode code 763 = .ok (.iaload, 1) := by decide +kernel
theorem d_Lw_law_764 : decode code 764 = .ok (.invokevirtual 108, 3) := by decide +kernel
theorem d_Lw_law_767 : decode code 767 = .ok (.aload_n 2, 1) := by decide +kernel
theorem d_Lw_law_768 : decode code 768 = .ok (.aload_n 0, 1) := by decide +kernel
theorem d_Lw_law_769 : decode code 769 = .ok (.iload_n 3, 1) := by decide +kernel
theorem d_Lw_law_770 : decode code 770 = .ok (.iconst 1, 1) := by decide +kernel
theorem d_Lw_law_771 : decode code 771 = .ok (.iadd, 1) := by decide +kernel
theorem d_Lw_law_772 : decode code 772 = .ok (.iaload, 1) := by decide +kernel
theorem d_Lw_law_773 : decode code 773 = .ok (.invokevirtual 111, 3) := by decide +kernel
theorem d_Lw_law_776 : decode code 776 = .ok (.if_icmp .eq 44, 3) := by decide +kernel
theorem d_Lw_law_779 : decode code 779 = .ok (.iconst 0, 1) := by decide +kernel
theorem d_Lw_law_780 : decode code 780 = .ok (.ireturn, 1) := by decide +kernel
theorem d_Lw_law_781 : decode code 781 = .ok (.aload_n 1, 1) := by decide +kernel
theorem d_Lw_law_782 : decode code 782 = .ok (.invokevirtual 112, 3) := by decide +kernel
theorem d_Lw_law_785 : decode code 785 = .ok (.aload_n 2, 1) := by decide +kernel
theorem d_Lw_law_786 : decode code 786 = .ok (.invokevirtual 115, 3) := by decide +kernel
theorem d_Lw_law_789 : decode code 789 = .ok (.if_icmp .eq 31, 3) := by decide +kernel
theorem d_Lw_law_792 : decode code 792 = .ok (.iconst 0, 1) := by decide +kernel
theorem d_Lw_law_793 : decode code 793 = .ok (.ireturn, 1) := by decide +kernel
theorem d_Lw_law_794 : decode code 794 = .ok (.aload_n 1, 1) := by decide +kernel
theorem d_Lw_law_795 : decode code 795 = .ok (.invokevirtual 116, 3) := by decide +kernel
theorem d_Lw_law_798 : decode code 798 = .ok (.aload_n 2, 1) := by decide +kernel
theorem d_Lw_law_799 : decode code 799 = .ok (.invokevirtual 119, 3) := by decide +kernel
theorem d_Lw_law_802 : decode code 802 = .ok (.if_icmp .eq 18, 3) := by decide +kernel
theorem d_Lw_law_805 : decode code 805 = .ok (.iconst 0, 1) := by decide +kernel
theorem d_Lw_law_806 : decode code 806 = .ok (.ireturn, 1) := by decide +kernel
theorem d_Lw_law_807 : decode code 807 = .ok (.aload_n 1, 1) := by decide +kernel
theorem d_Lw_law_808 : decode code 808 = .ok (.invokevirtual 120, 3) := by decide +kernel
theorem d_Lw_law_811 : decode code 811 = .ok (.aload_n 2, 1) := by decide +kernel
theorem d_Lw_law_812 : decode code 812 = .ok (.invokevirtual 123, 3) := by decide +kernel
theorem d_Lw_law_815 : decode code 815 = .ok (.if_icmp .eq 5, 3) := by decide +kernel
theorem d_Lw_law_818 : decode code 818 = .ok (.iconst 0, 1) := by decide +kernel
theorem d_Lw_law_819 : decode code 819 = .ok (.ireturn, 1) := by decide +kernel
theorem d_Lw_law_820 : decode code 820 = .ok (.iinc 3 5, 3) := by decide +kernel
theorem d_Lw_law_823 : decode code 823 = .ok (.goto (-805), 3) := by decide +kernel
theorem d_Lw_law_826 : decode code 826 = .ok (.iconst 1, 1) := by decide +kernel
theorem d_Lw_law_827 : decode code 827 = .ok (.ireturn, 1) := by decide +kernel
theorem d_Ar_fill_0 : decode prog_16_method_103_code 0 = .ok (.iconst 0, 1) := by decide +kernel
theorem d_Ar_fill_1 : decode prog_16_method_103_code 1 = .ok (.istore_n 2, 1) := by decide +kernel
theorem d_Ar_fill_2 : decode prog_16_method_103_code 2 = .ok (.aload_n 0, 1) := by decide +kernel
theorem d_Ar_fill_3 : decode prog_16_method_103_code 3 = .ok (.arraylength, 1) := by decide +kernel
theorem d_Ar_fill_4 : decode prog_16_method_103_code 4 = .ok (.istore_n 3, 1) := by decide +kernel
theorem d_Ar_fill_5 : decode prog_16_method_103_code 5 = .ok (.iload_n 2, 1) := by decide +kernel
theorem d_Ar_fill_6 : decode prog_16_method_103_code 6 = .ok (.iload_n 3, 1) := by decide +kernel
theorem d_Ar_fill_7 : decode prog_16_method_103_code 7 = .ok (.if_icmp .ge 13, 3) := by decide +kernel
theorem d_Ar_fill_10 : decode prog_16_method_103_code 10 = .ok (.aload_n 0, 1) := by decide +kernel
theorem d_Ar_fill_11 : decode prog_16_method_103_code 11 = .ok (.iload_n 2, 1) := by decide +kernel
theorem d_Ar_fill_12 : decode prog_16_method_103_code 12 = .ok (.iload_n 1, 1) := by decide +kernel
theorem d_Ar_fill_13 : decode prog_16_method_103_code 13 = .ok (.iastore, 1) := by decide +kernel
theorem d_Ar_fill_14 : decode prog_16_method_103_code 14 = .ok (.iinc 2 1, 3) := by decide +kernel
theorem d_Ar_fill_17 : decode prog_16_method_103_code 17 = .ok (.goto (-12), 3) := by decide +kernel
theorem d_Ar_fill_20 : decode prog_16_method_103_code 20 = .ok (.return_, 1) := by decide +kernel
end
section
/-! calls by the number of their arguments; words by their places in the tables -/
theorem w_in (i : Nat) {w : Cond} (h : tables_1[i]? = some w) (g : ax_good w = true) : w ∈ ax_all := ax_all_in (List.mem_append_right _ (List.mem_of_getElem? h)) g
theorem w_nt (i : Nat) {w : Cond} (h : tables_1[i]? = some w) (g : ax_isN w = true) : w ∈ ax_nest := ax_nest_in (List.mem_append_right _ (List.mem_of_getElem? h)) g
theorem w_se (i : Nat) {w : Cond} (h : (k2_sels lw_privs)[i]? = some w) (g : ax_good w = true) : w ∈ ax_all := ax_all_in (List.mem_append_left _ (List.mem_of_getElem? h)) g
def ax_V (N : ax_M) (n ci : Nat) : Prop := ax_okM N n ∧ Cond.instanceMethod N.1 ∈ ax_all ∧ Cond.selects N.1.cls N.1 N.1 ∈ ax_all ∧ ∃ C : vw_C, vwCl[ci]? = some C ∧ C.1 = N.1.cls
def ax_S (N : ax_M) (n : Nat) : Prop := ax_okM N n ∧ Cond.static N.1 ∈ ax_all
def ax_I (N : ax_M) (n : Nat) : Prop := ax_okM N n ∧ N.2.2.2 = none ∧ N.1.name = "<init>" ∧ Cond.instanceMethod N.1 ∈ ax_all
section AXC
variable {M : ax_M} {d pc : Nat} {lv : ax_L} {st : List Value} {h : ax_H} {Q : Option Value → ax_H → Prop}
theorem ax_cV {N : ax_M} {d' idx n a ci : Nat} {fs As rest : List Value} (hd : decode M.2.1 pc = .ok (.invokevirtual idx, 3)) (hN : ax_V N n ci) (hL : ax_lk M.1.cls idx N.1) (ha : h[a]? = some (.inr (ci, fs))) (hn : As.length = n) (hdd : d' + 1 ≤ d) (hcat : (rest.map fun v => v.category).sum ≤ 8)
    (k : ax_Cl N d' (.ref a :: As) h (fun r h1 => ax_W M d (pc + 3) lv (r.toList ++ rest) h1 Q)) : ax_W M d pc lv (As.reverse ++ .ref a :: rest) h Q := by
  obtain ⟨h1, h2, h3, C, h4, h5⟩ := hN
  exact ax_callV hd h1 h2 h3 hL h4 h5 ha hn hdd hcat k
theorem ax_cV0 {N : ax_M} {d' idx a ci : Nat} {fs : List Value} (hd : decode M.2.1 pc = .ok (.invokevirtual idx, 3)) (hN : ax_V N 0 ci) (hL : ax_lk M.1.cls idx N.1) (ha : h[a]? = some (.inr (ci, fs))) (hdd : d' + 1 ≤ d) (hcat : (st.map fun v => v.category).sum ≤ 8)
    (k : ax_Cl N d' [.ref a] h (fun r h1 => ax_W M d (pc + 3) lv (r.toList ++ st) h1 Q)) : ax_W M d pc lv (.ref a :: st) h Q := ax_cV (As := []) hd hN hL ha rfl hdd hcat k
theorem ax_cV1 {N : ax_M} {d' idx a ci : Nat} {fs : List Value} {v1 : Value} (hd : decode M.2.1 pc = .ok (.invokevirtual idx, 3)) (hN : ax_V N 1 ci) (hL : ax_lk M.1.cls idx N.1) (ha : h[a]? = some (.inr (ci, fs))) (hdd : d' + 1 ≤ d) (hcat : (st.map fun v => v.category).sum ≤ 8)
    (k : ax_Cl N d' [.ref a, v1] h (fun r h1 => ax_W M d (pc + 3) lv (r.toList ++ st) h1 Q)) : ax_W M d pc lv (v1 :: .ref a :: st) h Q := ax_cV (As := [v1]) hd hN hL ha rfl hdd hcat k
theorem ax_cV2 {N : ax_M} {d' idx a ci : Nat} {fs : List Value} {v1 v2 : Value} (hd : decode M.2.1 pc = .ok (.invokevirtual idx, 3)) (hN : ax_V N 2 ci) (hL : ax_lk M.1.cls idx N.1) (ha : h[a]? = some (.inr (ci, fs))) (hdd : d' + 1 ≤ d) (hcat : (st.map fun v => v.category).sum ≤ 8)
    (k : ax_Cl N d' [.ref a, v1, v2] h (fun r h1 => ax_W M d (pc + 3) lv (r.toList ++ st) h1 Q)) : ax_W M d pc lv (v2 :: v1 :: .ref a :: st) h Q := ax_cV (As := [v1, v2]) hd hN hL ha rfl hdd hcat k
theorem ax_cV3 {N : ax_M} {d' idx a ci : Nat} {fs : List Value} {v1 v2 v3 : Value} (hd : decode M.2.1 pc = .ok (.invokevirtual idx, 3)) (hN : ax_V N 3 ci) (hL : ax_lk M.1.cls idx N.1) (ha : h[a]? = some (.inr (ci, fs))) (hdd : d' + 1 ≤ d) (hcat : (st.map fun v => v.category).sum ≤ 8)
    (k : ax_Cl N d' [.ref a, v1, v2, v3] h (fun r h1 => ax_W M d (pc + 3) lv (r.toList ++ st) h1 Q)) : ax_W M d pc lv (v3 :: v2 :: v1 :: .ref a :: st) h Q := ax_cV (As := [v1, v2, v3]) hd hN hL ha rfl hdd hcat k
theorem ax_cS {N : ax_M} {d' idx n : Nat} {As rest : List Value} (hd : decode M.2.1 pc = .ok (.invokestatic idx, 3)) (hN : ax_S N n) (hL : ax_lk M.1.cls idx N.1) (hn : As.length = n) (hdd : d' + 1 ≤ d) (hcat : (rest.map fun v => v.category).sum ≤ 8)
    (k : ax_Cl N d' As h (fun r h1 => ax_W M d (pc + 3) lv (r.toList ++ rest) h1 Q)) : ax_W M d pc lv (As.reverse ++ rest) h Q := ax_callS hd hN.1 hN.2 hL hn hdd hcat k
theorem ax_cS1 {N : ax_M} {d' idx : Nat} {v1 : Value} (hd : decode M.2.1 pc = .ok (.invokestatic idx, 3)) (hN : ax_S N 1) (hL : ax_lk M.1.cls idx N.1) (hdd : d' + 1 ≤ d) (hcat : (st.map fun v => v.category).sum ≤ 8)
    (k : ax_Cl N d' [v1] h (fun r h1 => ax_W M d (pc + 3) lv (r.toList ++ st) h1 Q)) : ax_W M d pc lv (v1 :: st) h Q := ax_cS (As := [v1]) hd hN hL rfl hdd hcat k
theorem ax_cS2 {N : ax_M} {d' idx : Nat} {v1 v2 : Value} (hd : decode M.2.1 pc = .ok (.invokestatic idx, 3)) (hN : ax_S N 2) (hL : ax_lk M.1.cls idx N.1) (hdd : d' + 1 ≤ d) (hcat : (st.map fun v => v.category).sum ≤ 8)
    (k : ax_Cl N d' [v1, v2] h (fun r h1 => ax_W M d (pc + 3) lv (r.toList ++ st) h1 Q)) : ax_W M d pc lv (v2 :: v1 :: st) h Q := ax_cS (As := [v1, v2]) hd hN hL rfl hdd hcat k
theorem ax_cS3 {N : ax_M} {d' idx : Nat} {v1 v2 v3 : Value} (hd : decode M.2.1 pc = .ok (.invokestatic idx, 3)) (hN : ax_S N 3) (hL : ax_lk M.1.cls idx N.1) (hdd : d' + 1 ≤ d) (hcat : (st.map fun v => v.category).sum ≤ 8)
    (k : ax_Cl N d' [v1, v2, v3] h (fun r h1 => ax_W M d (pc + 3) lv (r.toList ++ st) h1 Q)) : ax_W M d pc lv (v3 :: v2 :: v1 :: st) h Q := ax_cS (As := [v1, v2, v3]) hd hN hL rfl hdd hcat k
theorem ax_cI0 {N : ax_M} {d' idx a : Nat} (hd : decode M.2.1 pc = .ok (.invokespecial idx, 3)) (hN : ax_I N 0) (hL : ax_lk M.1.cls idx N.1) (hdd : d' + 1 ≤ d) (hcat : (st.map fun v => v.category).sum ≤ 8)
    (k : ax_Cl N d' [.ref a] h (fun r h1 => ax_W M d (pc + 3) lv (r.toList ++ st) h1 Q)) : ax_W M d pc lv (.ref a :: st) h Q := ax_callI (As := []) hd hN.1 hN.2.1 hN.2.2.1 hN.2.2.2 hL rfl hdd hcat k
theorem ax_cI1 {N : ax_M} {d' idx a : Nat} {v1 : Value} (hd : decode M.2.1 pc = .ok (.invokespecial idx, 3)) (hN : ax_I N 1) (hL : ax_lk M.1.cls idx N.1) (hdd : d' + 1 ≤ d) (hcat : (st.map fun v => v.category).sum ≤ 8)
    (k : ax_Cl N d' [.ref a, v1] h (fun r h1 => ax_W M d (pc + 3) lv (r.toList ++ st) h1 Q)) : ax_W M d pc lv (v1 :: .ref a :: st) h Q := ax_callI (As := [v1]) hd hN.1 hN.2.1 hN.2.2.1 hN.2.2.2 hL rfl hdd hcat k
end AXC
end
section
theorem cl_S : ax_cls 0 n_S f_S 8 := by
  refine ⟨rfl, ?_⟩
  show ∀ w ∈ [u_lay n_S f_S 0, u_lay n_S f_S 1, u_lay n_S f_S 2, u_lay n_S f_S 3, u_lay n_S f_S 4, u_lay n_S f_S 5, u_lay n_S f_S 6, u_lay n_S f_S 7], w ∈ ax_all
  exact List.forall_mem_cons.mpr ⟨w_in 306 (by decide +kernel) (by decide +kernel), List.forall_mem_cons.mpr ⟨w_in 308 (by decide +kernel) (by decide +kernel), List.forall_mem_cons.mpr ⟨w_in 310 (by decide +kernel) (by decide +kernel), List.forall_mem_cons.mpr ⟨w_in 312 (by decide +kernel) (by decide +kernel), List.forall_mem_cons.mpr ⟨w_in 314 (by decide +kernel) (by decide +kernel), List.forall_mem_cons.mpr ⟨w_in 316 (by decide +kernel) (by decide +kernel), List.forall_mem_cons.mpr ⟨w_in 318 (by decide +kernel) (by decide +kernel), List.forall_mem_cons.mpr ⟨w_in 320 (by decide +kernel) (by decide +kernel), fun _ h => absurd h List.not_mem_nil⟩⟩⟩⟩⟩⟩⟩⟩
theorem cl_Bn : ax_cls 1 n_Bn f_Bn 7 := by
  refine ⟨rfl, ?_⟩
  show ∀ w ∈ [u_lay n_Bn f_Bn 0, u_lay n_Bn f_Bn 1, u_lay n_Bn f_Bn 2, u_lay n_Bn f_Bn 3, u_lay n_Bn f_Bn 4, u_lay n_Bn f_Bn 5, u_lay n_Bn f_Bn 6], w ∈ ax_all
  exact List.forall_mem_cons.mpr ⟨w_in 225 (by decide +kernel) (by decide +kernel), List.forall_mem_cons.mpr ⟨w_in 227 (by decide +kernel) (by decide +kernel), List.forall_mem_cons.mpr ⟨w_in 229 (by decide +kernel) (by decide +kernel), List.forall_mem_cons.mpr ⟨w_in 231 (by decide +kernel) (by decide +kernel), List.forall_mem_cons.mpr ⟨w_in 233 (by decide +kernel) (by decide +kernel), List.forall_mem_cons.mpr ⟨w_in 235 (by decide +kernel) (by decide +kernel), List.forall_mem_cons.mpr ⟨w_in 237 (by decide +kernel) (by decide +kernel), fun _ h => absurd h List.not_mem_nil⟩⟩⟩⟩⟩⟩⟩
theorem cl_Ch : ax_cls 2 n_Ch f_Ch 3 := by
  refine ⟨rfl, ?_⟩
  show ∀ w ∈ [u_lay n_Ch f_Ch 0, u_lay n_Ch f_Ch 1, u_lay n_Ch f_Ch 2], w ∈ ax_all
  exact List.forall_mem_cons.mpr ⟨w_in 104 (by decide +kernel) (by decide +kernel), List.forall_mem_cons.mpr ⟨w_in 106 (by decide +kernel) (by decide +kernel), List.forall_mem_cons.mpr ⟨w_in 108 (by decide +kernel) (by decide +kernel), fun _ h => absurd h List.not_mem_nil⟩⟩⟩
theorem cl_Cd : ax_cls 3 n_Cd f_Cd 7 := by
  refine ⟨rfl, ?_⟩
  show ∀ w ∈ [u_lay n_Cd f_Cd 0, u_lay n_Cd f_Cd 1, u_lay n_Cd f_Cd 2, u_lay n_Cd f_Cd 3, u_lay n_Cd f_Cd 4, u_lay n_Cd f_Cd 5, u_lay n_Cd f_Cd 6], w ∈ ax_all
  exact List.forall_mem_cons.mpr ⟨w_in 189 (by decide +kernel) (by decide +kernel), List.forall_mem_cons.mpr ⟨w_in 191 (by decide +kernel) (by decide +kernel), List.forall_mem_cons.mpr ⟨w_in 193 (by decide +kernel) (by decide +kernel), List.forall_mem_cons.mpr ⟨w_in 195 (by decide +kernel) (by decide +kernel), List.forall_mem_cons.mpr ⟨w_in 197 (by decide +kernel) (by decide +kernel), List.forall_mem_cons.mpr ⟨w_in 199 (by decide +kernel) (by decide +kernel), List.forall_mem_cons.mpr ⟨w_in 201 (by decide +kernel) (by decide +kernel), fun _ h => absurd h List.not_mem_nil⟩⟩⟩⟩⟩⟩⟩
theorem cl_Fl : ax_cls 4 n_Fl f_Fl 2 := by
  refine ⟨rfl, ?_⟩
  show ∀ w ∈ [u_lay n_Fl f_Fl 0, u_lay n_Fl f_Fl 1], w ∈ ax_all
  exact List.forall_mem_cons.mpr ⟨w_in 128 (by decide +kernel) (by decide +kernel), List.forall_mem_cons.mpr ⟨w_in 130 (by decide +kernel) (by decide +kernel), fun _ h => absurd h List.not_mem_nil⟩⟩
theorem cl_Jn : ax_cls 5 n_Jn f_Jn 5 := by
  refine ⟨rfl, ?_⟩
  show ∀ w ∈ [u_lay n_Jn f_Jn 0, u_lay n_Jn f_Jn 1, u_lay n_Jn f_Jn 2, u_lay n_Jn f_Jn 3, u_lay n_Jn f_Jn 4], w ∈ ax_all
  exact List.forall_mem_cons.mpr ⟨w_in 169 (by decide +kernel) (by decide +kernel), List.forall_mem_cons.mpr ⟨w_in 171 (by decide +kernel) (by decide +kernel), List.forall_mem_cons.mpr ⟨w_in 173 (by decide +kernel) (by decide +kernel), List.forall_mem_cons.mpr ⟨w_in 175 (by decide +kernel) (by decide +kernel), List.forall_mem_cons.mpr ⟨w_in 177 (by decide +kernel) (by decide +kernel), fun _ h => absurd h List.not_mem_nil⟩⟩⟩⟩⟩
theorem cl_Rw : ax_cls 6 n_Rw f_Rw 2 := by
  refine ⟨rfl, ?_⟩
  show ∀ w ∈ [u_lay n_Rw f_Rw 0, u_lay n_Rw f_Rw 1], w ∈ ax_all
  exact List.forall_mem_cons.mpr ⟨w_in 43 (by decide +kernel) (by decide +kernel), List.forall_mem_cons.mpr ⟨w_in 45 (by decide +kernel) (by decide +kernel), fun _ h => absurd h List.not_mem_nil⟩⟩
theorem cl_Sr : ax_cls 7 n_Sr f_Sr 9 := by
  refine ⟨rfl, ?_⟩
  show ∀ w ∈ [u_lay n_Sr f_Sr 0, u_lay n_Sr f_Sr 1, u_lay n_Sr f_Sr 2, u_lay n_Sr f_Sr 3, u_lay n_Sr f_Sr 4, u_lay n_Sr f_Sr 5, u_lay n_Sr f_Sr 6, u_lay n_Sr f_Sr 7, u_lay n_Sr f_Sr 8], w ∈ ax_all
  exact List.forall_mem_cons.mpr ⟨w_in 279 (by decide +kernel) (by decide +kernel), List.forall_mem_cons.mpr ⟨w_in 281 (by decide +kernel) (by decide +kernel), List.forall_mem_cons.mpr ⟨w_in 283 (by decide +kernel) (by decide +kernel), List.forall_mem_cons.mpr ⟨w_in 285 (by decide +kernel) (by decide +kernel), List.forall_mem_cons.mpr ⟨w_in 287 (by decide +kernel) (by decide +kernel), List.forall_mem_cons.mpr ⟨w_in 289 (by decide +kernel) (by decide +kernel), List.forall_mem_cons.mpr ⟨w_in 291 (by decide +kernel) (by decide +kernel), List.forall_mem_cons.mpr ⟨w_in 293 (by decide +kernel) (by decide +kernel), List.forall_mem_cons.mpr ⟨w_in 295 (by decide +kernel) (by decide +kernel), fun _ h => absurd h List.not_mem_nil⟩⟩⟩⟩⟩⟩⟩⟩⟩
theorem cl_Sw : ax_cls 8 n_Sw f_Sw 3 := by
  refine ⟨rfl, ?_⟩
  show ∀ w ∈ [u_lay n_Sw f_Sw 0, u_lay n_Sw f_Sw 1, u_lay n_Sw f_Sw 2], w ∈ ax_all
  exact List.forall_mem_cons.mpr ⟨w_in 252 (by decide +kernel) (by decide +kernel), List.forall_mem_cons.mpr ⟨w_in 254 (by decide +kernel) (by decide +kernel), List.forall_mem_cons.mpr ⟨w_in 256 (by decide +kernel) (by decide +kernel), fun _ h => absurd h List.not_mem_nil⟩⟩⟩
theorem cl_Sy : ax_cls 9 n_Sy f_Sy 4 := by
  refine ⟨rfl, ?_⟩
  show ∀ w ∈ [u_lay n_Sy f_Sy 0, u_lay n_Sy f_Sy 1, u_lay n_Sy f_Sy 2, u_lay n_Sy f_Sy 3], w ∈ ax_all
  exact List.forall_mem_cons.mpr ⟨w_in 143 (by decide +kernel) (by decide +kernel), List.forall_mem_cons.mpr ⟨w_in 145 (by decide +kernel) (by decide +kernel), List.forall_mem_cons.mpr ⟨w_in 147 (by decide +kernel) (by decide +kernel), List.forall_mem_cons.mpr ⟨w_in 149 (by decide +kernel) (by decide +kernel), fun _ h => absurd h List.not_mem_nil⟩⟩⟩⟩
theorem cl_Tu : ax_cls 10 n_Tu f_Tu 9 := by
  refine ⟨rfl, ?_⟩
  show ∀ w ∈ [u_lay n_Tu f_Tu 0, u_lay n_Tu f_Tu 1, u_lay n_Tu f_Tu 2, u_lay n_Tu f_Tu 3, u_lay n_Tu f_Tu 4, u_lay n_Tu f_Tu 5, u_lay n_Tu f_Tu 6, u_lay n_Tu f_Tu 7, u_lay n_Tu f_Tu 8], w ∈ ax_all
  exact List.forall_mem_cons.mpr ⟨w_in 76 (by decide +kernel) (by decide +kernel), List.forall_mem_cons.mpr ⟨w_in 78 (by decide +kernel) (by decide +kernel), List.forall_mem_cons.mpr ⟨w_in 80 (by decide +kernel) (by decide +kernel), List.forall_mem_cons.mpr ⟨w_in 82 (by decide +kernel) (by decide +kernel), List.forall_mem_cons.mpr ⟨w_in 84 (by decide +kernel) (by decide +kernel), List.forall_mem_cons.mpr ⟨w_in 86 (by decide +kernel) (by decide +kernel), List.forall_mem_cons.mpr ⟨w_in 88 (by decide +kernel) (by decide +kernel), List.forall_mem_cons.mpr ⟨w_in 90 (by decide +kernel) (by decide +kernel), List.forall_mem_cons.mpr ⟨w_in 92 (by decide +kernel) (by decide +kernel), fun _ h => absurd h List.not_mem_nil⟩⟩⟩⟩⟩⟩⟩⟩⟩
theorem cl_Mo : ax_cls 11 n_Mo f_Mo 31 := by
  refine ⟨rfl, ?_⟩
  show ∀ w ∈ [u_lay n_Mo f_Mo 0, u_lay n_Mo f_Mo 1, u_lay n_Mo f_Mo 2, u_lay n_Mo f_Mo 3, u_lay n_Mo f_Mo 4, u_lay n_Mo f_Mo 5, u_lay n_Mo f_Mo 6, u_lay n_Mo f_Mo 7, u_lay n_Mo f_Mo 8, u_lay n_Mo f_Mo 9, u_lay n_Mo f_Mo 10, u_lay n_Mo f_Mo 11, u_lay n_Mo f_Mo 12, u_lay n_Mo f_Mo 13, u_lay n_Mo f_Mo 14, u_lay n_Mo f_Mo 15, u_lay n_Mo f_Mo 16, u_lay n_Mo f_Mo 17, u_lay n_Mo f_Mo 18, u_lay n_Mo f_Mo 19, u_lay n_Mo f_Mo 20, u_lay n_Mo f_Mo 21, u_lay n_Mo f_Mo 22, u_lay n_Mo f_Mo 23, u_lay n_Mo f_Mo 24, u_lay n_Mo f_Mo 25, u_lay n_Mo f_Mo 26, u_lay n_Mo f_Mo 27, u_lay n_Mo f_Mo 28, u_lay n_Mo f_Mo 29, u_lay n_Mo f_Mo 30], w ∈ ax_all
  exact List.forall_mem_cons.mpr ⟨w_in 844 (by decide +kernel) (by decide +kernel), List.forall_mem_cons.mpr ⟨w_in 846 (by decide +kernel) (by decide +kernel), List.forall_mem_cons.mpr ⟨w_in 848 (by decide +kernel) (by decide +kernel), List.forall_mem_cons.mpr ⟨w_in 850 (by decide +kernel) (by decide +kernel), List.forall_mem_cons.mpr ⟨w_in 852 (by decide +kernel) (by decide +kernel), List.forall_mem_cons.mpr ⟨w_in 854 (by decide +kernel) (by decide +kernel), List.forall_mem_cons.mpr ⟨w_in 856 (by decide +kernel) (by decide +kernel), List.forall_mem_cons.mpr ⟨w_in 858 (by decide +kernel) (by decide +kernel), List.forall_mem_cons.mpr ⟨w_in 860 (by decide +kernel) (by decide +kernel), List.forall_mem_cons.mpr ⟨w_in 862 (by decide +kernel) (by decide +kernel), List.forall_mem_cons.mpr ⟨w_in 864 (by decide +kernel) (by decide +kernel), List.forall_mem_cons.mpr ⟨w_in 866 (by decide +kernel) (by decide +kernel), List.forall_mem_cons.mpr ⟨w_in 868 (by decide +kernel) (by decide +kernel), List.forall_mem_cons.mpr ⟨w_in 870 (by decide +kernel) (by decide +kernel), List.forall_mem_cons.mpr ⟨w_in 872 (by decide +kernel) (by decide +kernel), List.forall_mem_cons.mpr ⟨w_in 874 (by decide +kernel) (by decide +kernel), List.forall_mem_cons.mpr ⟨w_in 876 (by decide +kernel) (by decide +kernel), List.forall_mem_cons.mpr ⟨w_in 878 (by decide +kernel) (by decide +kernel), List.forall_mem_cons.mpr ⟨w_in 880 (by decide +kernel) (by decide +kernel), List.forall_mem_cons.mpr ⟨w_in 882 (by decide +kernel) (by decide +kernel), List.forall_mem_cons.mpr ⟨w_in 884 (by decide +kernel) (by decide +kernel), List.forall_mem_cons.mpr ⟨w_in 886 (by decide +kernel) (by decide +kernel), List.forall_mem_cons.mpr ⟨w_in 888 (by decide +kernel) (by decide +kernel), List.forall_mem_cons.mpr ⟨w_in 890 (by decide +kernel) (by decide +kernel), List.forall_mem_cons.mpr ⟨w_in 892 (by decide +kernel) (by decide +kernel), List.forall_mem_cons.mpr ⟨w_in 894 (by decide +kernel) (by decide +kernel), List.forall_mem_cons.mpr ⟨w_in 896 (by decide +kernel) (by decide +kernel), List.forall_mem_cons.mpr ⟨w_in 898 (by decide +kernel) (by decide +kernel), List.forall_mem_cons.mpr ⟨w_in 900 (by decide +kernel) (by decide +kernel), List.forall_mem_cons.mpr ⟨w_in 902 (by decide +kernel) (by decide +kernel), List.forall_mem_cons.mpr ⟨w_in 904 (by decide +kernel) (by decide +kernel), fun _ h => absurd h List.not_mem_nil⟩⟩⟩⟩⟩⟩⟩⟩⟩⟩⟩⟩⟩⟩⟩⟩⟩⟩⟩⟩⟩⟩⟩⟩⟩⟩⟩⟩⟩⟩⟩
theorem fg_S_14 : ax_FG n_S 14 0 0 := ⟨n_S, f_S, 8, cl_S, by decide, Or.inl (w_in 298 (by decide +kernel) rfl)⟩
theorem ff_S_14 : ax_FF n_S 14 0 0 (.object "SortTransform$Row") := ⟨n_S, f_S, 8, t_S, cl_S, by decide, w_in 298 (by decide +kernel) rfl, ⟨ty_S, nm_S⟩, rfl, rfl, by decide +kernel⟩
theorem fg_S_18 : ax_FG n_S 18 0 1 := ⟨n_S, f_S, 8, cl_S, by decide, Or.inl (w_in 299 (by decide +kernel) rfl)⟩
theorem ff_S_18 : ax_FF n_S 18 0 1 (.object "SortTransform$Row") := ⟨n_S, f_S, 8, t_S, cl_S, by decide, w_in 299 (by decide +kernel) rfl, ⟨ty_S, nm_S⟩, rfl, rfl, by decide +kernel⟩
theorem fg_S_24 : ax_FG n_S 24 0 2 := ⟨n_S, f_S, 8, cl_S, by decide, Or.inl (w_in 300 (by decide +kernel) rfl)⟩
theorem ff_S_24 : ax_FF n_S 24 0 2 (.object "SortTransform$Bench") := ⟨n_S, f_S, 8, t_S, cl_S, by decide, w_in 300 (by decide +kernel) rfl, ⟨ty_S, nm_S⟩, rfl, rfl, by decide +kernel⟩
theorem fg_S_31 : ax_FG n_S 31 0 3 := ⟨n_S, f_S, 8, cl_S, by decide, Or.inl (w_in 301 (by decide +kernel) rfl)⟩
theorem ff_S_31 : ax_FF n_S 31 0 3 (.object "SortTransform$StreamWriter") := ⟨n_S, f_S, 8, t_S, cl_S, by decide, w_in 301 (by decide +kernel) rfl, ⟨ty_S, nm_S⟩, rfl, rfl, by decide +kernel⟩
theorem fg_S_38 : ax_FG n_S 38 0 4 := ⟨n_S, f_S, 8, cl_S, by decide, Or.inl (w_in 302 (by decide +kernel) rfl)⟩
theorem ff_S_38 : ax_FF n_S 38 0 4 (.object "SortTransform$StreamReader") := ⟨n_S, f_S, 8, t_S, cl_S, by decide, w_in 302 (by decide +kernel) rfl, ⟨ty_S, nm_S⟩, rfl, rfl, by decide +kernel⟩
theorem fg_S_60 : ax_FG n_S 60 6 1 := ⟨n_Rw, f_Rw, 2, cl_Rw, by decide, Or.inr ⟨"SortTransform", w_nt 39 (by decide +kernel) rfl⟩⟩
theorem fg_S_77 : ax_FG n_S 77 1 0 := ⟨n_Bn, f_Bn, 7, cl_Bn, by decide, Or.inr ⟨"SortTransform", w_nt 208 (by decide +kernel) rfl⟩⟩
theorem fg_S_86 : ax_FG n_S 86 10 0 := ⟨n_Tu, f_Tu, 9, cl_Tu, by decide, Or.inr ⟨"SortTransform", w_nt 66 (by decide +kernel) rfl⟩⟩
theorem fg_S_92 : ax_FG n_S 92 10 8 := ⟨n_Tu, f_Tu, 9, cl_Tu, by decide, Or.inr ⟨"SortTransform", w_nt 75 (by decide +kernel) rfl⟩⟩
theorem fg_S_106 : ax_FG n_S 106 1 4 := ⟨n_Bn, f_Bn, 7, cl_Bn, by decide, Or.inr ⟨"SortTransform", w_nt 220 (by decide +kernel) rfl⟩⟩
theorem fg_S_113 : ax_FG n_S 113 1 1 := ⟨n_Bn, f_Bn, 7, cl_Bn, by decide, Or.inr ⟨"SortTransform", w_nt 210 (by decide +kernel) rfl⟩⟩
theorem fg_S_128 : ax_FG n_S 128 1 2 := ⟨n_Bn, f_Bn, 7, cl_Bn, by decide, Or.inr ⟨"SortTransform", w_nt 214 (by decide +kernel) rfl⟩⟩
theorem fg_S_135 : ax_FG n_S 135 1 3 := ⟨n_Bn, f_Bn, 7, cl_Bn, by decide, Or.inr ⟨"SortTransform", w_nt 218 (by decide +kernel) rfl⟩⟩
theorem fg_S_148 : ax_FG n_S 148 9 2 := ⟨n_Sy, f_Sy, 4, cl_Sy, by decide, Or.inr ⟨"SortTransform", w_nt 140 (by decide +kernel) rfl⟩⟩
theorem fg_S_162 : ax_FG n_S 162 8 0 := ⟨n_Sw, f_Sw, 3, cl_Sw, by decide, Or.inr ⟨"SortTransform", w_nt 249 (by decide +kernel) rfl⟩⟩
theorem fg_S_165 : ax_FG n_S 165 7 0 := ⟨n_Sr, f_Sr, 9, cl_Sr, by decide, Or.inr ⟨"SortTransform", w_nt 268 (by decide +kernel) rfl⟩⟩
theorem fg_S_175 : ax_FG n_S 175 7 7 := ⟨n_Sr, f_Sr, 9, cl_Sr, by decide, Or.inr ⟨"SortTransform", w_nt 276 (by decide +kernel) rfl⟩⟩
theorem fg_S_178 : ax_FG n_S 178 1 5 := ⟨n_Bn, f_Bn, 7, cl_Bn, by decide, Or.inr ⟨"SortTransform", w_nt 223 (by decide +kernel) rfl⟩⟩
theorem fg_S_181 : ax_FG n_S 181 7 8 := ⟨n_Sr, f_Sr, 9, cl_Sr, by decide, Or.inr ⟨"SortTransform", w_nt 278 (by decide +kernel) rfl⟩⟩
theorem fg_S_184 : ax_FG n_S 184 0 5 := ⟨n_S, f_S, 8, cl_S, by decide, Or.inl (w_in 303 (by decide +kernel) rfl)⟩
theorem fp_S_184 : ax_FP n_S 184 0 5 (.boolean) := ⟨n_S, f_S, 8, t_S, cl_S, by decide, Or.inl (w_in 303 (by decide +kernel) rfl), ⟨ty_S, nm_S⟩, rfl, by decide +kernel⟩
theorem fg_S_188 : ax_FG n_S 188 0 6 := ⟨n_S, f_S, 8, cl_S, by decide, Or.inl (w_in 304 (by decide +kernel) rfl)⟩
theorem fp_S_188 : ax_FP n_S 188 0 6 (.boolean) := ⟨n_S, f_S, 8, t_S, cl_S, by decide, Or.inl (w_in 304 (by decide +kernel) rfl), ⟨ty_S, nm_S⟩, rfl, by decide +kernel⟩
theorem fg_S_191 : ax_FG n_S 191 0 7 := ⟨n_S, f_S, 8, cl_S, by decide, Or.inl (w_in 305 (by decide +kernel) rfl)⟩
theorem fp_S_191 : ax_FP n_S 191 0 7 (.boolean) := ⟨n_S, f_S, 8, t_S, cl_S, by decide, Or.inl (w_in 305 (by decide +kernel) rfl), ⟨ty_S, nm_S⟩, rfl, by decide +kernel⟩
theorem fg_Bn_12 : ax_FG n_Bn 12 1 0 := ⟨n_Bn, f_Bn, 7, cl_Bn, by decide, Or.inl (w_in 206 (by decide +kernel) rfl)⟩
theorem ff_Bn_12 : ax_FF n_Bn 12 1 0 (.object "SortTransform$Turns") := ⟨n_Bn, f_Bn, 7, t_Bn, cl_Bn, by decide, w_in 206 (by decide +kernel) rfl, ⟨ty_Bn, nm_Bn⟩, rfl, rfl, by decide +kernel⟩
theorem fg_Bn_21 : ax_FG n_Bn 21 1 1 := ⟨n_Bn, f_Bn, 7, cl_Bn, by decide, Or.inl (w_in 209 (by decide +kernel) rfl)⟩
theorem ff_Bn_21 : ax_FF n_Bn 21 1 1 (.object "SortTransform$Chain") := ⟨n_Bn, f_Bn, 7, t_Bn, cl_Bn, by decide, w_in 209 (by decide +kernel) rfl, ⟨ty_Bn, nm_Bn⟩, rfl, rfl, by decide +kernel⟩
theorem fg_Bn_28 : ax_FG n_Bn 28 1 2 := ⟨n_Bn, f_Bn, 7, cl_Bn, by decide, Or.inl (w_in 211 (by decide +kernel) rfl)⟩
theorem ff_Bn_28 : ax_FF n_Bn 28 1 2 (.object "SortTransform$Symbols") := ⟨n_Bn, f_Bn, 7, t_Bn, cl_Bn, by decide, w_in 211 (by decide +kernel) rfl, ⟨ty_Bn, nm_Bn⟩, rfl, rfl, by decide +kernel⟩
theorem fg_Bn_35 : ax_FG n_Bn 35 1 3 := ⟨n_Bn, f_Bn, 7, cl_Bn, by decide, Or.inl (w_in 215 (by decide +kernel) rfl)⟩
theorem ff_Bn_35 : ax_FF n_Bn 35 1 3 (.object "SortTransform$Codes") := ⟨n_Bn, f_Bn, 7, t_Bn, cl_Bn, by decide, w_in 215 (by decide +kernel) rfl, ⟨ty_Bn, nm_Bn⟩, rfl, rfl, by decide +kernel⟩
theorem fg_Bn_44 : ax_FG n_Bn 44 1 4 := ⟨n_Bn, f_Bn, 7, cl_Bn, by decide, Or.inl (w_in 219 (by decide +kernel) rfl)⟩
theorem ff_Bn_44 : ax_FF n_Bn 44 1 4 (.object "SortTransform$Row") := ⟨n_Bn, f_Bn, 7, t_Bn, cl_Bn, by decide, w_in 219 (by decide +kernel) rfl, ⟨ty_Bn, nm_Bn⟩, rfl, rfl, by decide +kernel⟩
theorem fg_Bn_48 : ax_FG n_Bn 48 1 5 := ⟨n_Bn, f_Bn, 7, cl_Bn, by decide, Or.inl (w_in 221 (by decide +kernel) rfl)⟩
theorem ff_Bn_48 : ax_FF n_Bn 48 1 5 (.object "SortTransform$Row") := ⟨n_Bn, f_Bn, 7, t_Bn, cl_Bn, by decide, w_in 221 (by decide +kernel) rfl, ⟨ty_Bn, nm_Bn⟩, rfl, rfl, by decide +kernel⟩
theorem fg_Bn_51 : ax_FG n_Bn 51 1 6 := ⟨n_Bn, f_Bn, 7, cl_Bn, by decide, Or.inl (w_in 224 (by decide +kernel) rfl)⟩
theorem ff_Bn_51 : ax_FF n_Bn 51 1 6 (.object "SortTransform$Row") := ⟨n_Bn, f_Bn, 7, t_Bn, cl_Bn, by decide, w_in 224 (by decide +kernel) rfl, ⟨ty_Bn, nm_Bn⟩, rfl, rfl, by decide +kernel⟩
theorem fg_Bn_65 : ax_FG n_Bn 65 10 0 := ⟨n_Tu, f_Tu, 9, cl_Tu, by decide, Or.inr ⟨"SortTransform", w_nt 64 (by decide +kernel) rfl⟩⟩
theorem fg_Bn_72 : ax_FG n_Bn 72 6 1 := ⟨n_Rw, f_Rw, 2, cl_Rw, by decide, Or.inr ⟨"SortTransform", w_nt 37 (by decide +kernel) rfl⟩⟩
theorem fg_Ch_9 : ax_FG n_Ch 9 2 0 := ⟨n_Ch, f_Ch, 3, cl_Ch, by decide, Or.inl (w_in 101 (by decide +kernel) rfl)⟩
theorem ff_Ch_9 : ax_FF n_Ch 9 2 0 (.array .int) := ⟨n_Ch, f_Ch, 3, t_Ch, cl_Ch, by decide, w_in 101 (by decide +kernel) rfl, ⟨ty_Ch, nm_Ch⟩, rfl, rfl, by decide +kernel⟩
theorem fg_Ch_15 : ax_FG n_Ch 15 2 1 := ⟨n_Ch, f_Ch, 3, cl_Ch, by decide, Or.inl (w_in 102 (by decide +kernel) rfl)⟩
theorem ff_Ch_15 : ax_FF n_Ch 15 2 1 (.array .int) := ⟨n_Ch, f_Ch, 3, t_Ch, cl_Ch, by decide, w_in 102 (by decide +kernel) rfl, ⟨ty_Ch, nm_Ch⟩, rfl, rfl, by decide +kernel⟩
theorem fg_Ch_18 : ax_FG n_Ch 18 6 1 := ⟨n_Rw, f_Rw, 2, cl_Rw, by decide, Or.inr ⟨"SortTransform", w_nt 34 (by decide +kernel) rfl⟩⟩
theorem fg_Ch_30 : ax_FG n_Ch 30 2 2 := ⟨n_Ch, f_Ch, 3, cl_Ch, by decide, Or.inl (w_in 103 (by decide +kernel) rfl)⟩
theorem fp_Ch_30 : ax_FP n_Ch 30 2 2 (.int) := ⟨n_Ch, f_Ch, 3, t_Ch, cl_Ch, by decide, Or.inl (w_in 103 (by decide +kernel) rfl), ⟨ty_Ch, nm_Ch⟩, rfl, by decide +kernel⟩
theorem fg_Cd_12 : ax_FG n_Cd 12 3 0 := ⟨n_Cd, f_Cd, 7, cl_Cd, by decide, Or.inl (w_in 180 (by decide +kernel) rfl)⟩
theorem ff_Cd_12 : ax_FF n_Cd 12 3 0 (.object "SortTransform$Joiner") := ⟨n_Cd, f_Cd, 7, t_Cd, cl_Cd, by decide, w_in 180 (by decide +kernel) rfl, ⟨ty_Cd, nm_Cd⟩, rfl, rfl, by decide +kernel⟩
theorem fg_Cd_18 : ax_FG n_Cd 18 3 1 := ⟨n_Cd, f_Cd, 7, cl_Cd, by decide, Or.inl (w_in 181 (by decide +kernel) rfl)⟩
theorem ff_Cd_18 : ax_FF n_Cd 18 3 1 (.array .int) := ⟨n_Cd, f_Cd, 7, t_Cd, cl_Cd, by decide, w_in 181 (by decide +kernel) rfl, ⟨ty_Cd, nm_Cd⟩, rfl, rfl, by decide +kernel⟩
theorem fg_Cd_22 : ax_FG n_Cd 22 3 2 := ⟨n_Cd, f_Cd, 7, cl_Cd, by decide, Or.inl (w_in 182 (by decide +kernel) rfl)⟩
theorem ff_Cd_22 : ax_FF n_Cd 22 3 2 (.array .int) := ⟨n_Cd, f_Cd, 7, t_Cd, cl_Cd, by decide, w_in 182 (by decide +kernel) rfl, ⟨ty_Cd, nm_Cd⟩, rfl, rfl, by decide +kernel⟩
theorem fg_Cd_25 : ax_FG n_Cd 25 3 3 := ⟨n_Cd, f_Cd, 7, cl_Cd, by decide, Or.inl (w_in 183 (by decide +kernel) rfl)⟩
theorem ff_Cd_25 : ax_FF n_Cd 25 3 3 (.array .int) := ⟨n_Cd, f_Cd, 7, t_Cd, cl_Cd, by decide, w_in 183 (by decide +kernel) rfl, ⟨ty_Cd, nm_Cd⟩, rfl, rfl, by decide +kernel⟩
theorem fg_Cd_28 : ax_FG n_Cd 28 3 4 := ⟨n_Cd, f_Cd, 7, cl_Cd, by decide, Or.inl (w_in 184 (by decide +kernel) rfl)⟩
theorem ff_Cd_28 : ax_FF n_Cd 28 3 4 (.array .int) := ⟨n_Cd, f_Cd, 7, t_Cd, cl_Cd, by decide, w_in 184 (by decide +kernel) rfl, ⟨ty_Cd, nm_Cd⟩, rfl, rfl, by decide +kernel⟩
theorem fg_Cd_31 : ax_FG n_Cd 31 3 5 := ⟨n_Cd, f_Cd, 7, cl_Cd, by decide, Or.inl (w_in 185 (by decide +kernel) rfl)⟩
theorem ff_Cd_31 : ax_FF n_Cd 31 3 5 (.array .int) := ⟨n_Cd, f_Cd, 7, t_Cd, cl_Cd, by decide, w_in 185 (by decide +kernel) rfl, ⟨ty_Cd, nm_Cd⟩, rfl, rfl, by decide +kernel⟩
theorem fg_Cd_34 : ax_FG n_Cd 34 3 6 := ⟨n_Cd, f_Cd, 7, cl_Cd, by decide, Or.inl (w_in 187 (by decide +kernel) rfl)⟩
theorem fp_Cd_34 : ax_FP n_Cd 34 3 6 (.int) := ⟨n_Cd, f_Cd, 7, t_Cd, cl_Cd, by decide, Or.inl (w_in 187 (by decide +kernel) rfl), ⟨ty_Cd, nm_Cd⟩, rfl, by decide +kernel⟩
theorem fg_Cd_42 : ax_FG n_Cd 42 9 3 := ⟨n_Sy, f_Sy, 4, cl_Sy, by decide, Or.inr ⟨"SortTransform", w_nt 142 (by decide +kernel) rfl⟩⟩
theorem fg_Cd_70 : ax_FG n_Cd 70 9 2 := ⟨n_Sy, f_Sy, 4, cl_Sy, by decide, Or.inr ⟨"SortTransform", w_nt 138 (by decide +kernel) rfl⟩⟩
theorem fg_Fl_9 : ax_FG n_Fl 9 4 0 := ⟨n_Fl, f_Fl, 2, cl_Fl, by decide, Or.inl (w_in 123 (by decide +kernel) rfl)⟩
theorem ff_Fl_9 : ax_FF n_Fl 9 4 0 (.array .int) := ⟨n_Fl, f_Fl, 2, t_Fl, cl_Fl, by decide, w_in 123 (by decide +kernel) rfl, ⟨ty_Fl, nm_Fl⟩, rfl, rfl, by decide +kernel⟩
theorem fg_Fl_15 : ax_FG n_Fl 15 4 1 := ⟨n_Fl, f_Fl, 2, cl_Fl, by decide, Or.inl (w_in 124 (by decide +kernel) rfl)⟩
theorem fp_Fl_15 : ax_FP n_Fl 15 4 1 (.int) := ⟨n_Fl, f_Fl, 2, t_Fl, cl_Fl, by decide, Or.inl (w_in 124 (by decide +kernel) rfl), ⟨ty_Fl, nm_Fl⟩, rfl, by decide +kernel⟩
theorem fg_Fl_25 : ax_FG n_Fl 25 6 1 := ⟨n_Rw, f_Rw, 2, cl_Rw, by decide, Or.inr ⟨"SortTransform", w_nt 42 (by decide +kernel) rfl⟩⟩
theorem fg_Jn_11 : ax_FG n_Jn 11 5 0 := ⟨n_Jn, f_Jn, 5, cl_Jn, by decide, Or.inl (w_in 164 (by decide +kernel) rfl)⟩
theorem ff_Jn_11 : ax_FF n_Jn 11 5 0 (.array .int) := ⟨n_Jn, f_Jn, 5, t_Jn, cl_Jn, by decide, w_in 164 (by decide +kernel) rfl, ⟨ty_Jn, nm_Jn⟩, rfl, rfl, by decide +kernel⟩
theorem fg_Jn_15 : ax_FG n_Jn 15 5 1 := ⟨n_Jn, f_Jn, 5, cl_Jn, by decide, Or.inl (w_in 165 (by decide +kernel) rfl)⟩
theorem ff_Jn_15 : ax_FF n_Jn 15 5 1 (.array .int) := ⟨n_Jn, f_Jn, 5, t_Jn, cl_Jn, by decide, w_in 165 (by decide +kernel) rfl, ⟨ty_Jn, nm_Jn⟩, rfl, rfl, by decide +kernel⟩
theorem fg_Jn_18 : ax_FG n_Jn 18 5 2 := ⟨n_Jn, f_Jn, 5, cl_Jn, by decide, Or.inl (w_in 166 (by decide +kernel) rfl)⟩
theorem ff_Jn_18 : ax_FF n_Jn 18 5 2 (.array .int) := ⟨n_Jn, f_Jn, 5, t_Jn, cl_Jn, by decide, w_in 166 (by decide +kernel) rfl, ⟨ty_Jn, nm_Jn⟩, rfl, rfl, by decide +kernel⟩
theorem fg_Jn_21 : ax_FG n_Jn 21 5 3 := ⟨n_Jn, f_Jn, 5, cl_Jn, by decide, Or.inl (w_in 167 (by decide +kernel) rfl)⟩
theorem ff_Jn_21 : ax_FF n_Jn 21 5 3 (.array .int) := ⟨n_Jn, f_Jn, 5, t_Jn, cl_Jn, by decide, w_in 167 (by decide +kernel) rfl, ⟨ty_Jn, nm_Jn⟩, rfl, rfl, by decide +kernel⟩
theorem fg_Jn_24 : ax_FG n_Jn 24 5 4 := ⟨n_Jn, f_Jn, 5, cl_Jn, by decide, Or.inl (w_in 168 (by decide +kernel) rfl)⟩
theorem fp_Jn_24 : ax_FP n_Jn 24 5 4 (.int) := ⟨n_Jn, f_Jn, 5, t_Jn, cl_Jn, by decide, Or.inl (w_in 168 (by decide +kernel) rfl), ⟨ty_Jn, nm_Jn⟩, rfl, by decide +kernel⟩
theorem fg_Rw_15 : ax_FG n_Rw 15 6 0 := ⟨n_Rw, f_Rw, 2, cl_Rw, by decide, Or.inl (w_in 33 (by decide +kernel) rfl)⟩
theorem ff_Rw_15 : ax_FF n_Rw 15 6 0 (.array .int) := ⟨n_Rw, f_Rw, 2, t_Rw, cl_Rw, by decide, w_in 33 (by decide +kernel) rfl, ⟨ty_Rw, nm_Rw⟩, rfl, rfl, by decide +kernel⟩
theorem fg_Rw_21 : ax_FG n_Rw 21 6 1 := ⟨n_Rw, f_Rw, 2, cl_Rw, by decide, Or.inl (w_in 35 (by decide +kernel) rfl)⟩
theorem fp_Rw_21 : ax_FP n_Rw 21 6 1 (.int) := ⟨n_Rw, f_Rw, 2, t_Rw, cl_Rw, by decide, Or.inl (w_in 35 (by decide +kernel) rfl), ⟨ty_Rw, nm_Rw⟩, rfl, by decide +kernel⟩
theorem fg_Sr_14 : ax_FG n_Sr 14 7 0 := ⟨n_Sr, f_Sr, 9, cl_Sr, by decide, Or.inl (w_in 267 (by decide +kernel) rfl)⟩
theorem ff_Sr_14 : ax_FF n_Sr 14 7 0 (.object "SortTransform$Row") := ⟨n_Sr, f_Sr, 9, t_Sr, cl_Sr, by decide, w_in 267 (by decide +kernel) rfl, ⟨ty_Sr, nm_Sr⟩, rfl, rfl, by decide +kernel⟩
theorem fg_Sr_20 : ax_FG n_Sr 20 7 1 := ⟨n_Sr, f_Sr, 9, cl_Sr, by decide, Or.inl (w_in 269 (by decide +kernel) rfl)⟩
theorem ff_Sr_20 : ax_FF n_Sr 20 7 1 (.object "SortTransform$Row") := ⟨n_Sr, f_Sr, 9, t_Sr, cl_Sr, by decide, w_in 269 (by decide +kernel) rfl, ⟨ty_Sr, nm_Sr⟩, rfl, rfl, by decide +kernel⟩
theorem fg_Sr_23 : ax_FG n_Sr 23 7 8 := ⟨n_Sr, f_Sr, 9, cl_Sr, by decide, Or.inl (w_in 277 (by decide +kernel) rfl)⟩
theorem fp_Sr_23 : ax_FP n_Sr 23 7 8 (.int) := ⟨n_Sr, f_Sr, 9, t_Sr, cl_Sr, by decide, Or.inl (w_in 277 (by decide +kernel) rfl), ⟨ty_Sr, nm_Sr⟩, rfl, by decide +kernel⟩
theorem fg_Sr_27 : ax_FG n_Sr 27 7 2 := ⟨n_Sr, f_Sr, 9, cl_Sr, by decide, Or.inl (w_in 270 (by decide +kernel) rfl)⟩
theorem fp_Sr_27 : ax_FP n_Sr 27 7 2 (.int) := ⟨n_Sr, f_Sr, 9, t_Sr, cl_Sr, by decide, Or.inl (w_in 270 (by decide +kernel) rfl), ⟨ty_Sr, nm_Sr⟩, rfl, by decide +kernel⟩
theorem fg_Sr_30 : ax_FG n_Sr 30 7 7 := ⟨n_Sr, f_Sr, 9, cl_Sr, by decide, Or.inl (w_in 275 (by decide +kernel) rfl)⟩
theorem fp_Sr_30 : ax_FP n_Sr 30 7 7 (.int) := ⟨n_Sr, f_Sr, 9, t_Sr, cl_Sr, by decide, Or.inl (w_in 275 (by decide +kernel) rfl), ⟨ty_Sr, nm_Sr⟩, rfl, by decide +kernel⟩
theorem fg_Sr_36 : ax_FG n_Sr 36 1 2 := ⟨n_Bn, f_Bn, 7, cl_Bn, by decide, Or.inr ⟨"SortTransform", w_nt 212 (by decide +kernel) rfl⟩⟩
theorem fg_Sr_42 : ax_FG n_Sr 42 9 0 := ⟨n_Sy, f_Sy, 4, cl_Sy, by decide, Or.inr ⟨"SortTransform", w_nt 134 (by decide +kernel) rfl⟩⟩
theorem fg_Sr_48 : ax_FG n_Sr 48 1 3 := ⟨n_Bn, f_Bn, 7, cl_Bn, by decide, Or.inr ⟨"SortTransform", w_nt 216 (by decide +kernel) rfl⟩⟩
theorem fg_Sr_56 : ax_FG n_Sr 56 7 3 := ⟨n_Sr, f_Sr, 9, cl_Sr, by decide, Or.inl (w_in 271 (by decide +kernel) rfl)⟩
theorem fp_Sr_56 : ax_FP n_Sr 56 7 3 (.int) := ⟨n_Sr, f_Sr, 9, t_Sr, cl_Sr, by decide, Or.inl (w_in 271 (by decide +kernel) rfl), ⟨ty_Sr, nm_Sr⟩, rfl, by decide +kernel⟩
theorem fg_Sr_63 : ax_FG n_Sr 63 4 1 := ⟨n_Fl, f_Fl, 2, cl_Fl, by decide, Or.inr ⟨"SortTransform", w_nt 125 (by decide +kernel) rfl⟩⟩
theorem fg_Sr_83 : ax_FG n_Sr 83 6 1 := ⟨n_Rw, f_Rw, 2, cl_Rw, by decide, Or.inr ⟨"SortTransform", w_nt 41 (by decide +kernel) rfl⟩⟩
theorem fg_Sr_106 : ax_FG n_Sr 106 7 4 := ⟨n_Sr, f_Sr, 9, cl_Sr, by decide, Or.inl (w_in 272 (by decide +kernel) rfl)⟩
theorem fp_Sr_106 : ax_FP n_Sr 106 7 4 (.int) := ⟨n_Sr, f_Sr, 9, t_Sr, cl_Sr, by decide, Or.inl (w_in 272 (by decide +kernel) rfl), ⟨ty_Sr, nm_Sr⟩, rfl, by decide +kernel⟩
theorem fg_Sr_109 : ax_FG n_Sr 109 7 5 := ⟨n_Sr, f_Sr, 9, cl_Sr, by decide, Or.inl (w_in 273 (by decide +kernel) rfl)⟩
theorem fp_Sr_109 : ax_FP n_Sr 109 7 5 (.int) := ⟨n_Sr, f_Sr, 9, t_Sr, cl_Sr, by decide, Or.inl (w_in 273 (by decide +kernel) rfl), ⟨ty_Sr, nm_Sr⟩, rfl, by decide +kernel⟩
theorem fg_Sr_125 : ax_FG n_Sr 125 7 6 := ⟨n_Sr, f_Sr, 9, cl_Sr, by decide, Or.inl (w_in 274 (by decide +kernel) rfl)⟩
theorem fp_Sr_125 : ax_FP n_Sr 125 7 6 (.int) := ⟨n_Sr, f_Sr, 9, t_Sr, cl_Sr, by decide, Or.inl (w_in 274 (by decide +kernel) rfl), ⟨ty_Sr, nm_Sr⟩, rfl, by decide +kernel⟩
theorem fg_Sr_160 : ax_FG n_Sr 160 3 5 := ⟨n_Cd, f_Cd, 7, cl_Cd, by decide, Or.inr ⟨"SortTransform", w_nt 186 (by decide +kernel) rfl⟩⟩
theorem fg_Sr_174 : ax_FG n_Sr 174 1 5 := ⟨n_Bn, f_Bn, 7, cl_Bn, by decide, Or.inr ⟨"SortTransform", w_nt 222 (by decide +kernel) rfl⟩⟩
theorem fg_Sw_14 : ax_FG n_Sw 14 8 0 := ⟨n_Sw, f_Sw, 3, cl_Sw, by decide, Or.inl (w_in 248 (by decide +kernel) rfl)⟩
theorem ff_Sw_14 : ax_FF n_Sw 14 8 0 (.object "SortTransform$Row") := ⟨n_Sw, f_Sw, 3, t_Sw, cl_Sw, by decide, w_in 248 (by decide +kernel) rfl, ⟨ty_Sw, nm_Sw⟩, rfl, rfl, by decide +kernel⟩
theorem fg_Sw_23 : ax_FG n_Sw 23 8 1 := ⟨n_Sw, f_Sw, 3, cl_Sw, by decide, Or.inl (w_in 250 (by decide +kernel) rfl)⟩
theorem fp_Sw_23 : ax_FP n_Sw 23 8 1 (.int) := ⟨n_Sw, f_Sw, 3, t_Sw, cl_Sw, by decide, Or.inl (w_in 250 (by decide +kernel) rfl), ⟨ty_Sw, nm_Sw⟩, rfl, by decide +kernel⟩
theorem fg_Sw_27 : ax_FG n_Sw 27 8 2 := ⟨n_Sw, f_Sw, 3, cl_Sw, by decide, Or.inl (w_in 251 (by decide +kernel) rfl)⟩
theorem fp_Sw_27 : ax_FP n_Sw 27 8 2 (.int) := ⟨n_Sw, f_Sw, 3, t_Sw, cl_Sw, by decide, Or.inl (w_in 251 (by decide +kernel) rfl), ⟨ty_Sw, nm_Sw⟩, rfl, by decide +kernel⟩
theorem fg_Sw_30 : ax_FG n_Sw 30 1 0 := ⟨n_Bn, f_Bn, 7, cl_Bn, by decide, Or.inr ⟨"SortTransform", w_nt 207 (by decide +kernel) rfl⟩⟩
theorem fg_Sw_46 : ax_FG n_Sw 46 6 1 := ⟨n_Rw, f_Rw, 2, cl_Rw, by decide, Or.inr ⟨"SortTransform", w_nt 36 (by decide +kernel) rfl⟩⟩
theorem fg_Sw_53 : ax_FG n_Sw 53 1 2 := ⟨n_Bn, f_Bn, 7, cl_Bn, by decide, Or.inr ⟨"SortTransform", w_nt 213 (by decide +kernel) rfl⟩⟩
theorem fg_Sw_57 : ax_FG n_Sw 57 10 0 := ⟨n_Tu, f_Tu, 9, cl_Tu, by decide, Or.inr ⟨"SortTransform", w_nt 65 (by decide +kernel) rfl⟩⟩
theorem fg_Sw_65 : ax_FG n_Sw 65 1 3 := ⟨n_Bn, f_Bn, 7, cl_Bn, by decide, Or.inr ⟨"SortTransform", w_nt 217 (by decide +kernel) rfl⟩⟩
theorem fg_Sw_74 : ax_FG n_Sw 74 9 0 := ⟨n_Sy, f_Sy, 4, cl_Sy, by decide, Or.inr ⟨"SortTransform", w_nt 135 (by decide +kernel) rfl⟩⟩
theorem fg_Sw_100 : ax_FG n_Sw 100 4 1 := ⟨n_Fl, f_Fl, 2, cl_Fl, by decide, Or.inr ⟨"SortTransform", w_nt 127 (by decide +kernel) rfl⟩⟩
theorem fg_Sw_109 : ax_FG n_Sw 109 3 6 := ⟨n_Cd, f_Cd, 7, cl_Cd, by decide, Or.inr ⟨"SortTransform", w_nt 188 (by decide +kernel) rfl⟩⟩
theorem fg_Sw_112 : ax_FG n_Sw 112 9 2 := ⟨n_Sy, f_Sy, 4, cl_Sy, by decide, Or.inr ⟨"SortTransform", w_nt 139 (by decide +kernel) rfl⟩⟩
theorem fg_Sy_12 : ax_FG n_Sy 12 9 0 := ⟨n_Sy, f_Sy, 4, cl_Sy, by decide, Or.inl (w_in 133 (by decide +kernel) rfl)⟩
theorem ff_Sy_12 : ax_FF n_Sy 12 9 0 (.object "SortTransform$FrontList") := ⟨n_Sy, f_Sy, 4, t_Sy, cl_Sy, by decide, w_in 133 (by decide +kernel) rfl, ⟨ty_Sy, nm_Sy⟩, rfl, rfl, by decide +kernel⟩
theorem fg_Sy_18 : ax_FG n_Sy 18 9 1 := ⟨n_Sy, f_Sy, 4, cl_Sy, by decide, Or.inl (w_in 136 (by decide +kernel) rfl)⟩
theorem ff_Sy_18 : ax_FF n_Sy 18 9 1 (.array .int) := ⟨n_Sy, f_Sy, 4, t_Sy, cl_Sy, by decide, w_in 136 (by decide +kernel) rfl, ⟨ty_Sy, nm_Sy⟩, rfl, rfl, by decide +kernel⟩
theorem fg_Sy_22 : ax_FG n_Sy 22 9 2 := ⟨n_Sy, f_Sy, 4, cl_Sy, by decide, Or.inl (w_in 137 (by decide +kernel) rfl)⟩
theorem fp_Sy_22 : ax_FP n_Sy 22 9 2 (.int) := ⟨n_Sy, f_Sy, 4, t_Sy, cl_Sy, by decide, Or.inl (w_in 137 (by decide +kernel) rfl), ⟨ty_Sy, nm_Sy⟩, rfl, by decide +kernel⟩
theorem fg_Sy_30 : ax_FG n_Sy 30 4 1 := ⟨n_Fl, f_Fl, 2, cl_Fl, by decide, Or.inr ⟨"SortTransform", w_nt 126 (by decide +kernel) rfl⟩⟩
theorem fg_Sy_33 : ax_FG n_Sy 33 9 3 := ⟨n_Sy, f_Sy, 4, cl_Sy, by decide, Or.inl (w_in 141 (by decide +kernel) rfl)⟩
theorem fp_Sy_33 : ax_FP n_Sy 33 9 3 (.int) := ⟨n_Sy, f_Sy, 4, t_Sy, cl_Sy, by decide, Or.inl (w_in 141 (by decide +kernel) rfl), ⟨ty_Sy, nm_Sy⟩, rfl, by decide +kernel⟩
theorem fg_Sy_36 : ax_FG n_Sy 36 6 1 := ⟨n_Rw, f_Rw, 2, cl_Rw, by decide, Or.inr ⟨"SortTransform", w_nt 38 (by decide +kernel) rfl⟩⟩
theorem fg_Tu_14 : ax_FG n_Tu 14 10 0 := ⟨n_Tu, f_Tu, 9, cl_Tu, by decide, Or.inl (w_in 63 (by decide +kernel) rfl)⟩
theorem ff_Tu_14 : ax_FF n_Tu 14 10 0 (.object "SortTransform$Row") := ⟨n_Tu, f_Tu, 9, t_Tu, cl_Tu, by decide, w_in 63 (by decide +kernel) rfl, ⟨ty_Tu, nm_Tu⟩, rfl, rfl, by decide +kernel⟩
theorem fg_Tu_20 : ax_FG n_Tu 20 10 1 := ⟨n_Tu, f_Tu, 9, cl_Tu, by decide, Or.inl (w_in 67 (by decide +kernel) rfl)⟩
theorem ff_Tu_20 : ax_FF n_Tu 20 10 1 (.array .int) := ⟨n_Tu, f_Tu, 9, t_Tu, cl_Tu, by decide, w_in 67 (by decide +kernel) rfl, ⟨ty_Tu, nm_Tu⟩, rfl, rfl, by decide +kernel⟩
theorem fg_Tu_24 : ax_FG n_Tu 24 10 2 := ⟨n_Tu, f_Tu, 9, cl_Tu, by decide, Or.inl (w_in 68 (by decide +kernel) rfl)⟩
theorem ff_Tu_24 : ax_FF n_Tu 24 10 2 (.array .int) := ⟨n_Tu, f_Tu, 9, t_Tu, cl_Tu, by decide, w_in 68 (by decide +kernel) rfl, ⟨ty_Tu, nm_Tu⟩, rfl, rfl, by decide +kernel⟩
theorem fg_Tu_27 : ax_FG n_Tu 27 10 3 := ⟨n_Tu, f_Tu, 9, cl_Tu, by decide, Or.inl (w_in 69 (by decide +kernel) rfl)⟩
theorem ff_Tu_27 : ax_FF n_Tu 27 10 3 (.array .int) := ⟨n_Tu, f_Tu, 9, t_Tu, cl_Tu, by decide, w_in 69 (by decide +kernel) rfl, ⟨ty_Tu, nm_Tu⟩, rfl, rfl, by decide +kernel⟩
theorem fg_Tu_30 : ax_FG n_Tu 30 10 4 := ⟨n_Tu, f_Tu, 9, cl_Tu, by decide, Or.inl (w_in 70 (by decide +kernel) rfl)⟩
theorem ff_Tu_30 : ax_FF n_Tu 30 10 4 (.array .int) := ⟨n_Tu, f_Tu, 9, t_Tu, cl_Tu, by decide, w_in 70 (by decide +kernel) rfl, ⟨ty_Tu, nm_Tu⟩, rfl, rfl, by decide +kernel⟩
theorem fg_Tu_33 : ax_FG n_Tu 33 10 5 := ⟨n_Tu, f_Tu, 9, cl_Tu, by decide, Or.inl (w_in 71 (by decide +kernel) rfl)⟩
theorem ff_Tu_33 : ax_FF n_Tu 33 10 5 (.array .int) := ⟨n_Tu, f_Tu, 9, t_Tu, cl_Tu, by decide, w_in 71 (by decide +kernel) rfl, ⟨ty_Tu, nm_Tu⟩, rfl, rfl, by decide +kernel⟩
theorem fg_Tu_36 : ax_FG n_Tu 36 10 6 := ⟨n_Tu, f_Tu, 9, cl_Tu, by decide, Or.inl (w_in 72 (by decide +kernel) rfl)⟩
theorem fp_Tu_36 : ax_FP n_Tu 36 10 6 (.int) := ⟨n_Tu, f_Tu, 9, t_Tu, cl_Tu, by decide, Or.inl (w_in 72 (by decide +kernel) rfl), ⟨ty_Tu, nm_Tu⟩, rfl, by decide +kernel⟩
theorem fg_Tu_40 : ax_FG n_Tu 40 6 1 := ⟨n_Rw, f_Rw, 2, cl_Rw, by decide, Or.inr ⟨"SortTransform", w_nt 40 (by decide +kernel) rfl⟩⟩
theorem fg_Tu_51 : ax_FG n_Tu 51 10 7 := ⟨n_Tu, f_Tu, 9, cl_Tu, by decide, Or.inl (w_in 73 (by decide +kernel) rfl)⟩
theorem fp_Tu_51 : ax_FP n_Tu 51 10 7 (.int) := ⟨n_Tu, f_Tu, 9, t_Tu, cl_Tu, by decide, Or.inl (w_in 73 (by decide +kernel) rfl), ⟨ty_Tu, nm_Tu⟩, rfl, by decide +kernel⟩
theorem fg_Tu_63 : ax_FG n_Tu 63 10 8 := ⟨n_Tu, f_Tu, 9, cl_Tu, by decide, Or.inl (w_in 74 (by decide +kernel) rfl)⟩
theorem fp_Tu_63 : ax_FP n_Tu 63 10 8 (.int) := ⟨n_Tu, f_Tu, 9, t_Tu, cl_Tu, by decide, Or.inl (w_in 74 (by decide +kernel) rfl), ⟨ty_Tu, nm_Tu⟩, rfl, by decide +kernel⟩
theorem fg_Mo_7 : ax_FG n_Mo 7 11 1 := ⟨n_Mo, f_Mo, 31, cl_Mo, by decide, Or.inl (w_in 814 (by decide +kernel) rfl)⟩
theorem ff_Mo_7 : ax_FF n_Mo 7 11 1 (.array .int) := ⟨n_Mo, f_Mo, 31, t_Mo, cl_Mo, by decide, w_in 814 (by decide +kernel) rfl, ⟨ty_Mo, nm_Mo⟩, rfl, rfl, by decide +kernel⟩
theorem fg_Mo_13 : ax_FG n_Mo 13 11 3 := ⟨n_Mo, f_Mo, 31, cl_Mo, by decide, Or.inl (w_in 816 (by decide +kernel) rfl)⟩
theorem ff_Mo_13 : ax_FF n_Mo 13 11 3 (.array .int) := ⟨n_Mo, f_Mo, 31, t_Mo, cl_Mo, by decide, w_in 816 (by decide +kernel) rfl, ⟨ty_Mo, nm_Mo⟩, rfl, rfl, by decide +kernel⟩
theorem fg_Mo_16 : ax_FG n_Mo 16 11 4 := ⟨n_Mo, f_Mo, 31, cl_Mo, by decide, Or.inl (w_in 817 (by decide +kernel) rfl)⟩
theorem ff_Mo_16 : ax_FF n_Mo 16 11 4 (.array .int) := ⟨n_Mo, f_Mo, 31, t_Mo, cl_Mo, by decide, w_in 817 (by decide +kernel) rfl, ⟨ty_Mo, nm_Mo⟩, rfl, rfl, by decide +kernel⟩
theorem fg_Mo_19 : ax_FG n_Mo 19 11 5 := ⟨n_Mo, f_Mo, 31, cl_Mo, by decide, Or.inl (w_in 818 (by decide +kernel) rfl)⟩
theorem ff_Mo_19 : ax_FF n_Mo 19 11 5 (.array .int) := ⟨n_Mo, f_Mo, 31, t_Mo, cl_Mo, by decide, w_in 818 (by decide +kernel) rfl, ⟨ty_Mo, nm_Mo⟩, rfl, rfl, by decide +kernel⟩
theorem fg_Mo_22 : ax_FG n_Mo 22 11 7 := ⟨n_Mo, f_Mo, 31, cl_Mo, by decide, Or.inl (w_in 820 (by decide +kernel) rfl)⟩
theorem ff_Mo_22 : ax_FF n_Mo 22 11 7 (.array .int) := ⟨n_Mo, f_Mo, 31, t_Mo, cl_Mo, by decide, w_in 820 (by decide +kernel) rfl, ⟨ty_Mo, nm_Mo⟩, rfl, rfl, by decide +kernel⟩
theorem fg_Mo_25 : ax_FG n_Mo 25 11 10 := ⟨n_Mo, f_Mo, 31, cl_Mo, by decide, Or.inl (w_in 823 (by decide +kernel) rfl)⟩
theorem ff_Mo_25 : ax_FF n_Mo 25 11 10 (.array .int) := ⟨n_Mo, f_Mo, 31, t_Mo, cl_Mo, by decide, w_in 823 (by decide +kernel) rfl, ⟨ty_Mo, nm_Mo⟩, rfl, rfl, by decide +kernel⟩
theorem fg_Mo_28 : ax_FG n_Mo 28 11 11 := ⟨n_Mo, f_Mo, 31, cl_Mo, by decide, Or.inl (w_in 824 (by decide +kernel) rfl)⟩
theorem ff_Mo_28 : ax_FF n_Mo 28 11 11 (.array .int) := ⟨n_Mo, f_Mo, 31, t_Mo, cl_Mo, by decide, w_in 824 (by decide +kernel) rfl, ⟨ty_Mo, nm_Mo⟩, rfl, rfl, by decide +kernel⟩
theorem fg_Mo_31 : ax_FG n_Mo 31 11 13 := ⟨n_Mo, f_Mo, 31, cl_Mo, by decide, Or.inl (w_in 826 (by decide +kernel) rfl)⟩
theorem ff_Mo_31 : ax_FF n_Mo 31 11 13 (.array .int) := ⟨n_Mo, f_Mo, 31, t_Mo, cl_Mo, by decide, w_in 826 (by decide +kernel) rfl, ⟨ty_Mo, nm_Mo⟩, rfl, rfl, by decide +kernel⟩
theorem fg_Mo_34 : ax_FG n_Mo 34 11 15 := ⟨n_Mo, f_Mo, 31, cl_Mo, by decide, Or.inl (w_in 828 (by decide +kernel) rfl)⟩
theorem ff_Mo_34 : ax_FF n_Mo 34 11 15 (.array .int) := ⟨n_Mo, f_Mo, 31, t_Mo, cl_Mo, by decide, w_in 828 (by decide +kernel) rfl, ⟨ty_Mo, nm_Mo⟩, rfl, rfl, by decide +kernel⟩
theorem fg_Mo_37 : ax_FG n_Mo 37 11 16 := ⟨n_Mo, f_Mo, 31, cl_Mo, by decide, Or.inl (w_in 829 (by decide +kernel) rfl)⟩
theorem ff_Mo_37 : ax_FF n_Mo 37 11 16 (.array .int) := ⟨n_Mo, f_Mo, 31, t_Mo, cl_Mo, by decide, w_in 829 (by decide +kernel) rfl, ⟨ty_Mo, nm_Mo⟩, rfl, rfl, by decide +kernel⟩
theorem fg_Mo_40 : ax_FG n_Mo 40 11 17 := ⟨n_Mo, f_Mo, 31, cl_Mo, by decide, Or.inl (w_in 830 (by decide +kernel) rfl)⟩
theorem ff_Mo_40 : ax_FF n_Mo 40 11 17 (.array .int) := ⟨n_Mo, f_Mo, 31, t_Mo, cl_Mo, by decide, w_in 830 (by decide +kernel) rfl, ⟨ty_Mo, nm_Mo⟩, rfl, rfl, by decide +kernel⟩
theorem fg_Mo_43 : ax_FG n_Mo 43 11 18 := ⟨n_Mo, f_Mo, 31, cl_Mo, by decide, Or.inl (w_in 831 (by decide +kernel) rfl)⟩
theorem ff_Mo_43 : ax_FF n_Mo 43 11 18 (.array .long) := ⟨n_Mo, f_Mo, 31, t_Mo, cl_Mo, by decide, w_in 831 (by decide +kernel) rfl, ⟨ty_Mo, nm_Mo⟩, rfl, rfl, by decide +kernel⟩
theorem fg_Mo_47 : ax_FG n_Mo 47 11 19 := ⟨n_Mo, f_Mo, 31, cl_Mo, by decide, Or.inl (w_in 832 (by decide +kernel) rfl)⟩
theorem ff_Mo_47 : ax_FF n_Mo 47 11 19 (.array .int) := ⟨n_Mo, f_Mo, 31, t_Mo, cl_Mo, by decide, w_in 832 (by decide +kernel) rfl, ⟨ty_Mo, nm_Mo⟩, rfl, rfl, by decide +kernel⟩
theorem fg_Mo_50 : ax_FG n_Mo 50 11 20 := ⟨n_Mo, f_Mo, 31, cl_Mo, by decide, Or.inl (w_in 833 (by decide +kernel) rfl)⟩
theorem ff_Mo_50 : ax_FF n_Mo 50 11 20 (.array .int) := ⟨n_Mo, f_Mo, 31, t_Mo, cl_Mo, by decide, w_in 833 (by decide +kernel) rfl, ⟨ty_Mo, nm_Mo⟩, rfl, rfl, by decide +kernel⟩
theorem fg_Mo_53 : ax_FG n_Mo 53 11 21 := ⟨n_Mo, f_Mo, 31, cl_Mo, by decide, Or.inl (w_in 834 (by decide +kernel) rfl)⟩
theorem ff_Mo_53 : ax_FF n_Mo 53 11 21 (.array .long) := ⟨n_Mo, f_Mo, 31, t_Mo, cl_Mo, by decide, w_in 834 (by decide +kernel) rfl, ⟨ty_Mo, nm_Mo⟩, rfl, rfl, by decide +kernel⟩
theorem fg_Mo_56 : ax_FG n_Mo 56 11 22 := ⟨n_Mo, f_Mo, 31, cl_Mo, by decide, Or.inl (w_in 835 (by decide +kernel) rfl)⟩
theorem ff_Mo_56 : ax_FF n_Mo 56 11 22 (.array .byte) := ⟨n_Mo, f_Mo, 31, t_Mo, cl_Mo, by decide, w_in 835 (by decide +kernel) rfl, ⟨ty_Mo, nm_Mo⟩, rfl, rfl, by decide +kernel⟩
theorem fg_Mo_60 : ax_FG n_Mo 60 11 25 := ⟨n_Mo, f_Mo, 31, cl_Mo, by decide, Or.inl (w_in 838 (by decide +kernel) rfl)⟩
theorem ff_Mo_60 : ax_FF n_Mo 60 11 25 (.array .byte) := ⟨n_Mo, f_Mo, 31, t_Mo, cl_Mo, by decide, w_in 838 (by decide +kernel) rfl, ⟨ty_Mo, nm_Mo⟩, rfl, rfl, by decide +kernel⟩
theorem fg_Mo_63 : ax_FG n_Mo 63 11 29 := ⟨n_Mo, f_Mo, 31, cl_Mo, by decide, Or.inl (w_in 842 (by decide +kernel) rfl)⟩
theorem fp_Mo_63 : ax_FP n_Mo 63 11 29 (.int) := ⟨n_Mo, f_Mo, 31, t_Mo, cl_Mo, by decide, Or.inl (w_in 842 (by decide +kernel) rfl), ⟨ty_Mo, nm_Mo⟩, rfl, by decide +kernel⟩
theorem fg_Mo_67 : ax_FG n_Mo 67 11 30 := ⟨n_Mo, f_Mo, 31, cl_Mo, by decide, Or.inl (w_in 843 (by decide +kernel) rfl)⟩
theorem ff_Mo_67 : ax_FF n_Mo 67 11 30 (.array .int) := ⟨n_Mo, f_Mo, 31, t_Mo, cl_Mo, by decide, w_in 843 (by decide +kernel) rfl, ⟨ty_Mo, nm_Mo⟩, rfl, rfl, by decide +kernel⟩
theorem fg_Mo_76 : ax_FG n_Mo 76 11 0 := ⟨n_Mo, f_Mo, 31, cl_Mo, by decide, Or.inl (w_in 813 (by decide +kernel) rfl)⟩
theorem fp_Mo_76 : ax_FP n_Mo 76 11 0 (.int) := ⟨n_Mo, f_Mo, 31, t_Mo, cl_Mo, by decide, Or.inl (w_in 813 (by decide +kernel) rfl), ⟨ty_Mo, nm_Mo⟩, rfl, by decide +kernel⟩
theorem fg_Mo_81 : ax_FG n_Mo 81 11 6 := ⟨n_Mo, f_Mo, 31, cl_Mo, by decide, Or.inl (w_in 819 (by decide +kernel) rfl)⟩
theorem fp_Mo_81 : ax_FP n_Mo 81 11 6 (.boolean) := ⟨n_Mo, f_Mo, 31, t_Mo, cl_Mo, by decide, Or.inl (w_in 819 (by decide +kernel) rfl), ⟨ty_Mo, nm_Mo⟩, rfl, by decide +kernel⟩
theorem fg_Mo_87 : ax_FG n_Mo 87 11 2 := ⟨n_Mo, f_Mo, 31, cl_Mo, by decide, Or.inl (w_in 815 (by decide +kernel) rfl)⟩
theorem fp_Mo_87 : ax_FP n_Mo 87 11 2 (.int) := ⟨n_Mo, f_Mo, 31, t_Mo, cl_Mo, by decide, Or.inl (w_in 815 (by decide +kernel) rfl), ⟨ty_Mo, nm_Mo⟩, rfl, by decide +kernel⟩
theorem fg_Mo_111 : ax_FG n_Mo 111 11 8 := ⟨n_Mo, f_Mo, 31, cl_Mo, by decide, Or.inl (w_in 821 (by decide +kernel) rfl)⟩
theorem fp_Mo_111 : ax_FP n_Mo 111 11 8 (.int) := ⟨n_Mo, f_Mo, 31, t_Mo, cl_Mo, by decide, Or.inl (w_in 821 (by decide +kernel) rfl), ⟨ty_Mo, nm_Mo⟩, rfl, by decide +kernel⟩
theorem fg_Mo_114 : ax_FG n_Mo 114 11 9 := ⟨n_Mo, f_Mo, 31, cl_Mo, by decide, Or.inl (w_in 822 (by decide +kernel) rfl)⟩
theorem fp_Mo_114 : ax_FP n_Mo 114 11 9 (.int) := ⟨n_Mo, f_Mo, 31, t_Mo, cl_Mo, by decide, Or.inl (w_in 822 (by decide +kernel) rfl), ⟨ty_Mo, nm_Mo⟩, rfl, by decide +kernel⟩
theorem fg_Mo_135 : ax_FG n_Mo 135 11 14 := ⟨n_Mo, f_Mo, 31, cl_Mo, by decide, Or.inl (w_in 827 (by decide +kernel) rfl)⟩
theorem fp_Mo_135 : ax_FP n_Mo 135 11 14 (.int) := ⟨n_Mo, f_Mo, 31, t_Mo, cl_Mo, by decide, Or.inl (w_in 827 (by decide +kernel) rfl), ⟨ty_Mo, nm_Mo⟩, rfl, by decide +kernel⟩
theorem fg_Mo_138 : ax_FG n_Mo 138 11 12 := ⟨n_Mo, f_Mo, 31, cl_Mo, by decide, Or.inl (w_in 825 (by decide +kernel) rfl)⟩
theorem fp_Mo_138 : ax_FP n_Mo 138 11 12 (.int) := ⟨n_Mo, f_Mo, 31, t_Mo, cl_Mo, by decide, Or.inl (w_in 825 (by decide +kernel) rfl), ⟨ty_Mo, nm_Mo⟩, rfl, by decide +kernel⟩
theorem fg_Mo_166 : ax_FG n_Mo 166 11 23 := ⟨n_Mo, f_Mo, 31, cl_Mo, by decide, Or.inl (w_in 836 (by decide +kernel) rfl)⟩
theorem fp_Mo_166 : ax_FP n_Mo 166 11 23 (.int) := ⟨n_Mo, f_Mo, 31, t_Mo, cl_Mo, by decide, Or.inl (w_in 836 (by decide +kernel) rfl), ⟨ty_Mo, nm_Mo⟩, rfl, by decide +kernel⟩
theorem fg_Mo_184 : ax_FG n_Mo 184 11 24 := ⟨n_Mo, f_Mo, 31, cl_Mo, by decide, Or.inl (w_in 837 (by decide +kernel) rfl)⟩
theorem fp_Mo_184 : ax_FP n_Mo 184 11 24 (.int) := ⟨n_Mo, f_Mo, 31, t_Mo, cl_Mo, by decide, Or.inl (w_in 837 (by decide +kernel) rfl), ⟨ty_Mo, nm_Mo⟩, rfl, by decide +kernel⟩
theorem fg_Mo_191 : ax_FG n_Mo 191 11 26 := ⟨n_Mo, f_Mo, 31, cl_Mo, by decide, Or.inl (w_in 839 (by decide +kernel) rfl)⟩
theorem fp_Mo_191 : ax_FP n_Mo 191 11 26 (.int) := ⟨n_Mo, f_Mo, 31, t_Mo, cl_Mo, by decide, Or.inl (w_in 839 (by decide +kernel) rfl), ⟨ty_Mo, nm_Mo⟩, rfl, by decide +kernel⟩
theorem fg_Mo_194 : ax_FG n_Mo 194 11 28 := ⟨n_Mo, f_Mo, 31, cl_Mo, by decide, Or.inl (w_in 841 (by decide +kernel) rfl)⟩
theorem fp_Mo_194 : ax_FP n_Mo 194 11 28 (.int) := ⟨n_Mo, f_Mo, 31, t_Mo, cl_Mo, by decide, Or.inl (w_in 841 (by decide +kernel) rfl), ⟨ty_Mo, nm_Mo⟩, rfl, by decide +kernel⟩
theorem fg_Mo_197 : ax_FG n_Mo 197 11 27 := ⟨n_Mo, f_Mo, 31, cl_Mo, by decide, Or.inl (w_in 840 (by decide +kernel) rfl)⟩
theorem fp_Mo_197 : ax_FP n_Mo 197 11 27 (.int) := ⟨n_Mo, f_Mo, 31, t_Mo, cl_Mo, by decide, Or.inl (w_in 840 (by decide +kernel) rfl), ⟨ty_Mo, nm_Mo⟩, rfl, by decide +kernel⟩
theorem i_Rw_init : ax_I m_Rw_init 1 := ⟨⟨w_in 28 (by decide +kernel) rfl, w_in 2 (by decide +kernel) rfl, by decide, by decide, by decide +kernel, by decide⟩, rfl, rfl, w_in 27 (by decide +kernel) rfl⟩
theorem i_Bn_init : ax_I m_Bn_init 0 := ⟨⟨w_in 53 (by decide +kernel) rfl, w_in 4 (by decide +kernel) rfl, by decide, by decide, by decide +kernel, by decide⟩, rfl, rfl, w_in 52 (by decide +kernel) rfl⟩
theorem i_Sw_init : ax_I m_Sw_init 0 := ⟨⟨w_in 244 (by decide +kernel) rfl, w_in 11 (by decide +kernel) rfl, by decide, by decide, by decide +kernel, by decide⟩, rfl, rfl, w_in 243 (by decide +kernel) rfl⟩
theorem i_Sr_init : ax_I m_Sr_init 0 := ⟨⟨w_in 263 (by decide +kernel) rfl, w_in 12 (by decide +kernel) rfl, by decide, by decide, by decide +kernel, by decide⟩, rfl, rfl, w_in 262 (by decide +kernel) rfl⟩
theorem s_S_addLowest : ax_S m_S_addLowest 3 := ⟨⟨w_in 329 (by decide +kernel) rfl, w_in 1 (by decide +kernel) rfl, by decide, by decide, by decide +kernel, by decide⟩, w_in 328 (by decide +kernel) rfl⟩
theorem v_S_blockChanged : ax_V m_S_blockChanged 0 0 := ⟨⟨w_in 344 (by decide +kernel) rfl, w_in 1 (by decide +kernel) rfl, by decide, by decide, by decide +kernel, by decide⟩, w_in 343 (by decide +kernel) rfl, w_se 0 (by decide +kernel) rfl, _, rfl, rfl⟩
theorem s_S_isByte : ax_S m_S_isByte 1 := ⟨⟨w_in 355 (by decide +kernel) rfl, w_in 1 (by decide +kernel) rfl, by decide, by decide, by decide +kernel, by decide⟩, w_in 354 (by decide +kernel) rfl⟩
theorem v_Rw_hasRoom : ax_V m_Rw_hasRoom 1 6 := ⟨⟨w_in 333 (by decide +kernel) rfl, w_in 2 (by decide +kernel) rfl, by decide, by decide, by decide +kernel, by decide⟩, w_in 331 (by decide +kernel) rfl, w_in 332 (by decide +kernel) rfl, _, rfl, rfl⟩
theorem v_Rw_addMany : ax_V m_Rw_addMany 2 6 := ⟨⟨w_in 359 (by decide +kernel) rfl, w_in 2 (by decide +kernel) rfl, by decide, by decide, by decide +kernel, by decide⟩, w_in 357 (by decide +kernel) rfl, w_in 358 (by decide +kernel) rfl, _, rfl, rfl⟩
theorem v_Rw_shorten : ax_V m_Rw_shorten 1 6 := ⟨⟨w_in 368 (by decide +kernel) rfl, w_in 2 (by decide +kernel) rfl, by decide, by decide, by decide +kernel, by decide⟩, w_in 366 (by decide +kernel) rfl, w_in 367 (by decide +kernel) rfl, _, rfl, rfl⟩
theorem v_Rw_at : ax_V m_Rw_at 1 6 := ⟨⟨w_in 376 (by decide +kernel) rfl, w_in 2 (by decide +kernel) rfl, by decide, by decide, by decide +kernel, by decide⟩, w_in 374 (by decide +kernel) rfl, w_in 375 (by decide +kernel) rfl, _, rfl, rfl⟩
theorem v_S_freshenPack : ax_V m_S_freshenPack 0 0 := ⟨⟨w_in 384 (by decide +kernel) rfl, w_in 1 (by decide +kernel) rfl, by decide, by decide, by decide +kernel, by decide⟩, w_in 383 (by decide +kernel) rfl, w_se 2 (by decide +kernel) rfl, _, rfl, rfl⟩
theorem v_S_freshenTurns : ax_V m_S_freshenTurns 0 0 := ⟨⟨w_in 402 (by decide +kernel) rfl, w_in 1 (by decide +kernel) rfl, by decide, by decide, by decide +kernel, by decide⟩, w_in 401 (by decide +kernel) rfl, w_se 3 (by decide +kernel) rfl, _, rfl, rfl⟩
theorem v_Tu_turnAt : ax_V m_Tu_turnAt 1 10 := ⟨⟨w_in 443 (by decide +kernel) rfl, w_in 5 (by decide +kernel) rfl, by decide, by decide, by decide +kernel, by decide⟩, w_in 441 (by decide +kernel) rfl, w_in 442 (by decide +kernel) rfl, _, rfl, rfl⟩
theorem v_Tu_placeOf : ax_V m_Tu_placeOf 1 10 := ⟨⟨w_in 455 (by decide +kernel) rfl, w_in 5 (by decide +kernel) rfl, by decide, by decide, by decide +kernel, by decide⟩, w_in 453 (by decide +kernel) rfl, w_in 454 (by decide +kernel) rfl, _, rfl, rfl⟩
theorem v_S_turnBegins : ax_V m_S_turnBegins 3 0 := ⟨⟨w_in 471 (by decide +kernel) rfl, w_in 1 (by decide +kernel) rfl, by decide, by decide, by decide +kernel, by decide⟩, w_in 470 (by decide +kernel) rfl, w_se 10 (by decide +kernel) rfl, _, rfl, rfl⟩
theorem v_Rw_has : ax_V m_Rw_has 1 6 := ⟨⟨w_in 479 (by decide +kernel) rfl, w_in 2 (by decide +kernel) rfl, by decide, by decide, by decide +kernel, by decide⟩, w_in 477 (by decide +kernel) rfl, w_in 478 (by decide +kernel) rfl, _, rfl, rfl⟩
theorem v_Bn_goBack : ax_V m_Bn_goBack 2 1 := ⟨⟨w_in 483 (by decide +kernel) rfl, w_in 4 (by decide +kernel) rfl, by decide, by decide, by decide +kernel, by decide⟩, w_in 481 (by decide +kernel) rfl, w_in 482 (by decide +kernel) rfl, _, rfl, rfl⟩
theorem v_Rw_copyOf : ax_V m_Rw_copyOf 1 6 := ⟨⟨w_in 509 (by decide +kernel) rfl, w_in 2 (by decide +kernel) rfl, by decide, by decide, by decide +kernel, by decide⟩, w_in 507 (by decide +kernel) rfl, w_in 508 (by decide +kernel) rfl, _, rfl, rfl⟩
theorem v_Ch_link : ax_V m_Ch_link 1 2 := ⟨⟨w_in 487 (by decide +kernel) rfl, w_in 6 (by decide +kernel) rfl, by decide, by decide, by decide +kernel, by decide⟩, w_in 485 (by decide +kernel) rfl, w_in 486 (by decide +kernel) rfl, _, rfl, rfl⟩
theorem v_Ch_ringLength : ax_V m_Ch_ringLength 1 2 := ⟨⟨w_in 518 (by decide +kernel) rfl, w_in 6 (by decide +kernel) rfl, by decide, by decide, by decide +kernel, by decide⟩, w_in 516 (by decide +kernel) rfl, w_in 517 (by decide +kernel) rfl, _, rfl, rfl⟩
theorem v_S_freshenCodes : ax_V m_S_freshenCodes 0 0 := ⟨⟨w_in 526 (by decide +kernel) rfl, w_in 1 (by decide +kernel) rfl, by decide, by decide, by decide +kernel, by decide⟩, w_in 525 (by decide +kernel) rfl, w_se 11 (by decide +kernel) rfl, _, rfl, rfl⟩
theorem v_Sy_at : ax_V m_Sy_at 1 9 := ⟨⟨w_in 567 (by decide +kernel) rfl, w_in 7 (by decide +kernel) rfl, by decide, by decide, by decide +kernel, by decide⟩, w_in 565 (by decide +kernel) rfl, w_in 566 (by decide +kernel) rfl, _, rfl, rfl⟩
theorem v_Cd_has : ax_V m_Cd_has 1 3 := ⟨⟨w_in 571 (by decide +kernel) rfl, w_in 9 (by decide +kernel) rfl, by decide, by decide, by decide +kernel, by decide⟩, w_in 569 (by decide +kernel) rfl, w_in 570 (by decide +kernel) rfl, _, rfl, rfl⟩
theorem v_Cd_lengthOf : ax_V m_Cd_lengthOf 1 3 := ⟨⟨w_in 608 (by decide +kernel) rfl, w_in 9 (by decide +kernel) rfl, by decide, by decide, by decide +kernel, by decide⟩, w_in 606 (by decide +kernel) rfl, w_in 607 (by decide +kernel) rfl, _, rfl, rfl⟩
theorem v_Cd_valueOf : ax_V m_Cd_valueOf 1 3 := ⟨⟨w_in 612 (by decide +kernel) rfl, w_in 9 (by decide +kernel) rfl, by decide, by decide, by decide +kernel, by decide⟩, w_in 610 (by decide +kernel) rfl, w_in 611 (by decide +kernel) rfl, _, rfl, rfl⟩
theorem s_S_checkOf : ax_S m_S_checkOf 1 := ⟨⟨w_in 623 (by decide +kernel) rfl, w_in 1 (by decide +kernel) rfl, by decide, by decide, by decide +kernel, by decide⟩, w_in 622 (by decide +kernel) rfl⟩
theorem v_Sw_writeStream : ax_V m_Sw_writeStream 3 8 := ⟨⟨w_in 628 (by decide +kernel) rfl, w_in 11 (by decide +kernel) rfl, by decide, by decide, by decide +kernel, by decide⟩, w_in 626 (by decide +kernel) rfl, w_in 627 (by decide +kernel) rfl, _, rfl, rfl⟩
theorem v_S_benchUsed : ax_V m_S_benchUsed 0 0 := ⟨⟨w_in 348 (by decide +kernel) rfl, w_in 1 (by decide +kernel) rfl, by decide, by decide, by decide +kernel, by decide⟩, w_in 347 (by decide +kernel) rfl, w_se 1 (by decide +kernel) rfl, _, rfl, rfl⟩
theorem v_Rw_joinWith : ax_V m_Rw_joinWith 2 6 := ⟨⟨w_in 683 (by decide +kernel) rfl, w_in 2 (by decide +kernel) rfl, by decide, by decide, by decide +kernel, by decide⟩, w_in 681 (by decide +kernel) rfl, w_in 682 (by decide +kernel) rfl, _, rfl, rfl⟩
theorem v_Sr_readStream : ax_V m_Sr_readStream 1 7 := ⟨⟨w_in 696 (by decide +kernel) rfl, w_in 12 (by decide +kernel) rfl, by decide, by decide, by decide +kernel, by decide⟩, w_in 694 (by decide +kernel) rfl, w_in 695 (by decide +kernel) rfl, _, rfl, rfl⟩
theorem s_S_packInto : ax_S m_S_packInto 2 := ⟨⟨w_in 387 (by decide +kernel) rfl, w_in 1 (by decide +kernel) rfl, by decide, by decide, by decide +kernel, by decide⟩, w_in 386 (by decide +kernel) rfl⟩
theorem v_Tu_sortTurns : ax_V m_Tu_sortTurns 1 10 := ⟨⟨w_in 406 (by decide +kernel) rfl, w_in 5 (by decide +kernel) rfl, by decide, by decide, by decide +kernel, by decide⟩, w_in 404 (by decide +kernel) rfl, w_in 405 (by decide +kernel) rfl, _, rfl, rfl⟩
theorem v_Sy_makeFrom : ax_V m_Sy_makeFrom 1 9 := ⟨⟨w_in 530 (by decide +kernel) rfl, w_in 7 (by decide +kernel) rfl, by decide, by decide, by decide +kernel, by decide⟩, w_in 528 (by decide +kernel) rfl, w_in 529 (by decide +kernel) rfl, _, rfl, rfl⟩
theorem v_Cd_makeFrom : ax_V m_Cd_makeFrom 1 3 := ⟨⟨w_in 557 (by decide +kernel) rfl, w_in 9 (by decide +kernel) rfl, by decide, by decide, by decide +kernel, by decide⟩, w_in 555 (by decide +kernel) rfl, w_in 556 (by decide +kernel) rfl, _, rfl, rfl⟩
theorem s_S_byteOf : ax_S m_S_byteOf 2 := ⟨⟨w_in 336 (by decide +kernel) rfl, w_in 1 (by decide +kernel) rfl, by decide, by decide, by decide +kernel, by decide⟩, w_in 335 (by decide +kernel) rfl⟩
theorem v_Rw_add : ax_V m_Rw_add 1 6 := ⟨⟨w_in 340 (by decide +kernel) rfl, w_in 2 (by decide +kernel) rfl, by decide, by decide, by decide +kernel, by decide⟩, w_in 338 (by decide +kernel) rfl, w_in 339 (by decide +kernel) rfl, _, rfl, rfl⟩
theorem s_S_countMore : ax_S m_S_countMore 3 := ⟨⟨w_in 390 (by decide +kernel) rfl, w_in 1 (by decide +kernel) rfl, by decide, by decide, by decide +kernel, by decide⟩, w_in 389 (by decide +kernel) rfl⟩
theorem s_Mo_isIn : ax_S m_Mo_isIn 3 := ⟨⟨w_in 916 (by decide +kernel) rfl, w_in 13 (by decide +kernel) rfl, by decide, by decide, by decide +kernel, by decide⟩, w_in 915 (by decide +kernel) rfl⟩
theorem v_Mo_packBlock : ax_V m_Mo_packBlock 0 11 := ⟨⟨w_in 938 (by decide +kernel) rfl, w_in 13 (by decide +kernel) rfl, by decide, by decide, by decide +kernel, by decide⟩, w_in 937 (by decide +kernel) rfl, w_se 37 (by decide +kernel) rfl, _, rfl, rfl⟩
theorem v_Mo_parts : ax_V m_Mo_parts 2 11 := ⟨⟨w_in 966 (by decide +kernel) rfl, w_in 13 (by decide +kernel) rfl, by decide, by decide, by decide +kernel, by decide⟩, w_in 965 (by decide +kernel) rfl, w_se 42 (by decide +kernel) rfl, _, rfl, rfl⟩
theorem v_Mo_isAbove : ax_V m_Mo_isAbove 2 11 := ⟨⟨w_in 962 (by decide +kernel) rfl, w_in 13 (by decide +kernel) rfl, by decide, by decide, by decide +kernel, by decide⟩, w_in 961 (by decide +kernel) rfl, w_se 41 (by decide +kernel) rfl, _, rfl, rfl⟩
theorem v_Mo_takeBlock : ax_V m_Mo_takeBlock 0 11 := ⟨⟨w_in 954 (by decide +kernel) rfl, w_in 13 (by decide +kernel) rfl, by decide, by decide, by decide +kernel, by decide⟩, w_in 953 (by decide +kernel) rfl, w_se 39 (by decide +kernel) rfl, _, rfl, rfl⟩
theorem v_Mo_putInOrder : ax_V m_Mo_putInOrder 0 11 := ⟨⟨w_in 958 (by decide +kernel) rfl, w_in 13 (by decide +kernel) rfl, by decide, by decide, by decide +kernel, by decide⟩, w_in 957 (by decide +kernel) rfl, w_se 40 (by decide +kernel) rfl, _, rfl, rfl⟩
theorem v_Mo_originOf : ax_V m_Mo_originOf 0 11 := ⟨⟨w_in 970 (by decide +kernel) rfl, w_in 13 (by decide +kernel) rfl, by decide, by decide, by decide +kernel, by decide⟩, w_in 969 (by decide +kernel) rfl, w_se 43 (by decide +kernel) rfl, _, rfl, rfl⟩
theorem v_Mo_lay : ax_V m_Mo_lay 0 11 := ⟨⟨w_in 950 (by decide +kernel) rfl, w_in 13 (by decide +kernel) rfl, by decide, by decide, by decide +kernel, by decide⟩, w_in 949 (by decide +kernel) rfl, w_se 38 (by decide +kernel) rfl, _, rfl, rfl⟩
theorem v_Mo_nexts : ax_V m_Mo_nexts 0 11 := ⟨⟨w_in 1004 (by decide +kernel) rfl, w_in 13 (by decide +kernel) rfl, by decide, by decide, by decide +kernel, by decide⟩, w_in 1003 (by decide +kernel) rfl, w_se 45 (by decide +kernel) rfl, _, rfl, rfl⟩
theorem v_Mo_lastAt : ax_V m_Mo_lastAt 1 11 := ⟨⟨w_in 1008 (by decide +kernel) rfl, w_in 13 (by decide +kernel) rfl, by decide, by decide, by decide +kernel, by decide⟩, w_in 1007 (by decide +kernel) rfl, w_se 46 (by decide +kernel) rfl, _, rfl, rfl⟩
theorem v_Mo_givesBack : ax_V m_Mo_givesBack 1 11 := ⟨⟨w_in 1000 (by decide +kernel) rfl, w_in 13 (by decide +kernel) rfl, by decide, by decide, by decide +kernel, by decide⟩, w_in 999 (by decide +kernel) rfl, w_se 44 (by decide +kernel) rfl, _, rfl, rfl⟩
theorem v_Mo_rowHas : ax_V m_Mo_rowHas 1 11 := ⟨⟨w_in 1024 (by decide +kernel) rfl, w_in 13 (by decide +kernel) rfl, by decide, by decide, by decide +kernel, by decide⟩, w_in 1023 (by decide +kernel) rfl, w_se 48 (by decide +kernel) rfl, _, rfl, rfl⟩
theorem v_Mo_toFront : ax_V m_Mo_toFront 1 11 := ⟨⟨w_in 1028 (by decide +kernel) rfl, w_in 13 (by decide +kernel) rfl, by decide, by decide, by decide +kernel, by decide⟩, w_in 1027 (by decide +kernel) rfl, w_se 49 (by decide +kernel) rfl, _, rfl, rfl⟩
theorem v_Mo_putNoughts : ax_V m_Mo_putNoughts 1 11 := ⟨⟨w_in 1032 (by decide +kernel) rfl, w_in 13 (by decide +kernel) rfl, by decide, by decide, by decide +kernel, by decide⟩, w_in 1031 (by decide +kernel) rfl, w_se 50 (by decide +kernel) rfl, _, rfl, rfl⟩
theorem v_Mo_join : ax_V m_Mo_join 1 11 := ⟨⟨w_in 1044 (by decide +kernel) rfl, w_in 13 (by decide +kernel) rfl, by decide, by decide, by decide +kernel, by decide⟩, w_in 1043 (by decide +kernel) rfl, w_se 52 (by decide +kernel) rfl, _, rfl, rfl⟩
theorem v_Mo_makeCodes : ax_V m_Mo_makeCodes 1 11 := ⟨⟨w_in 1052 (by decide +kernel) rfl, w_in 13 (by decide +kernel) rfl, by decide, by decide, by decide +kernel, by decide⟩, w_in 1051 (by decide +kernel) rfl, w_se 54 (by decide +kernel) rfl, _, rfl, rfl⟩
theorem v_Mo_lightest : ax_V m_Mo_lightest 2 11 := ⟨⟨w_in 1048 (by decide +kernel) rfl, w_in 13 (by decide +kernel) rfl, by decide, by decide, by decide +kernel, by decide⟩, w_in 1047 (by decide +kernel) rfl, w_se 53 (by decide +kernel) rfl, _, rfl, rfl⟩
theorem v_Mo_makeSymbols : ax_V m_Mo_makeSymbols 0 11 := ⟨⟨w_in 1020 (by decide +kernel) rfl, w_in 13 (by decide +kernel) rfl, by decide, by decide, by decide +kernel, by decide⟩, w_in 1019 (by decide +kernel) rfl, w_se 47 (by decide +kernel) rfl, _, rfl, rfl⟩
theorem v_Mo_makeLengths : ax_V m_Mo_makeLengths 0 11 := ⟨⟨w_in 1040 (by decide +kernel) rfl, w_in 13 (by decide +kernel) rfl, by decide, by decide, by decide +kernel, by decide⟩, w_in 1039 (by decide +kernel) rfl, w_se 51 (by decide +kernel) rfl, _, rfl, rfl⟩
theorem v_Mo_put : ax_V m_Mo_put 2 11 := ⟨⟨w_in 1070 (by decide +kernel) rfl, w_in 13 (by decide +kernel) rfl, by decide, by decide, by decide +kernel, by decide⟩, w_in 1069 (by decide +kernel) rfl, w_se 55 (by decide +kernel) rfl, _, rfl, rfl⟩
theorem v_Mo_check : ax_V m_Mo_check 0 11 := ⟨⟨w_in 1060 (by decide +kernel) rfl, w_in 13 (by decide +kernel) rfl, by decide, by decide, by decide +kernel, by decide⟩, w_in 1058 (by decide +kernel) rfl, w_in 1059 (by decide +kernel) rfl, _, rfl, rfl⟩
theorem v_Mo_writeRow : ax_V m_Mo_writeRow 0 11 := ⟨⟨w_in 1076 (by decide +kernel) rfl, w_in 13 (by decide +kernel) rfl, by decide, by decide, by decide +kernel, by decide⟩, w_in 1075 (by decide +kernel) rfl, w_se 56 (by decide +kernel) rfl, _, rfl, rfl⟩
theorem v_Mo_wrong : ax_V m_Mo_wrong 2 11 := ⟨⟨w_in 1114 (by decide +kernel) rfl, w_in 13 (by decide +kernel) rfl, by decide, by decide, by decide +kernel, by decide⟩, w_in 1113 (by decide +kernel) rfl, w_se 59 (by decide +kernel) rfl, _, rfl, rfl⟩
theorem v_Mo_get : ax_V m_Mo_get 1 11 := ⟨⟨w_in 1110 (by decide +kernel) rfl, w_in 13 (by decide +kernel) rfl, by decide, by decide, by decide +kernel, by decide⟩, w_in 1109 (by decide +kernel) rfl, w_se 58 (by decide +kernel) rfl, _, rfl, rfl⟩
theorem v_Mo_readsSymbol : ax_V m_Mo_readsSymbol 0 11 := ⟨⟨w_in 1132 (by decide +kernel) rfl, w_in 13 (by decide +kernel) rfl, by decide, by decide, by decide +kernel, by decide⟩, w_in 1131 (by decide +kernel) rfl, w_se 63 (by decide +kernel) rfl, _, rfl, rfl⟩
theorem v_Mo_reads : ax_V m_Mo_reads 0 11 := ⟨⟨w_in 1106 (by decide +kernel) rfl, w_in 13 (by decide +kernel) rfl, by decide, by decide, by decide +kernel, by decide⟩, w_in 1105 (by decide +kernel) rfl, w_se 57 (by decide +kernel) rfl, _, rfl, rfl⟩
theorem v_Mo_readsList : ax_V m_Mo_readsList 0 11 := ⟨⟨w_in 1118 (by decide +kernel) rfl, w_in 13 (by decide +kernel) rfl, by decide, by decide, by decide +kernel, by decide⟩, w_in 1117 (by decide +kernel) rfl, w_se 60 (by decide +kernel) rfl, _, rfl, rfl⟩
theorem v_Mo_readsLengths : ax_V m_Mo_readsLengths 0 11 := ⟨⟨w_in 1122 (by decide +kernel) rfl, w_in 13 (by decide +kernel) rfl, by decide, by decide, by decide +kernel, by decide⟩, w_in 1121 (by decide +kernel) rfl, w_se 61 (by decide +kernel) rfl, _, rfl, rfl⟩
theorem v_Mo_readsRow : ax_V m_Mo_readsRow 1 11 := ⟨⟨w_in 1128 (by decide +kernel) rfl, w_in 13 (by decide +kernel) rfl, by decide, by decide, by decide +kernel, by decide⟩, w_in 1127 (by decide +kernel) rfl, w_se 62 (by decide +kernel) rfl, _, rfl, rfl⟩
theorem v_Mo_unpacks : ax_V m_Mo_unpacks 0 11 := ⟨⟨w_in 1136 (by decide +kernel) rfl, w_in 13 (by decide +kernel) rfl, by decide, by decide, by decide +kernel, by decide⟩, w_in 1135 (by decide +kernel) rfl, w_se 64 (by decide +kernel) rfl, _, rfl, rfl⟩
theorem i_Tu_init : ax_I m_Tu_init 0 := ⟨⟨w_in 59 (by decide +kernel) rfl, w_in 5 (by decide +kernel) rfl, by decide, by decide, by decide +kernel, by decide⟩, rfl, rfl, w_in 58 (by decide +kernel) rfl⟩
theorem i_Ch_init : ax_I m_Ch_init 0 := ⟨⟨w_in 99 (by decide +kernel) rfl, w_in 6 (by decide +kernel) rfl, by decide, by decide, by decide +kernel, by decide⟩, rfl, rfl, w_in 98 (by decide +kernel) rfl⟩
theorem i_Sy_init : ax_I m_Sy_init 0 := ⟨⟨w_in 115 (by decide +kernel) rfl, w_in 7 (by decide +kernel) rfl, by decide, by decide, by decide +kernel, by decide⟩, rfl, rfl, w_in 114 (by decide +kernel) rfl⟩
theorem i_Cd_init : ax_I m_Cd_init 0 := ⟨⟨w_in 156 (by decide +kernel) rfl, w_in 9 (by decide +kernel) rfl, by decide, by decide, by decide +kernel, by decide⟩, rfl, rfl, w_in 155 (by decide +kernel) rfl⟩
theorem v_Ch_follow : ax_V m_Ch_follow 3 2 := ⟨⟨w_in 496 (by decide +kernel) rfl, w_in 6 (by decide +kernel) rfl, by decide, by decide, by decide +kernel, by decide⟩, w_in 494 (by decide +kernel) rfl, w_in 495 (by decide +kernel) rfl, _, rfl, rfl⟩
theorem v_Rw_isLike : ax_V m_Rw_isLike 1 6 := ⟨⟨w_in 503 (by decide +kernel) rfl, w_in 2 (by decide +kernel) rfl, by decide, by decide, by decide +kernel, by decide⟩, w_in 501 (by decide +kernel) rfl, w_in 502 (by decide +kernel) rfl, _, rfl, rfl⟩
theorem s_S_unpackInto : ax_S m_S_unpackInto 2 := ⟨⟨w_in 792 (by decide +kernel) rfl, w_in 1 (by decide +kernel) rfl, by decide, by decide, by decide +kernel, by decide⟩, w_in 791 (by decide +kernel) rfl⟩
theorem s_Ar_fill : ax_S m_Ar_fill 2 := ⟨⟨w_in 491 (by decide +kernel) rfl, w_in 15 (by decide +kernel) rfl, by decide, by decide, by decide +kernel, by decide⟩, w_in 490 (by decide +kernel) rfl⟩
theorem i_Jn_init : ax_I m_Jn_init 0 := ⟨⟨w_in 162 (by decide +kernel) rfl, w_in 10 (by decide +kernel) rfl, by decide, by decide, by decide +kernel, by decide⟩, rfl, rfl, w_in 161 (by decide +kernel) rfl⟩
theorem v_Cd_weigh : ax_V m_Cd_weigh 1 3 := ⟨⟨w_in 562 (by decide +kernel) rfl, w_in 9 (by decide +kernel) rfl, by decide, by decide, by decide +kernel, by decide⟩, w_in 561 (by decide +kernel) rfl, w_se 14 (by decide +kernel) rfl, _, rfl, rfl⟩
theorem v_Jn_findLengths : ax_V m_Jn_findLengths 3 5 := ⟨⟨w_in 576 (by decide +kernel) rfl, w_in 10 (by decide +kernel) rfl, by decide, by decide, by decide +kernel, by decide⟩, w_in 574 (by decide +kernel) rfl, w_in 575 (by decide +kernel) rfl, _, rfl, rfl⟩
theorem v_Cd_arrange : ax_V m_Cd_arrange 0 3 := ⟨⟨w_in 598 (by decide +kernel) rfl, w_in 9 (by decide +kernel) rfl, by decide, by decide, by decide +kernel, by decide⟩, w_in 596 (by decide +kernel) rfl, w_in 597 (by decide +kernel) rfl, _, rfl, rfl⟩
theorem v_Jn_push : ax_V m_Jn_push 1 5 := ⟨⟨w_in 580 (by decide +kernel) rfl, w_in 10 (by decide +kernel) rfl, by decide, by decide, by decide +kernel, by decide⟩, w_in 579 (by decide +kernel) rfl, w_se 15 (by decide +kernel) rfl, _, rfl, rfl⟩
theorem v_Jn_joinTwo : ax_V m_Jn_joinTwo 1 5 := ⟨⟨w_in 584 (by decide +kernel) rfl, w_in 10 (by decide +kernel) rfl, by decide, by decide, by decide +kernel, by decide⟩, w_in 583 (by decide +kernel) rfl, w_se 16 (by decide +kernel) rfl, _, rfl, rfl⟩
theorem v_Jn_measureDepths : ax_V m_Jn_measureDepths 3 5 := ⟨⟨w_in 593 (by decide +kernel) rfl, w_in 10 (by decide +kernel) rfl, by decide, by decide, by decide +kernel, by decide⟩, w_in 592 (by decide +kernel) rfl, w_se 18 (by decide +kernel) rfl, _, rfl, rfl⟩
theorem v_Jn_pop : ax_V m_Jn_pop 0 5 := ⟨⟨w_in 588 (by decide +kernel) rfl, w_in 10 (by decide +kernel) rfl, by decide, by decide, by decide +kernel, by decide⟩, w_in 587 (by decide +kernel) rfl, w_se 17 (by decide +kernel) rfl, _, rfl, rfl⟩
theorem v_Sr_readHead : ax_V m_Sr_readHead 0 7 := ⟨⟨w_in 701 (by decide +kernel) rfl, w_in 12 (by decide +kernel) rfl, by decide, by decide, by decide +kernel, by decide⟩, w_in 700 (by decide +kernel) rfl, w_se 23 (by decide +kernel) rfl, _, rfl, rfl⟩
theorem v_Sr_readList : ax_V m_Sr_readList 1 7 := ⟨⟨w_in 726 (by decide +kernel) rfl, w_in 12 (by decide +kernel) rfl, by decide, by decide, by decide +kernel, by decide⟩, w_in 725 (by decide +kernel) rfl, w_se 29 (by decide +kernel) rfl, _, rfl, rfl⟩
theorem v_Sr_readLengths : ax_V m_Sr_readLengths 2 7 := ⟨⟨w_in 745 (by decide +kernel) rfl, w_in 12 (by decide +kernel) rfl, by decide, by decide, by decide +kernel, by decide⟩, w_in 744 (by decide +kernel) rfl, w_se 31 (by decide +kernel) rfl, _, rfl, rfl⟩
theorem v_Sr_readSymbols : ax_V m_Sr_readSymbols 2 7 := ⟨⟨w_in 769 (by decide +kernel) rfl, w_in 12 (by decide +kernel) rfl, by decide, by decide, by decide +kernel, by decide⟩, w_in 768 (by decide +kernel) rfl, w_se 33 (by decide +kernel) rfl, _, rfl, rfl⟩
theorem v_Sr_isGivenBack : ax_V m_Sr_isGivenBack 1 7 := ⟨⟨w_in 784 (by decide +kernel) rfl, w_in 12 (by decide +kernel) rfl, by decide, by decide, by decide +kernel, by decide⟩, w_in 783 (by decide +kernel) rfl, w_se 35 (by decide +kernel) rfl, _, rfl, rfl⟩
theorem v_Sr_isAtEnd : ax_V m_Sr_isAtEnd 0 7 := ⟨⟨w_in 798 (by decide +kernel) rfl, w_in 12 (by decide +kernel) rfl, by decide, by decide, by decide +kernel, by decide⟩, w_in 797 (by decide +kernel) rfl, w_se 36 (by decide +kernel) rfl, _, rfl, rfl⟩
theorem v_Sr_fails : ax_V m_Sr_fails 2 7 := ⟨⟨w_in 713 (by decide +kernel) rfl, w_in 12 (by decide +kernel) rfl, by decide, by decide, by decide +kernel, by decide⟩, w_in 712 (by decide +kernel) rfl, w_se 26 (by decide +kernel) rfl, _, rfl, rfl⟩
theorem v_Sr_lacks : ax_V m_Sr_lacks 1 7 := ⟨⟨w_in 705 (by decide +kernel) rfl, w_in 12 (by decide +kernel) rfl, by decide, by decide, by decide +kernel, by decide⟩, w_in 704 (by decide +kernel) rfl, w_se 24 (by decide +kernel) rfl, _, rfl, rfl⟩
theorem v_Sr_byteNow : ax_V m_Sr_byteNow 0 7 := ⟨⟨w_in 721 (by decide +kernel) rfl, w_in 12 (by decide +kernel) rfl, by decide, by decide, by decide +kernel, by decide⟩, w_in 720 (by decide +kernel) rfl, w_se 28 (by decide +kernel) rfl, _, rfl, rfl⟩
theorem v_Sr_tapeEnds : ax_V m_Sr_tapeEnds 0 7 := ⟨⟨w_in 709 (by decide +kernel) rfl, w_in 12 (by decide +kernel) rfl, by decide, by decide, by decide +kernel, by decide⟩, w_in 708 (by decide +kernel) rfl, w_se 25 (by decide +kernel) rfl, _, rfl, rfl⟩
theorem v_Sr_next : ax_V m_Sr_next 1 7 := ⟨⟨w_in 717 (by decide +kernel) rfl, w_in 12 (by decide +kernel) rfl, by decide, by decide, by decide +kernel, by decide⟩, w_in 716 (by decide +kernel) rfl, w_se 27 (by decide +kernel) rfl, _, rfl, rfl⟩
theorem v_Fl_makeEmpty : ax_V m_Fl_makeEmpty 0 4 := ⟨⟨w_in 730 (by decide +kernel) rfl, w_in 8 (by decide +kernel) rfl, by decide, by decide, by decide +kernel, by decide⟩, w_in 728 (by decide +kernel) rfl, w_in 729 (by decide +kernel) rfl, _, rfl, rfl⟩
theorem s_Sr_isMarked : ax_S m_Sr_isMarked 2 := ⟨⟨w_in 733 (by decide +kernel) rfl, w_in 12 (by decide +kernel) rfl, by decide, by decide, by decide +kernel, by decide⟩, w_in 732 (by decide +kernel) rfl⟩
theorem v_Sr_readSixteenth : ax_V m_Sr_readSixteenth 2 7 := ⟨⟨w_in 737 (by decide +kernel) rfl, w_in 12 (by decide +kernel) rfl, by decide, by decide, by decide +kernel, by decide⟩, w_in 736 (by decide +kernel) rfl, w_se 30 (by decide +kernel) rfl, _, rfl, rfl⟩
theorem v_Fl_add : ax_V m_Fl_add 1 4 := ⟨⟨w_in 741 (by decide +kernel) rfl, w_in 8 (by decide +kernel) rfl, by decide, by decide, by decide +kernel, by decide⟩, w_in 739 (by decide +kernel) rfl, w_in 740 (by decide +kernel) rfl, _, rfl, rfl⟩
theorem s_Sr_isNoLength : ax_S m_Sr_isNoLength 1 := ⟨⟨w_in 748 (by decide +kernel) rfl, w_in 12 (by decide +kernel) rfl, by decide, by decide, by decide +kernel, by decide⟩, w_in 747 (by decide +kernel) rfl⟩
theorem v_Cd_beginLengths : ax_V m_Cd_beginLengths 1 3 := ⟨⟨w_in 752 (by decide +kernel) rfl, w_in 9 (by decide +kernel) rfl, by decide, by decide, by decide +kernel, by decide⟩, w_in 750 (by decide +kernel) rfl, w_in 751 (by decide +kernel) rfl, _, rfl, rfl⟩
theorem v_Sr_readLength : ax_V m_Sr_readLength 2 7 := ⟨⟨w_in 756 (by decide +kernel) rfl, w_in 12 (by decide +kernel) rfl, by decide, by decide, by decide +kernel, by decide⟩, w_in 755 (by decide +kernel) rfl, w_se 32 (by decide +kernel) rfl, _, rfl, rfl⟩
theorem v_Cd_areWhole : ax_V m_Cd_areWhole 0 3 := ⟨⟨w_in 765 (by decide +kernel) rfl, w_in 9 (by decide +kernel) rfl, by decide, by decide, by decide +kernel, by decide⟩, w_in 763 (by decide +kernel) rfl, w_in 764 (by decide +kernel) rfl, _, rfl, rfl⟩
theorem v_Cd_setLength : ax_V m_Cd_setLength 2 3 := ⟨⟨w_in 760 (by decide +kernel) rfl, w_in 9 (by decide +kernel) rfl, by decide, by decide, by decide +kernel, by decide⟩, w_in 758 (by decide +kernel) rfl, w_in 759 (by decide +kernel) rfl, _, rfl, rfl⟩
theorem v_Sr_nextSymbol : ax_V m_Sr_nextSymbol 1 7 := ⟨⟨w_in 773 (by decide +kernel) rfl, w_in 12 (by decide +kernel) rfl, by decide, by decide, by decide +kernel, by decide⟩, w_in 772 (by decide +kernel) rfl, w_se 34 (by decide +kernel) rfl, _, rfl, rfl⟩
theorem v_Fl_bringToFront : ax_V m_Fl_bringToFront 1 4 := ⟨⟨w_in 553 (by decide +kernel) rfl, w_in 8 (by decide +kernel) rfl, by decide, by decide, by decide +kernel, by decide⟩, w_in 551 (by decide +kernel) rfl, w_in 552 (by decide +kernel) rfl, _, rfl, rfl⟩
theorem v_Fl_at : ax_V m_Fl_at 1 4 := ⟨⟨w_in 649 (by decide +kernel) rfl, w_in 8 (by decide +kernel) rfl, by decide, by decide, by decide +kernel, by decide⟩, w_in 647 (by decide +kernel) rfl, w_in 648 (by decide +kernel) rfl, _, rfl, rfl⟩
theorem v_Cd_symbolAt : ax_V m_Cd_symbolAt 1 3 := ⟨⟨w_in 777 (by decide +kernel) rfl, w_in 9 (by decide +kernel) rfl, by decide, by decide, by decide +kernel, by decide⟩, w_in 775 (by decide +kernel) rfl, w_in 776 (by decide +kernel) rfl, _, rfl, rfl⟩
theorem v_Bn_unpackGiven : ax_V m_Bn_unpackGiven 0 1 := ⟨⟨w_in 789 (by decide +kernel) rfl, w_in 4 (by decide +kernel) rfl, by decide, by decide, by decide +kernel, by decide⟩, w_in 787 (by decide +kernel) rfl, w_in 788 (by decide +kernel) rfl, _, rfl, rfl⟩
theorem v_Sw_put : ax_V m_Sw_put 2 8 := ⟨⟨w_in 634 (by decide +kernel) rfl, w_in 11 (by decide +kernel) rfl, by decide, by decide, by decide +kernel, by decide⟩, w_in 633 (by decide +kernel) rfl, w_se 19 (by decide +kernel) rfl, _, rfl, rfl⟩
theorem v_Sw_putList : ax_V m_Sw_putList 1 8 := ⟨⟨w_in 642 (by decide +kernel) rfl, w_in 11 (by decide +kernel) rfl, by decide, by decide, by decide +kernel, by decide⟩, w_in 641 (by decide +kernel) rfl, w_se 20 (by decide +kernel) rfl, _, rfl, rfl⟩
theorem v_Sw_putLengths : ax_V m_Sw_putLengths 1 8 := ⟨⟨w_in 656 (by decide +kernel) rfl, w_in 11 (by decide +kernel) rfl, by decide, by decide, by decide +kernel, by decide⟩, w_in 655 (by decide +kernel) rfl, w_se 21 (by decide +kernel) rfl, _, rfl, rfl⟩
theorem v_Sw_putCodes : ax_V m_Sw_putCodes 2 8 := ⟨⟨w_in 661 (by decide +kernel) rfl, w_in 11 (by decide +kernel) rfl, by decide, by decide, by decide +kernel, by decide⟩, w_in 660 (by decide +kernel) rfl, w_se 22 (by decide +kernel) rfl, _, rfl, rfl⟩
theorem s_Sw_marksIn : ax_S m_Sw_marksIn 2 := ⟨⟨w_in 645 (by decide +kernel) rfl, w_in 11 (by decide +kernel) rfl, by decide, by decide, by decide +kernel, by decide⟩, w_in 644 (by decide +kernel) rfl⟩
theorem s_Sw_markOf : ax_S m_Sw_markOf 1 := ⟨⟨w_in 652 (by decide +kernel) rfl, w_in 11 (by decide +kernel) rfl, by decide, by decide, by decide +kernel, by decide⟩, w_in 651 (by decide +kernel) rfl⟩
theorem i_Fl_init : ax_I m_Fl_init 0 := ⟨⟨w_in 121 (by decide +kernel) rfl, w_in 8 (by decide +kernel) rfl, by decide, by decide, by decide +kernel, by decide⟩, rfl, rfl, w_in 120 (by decide +kernel) rfl⟩
theorem v_Fl_listBytes : ax_V m_Fl_listBytes 1 4 := ⟨⟨w_in 534 (by decide +kernel) rfl, w_in 8 (by decide +kernel) rfl, by decide, by decide, by decide +kernel, by decide⟩, w_in 532 (by decide +kernel) rfl, w_in 533 (by decide +kernel) rfl, _, rfl, rfl⟩
theorem v_Fl_placeOf : ax_V m_Fl_placeOf 1 4 := ⟨⟨w_in 541 (by decide +kernel) rfl, w_in 8 (by decide +kernel) rfl, by decide, by decide, by decide +kernel, by decide⟩, w_in 539 (by decide +kernel) rfl, w_in 540 (by decide +kernel) rfl, _, rfl, rfl⟩
theorem v_Sy_addDigits : ax_V m_Sy_addDigits 1 9 := ⟨⟨w_in 545 (by decide +kernel) rfl, w_in 7 (by decide +kernel) rfl, by decide, by decide, by decide +kernel, by decide⟩, w_in 544 (by decide +kernel) rfl, w_se 12 (by decide +kernel) rfl, _, rfl, rfl⟩
theorem v_Sy_addSymbol : ax_V m_Sy_addSymbol 1 9 := ⟨⟨w_in 549 (by decide +kernel) rfl, w_in 7 (by decide +kernel) rfl, by decide, by decide, by decide +kernel, by decide⟩, w_in 548 (by decide +kernel) rfl, w_se 13 (by decide +kernel) rfl, _, rfl, rfl⟩
theorem v_Tu_lineUp : ax_V m_Tu_lineUp 0 10 := ⟨⟨w_in 414 (by decide +kernel) rfl, w_in 5 (by decide +kernel) rfl, by decide, by decide, by decide +kernel, by decide⟩, w_in 413 (by decide +kernel) rfl, w_se 4 (by decide +kernel) rfl, _, rfl, rfl⟩
theorem v_Tu_sortByRank : ax_V m_Tu_sortByRank 0 10 := ⟨⟨w_in 418 (by decide +kernel) rfl, w_in 5 (by decide +kernel) rfl, by decide, by decide, by decide +kernel, by decide⟩, w_in 417 (by decide +kernel) rfl, w_se 5 (by decide +kernel) rfl, _, rfl, rfl⟩
theorem v_Tu_numberRanks : ax_V m_Tu_numberRanks 1 10 := ⟨⟨w_in 422 (by decide +kernel) rfl, w_in 5 (by decide +kernel) rfl, by decide, by decide, by decide +kernel, by decide⟩, w_in 421 (by decide +kernel) rfl, w_se 6 (by decide +kernel) rfl, _, rfl, rfl⟩
theorem v_Tu_shift : ax_V m_Tu_shift 1 10 := ⟨⟨w_in 433 (by decide +kernel) rfl, w_in 5 (by decide +kernel) rfl, by decide, by decide, by decide +kernel, by decide⟩, w_in 432 (by decide +kernel) rfl, w_se 8 (by decide +kernel) rfl, _, rfl, rfl⟩
theorem v_Tu_notePlaces : ax_V m_Tu_notePlaces 1 10 := ⟨⟨w_in 437 (by decide +kernel) rfl, w_in 5 (by decide +kernel) rfl, by decide, by decide, by decide +kernel, by decide⟩, w_in 436 (by decide +kernel) rfl, w_se 9 (by decide +kernel) rfl, _, rfl, rfl⟩
theorem v_Tu_around : ax_V m_Tu_around 1 10 := ⟨⟨w_in 426 (by decide +kernel) rfl, w_in 5 (by decide +kernel) rfl, by decide, by decide, by decide +kernel, by decide⟩, w_in 425 (by decide +kernel) rfl, w_se 7 (by decide +kernel) rfl, _, rfl, rfl⟩
theorem i_S_init : ax_I m_S_init 0 := ⟨⟨w_in 20 (by decide +kernel) rfl, w_in 1 (by decide +kernel) rfl, by decide, by decide, by decide +kernel, by decide⟩, rfl, rfl, w_in 19 (by decide +kernel) rfl⟩
theorem i_Mo_init : ax_I m_Mo_init 0 := ⟨⟨w_in 811 (by decide +kernel) rfl, w_in 13 (by decide +kernel) rfl, by decide, by decide, by decide +kernel, by decide⟩, rfl, rfl, w_in 810 (by decide +kernel) rfl⟩
theorem v_S_feed : ax_V m_S_feed 2 0 := ⟨⟨w_in 326 (by decide +kernel) rfl, w_in 1 (by decide +kernel) rfl, by decide, by decide, by decide +kernel, by decide⟩, w_in 324 (by decide +kernel) rfl, w_in 325 (by decide +kernel) rfl, _, rfl, rfl⟩
theorem v_Mo_feed : ax_V m_Mo_feed 2 11 := ⟨⟨w_in 912 (by decide +kernel) rfl, w_in 13 (by decide +kernel) rfl, by decide, by decide, by decide +kernel, by decide⟩, w_in 910 (by decide +kernel) rfl, w_in 911 (by decide +kernel) rfl, _, rfl, rfl⟩
theorem v_S_fill : ax_V m_S_fill 2 0 := ⟨⟨w_in 352 (by decide +kernel) rfl, w_in 1 (by decide +kernel) rfl, by decide, by decide, by decide +kernel, by decide⟩, w_in 350 (by decide +kernel) rfl, w_in 351 (by decide +kernel) rfl, _, rfl, rfl⟩
theorem v_Mo_fill : ax_V m_Mo_fill 2 11 := ⟨⟨w_in 921 (by decide +kernel) rfl, w_in 13 (by decide +kernel) rfl, by decide, by decide, by decide +kernel, by decide⟩, w_in 919 (by decide +kernel) rfl, w_in 920 (by decide +kernel) rfl, _, rfl, rfl⟩
theorem v_S_clear : ax_V m_S_clear 0 0 := ⟨⟨w_in 364 (by decide +kernel) rfl, w_in 1 (by decide +kernel) rfl, by decide, by decide, by decide +kernel, by decide⟩, w_in 362 (by decide +kernel) rfl, w_in 363 (by decide +kernel) rfl, _, rfl, rfl⟩
theorem v_Mo_clear : ax_V m_Mo_clear 0 11 := ⟨⟨w_in 926 (by decide +kernel) rfl, w_in 13 (by decide +kernel) rfl, by decide, by decide, by decide +kernel, by decide⟩, w_in 924 (by decide +kernel) rfl, w_in 925 (by decide +kernel) rfl, _, rfl, rfl⟩
theorem v_S_octet : ax_V m_S_octet 1 0 := ⟨⟨w_in 372 (by decide +kernel) rfl, w_in 1 (by decide +kernel) rfl, by decide, by decide, by decide +kernel, by decide⟩, w_in 370 (by decide +kernel) rfl, w_in 371 (by decide +kernel) rfl, _, rfl, rfl⟩
theorem v_Mo_octet : ax_V m_Mo_octet 1 11 := ⟨⟨w_in 930 (by decide +kernel) rfl, w_in 13 (by decide +kernel) rfl, by decide, by decide, by decide +kernel, by decide⟩, w_in 928 (by decide +kernel) rfl, w_in 929 (by decide +kernel) rfl, _, rfl, rfl⟩
theorem v_S_pack : ax_V m_S_pack 0 0 := ⟨⟨w_in 380 (by decide +kernel) rfl, w_in 1 (by decide +kernel) rfl, by decide, by decide, by decide +kernel, by decide⟩, w_in 378 (by decide +kernel) rfl, w_in 379 (by decide +kernel) rfl, _, rfl, rfl⟩
theorem v_Mo_pack : ax_V m_Mo_pack 0 11 := ⟨⟨w_in 934 (by decide +kernel) rfl, w_in 13 (by decide +kernel) rfl, by decide, by decide, by decide +kernel, by decide⟩, w_in 932 (by decide +kernel) rfl, w_in 933 (by decide +kernel) rfl, _, rfl, rfl⟩
theorem v_S_packed : ax_V m_S_packed 1 0 := ⟨⟨w_in 394 (by decide +kernel) rfl, w_in 1 (by decide +kernel) rfl, by decide, by decide, by decide +kernel, by decide⟩, w_in 392 (by decide +kernel) rfl, w_in 393 (by decide +kernel) rfl, _, rfl, rfl⟩
theorem v_Mo_packed : ax_V m_Mo_packed 1 11 := ⟨⟨w_in 942 (by decide +kernel) rfl, w_in 13 (by decide +kernel) rfl, by decide, by decide, by decide +kernel, by decide⟩, w_in 940 (by decide +kernel) rfl, w_in 941 (by decide +kernel) rfl, _, rfl, rfl⟩
theorem v_S_order : ax_V m_S_order 1 0 := ⟨⟨w_in 398 (by decide +kernel) rfl, w_in 1 (by decide +kernel) rfl, by decide, by decide, by decide +kernel, by decide⟩, w_in 396 (by decide +kernel) rfl, w_in 397 (by decide +kernel) rfl, _, rfl, rfl⟩
theorem v_Mo_order : ax_V m_Mo_order 1 11 := ⟨⟨w_in 946 (by decide +kernel) rfl, w_in 13 (by decide +kernel) rfl, by decide, by decide, by decide +kernel, by decide⟩, w_in 944 (by decide +kernel) rfl, w_in 945 (by decide +kernel) rfl, _, rfl, rfl⟩
theorem v_S_last : ax_V m_S_last 1 0 := ⟨⟨w_in 447 (by decide +kernel) rfl, w_in 1 (by decide +kernel) rfl, by decide, by decide, by decide +kernel, by decide⟩, w_in 445 (by decide +kernel) rfl, w_in 446 (by decide +kernel) rfl, _, rfl, rfl⟩
theorem v_Mo_last : ax_V m_Mo_last 1 11 := ⟨⟨w_in 974 (by decide +kernel) rfl, w_in 13 (by decide +kernel) rfl, by decide, by decide, by decide +kernel, by decide⟩, w_in 972 (by decide +kernel) rfl, w_in 973 (by decide +kernel) rfl, _, rfl, rfl⟩
theorem v_S_origin : ax_V m_S_origin 0 0 := ⟨⟨w_in 451 (by decide +kernel) rfl, w_in 1 (by decide +kernel) rfl, by decide, by decide, by decide +kernel, by decide⟩, w_in 449 (by decide +kernel) rfl, w_in 450 (by decide +kernel) rfl, _, rfl, rfl⟩
theorem v_Mo_origin : ax_V m_Mo_origin 0 11 := ⟨⟨w_in 978 (by decide +kernel) rfl, w_in 13 (by decide +kernel) rfl, by decide, by decide, by decide +kernel, by decide⟩, w_in 976 (by decide +kernel) rfl, w_in 977 (by decide +kernel) rfl, _, rfl, rfl⟩
theorem v_S_rounds : ax_V m_S_rounds 0 0 := ⟨⟨w_in 459 (by decide +kernel) rfl, w_in 1 (by decide +kernel) rfl, by decide, by decide, by decide +kernel, by decide⟩, w_in 457 (by decide +kernel) rfl, w_in 458 (by decide +kernel) rfl, _, rfl, rfl⟩
theorem v_Mo_rounds : ax_V m_Mo_rounds 0 11 := ⟨⟨w_in 982 (by decide +kernel) rfl, w_in 13 (by decide +kernel) rfl, by decide, by decide, by decide +kernel, by decide⟩, w_in 980 (by decide +kernel) rfl, w_in 981 (by decide +kernel) rfl, _, rfl, rfl⟩
theorem v_S_start : ax_V m_S_start 2 0 := ⟨⟨w_in 463 (by decide +kernel) rfl, w_in 1 (by decide +kernel) rfl, by decide, by decide, by decide +kernel, by decide⟩, w_in 461 (by decide +kernel) rfl, w_in 462 (by decide +kernel) rfl, _, rfl, rfl⟩
theorem v_Mo_start : ax_V m_Mo_start 2 11 := ⟨⟨w_in 986 (by decide +kernel) rfl, w_in 13 (by decide +kernel) rfl, by decide, by decide, by decide +kernel, by decide⟩, w_in 984 (by decide +kernel) rfl, w_in 985 (by decide +kernel) rfl, _, rfl, rfl⟩
theorem v_S_steps : ax_V m_S_steps 3 0 := ⟨⟨w_in 467 (by decide +kernel) rfl, w_in 1 (by decide +kernel) rfl, by decide, by decide, by decide +kernel, by decide⟩, w_in 465 (by decide +kernel) rfl, w_in 466 (by decide +kernel) rfl, _, rfl, rfl⟩
theorem v_Mo_steps : ax_V m_Mo_steps 3 11 := ⟨⟨w_in 991 (by decide +kernel) rfl, w_in 13 (by decide +kernel) rfl, by decide, by decide, by decide +kernel, by decide⟩, w_in 989 (by decide +kernel) rfl, w_in 990 (by decide +kernel) rfl, _, rfl, rfl⟩
theorem v_S_back : ax_V m_S_back 1 0 := ⟨⟨w_in 475 (by decide +kernel) rfl, w_in 1 (by decide +kernel) rfl, by decide, by decide, by decide +kernel, by decide⟩, w_in 473 (by decide +kernel) rfl, w_in 474 (by decide +kernel) rfl, _, rfl, rfl⟩
theorem v_Mo_back : ax_V m_Mo_back 1 11 := ⟨⟨w_in 996 (by decide +kernel) rfl, w_in 13 (by decide +kernel) rfl, by decide, by decide, by decide +kernel, by decide⟩, w_in 994 (by decide +kernel) rfl, w_in 995 (by decide +kernel) rfl, _, rfl, rfl⟩
theorem v_S_ring : ax_V m_S_ring 1 0 := ⟨⟨w_in 513 (by decide +kernel) rfl, w_in 1 (by decide +kernel) rfl, by decide, by decide, by decide +kernel, by decide⟩, w_in 511 (by decide +kernel) rfl, w_in 512 (by decide +kernel) rfl, _, rfl, rfl⟩
theorem v_Mo_ring : ax_V m_Mo_ring 1 11 := ⟨⟨w_in 1012 (by decide +kernel) rfl, w_in 13 (by decide +kernel) rfl, by decide, by decide, by decide +kernel, by decide⟩, w_in 1010 (by decide +kernel) rfl, w_in 1011 (by decide +kernel) rfl, _, rfl, rfl⟩
theorem v_S_symbol : ax_V m_S_symbol 1 0 := ⟨⟨w_in 522 (by decide +kernel) rfl, w_in 1 (by decide +kernel) rfl, by decide, by decide, by decide +kernel, by decide⟩, w_in 520 (by decide +kernel) rfl, w_in 521 (by decide +kernel) rfl, _, rfl, rfl⟩
theorem v_Mo_symbol : ax_V m_Mo_symbol 1 11 := ⟨⟨w_in 1016 (by decide +kernel) rfl, w_in 13 (by decide +kernel) rfl, by decide, by decide, by decide +kernel, by decide⟩, w_in 1014 (by decide +kernel) rfl, w_in 1015 (by decide +kernel) rfl, _, rfl, rfl⟩
theorem v_S_code : ax_V m_S_code 2 0 := ⟨⟨w_in 603 (by decide +kernel) rfl, w_in 1 (by decide +kernel) rfl, by decide, by decide, by decide +kernel, by decide⟩, w_in 601 (by decide +kernel) rfl, w_in 602 (by decide +kernel) rfl, _, rfl, rfl⟩
theorem v_Mo_code : ax_V m_Mo_code 2 11 := ⟨⟨w_in 1036 (by decide +kernel) rfl, w_in 13 (by decide +kernel) rfl, by decide, by decide, by decide +kernel, by decide⟩, w_in 1034 (by decide +kernel) rfl, w_in 1035 (by decide +kernel) rfl, _, rfl, rfl⟩
theorem v_S_bits : ax_V m_S_bits 0 0 := ⟨⟨w_in 616 (by decide +kernel) rfl, w_in 1 (by decide +kernel) rfl, by decide, by decide, by decide +kernel, by decide⟩, w_in 614 (by decide +kernel) rfl, w_in 615 (by decide +kernel) rfl, _, rfl, rfl⟩
theorem v_Mo_bits : ax_V m_Mo_bits 0 11 := ⟨⟨w_in 1056 (by decide +kernel) rfl, w_in 13 (by decide +kernel) rfl, by decide, by decide, by decide +kernel, by decide⟩, w_in 1054 (by decide +kernel) rfl, w_in 1055 (by decide +kernel) rfl, _, rfl, rfl⟩
theorem v_S_write : ax_V m_S_write 0 0 := ⟨⟨w_in 620 (by decide +kernel) rfl, w_in 1 (by decide +kernel) rfl, by decide, by decide, by decide +kernel, by decide⟩, w_in 618 (by decide +kernel) rfl, w_in 619 (by decide +kernel) rfl, _, rfl, rfl⟩
theorem v_Mo_write : ax_V m_Mo_write 0 11 := ⟨⟨w_in 1065 (by decide +kernel) rfl, w_in 13 (by decide +kernel) rfl, by decide, by decide, by decide +kernel, by decide⟩, w_in 1063 (by decide +kernel) rfl, w_in 1064 (by decide +kernel) rfl, _, rfl, rfl⟩
theorem v_S_out : ax_V m_S_out 1 0 := ⟨⟨w_in 667 (by decide +kernel) rfl, w_in 1 (by decide +kernel) rfl, by decide, by decide, by decide +kernel, by decide⟩, w_in 665 (by decide +kernel) rfl, w_in 666 (by decide +kernel) rfl, _, rfl, rfl⟩
theorem v_Mo_out : ax_V m_Mo_out 1 11 := ⟨⟨w_in 1082 (by decide +kernel) rfl, w_in 13 (by decide +kernel) rfl, by decide, by decide, by decide +kernel, by decide⟩, w_in 1080 (by decide +kernel) rfl, w_in 1081 (by decide +kernel) rfl, _, rfl, rfl⟩
theorem v_S_tape : ax_V m_S_tape 2 0 := ⟨⟨w_in 671 (by decide +kernel) rfl, w_in 1 (by decide +kernel) rfl, by decide, by decide, by decide +kernel, by decide⟩, w_in 669 (by decide +kernel) rfl, w_in 670 (by decide +kernel) rfl, _, rfl, rfl⟩
theorem v_Mo_tape : ax_V m_Mo_tape 2 11 := ⟨⟨w_in 1086 (by decide +kernel) rfl, w_in 13 (by decide +kernel) rfl, by decide, by decide, by decide +kernel, by decide⟩, w_in 1084 (by decide +kernel) rfl, w_in 1085 (by decide +kernel) rfl, _, rfl, rfl⟩
theorem v_S_take : ax_V m_S_take 0 0 := ⟨⟨w_in 675 (by decide +kernel) rfl, w_in 1 (by decide +kernel) rfl, by decide, by decide, by decide +kernel, by decide⟩, w_in 673 (by decide +kernel) rfl, w_in 674 (by decide +kernel) rfl, _, rfl, rfl⟩
theorem v_Mo_take : ax_V m_Mo_take 0 11 := ⟨⟨w_in 1090 (by decide +kernel) rfl, w_in 13 (by decide +kernel) rfl, by decide, by decide, by decide +kernel, by decide⟩, w_in 1088 (by decide +kernel) rfl, w_in 1089 (by decide +kernel) rfl, _, rfl, rfl⟩
theorem v_S_spoil : ax_V m_S_spoil 2 0 := ⟨⟨w_in 679 (by decide +kernel) rfl, w_in 1 (by decide +kernel) rfl, by decide, by decide, by decide +kernel, by decide⟩, w_in 677 (by decide +kernel) rfl, w_in 678 (by decide +kernel) rfl, _, rfl, rfl⟩
theorem v_Mo_spoil : ax_V m_Mo_spoil 2 11 := ⟨⟨w_in 1094 (by decide +kernel) rfl, w_in 13 (by decide +kernel) rfl, by decide, by decide, by decide +kernel, by decide⟩, w_in 1092 (by decide +kernel) rfl, w_in 1093 (by decide +kernel) rfl, _, rfl, rfl⟩
theorem v_S_cut : ax_V m_S_cut 1 0 := ⟨⟨w_in 688 (by decide +kernel) rfl, w_in 1 (by decide +kernel) rfl, by decide, by decide, by decide +kernel, by decide⟩, w_in 686 (by decide +kernel) rfl, w_in 687 (by decide +kernel) rfl, _, rfl, rfl⟩
theorem v_Mo_cut : ax_V m_Mo_cut 1 11 := ⟨⟨w_in 1098 (by decide +kernel) rfl, w_in 13 (by decide +kernel) rfl, by decide, by decide, by decide +kernel, by decide⟩, w_in 1096 (by decide +kernel) rfl, w_in 1097 (by decide +kernel) rfl, _, rfl, rfl⟩
theorem v_S_read : ax_V m_S_read 0 0 := ⟨⟨w_in 692 (by decide +kernel) rfl, w_in 1 (by decide +kernel) rfl, by decide, by decide, by decide +kernel, by decide⟩, w_in 690 (by decide +kernel) rfl, w_in 691 (by decide +kernel) rfl, _, rfl, rfl⟩
theorem v_Mo_read : ax_V m_Mo_read 0 11 := ⟨⟨w_in 1102 (by decide +kernel) rfl, w_in 13 (by decide +kernel) rfl, by decide, by decide, by decide +kernel, by decide⟩, w_in 1100 (by decide +kernel) rfl, w_in 1101 (by decide +kernel) rfl, _, rfl, rfl⟩
theorem v_S_faultAt : ax_V m_S_faultAt 0 0 := ⟨⟨w_in 802 (by decide +kernel) rfl, w_in 1 (by decide +kernel) rfl, by decide, by decide, by decide +kernel, by decide⟩, w_in 800 (by decide +kernel) rfl, w_in 801 (by decide +kernel) rfl, _, rfl, rfl⟩
theorem v_Mo_faultAt : ax_V m_Mo_faultAt 0 11 := ⟨⟨w_in 1140 (by decide +kernel) rfl, w_in 13 (by decide +kernel) rfl, by decide, by decide, by decide +kernel, by decide⟩, w_in 1138 (by decide +kernel) rfl, w_in 1139 (by decide +kernel) rfl, _, rfl, rfl⟩
theorem v_S_check : ax_V m_S_check 0 0 := ⟨⟨w_in 806 (by decide +kernel) rfl, w_in 1 (by decide +kernel) rfl, by decide, by decide, by decide +kernel, by decide⟩, w_in 804 (by decide +kernel) rfl, w_in 805 (by decide +kernel) rfl, _, rfl, rfl⟩
theorem lk_S_3 : Cond.methodLink n_S 3 Lib.objectInit ∈ ax_all := w_in 21 (by decide +kernel) rfl
theorem lk_S_11 : ax_lk n_S 11 m_Rw_init.1 := Or.inl (w_in 26 (by decide +kernel) rfl)
theorem lk_S_23 : ax_lk n_S 23 m_Bn_init.1 := Or.inr ⟨"SortTransform", w_nt 51 (by decide +kernel) rfl⟩
theorem lk_S_30 : ax_lk n_S 30 m_Sw_init.1 := Or.inr ⟨"SortTransform", w_nt 242 (by decide +kernel) rfl⟩
theorem lk_S_37 : ax_lk n_S 37 m_Sr_init.1 := Or.inr ⟨"SortTransform", w_nt 261 (by decide +kernel) rfl⟩
theorem lk_S_42 : ax_lk n_S 42 m_S_addLowest.1 := Or.inl (w_in 327 (by decide +kernel) rfl)
theorem lk_S_46 : ax_lk n_S 46 m_S_blockChanged.1 := Or.inl (w_in 341 (by decide +kernel) rfl)
theorem lk_S_49 : ax_lk n_S 49 m_S_isByte.1 := Or.inl (w_in 353 (by decide +kernel) rfl)
theorem lk_S_53 : ax_lk n_S 53 m_Rw_hasRoom.1 := Or.inl (w_in 330 (by decide +kernel) rfl)
theorem lk_S_56 : ax_lk n_S 56 m_Rw_addMany.1 := Or.inl (w_in 356 (by decide +kernel) rfl)
theorem lk_S_64 : ax_lk n_S 64 m_Rw_shorten.1 := Or.inl (w_in 365 (by decide +kernel) rfl)
theorem lk_S_67 : ax_lk n_S 67 m_Rw_at.1 := Or.inl (w_in 373 (by decide +kernel) rfl)
theorem lk_S_71 : ax_lk n_S 71 m_S_freshenPack.1 := Or.inl (w_in 381 (by decide +kernel) rfl)
theorem lk_S_74 : ax_lk n_S 74 m_S_freshenTurns.1 := Or.inl (w_in 399 (by decide +kernel) rfl)
theorem lk_S_81 : ax_lk n_S 81 m_Tu_turnAt.1 := Or.inl (w_in 440 (by decide +kernel) rfl)
theorem lk_S_89 : ax_lk n_S 89 m_Tu_placeOf.1 := Or.inl (w_in 452 (by decide +kernel) rfl)
theorem lk_S_95 : ax_lk n_S 95 m_S_turnBegins.1 := Or.inl (w_in 468 (by decide +kernel) rfl)
theorem lk_S_99 : ax_lk n_S 99 m_Rw_has.1 := Or.inl (w_in 476 (by decide +kernel) rfl)
theorem lk_S_102 : ax_lk n_S 102 m_Bn_goBack.1 := Or.inl (w_in 480 (by decide +kernel) rfl)
theorem lk_S_109 : ax_lk n_S 109 m_Rw_copyOf.1 := Or.inl (w_in 506 (by decide +kernel) rfl)
theorem lk_S_117 : ax_lk n_S 117 m_Ch_link.1 := Or.inl (w_in 514 (by decide +kernel) rfl)
theorem lk_S_122 : ax_lk n_S 122 m_Ch_ringLength.1 := Or.inl (w_in 515 (by decide +kernel) rfl)
theorem lk_S_125 : ax_lk n_S 125 m_S_freshenCodes.1 := Or.inl (w_in 523 (by decide +kernel) rfl)
theorem lk_S_132 : ax_lk n_S 132 m_Sy_at.1 := Or.inl (w_in 599 (by decide +kernel) rfl)
theorem lk_S_139 : ax_lk n_S 139 m_Cd_has.1 := Or.inl (w_in 604 (by decide +kernel) rfl)
theorem lk_S_142 : ax_lk n_S 142 m_Cd_lengthOf.1 := Or.inl (w_in 605 (by decide +kernel) rfl)
theorem lk_S_145 : ax_lk n_S 145 m_Cd_valueOf.1 := Or.inl (w_in 609 (by decide +kernel) rfl)
theorem lk_S_151 : ax_lk n_S 151 m_S_checkOf.1 := Or.inl (w_in 621 (by decide +kernel) rfl)
theorem lk_S_155 : ax_lk n_S 155 m_Sw_writeStream.1 := Or.inl (w_in 625 (by decide +kernel) rfl)
theorem lk_S_159 : ax_lk n_S 159 m_S_benchUsed.1 := Or.inl (w_in 345 (by decide +kernel) rfl)
theorem lk_S_168 : ax_lk n_S 168 m_Rw_joinWith.1 := Or.inl (w_in 680 (by decide +kernel) rfl)
theorem lk_S_171 : ax_lk n_S 171 m_Sr_readStream.1 := Or.inl (w_in 693 (by decide +kernel) rfl)
theorem lk_S_194 : ax_lk n_S 194 m_S_packInto.1 := Or.inl (w_in 385 (by decide +kernel) rfl)
theorem lk_S_198 : ax_lk n_S 198 m_Tu_sortTurns.1 := Or.inl (w_in 403 (by decide +kernel) rfl)
theorem lk_S_201 : ax_lk n_S 201 m_Sy_makeFrom.1 := Or.inl (w_in 527 (by decide +kernel) rfl)
theorem lk_S_204 : ax_lk n_S 204 m_Cd_makeFrom.1 := Or.inl (w_in 554 (by decide +kernel) rfl)
theorem lk_S_207 : ax_lk n_S 207 m_S_byteOf.1 := Or.inl (w_in 334 (by decide +kernel) rfl)
theorem lk_S_211 : ax_lk n_S 211 m_Rw_add.1 := Or.inl (w_in 337 (by decide +kernel) rfl)
theorem lk_S_215 : ax_lk n_S 215 m_S_countMore.1 := Or.inl (w_in 388 (by decide +kernel) rfl)
theorem lk_Bn_3 : Cond.methodLink n_Bn 3 Lib.objectInit ∈ ax_all := w_in 54 (by decide +kernel) rfl
theorem lk_Bn_11 : ax_lk n_Bn 11 m_Tu_init.1 := Or.inr ⟨"SortTransform", w_nt 57 (by decide +kernel) rfl⟩
theorem lk_Bn_20 : ax_lk n_Bn 20 m_Ch_init.1 := Or.inr ⟨"SortTransform", w_nt 97 (by decide +kernel) rfl⟩
theorem lk_Bn_27 : ax_lk n_Bn 27 m_Sy_init.1 := Or.inr ⟨"SortTransform", w_nt 113 (by decide +kernel) rfl⟩
theorem lk_Bn_34 : ax_lk n_Bn 34 m_Cd_init.1 := Or.inr ⟨"SortTransform", w_nt 154 (by decide +kernel) rfl⟩
theorem lk_Bn_41 : ax_lk n_Bn 41 m_Rw_init.1 := Or.inl (w_in 205 (by decide +kernel) rfl)
theorem lk_Bn_54 : ax_lk n_Bn 54 m_Ch_link.1 := Or.inl (w_in 484 (by decide +kernel) rfl)
theorem lk_Bn_58 : ax_lk n_Bn 58 m_Ch_follow.1 := Or.inl (w_in 493 (by decide +kernel) rfl)
theorem lk_Bn_62 : ax_lk n_Bn 62 m_Tu_sortTurns.1 := Or.inl (w_in 499 (by decide +kernel) rfl)
theorem lk_Bn_68 : ax_lk n_Bn 68 m_Rw_isLike.1 := Or.inl (w_in 500 (by decide +kernel) rfl)
theorem lk_Bn_76 : ax_lk n_Bn 76 m_Tu_placeOf.1 := Or.inl (w_in 505 (by decide +kernel) rfl)
theorem lk_Bn_80 : ax_lk n_Bn 80 m_S_unpackInto.1 := Or.inr ⟨"SortTransform", w_nt 790 (by decide +kernel) rfl⟩
theorem lk_Bn_84 : ax_lk n_Bn 84 m_S_packInto.1 := Or.inr ⟨"SortTransform", w_nt 793 (by decide +kernel) rfl⟩
theorem lk_Ch_3 : Cond.methodLink n_Ch 3 Lib.objectInit ∈ ax_all := w_in 100 (by decide +kernel) rfl
theorem lk_Ch_24 : Cond.methodLink n_Ch 24 Lib.Math.min.name ∈ ax_all := w_in 488 (by decide +kernel) rfl
theorem lk_Ch_31 : ax_lk n_Ch 31 m_Ar_fill.1 := Or.inl (w_in 489 (by decide +kernel) rfl)
theorem lk_Ch_37 : ax_lk n_Ch 37 m_Rw_at.1 := Or.inl (w_in 492 (by decide +kernel) rfl)
theorem lk_Ch_41 : ax_lk n_Ch 41 m_Rw_shorten.1 := Or.inl (w_in 497 (by decide +kernel) rfl)
theorem lk_Ch_45 : ax_lk n_Ch 45 m_Rw_add.1 := Or.inl (w_in 498 (by decide +kernel) rfl)
theorem lk_Cd_3 : Cond.methodLink n_Cd 3 Lib.objectInit ∈ ax_all := w_in 157 (by decide +kernel) rfl
theorem lk_Cd_11 : ax_lk n_Cd 11 m_Jn_init.1 := Or.inr ⟨"SortTransform", w_nt 160 (by decide +kernel) rfl⟩
theorem lk_Cd_38 : ax_lk n_Cd 38 m_Cd_has.1 := Or.inl (w_in 568 (by decide +kernel) rfl)
theorem lk_Cd_47 : Cond.methodLink n_Cd 47 Lib.Math.min.name ∈ ax_all := w_in 558 (by decide +kernel) rfl
theorem lk_Cd_53 : ax_lk n_Cd 53 m_Cd_weigh.1 := Or.inl (w_in 559 (by decide +kernel) rfl)
theorem lk_Cd_57 : ax_lk n_Cd 57 m_Jn_findLengths.1 := Or.inl (w_in 573 (by decide +kernel) rfl)
theorem lk_Cd_61 : ax_lk n_Cd 61 m_Cd_arrange.1 := Or.inl (w_in 595 (by decide +kernel) rfl)
theorem lk_Cd_64 : ax_lk n_Cd 64 m_Ar_fill.1 := Or.inl (w_in 563 (by decide +kernel) rfl)
theorem lk_Cd_71 : ax_lk n_Cd 71 m_Sy_at.1 := Or.inl (w_in 564 (by decide +kernel) rfl)
theorem lk_Cd_75 : Cond.methodLink n_Cd 75 Lib.Math.max.name ∈ ax_all := w_in 572 (by decide +kernel) rfl
theorem lk_Fl_3 : Cond.methodLink n_Fl 3 Lib.objectInit ∈ ax_all := w_in 122 (by decide +kernel) rfl
theorem lk_Fl_19 : ax_lk n_Fl 19 m_Ar_fill.1 := Or.inl (w_in 535 (by decide +kernel) rfl)
theorem lk_Fl_28 : ax_lk n_Fl 28 m_Rw_at.1 := Or.inl (w_in 536 (by decide +kernel) rfl)
theorem lk_Jn_5 : Cond.methodLink n_Jn 5 Lib.objectInit ∈ ax_all := w_in 163 (by decide +kernel) rfl
theorem lk_Jn_28 : ax_lk n_Jn 28 m_Jn_push.1 := Or.inl (w_in 577 (by decide +kernel) rfl)
theorem lk_Jn_32 : ax_lk n_Jn 32 m_Jn_joinTwo.1 := Or.inl (w_in 581 (by decide +kernel) rfl)
theorem lk_Jn_35 : ax_lk n_Jn 35 m_Jn_measureDepths.1 := Or.inl (w_in 590 (by decide +kernel) rfl)
theorem lk_Jn_39 : ax_lk n_Jn 39 m_Jn_pop.1 := Or.inl (w_in 585 (by decide +kernel) rfl)
theorem lk_Jn_43 : Cond.methodLink n_Jn 43 Lib.Math.min.name ∈ ax_all := w_in 589 (by decide +kernel) rfl
theorem lk_Jn_49 : Cond.methodLink n_Jn 49 Lib.Math.max.name ∈ ax_all := w_in 594 (by decide +kernel) rfl
theorem lk_Rw_3 : Cond.methodLink n_Rw 3 Lib.objectInit ∈ ax_all := w_in 29 (by decide +kernel) rfl
theorem lk_Rw_9 : Cond.methodLink n_Rw 9 Lib.Math.max.name ∈ ax_all := w_in 30 (by decide +kernel) rfl
theorem lk_Rw_25 : ax_lk n_Rw 25 m_Rw_add.1 := Or.inl (w_in 360 (by decide +kernel) rfl)
theorem lk_Rw_29 : ax_lk n_Rw 29 m_Rw_has.1 := Or.inl (w_in 684 (by decide +kernel) rfl)
theorem lk_Rw_33 : ax_lk n_Rw 33 m_Rw_at.1 := Or.inl (w_in 504 (by decide +kernel) rfl)
theorem lk_Sr_3 : Cond.methodLink n_Sr 3 Lib.objectInit ∈ ax_all := w_in 264 (by decide +kernel) rfl
theorem lk_Sr_11 : ax_lk n_Sr 11 m_Rw_init.1 := Or.inl (w_in 266 (by decide +kernel) rfl)
theorem lk_Sr_33 : ax_lk n_Sr 33 m_Rw_shorten.1 := Or.inl (w_in 697 (by decide +kernel) rfl)
theorem lk_Sr_52 : ax_lk n_Sr 52 m_Sr_readHead.1 := Or.inl (w_in 698 (by decide +kernel) rfl)
theorem lk_Sr_59 : ax_lk n_Sr 59 m_Sr_readList.1 := Or.inl (w_in 723 (by decide +kernel) rfl)
theorem lk_Sr_68 : ax_lk n_Sr 68 m_Sr_readLengths.1 := Or.inl (w_in 742 (by decide +kernel) rfl)
theorem lk_Sr_72 : ax_lk n_Sr 72 m_Sr_readSymbols.1 := Or.inl (w_in 766 (by decide +kernel) rfl)
theorem lk_Sr_76 : ax_lk n_Sr 76 m_Sr_isGivenBack.1 := Or.inl (w_in 781 (by decide +kernel) rfl)
theorem lk_Sr_80 : ax_lk n_Sr 80 m_Sr_isAtEnd.1 := Or.inl (w_in 795 (by decide +kernel) rfl)
theorem lk_Sr_84 : ax_lk n_Sr 84 m_Sr_fails.1 := Or.inl (w_in 710 (by decide +kernel) rfl)
theorem lk_Sr_88 : ax_lk n_Sr 88 m_Sr_lacks.1 := Or.inl (w_in 702 (by decide +kernel) rfl)
theorem lk_Sr_92 : ax_lk n_Sr 92 m_Sr_byteNow.1 := Or.inl (w_in 718 (by decide +kernel) rfl)
theorem lk_Sr_96 : ax_lk n_Sr 96 m_Rw_at.1 := Or.inl (w_in 722 (by decide +kernel) rfl)
theorem lk_Sr_100 : ax_lk n_Sr 100 m_Sr_tapeEnds.1 := Or.inl (w_in 706 (by decide +kernel) rfl)
theorem lk_Sr_103 : ax_lk n_Sr 103 m_Sr_next.1 := Or.inl (w_in 714 (by decide +kernel) rfl)
theorem lk_Sr_112 : ax_lk n_Sr 112 m_Fl_makeEmpty.1 := Or.inl (w_in 727 (by decide +kernel) rfl)
theorem lk_Sr_115 : ax_lk n_Sr 115 m_Sr_isMarked.1 := Or.inl (w_in 731 (by decide +kernel) rfl)
theorem lk_Sr_118 : ax_lk n_Sr 118 m_Sr_readSixteenth.1 := Or.inl (w_in 734 (by decide +kernel) rfl)
theorem lk_Sr_122 : ax_lk n_Sr 122 m_Fl_add.1 := Or.inl (w_in 738 (by decide +kernel) rfl)
theorem lk_Sr_128 : ax_lk n_Sr 128 m_Sr_isNoLength.1 := Or.inl (w_in 746 (by decide +kernel) rfl)
theorem lk_Sr_131 : ax_lk n_Sr 131 m_Cd_beginLengths.1 := Or.inl (w_in 749 (by decide +kernel) rfl)
theorem lk_Sr_136 : ax_lk n_Sr 136 m_Sr_readLength.1 := Or.inl (w_in 753 (by decide +kernel) rfl)
theorem lk_Sr_139 : ax_lk n_Sr 139 m_Cd_arrange.1 := Or.inl (w_in 761 (by decide +kernel) rfl)
theorem lk_Sr_142 : ax_lk n_Sr 142 m_Cd_areWhole.1 := Or.inl (w_in 762 (by decide +kernel) rfl)
theorem lk_Sr_145 : ax_lk n_Sr 145 m_Cd_setLength.1 := Or.inl (w_in 757 (by decide +kernel) rfl)
theorem lk_Sr_149 : ax_lk n_Sr 149 m_Sr_nextSymbol.1 := Or.inl (w_in 770 (by decide +kernel) rfl)
theorem lk_Sr_153 : ax_lk n_Sr 153 m_Fl_bringToFront.1 := Or.inl (w_in 778 (by decide +kernel) rfl)
theorem lk_Sr_156 : ax_lk n_Sr 156 m_Fl_at.1 := Or.inl (w_in 779 (by decide +kernel) rfl)
theorem lk_Sr_157 : ax_lk n_Sr 157 m_Rw_addMany.1 := Or.inl (w_in 780 (by decide +kernel) rfl)
theorem lk_Sr_164 : ax_lk n_Sr 164 m_Cd_symbolAt.1 := Or.inl (w_in 774 (by decide +kernel) rfl)
theorem lk_Sr_167 : ax_lk n_Sr 167 m_Bn_goBack.1 := Or.inl (w_in 785 (by decide +kernel) rfl)
theorem lk_Sr_171 : ax_lk n_Sr 171 m_Bn_unpackGiven.1 := Or.inl (w_in 786 (by decide +kernel) rfl)
theorem lk_Sr_177 : ax_lk n_Sr 177 m_S_checkOf.1 := Or.inr ⟨"SortTransform", w_nt 794 (by decide +kernel) rfl⟩
theorem lk_Sw_3 : Cond.methodLink n_Sw 3 Lib.objectInit ∈ ax_all := w_in 245 (by decide +kernel) rfl
theorem lk_Sw_11 : ax_lk n_Sw 11 m_Rw_init.1 := Or.inl (w_in 247 (by decide +kernel) rfl)
theorem lk_Sw_20 : ax_lk n_Sw 20 m_Rw_shorten.1 := Or.inl (w_in 629 (by decide +kernel) rfl)
theorem lk_Sw_36 : ax_lk n_Sw 36 m_Tu_sortTurns.1 := Or.inl (w_in 630 (by decide +kernel) rfl)
theorem lk_Sw_42 : ax_lk n_Sw 42 m_Sw_put.1 := Or.inl (w_in 631 (by decide +kernel) rfl)
theorem lk_Sw_49 : ax_lk n_Sw 49 m_Tu_placeOf.1 := Or.inl (w_in 636 (by decide +kernel) rfl)
theorem lk_Sw_60 : ax_lk n_Sw 60 m_Sy_makeFrom.1 := Or.inl (w_in 637 (by decide +kernel) rfl)
theorem lk_Sw_69 : ax_lk n_Sw 69 m_Cd_makeFrom.1 := Or.inl (w_in 638 (by decide +kernel) rfl)
theorem lk_Sw_78 : ax_lk n_Sw 78 m_Sw_putList.1 := Or.inl (w_in 639 (by decide +kernel) rfl)
theorem lk_Sw_82 : ax_lk n_Sw 82 m_Sw_putLengths.1 := Or.inl (w_in 653 (by decide +kernel) rfl)
theorem lk_Sw_86 : ax_lk n_Sw 86 m_Sw_putCodes.1 := Or.inl (w_in 658 (by decide +kernel) rfl)
theorem lk_Sw_90 : ax_lk n_Sw 90 m_Rw_add.1 := Or.inl (w_in 635 (by decide +kernel) rfl)
theorem lk_Sw_93 : ax_lk n_Sw 93 m_Sw_marksIn.1 := Or.inl (w_in 643 (by decide +kernel) rfl)
theorem lk_Sw_97 : ax_lk n_Sw 97 m_Sw_markOf.1 := Or.inl (w_in 650 (by decide +kernel) rfl)
theorem lk_Sw_103 : ax_lk n_Sw 103 m_Fl_at.1 := Or.inl (w_in 646 (by decide +kernel) rfl)
theorem lk_Sw_106 : ax_lk n_Sw 106 m_Cd_lengthOf.1 := Or.inl (w_in 657 (by decide +kernel) rfl)
theorem lk_Sw_113 : ax_lk n_Sw 113 m_Sy_at.1 := Or.inl (w_in 662 (by decide +kernel) rfl)
theorem lk_Sw_114 : ax_lk n_Sw 114 m_Cd_valueOf.1 := Or.inl (w_in 663 (by decide +kernel) rfl)
theorem lk_Sy_3 : Cond.methodLink n_Sy 3 Lib.objectInit ∈ ax_all := w_in 116 (by decide +kernel) rfl
theorem lk_Sy_11 : ax_lk n_Sy 11 m_Fl_init.1 := Or.inr ⟨"SortTransform", w_nt 119 (by decide +kernel) rfl⟩
theorem lk_Sy_26 : ax_lk n_Sy 26 m_Fl_listBytes.1 := Or.inl (w_in 531 (by decide +kernel) rfl)
theorem lk_Sy_39 : ax_lk n_Sy 39 m_Rw_at.1 := Or.inl (w_in 537 (by decide +kernel) rfl)
theorem lk_Sy_43 : ax_lk n_Sy 43 m_Fl_placeOf.1 := Or.inl (w_in 538 (by decide +kernel) rfl)
theorem lk_Sy_46 : ax_lk n_Sy 46 m_Sy_addDigits.1 := Or.inl (w_in 542 (by decide +kernel) rfl)
theorem lk_Sy_50 : ax_lk n_Sy 50 m_Sy_addSymbol.1 := Or.inl (w_in 546 (by decide +kernel) rfl)
theorem lk_Sy_53 : ax_lk n_Sy 53 m_Fl_bringToFront.1 := Or.inl (w_in 550 (by decide +kernel) rfl)
theorem lk_Tu_3 : Cond.methodLink n_Tu 3 Lib.objectInit ∈ ax_all := w_in 60 (by decide +kernel) rfl
theorem lk_Tu_11 : ax_lk n_Tu 11 m_Rw_init.1 := Or.inl (w_in 62 (by decide +kernel) rfl)
theorem lk_Tu_41 : Cond.methodLink n_Tu 41 Lib.Math.min.name ∈ ax_all := w_in 407 (by decide +kernel) rfl
theorem lk_Tu_47 : ax_lk n_Tu 47 m_Rw_at.1 := Or.inl (w_in 410 (by decide +kernel) rfl)
theorem lk_Tu_54 : ax_lk n_Tu 54 m_Tu_lineUp.1 := Or.inl (w_in 411 (by decide +kernel) rfl)
theorem lk_Tu_57 : ax_lk n_Tu 57 m_Tu_sortByRank.1 := Or.inl (w_in 415 (by decide +kernel) rfl)
theorem lk_Tu_60 : ax_lk n_Tu 60 m_Tu_numberRanks.1 := Or.inl (w_in 419 (by decide +kernel) rfl)
theorem lk_Tu_66 : ax_lk n_Tu 66 m_Tu_shift.1 := Or.inl (w_in 430 (by decide +kernel) rfl)
theorem lk_Tu_69 : ax_lk n_Tu 69 m_Tu_notePlaces.1 := Or.inl (w_in 434 (by decide +kernel) rfl)
theorem lk_Tu_73 : ax_lk n_Tu 73 m_Tu_around.1 := Or.inl (w_in 423 (by decide +kernel) rfl)
theorem lk_Tu_76 : Cond.methodLink n_Tu 76 arraycopyName ∈ ax_all := w_in 427 (by decide +kernel) rfl
theorem lk_Tu_82 : ax_lk n_Tu 82 m_Rw_shorten.1 := Or.inl (w_in 438 (by decide +kernel) rfl)
theorem lk_Tu_85 : ax_lk n_Tu 85 m_Rw_add.1 := Or.inl (w_in 439 (by decide +kernel) rfl)
theorem lk_Lw_9 : ax_lk n_Lw 9 m_S_init.1 := Or.inl (w_in 18 (by decide +kernel) rfl)
theorem lk_Lw_12 : ax_lk n_Lw 12 m_Mo_init.1 := Or.inl (w_in 809 (by decide +kernel) rfl)
theorem lk_Lw_15 : ax_lk n_Lw 15 m_S_feed.1 := Or.inl (w_in 323 (by decide +kernel) rfl)
theorem lk_Lw_19 : ax_lk n_Lw 19 m_Mo_feed.1 := Or.inl (w_in 909 (by decide +kernel) rfl)
theorem lk_Lw_20 : ax_lk n_Lw 20 m_S_fill.1 := Or.inl (w_in 349 (by decide +kernel) rfl)
theorem lk_Lw_24 : ax_lk n_Lw 24 m_Mo_fill.1 := Or.inl (w_in 918 (by decide +kernel) rfl)
theorem lk_Lw_25 : ax_lk n_Lw 25 m_S_clear.1 := Or.inl (w_in 361 (by decide +kernel) rfl)
theorem lk_Lw_29 : ax_lk n_Lw 29 m_Mo_clear.1 := Or.inl (w_in 923 (by decide +kernel) rfl)
theorem lk_Lw_30 : ax_lk n_Lw 30 m_S_octet.1 := Or.inl (w_in 369 (by decide +kernel) rfl)
theorem lk_Lw_34 : ax_lk n_Lw 34 m_Mo_octet.1 := Or.inl (w_in 927 (by decide +kernel) rfl)
theorem lk_Lw_35 : ax_lk n_Lw 35 m_S_pack.1 := Or.inl (w_in 377 (by decide +kernel) rfl)
theorem lk_Lw_38 : ax_lk n_Lw 38 m_Mo_pack.1 := Or.inl (w_in 931 (by decide +kernel) rfl)
theorem lk_Lw_39 : ax_lk n_Lw 39 m_S_packed.1 := Or.inl (w_in 391 (by decide +kernel) rfl)
theorem lk_Lw_42 : ax_lk n_Lw 42 m_Mo_packed.1 := Or.inl (w_in 939 (by decide +kernel) rfl)
theorem lk_Lw_43 : ax_lk n_Lw 43 m_S_order.1 := Or.inl (w_in 395 (by decide +kernel) rfl)
theorem lk_Lw_46 : ax_lk n_Lw 46 m_Mo_order.1 := Or.inl (w_in 943 (by decide +kernel) rfl)
theorem lk_Lw_47 : ax_lk n_Lw 47 m_S_last.1 := Or.inl (w_in 444 (by decide +kernel) rfl)
theorem lk_Lw_50 : ax_lk n_Lw 50 m_Mo_last.1 := Or.inl (w_in 971 (by decide +kernel) rfl)
theorem lk_Lw_51 : ax_lk n_Lw 51 m_S_origin.1 := Or.inl (w_in 448 (by decide +kernel) rfl)
theorem lk_Lw_54 : ax_lk n_Lw 54 m_Mo_origin.1 := Or.inl (w_in 975 (by decide +kernel) rfl)
theorem lk_Lw_55 : ax_lk n_Lw 55 m_S_rounds.1 := Or.inl (w_in 456 (by decide +kernel) rfl)
theorem lk_Lw_58 : ax_lk n_Lw 58 m_Mo_rounds.1 := Or.inl (w_in 979 (by decide +kernel) rfl)
theorem lk_Lw_59 : ax_lk n_Lw 59 m_S_start.1 := Or.inl (w_in 460 (by decide +kernel) rfl)
theorem lk_Lw_62 : ax_lk n_Lw 62 m_Mo_start.1 := Or.inl (w_in 983 (by decide +kernel) rfl)
theorem lk_Lw_63 : ax_lk n_Lw 63 m_S_steps.1 := Or.inl (w_in 464 (by decide +kernel) rfl)
theorem lk_Lw_67 : ax_lk n_Lw 67 m_Mo_steps.1 := Or.inl (w_in 988 (by decide +kernel) rfl)
theorem lk_Lw_68 : ax_lk n_Lw 68 m_S_back.1 := Or.inl (w_in 472 (by decide +kernel) rfl)
theorem lk_Lw_71 : ax_lk n_Lw 71 m_Mo_back.1 := Or.inl (w_in 993 (by decide +kernel) rfl)
theorem lk_Lw_72 : ax_lk n_Lw 72 m_S_ring.1 := Or.inl (w_in 510 (by decide +kernel) rfl)
theorem lk_Lw_75 : ax_lk n_Lw 75 m_Mo_ring.1 := Or.inl (w_in 1009 (by decide +kernel) rfl)
theorem lk_Lw_76 : ax_lk n_Lw 76 m_S_symbol.1 := Or.inl (w_in 519 (by decide +kernel) rfl)
theorem lk_Lw_79 : ax_lk n_Lw 79 m_Mo_symbol.1 := Or.inl (w_in 1013 (by decide +kernel) rfl)
theorem lk_Lw_80 : ax_lk n_Lw 80 m_S_code.1 := Or.inl (w_in 600 (by decide +kernel) rfl)
theorem lk_Lw_83 : ax_lk n_Lw 83 m_Mo_code.1 := Or.inl (w_in 1033 (by decide +kernel) rfl)
theorem lk_Lw_84 : ax_lk n_Lw 84 m_S_bits.1 := Or.inl (w_in 613 (by decide +kernel) rfl)
theorem lk_Lw_87 : ax_lk n_Lw 87 m_Mo_bits.1 := Or.inl (w_in 1053 (by decide +kernel) rfl)
theorem lk_Lw_88 : ax_lk n_Lw 88 m_S_write.1 := Or.inl (w_in 617 (by decide +kernel) rfl)
theorem lk_Lw_91 : ax_lk n_Lw 91 m_Mo_write.1 := Or.inl (w_in 1062 (by decide +kernel) rfl)
theorem lk_Lw_92 : ax_lk n_Lw 92 m_S_out.1 := Or.inl (w_in 664 (by decide +kernel) rfl)
theorem lk_Lw_95 : ax_lk n_Lw 95 m_Mo_out.1 := Or.inl (w_in 1079 (by decide +kernel) rfl)
theorem lk_Lw_96 : ax_lk n_Lw 96 m_S_tape.1 := Or.inl (w_in 668 (by decide +kernel) rfl)
theorem lk_Lw_99 : ax_lk n_Lw 99 m_Mo_tape.1 := Or.inl (w_in 1083 (by decide +kernel) rfl)
theorem lk_Lw_100 : ax_lk n_Lw 100 m_S_take.1 := Or.inl (w_in 672 (by decide +kernel) rfl)
theorem lk_Lw_103 : ax_lk n_Lw 103 m_Mo_take.1 := Or.inl (w_in 1087 (by decide +kernel) rfl)
theorem lk_Lw_104 : ax_lk n_Lw 104 m_S_spoil.1 := Or.inl (w_in 676 (by decide +kernel) rfl)
theorem lk_Lw_107 : ax_lk n_Lw 107 m_Mo_spoil.1 := Or.inl (w_in 1091 (by decide +kernel) rfl)
theorem lk_Lw_108 : ax_lk n_Lw 108 m_S_cut.1 := Or.inl (w_in 685 (by decide +kernel) rfl)
theorem lk_Lw_111 : ax_lk n_Lw 111 m_Mo_cut.1 := Or.inl (w_in 1095 (by decide +kernel) rfl)
theorem lk_Lw_112 : ax_lk n_Lw 112 m_S_read.1 := Or.inl (w_in 689 (by decide +kernel) rfl)
theorem lk_Lw_115 : ax_lk n_Lw 115 m_Mo_read.1 := Or.inl (w_in 1099 (by decide +kernel) rfl)
theorem lk_Lw_116 : ax_lk n_Lw 116 m_S_faultAt.1 := Or.inl (w_in 799 (by decide +kernel) rfl)
theorem lk_Lw_119 : ax_lk n_Lw 119 m_Mo_faultAt.1 := Or.inl (w_in 1137 (by decide +kernel) rfl)
theorem lk_Lw_120 : ax_lk n_Lw 120 m_S_check.1 := Or.inl (w_in 803 (by decide +kernel) rfl)
theorem lk_Lw_123 : ax_lk n_Lw 123 m_Mo_check.1 := Or.inl (w_in 1057 (by decide +kernel) rfl)
theorem lk_Mo_1 : Cond.methodLink n_Mo 1 Lib.objectInit ∈ ax_all := w_in 812 (by decide +kernel) rfl
theorem lk_Mo_72 : ax_lk n_Mo 72 m_Mo_isIn.1 := Or.inl (w_in 914 (by decide +kernel) rfl)
theorem lk_Mo_90 : ax_lk n_Mo 90 m_Mo_packBlock.1 := Or.inl (w_in 935 (by decide +kernel) rfl)
theorem lk_Mo_93 : ax_lk n_Mo 93 m_Mo_parts.1 := Or.inl (w_in 963 (by decide +kernel) rfl)
theorem lk_Mo_97 : ax_lk n_Mo 97 m_Mo_isAbove.1 := Or.inl (w_in 959 (by decide +kernel) rfl)
theorem lk_Mo_101 : ax_lk n_Mo 101 m_Mo_takeBlock.1 := Or.inl (w_in 951 (by decide +kernel) rfl)
theorem lk_Mo_104 : ax_lk n_Mo 104 m_Mo_putInOrder.1 := Or.inl (w_in 955 (by decide +kernel) rfl)
theorem lk_Mo_107 : ax_lk n_Mo 107 m_Mo_originOf.1 := Or.inl (w_in 967 (by decide +kernel) rfl)
theorem lk_Mo_117 : ax_lk n_Mo 117 m_Mo_lay.1 := Or.inl (w_in 947 (by decide +kernel) rfl)
theorem lk_Mo_124 : ax_lk n_Mo 124 m_Mo_nexts.1 := Or.inl (w_in 1001 (by decide +kernel) rfl)
theorem lk_Mo_127 : ax_lk n_Mo 127 m_Mo_lastAt.1 := Or.inl (w_in 1005 (by decide +kernel) rfl)
theorem lk_Mo_131 : ax_lk n_Mo 131 m_Mo_givesBack.1 := Or.inl (w_in 997 (by decide +kernel) rfl)
theorem lk_Mo_141 : ax_lk n_Mo 141 m_Mo_rowHas.1 := Or.inl (w_in 1021 (by decide +kernel) rfl)
theorem lk_Mo_144 : ax_lk n_Mo 144 m_Mo_toFront.1 := Or.inl (w_in 1025 (by decide +kernel) rfl)
theorem lk_Mo_147 : ax_lk n_Mo 147 m_Mo_putNoughts.1 := Or.inl (w_in 1029 (by decide +kernel) rfl)
theorem lk_Mo_151 : ax_lk n_Mo 151 m_Mo_join.1 := Or.inl (w_in 1041 (by decide +kernel) rfl)
theorem lk_Mo_154 : ax_lk n_Mo 154 m_Mo_makeCodes.1 := Or.inl (w_in 1049 (by decide +kernel) rfl)
theorem lk_Mo_157 : ax_lk n_Mo 157 m_Mo_lightest.1 := Or.inl (w_in 1045 (by decide +kernel) rfl)
theorem lk_Mo_160 : ax_lk n_Mo 160 m_Mo_makeSymbols.1 := Or.inl (w_in 1017 (by decide +kernel) rfl)
theorem lk_Mo_163 : ax_lk n_Mo 163 m_Mo_makeLengths.1 := Or.inl (w_in 1037 (by decide +kernel) rfl)
theorem lk_Mo_172 : ax_lk n_Mo 172 m_Mo_put.1 := Or.inl (w_in 1067 (by decide +kernel) rfl)
theorem lk_Mo_176 : ax_lk n_Mo 176 m_Mo_check.1 := Or.inl (w_in 1071 (by decide +kernel) rfl)
theorem lk_Mo_181 : ax_lk n_Mo 181 m_Mo_writeRow.1 := Or.inl (w_in 1073 (by decide +kernel) rfl)
theorem lk_Mo_200 : ax_lk n_Mo 200 m_Mo_wrong.1 := Or.inl (w_in 1111 (by decide +kernel) rfl)
theorem lk_Mo_203 : ax_lk n_Mo 203 m_Mo_get.1 := Or.inl (w_in 1107 (by decide +kernel) rfl)
theorem lk_Mo_211 : ax_lk n_Mo 211 m_Mo_readsSymbol.1 := Or.inl (w_in 1129 (by decide +kernel) rfl)
theorem lk_Mo_214 : ax_lk n_Mo 214 m_Mo_reads.1 := Or.inl (w_in 1103 (by decide +kernel) rfl)
theorem lk_Mo_218 : ax_lk n_Mo 218 m_Mo_readsList.1 := Or.inl (w_in 1115 (by decide +kernel) rfl)
theorem lk_Mo_221 : ax_lk n_Mo 221 m_Mo_readsLengths.1 := Or.inl (w_in 1119 (by decide +kernel) rfl)
theorem lk_Mo_224 : ax_lk n_Mo 224 m_Mo_readsRow.1 := Or.inl (w_in 1125 (by decide +kernel) rfl)
theorem lk_Mo_227 : ax_lk n_Mo 227 m_Mo_unpacks.1 := Or.inl (w_in 1133 (by decide +kernel) rfl)
theorem ob_i : Cond.instanceMethod Lib.objectInit ∈ ax_all := w_in 22 (by decide +kernel) rfl
theorem ob_c : Cond.code Lib.objectInit ⟨#[0xb1]⟩ 1 none ∈ ax_all := w_in 23 (by decide +kernel) rfl
theorem ma_max_s : Cond.static Lib.Math.max.name ∈ ax_all := w_in 31 (by decide +kernel) rfl
theorem ma_max_c : Cond.code Lib.Math.max.name Lib.Math.max.code 2 (some .int) ∈ ax_all := w_in 32 (by decide +kernel) rfl
theorem ma_min_s : Cond.static Lib.Math.min.name ∈ ax_all := w_in 408 (by decide +kernel) rfl
theorem ma_min_c : Cond.code Lib.Math.min.name Lib.Math.min.code 2 (some .int) ∈ ax_all := w_in 409 (by decide +kernel) rfl
theorem ma_i : Cond.initialized "java/lang/Math" ∈ ax_all := w_in 3 (by decide +kernel) rfl
theorem sy_i : Cond.initialized "java/lang/System" ∈ ax_all := w_in 14 (by decide +kernel) rfl
theorem sy_s : Cond.static arraycopyName ∈ ax_all := w_in 428 (by decide +kernel) rfl
theorem sy_n : Cond.native arraycopyName ∈ ax_all := w_in 429 (by decide +kernel) rfl
theorem ac_int : Cond.arrayClass .int ∈ ax_all := w_in 48 (by decide +kernel) rfl
theorem ac_long : Cond.arrayClass .long ∈ ax_all := w_in 907 (by decide +kernel) rfl
theorem ac_byte : Cond.arrayClass .byte ∈ ax_all := w_in 908 (by decide +kernel) rfl
theorem nw_S_9 : ax_NW n_S 9 6 [.null, .int 0] := ⟨n_Rw, f_Rw, 2, t_Rw, cl_Rw, ty_Rw, w_in 24 (by decide +kernel) rfl, w_in 25 (by decide +kernel) rfl, w_in 2 (by decide +kernel) rfl, rfl, by decide +kernel, fun _ _ => rfl⟩
theorem nw_S_21 : ax_NW n_S 21 1 [.null, .null, .null, .null, .null, .null, .null] := ⟨n_Bn, f_Bn, 7, t_Bn, cl_Bn, ty_Bn, w_in 49 (by decide +kernel) rfl, w_in 50 (by decide +kernel) rfl, w_in 4 (by decide +kernel) rfl, rfl, by decide +kernel, fun _ _ => rfl⟩
theorem nw_S_28 : ax_NW n_S 28 8 [.null, .int 0, .int 0] := ⟨n_Sw, f_Sw, 3, t_Sw, cl_Sw, ty_Sw, w_in 240 (by decide +kernel) rfl, w_in 241 (by decide +kernel) rfl, w_in 11 (by decide +kernel) rfl, rfl, by decide +kernel, fun _ _ => rfl⟩
theorem nw_S_35 : ax_NW n_S 35 7 [.null, .null, .int 0, .int 0, .int 0, .int 0, .int 0, .int 0, .int 0] := ⟨n_Sr, f_Sr, 9, t_Sr, cl_Sr, ty_Sr, w_in 259 (by decide +kernel) rfl, w_in 260 (by decide +kernel) rfl, w_in 12 (by decide +kernel) rfl, rfl, by decide +kernel, fun _ _ => rfl⟩
theorem nw_Bn_9 : ax_NW n_Bn 9 10 [.null, .null, .null, .null, .null, .null, .int 0, .int 0, .int 0] := ⟨n_Tu, f_Tu, 9, t_Tu, cl_Tu, ty_Tu, w_in 55 (by decide +kernel) rfl, w_in 56 (by decide +kernel) rfl, w_in 5 (by decide +kernel) rfl, rfl, by decide +kernel, fun _ _ => rfl⟩
theorem nw_Bn_18 : ax_NW n_Bn 18 2 [.null, .null, .int 0] := ⟨n_Ch, f_Ch, 3, t_Ch, cl_Ch, ty_Ch, w_in 95 (by decide +kernel) rfl, w_in 96 (by decide +kernel) rfl, w_in 6 (by decide +kernel) rfl, rfl, by decide +kernel, fun _ _ => rfl⟩
theorem nw_Bn_25 : ax_NW n_Bn 25 9 [.null, .null, .int 0, .int 0] := ⟨n_Sy, f_Sy, 4, t_Sy, cl_Sy, ty_Sy, w_in 111 (by decide +kernel) rfl, w_in 112 (by decide +kernel) rfl, w_in 7 (by decide +kernel) rfl, rfl, by decide +kernel, fun _ _ => rfl⟩
theorem nw_Bn_32 : ax_NW n_Bn 32 3 [.null, .null, .null, .null, .null, .null, .int 0] := ⟨n_Cd, f_Cd, 7, t_Cd, cl_Cd, ty_Cd, w_in 152 (by decide +kernel) rfl, w_in 153 (by decide +kernel) rfl, w_in 9 (by decide +kernel) rfl, rfl, by decide +kernel, fun _ _ => rfl⟩
theorem nw_Bn_39 : ax_NW n_Bn 39 6 [.null, .int 0] := ⟨n_Rw, f_Rw, 2, t_Rw, cl_Rw, ty_Rw, w_in 204 (by decide +kernel) rfl, w_in 25 (by decide +kernel) rfl, w_in 2 (by decide +kernel) rfl, rfl, by decide +kernel, fun _ _ => rfl⟩
theorem nw_Cd_9 : ax_NW n_Cd 9 5 [.null, .null, .null, .null, .int 0] := ⟨n_Jn, f_Jn, 5, t_Jn, cl_Jn, ty_Jn, w_in 158 (by decide +kernel) rfl, w_in 159 (by decide +kernel) rfl, w_in 10 (by decide +kernel) rfl, rfl, by decide +kernel, fun _ _ => rfl⟩
theorem nw_Sr_9 : ax_NW n_Sr 9 6 [.null, .int 0] := ⟨n_Rw, f_Rw, 2, t_Rw, cl_Rw, ty_Rw, w_in 265 (by decide +kernel) rfl, w_in 25 (by decide +kernel) rfl, w_in 2 (by decide +kernel) rfl, rfl, by decide +kernel, fun _ _ => rfl⟩
theorem nw_Sw_9 : ax_NW n_Sw 9 6 [.null, .int 0] := ⟨n_Rw, f_Rw, 2, t_Rw, cl_Rw, ty_Rw, w_in 246 (by decide +kernel) rfl, w_in 25 (by decide +kernel) rfl, w_in 2 (by decide +kernel) rfl, rfl, by decide +kernel, fun _ _ => rfl⟩
theorem nw_Sy_9 : ax_NW n_Sy 9 4 [.null, .int 0] := ⟨n_Fl, f_Fl, 2, t_Fl, cl_Fl, ty_Fl, w_in 117 (by decide +kernel) rfl, w_in 118 (by decide +kernel) rfl, w_in 8 (by decide +kernel) rfl, rfl, by decide +kernel, fun _ _ => rfl⟩
theorem nw_Tu_9 : ax_NW n_Tu 9 6 [.null, .int 0] := ⟨n_Rw, f_Rw, 2, t_Rw, cl_Rw, ty_Rw, w_in 61 (by decide +kernel) rfl, w_in 25 (by decide +kernel) rfl, w_in 2 (by decide +kernel) rfl, rfl, by decide +kernel, fun _ _ => rfl⟩
theorem nw_Lw_7 : ax_NW n_Lw 7 0 [.null, .null, .null, .null, .null, .int 0, .int 0, .int 0] := ⟨n_S, f_S, 8, t_S, cl_S, ty_S, w_in 16 (by decide +kernel) rfl, w_in 17 (by decide +kernel) rfl, w_in 1 (by decide +kernel) rfl, rfl, by decide +kernel, fun _ _ => rfl⟩
theorem nw_Lw_10 : ax_NW n_Lw 10 11 [.int 0, .null, .int 0, .null, .null, .null, .int 0, .null, .int 0, .int 0, .null, .null, .int 0, .null, .int 0, .null, .null, .null, .null, .null, .null, .null, .null, .int 0, .int 0, .null, .int 0, .int 0, .int 0, .int 0, .null] := ⟨n_Mo, f_Mo, 31, t_Mo, cl_Mo, ty_Mo, w_in 807 (by decide +kernel) rfl, w_in 808 (by decide +kernel) rfl, w_in 13 (by decide +kernel) rfl, rfl, by decide +kernel, fun _ _ => rfl⟩
theorem cn_S_214 : Cond.constant n_S 214 79764919 ∈ ax_all := w_in 624 (by decide +kernel) rfl
theorem cn_Lw_13 : Cond.constantLong n_Lw 13 4294967295 ∈ ax_all := w_in 1141 (by decide +kernel) rfl
theorem cn_Mo_70 : Cond.constantLong n_Mo 70 8 ∈ ax_all := w_in 913 (by decide +kernel) rfl
theorem cn_Mo_79 : Cond.constantLong n_Mo 79 255 ∈ ax_all := w_in 917 (by decide +kernel) rfl
theorem cn_Mo_85 : Cond.constantLong n_Mo 85 600 ∈ ax_all := w_in 922 (by decide +kernel) rfl
theorem cn_Mo_120 : Cond.constantLong n_Mo 120 64 ∈ ax_all := w_in 987 (by decide +kernel) rfl
theorem cn_Mo_122 : Cond.constantLong n_Mo 122 2 ∈ ax_all := w_in 992 (by decide +kernel) rfl
theorem cn_Mo_169 : Cond.constant n_Mo 169 79764919 ∈ ax_all := w_in 1061 (by decide +kernel) rfl
theorem cn_Mo_170 : Cond.constantLong n_Mo 170 21332 ∈ ax_all := w_in 1066 (by decide +kernel) rfl
theorem cn_Mo_179 : Cond.constantLong n_Mo 179 4294967295 ∈ ax_all := w_in 1072 (by decide +kernel) rfl
theorem cn_Mo_187 : Cond.constantLong n_Mo 187 32768 ∈ ax_all := w_in 1077 (by decide +kernel) rfl
theorem cn_Mo_189 : Cond.constantLong n_Mo 189 3 ∈ ax_all := w_in 1078 (by decide +kernel) rfl
theorem cn_Mo_207 : Cond.constantLong n_Mo 207 12 ∈ ax_all := w_in 1123 (by decide +kernel) rfl
theorem cn_Mo_209 : Cond.constantLong n_Mo 209 4096 ∈ ax_all := w_in 1124 (by decide +kernel) rfl
end
section
/-! frames and known cells -/
def Fr (S : List Nat) (h h' : ax_H) : Prop := h'.length = h.length ∧ ax_sl h' = ax_sl h ∧ ∀ x : Nat, S.contains x = false → h'[x]? = h[x]?
theorem Fr.rf {S : List Nat} {h : ax_H} : Fr S h h := ⟨rfl, rfl, fun _ _ => rfl⟩
theorem Fr.tr {S : List Nat} {a b c : ax_H} (h1 : Fr S a b) (h2 : Fr S b c) : Fr S a c := ⟨h2.1.trans h1.1, h2.2.1.trans h1.2.1, fun x hx => (h2.2.2 x hx).trans (h1.2.2 x hx)⟩
theorem Fr.wide {S S' : List Nat} {a b : ax_H} (h1 : Fr S a b) (hs : S.all (fun x => S'.contains x) = true) : Fr S' a b := by
  refine ⟨h1.1, h1.2.1, fun x hx => h1.2.2 x ?_⟩
  cases hc : S.contains x with
  | false => rfl
  | true =>
    have h2 : x ∈ S := List.contains_iff_mem.mp hc
    have h3 := List.all_eq_true.mp hs x h2
    rw [hx] at h3
    cases h3
theorem Fr.st {S : List Nat} {h0 h : ax_H} {a : Nat} {c c0 : ax_C} (hF : Fr S h0 h) (haS : S.contains a = true) (ha : h[a]? = some c0) (e : ax_n c = ax_n c0) : Fr S h0 (h.set a c) := by
  refine ⟨by rw [List.length_set]; exact hF.1, (ax_sl_set ha e).trans hF.2.1, fun x hx => ?_⟩
  have hne : a ≠ x := by
    intro q
    rw [q, hx] at haS
    cases haS
  rw [List.getElem?_set_ne hne]
  exact hF.2.2 x hx
def Hs (h : ax_H) (L : List (Nat × ax_C)) : Prop := (∀ (i a : Nat) (c : ax_C), L[i]? = some (a, c) → h[a]? = some c) ∧ ∀ (i j a : Nat) (c c' : ax_C), L[i]? = some (a, c) → L[j]? = some (a, c') → i = j
theorem Hs.g {h : ax_H} {L : List (Nat × ax_C)} {a : Nat} {c : ax_C} (hH : Hs h L) (i : Nat) (e : L[i]? = some (a, c)) : h[a]? = some c := hH.1 i a c e
theorem Hs.n {h : ax_H} : Hs h [] := ⟨fun i a c e => by simp at e, fun i j a c c' e => by simp at e⟩
theorem Hs.c {h : ax_H} {L : List (Nat × ax_C)} {a : Nat} {c : ax_C} (ha : h[a]? = some c) (hn : (L.map Prod.fst).contains a = false) (hH : Hs h L) : Hs h ((a, c) :: L) := by
  have key : ∀ (j : Nat) (c' : ax_C), L[j]? ≠ some (a, c') := by
    intro j c' e
    have : a ∈ L.map Prod.fst := List.mem_map.mpr ⟨(a, c'), List.mem_of_getElem? e, rfl⟩
    rw [List.contains_iff_mem.mpr this] at hn
    cases hn
  refine ⟨fun i b c' e => ?_, fun i j b c1 c2 e1 e2 => ?_⟩
  · cases i with
    | zero => rw [List.getElem?_cons_zero] at e; cases e; exact ha
    | succ i => rw [List.getElem?_cons_succ] at e; exact hH.1 i b c' e
  · cases i with
    | zero =>
      rw [List.getElem?_cons_zero] at e1
      cases e1
      cases j with
      | zero => rfl
      | succ j => rw [List.getElem?_cons_succ] at e2; exact absurd e2 (key j _)
    | succ i =>
      rw [List.getElem?_cons_succ] at e1
      cases j with
      | zero => rw [List.getElem?_cons_zero] at e2; cases e2; exact absurd e1 (key i _)
      | succ j => rw [List.getElem?_cons_succ] at e2; rw [hH.2 i j b c1 c2 e1 e2]
theorem Hs.s {h : ax_H} {L : List (Nat × ax_C)} {a : Nat} {c0 : ax_C} (hH : Hs h L) (i : Nat) (e : L[i]? = some (a, c0)) (c : ax_C) : Hs (h.set a c) (L.set i (a, c)) := by
  have hl := (List.getElem?_eq_some_iff.mp e).1
  have hla := (List.getElem?_eq_some_iff.mp (hH.1 i a c0 e)).1
  have key : ∀ (j b : Nat) (c' : ax_C), (L.set i (a, c))[j]? = some (b, c') → ∃ c'', L[j]? = some (b, c'') ∧ (j = i → b = a ∧ c' = c) ∧ (j ≠ i → c'' = c') := by
    intro j b c' e'
    rw [List.getElem?_set] at e'
    by_cases hj : i = j
    · subst hj
      rw [if_pos rfl, if_pos hl] at e'
      cases e'
      exact ⟨c0, e, fun _ => ⟨rfl, rfl⟩, fun q => absurd rfl q⟩
    · rw [if_neg hj] at e'
      exact ⟨c', e', fun q => absurd q.symm hj, fun _ => rfl⟩
  refine ⟨fun j b c' e' => ?_, fun j k b c1 c2 e1 e2 => ?_⟩
  · obtain ⟨c'', h1, h2, h3⟩ := key j b c' e'
    by_cases hj : j = i
    · obtain ⟨rfl, rfl⟩ := h2 hj
      rw [List.getElem?_set_self hla]
    · have hb : a ≠ b := fun q => by
        subst q
        exact hj (hH.2 j i a c'' c0 h1 e)
      rw [List.getElem?_set_ne hb]
      rw [← h3 hj]
      exact hH.1 j b c'' h1
  · obtain ⟨c1', h1, -⟩ := key j b c1 e1
    obtain ⟨c2', h2, -⟩ := key k b c2 e2
    exact hH.2 j k b c1' c2' h1 h2
theorem Hs.fr {h h1 : ax_H} {S : List Nat} {L : List (Nat × ax_C)} (hH : Hs h L) (hF : Fr S h h1) (hd : (L.map Prod.fst).all (fun a => !S.contains a) = true) : Hs h1 L := by
  refine ⟨fun i a c e => ?_, hH.2⟩
  have h2 := List.all_eq_true.mp hd a (List.mem_map.mpr ⟨(a, c), List.mem_of_getElem? e, rfl⟩)
  rw [hF.2.2 a (by simpa using h2)]
  exact hH.1 i a c e
section AXF
variable {M : ax_M} {d pc : Nat} {lv : ax_L} {st : List Value} {h h0 : ax_H} {Q : Option Value → ax_H → Prop} {S : List Nat} {L : List (Nat × ax_C)}
theorem ah_iast {a n : Nat} {g : Nat → Int} {z x : Int} (hd : decode M.2.1 pc = .ok (.iastore, 1)) (hH : Hs h L) (hF : Fr S h0 h) (i : Nat) (e : L[i]? = some (a, ia n g)) (haS : S.contains a = true) (ha0 : 0 < a) (hz0 : 0 ≤ z) (hz1 : z < n) (hn : n ≤ 100000000)
    (kk : ∀ h1 : ax_H, Hs h1 (L.set i (a, ia n (up g z.toNat x))) → Fr S h0 h1 → ax_W M d (pc + 1) lv st h1 Q) : ax_W M d pc lv (.int (iv x) :: .int (iv z) :: .ref a :: st) h Q :=
  az_iast hd (hH.g i e) ha0 hz0 hz1 hn (kk _ (hH.s i e _) (hF.st haS (hH.g i e) rfl))
theorem ah_put {ci a k idx : Nat} {ty : FieldType} {fs : List Value} {v : Value} (hd : decode M.2.1 pc = .ok (.putfield idx, 3)) (hP : ax_FP M.1.cls idx ci k ty) (hH : Hs h L) (hF : Fr S h0 h) (i : Nat) (e : L[i]? = some (a, ob ci fs)) (haS : S.contains a = true) (hn : narrow ty v = v) (hfit : fits ty v = true) (hlf : k < fs.length)
    (kk : ∀ h1 : ax_H, Hs h1 (L.set i (a, ob ci (fs.set k v))) → Fr S h0 h1 → ax_W M d (pc + 3) lv st h1 Q) : ax_W M d pc lv (v :: .ref a :: st) h Q :=
  ax_put hd hP (hH.g i e) hn hfit hlf (kk _ (hH.s i e _) (hF.st haS (hH.g i e) (by simp [ax_n])))
end AXF
/-! contracts by what they answer -/
def bz (b : Bool) : Int := if b = true then 1 else 0
def ax_Ci (N : ax_M) (d : Nat) (av : List Value) (h : ax_H) (P : Int → ax_H → Prop) : Prop := ax_Cl N d av h (fun r h1 => ∃ z : Int, r = some (.int (iv z)) ∧ P z h1)
def ax_Cz (N : ax_M) (d : Nat) (av : List Value) (h : ax_H) (P : Bool → ax_H → Prop) : Prop := ax_Cl N d av h (fun r h1 => ∃ b : Bool, r = some (.int (iv (bz b))) ∧ P b h1)
def ax_Cv (N : ax_M) (d : Nat) (av : List Value) (h : ax_H) (P : ax_H → Prop) : Prop := ax_Cl N d av h (fun r h1 => r = none ∧ P h1)
section AXK
variable {M N : ax_M} {d d' pc : Nat} {lv : ax_L} {st av : List Value} {h : ax_H} {Q : Option Value → ax_H → Prop}
theorem cm_i {P : Int → ax_H → Prop} (k : ax_Ci N d' av h P) (f : ∀ (z : Int) (h1 : ax_H), P z h1 → ax_W M d pc lv (.int (iv z) :: st) h1 Q) : ax_Cl N d' av h (fun r h1 => ax_W M d pc lv (r.toList ++ st) h1 Q) :=
  ax_Cl.mono k (fun r h1 hp => by obtain ⟨z, rfl, hp⟩ := hp; exact f z h1 hp)
theorem cm_z {P : Bool → ax_H → Prop} (k : ax_Cz N d' av h P) (f : ∀ (b : Bool) (h1 : ax_H), P b h1 → ax_W M d pc lv (.int (iv (bz b)) :: st) h1 Q) : ax_Cl N d' av h (fun r h1 => ax_W M d pc lv (r.toList ++ st) h1 Q) :=
  ax_Cl.mono k (fun r h1 hp => by obtain ⟨z, rfl, hp⟩ := hp; exact f z h1 hp)
theorem cm_v {P : ax_H → Prop} (k : ax_Cv N d' av h P) (f : ∀ h1 : ax_H, P h1 → ax_W M d pc lv st h1 Q) : ax_Cl N d' av h (fun r h1 => ax_W M d pc lv (r.toList ++ st) h1 Q) :=
  ax_Cl.mono k (fun r h1 hp => by obtain ⟨rfl, hp⟩ := hp; exact f h1 hp)
end AXK
theorem bz_eq (b : Bool) : bz b = 0 ∨ bz b = 1 := by cases b <;> simp [bz]
theorem bz_t {b : Bool} (h : bz b ≠ 0) : b = true := by cases b <;> simp_all [bz]
theorem bz_f {b : Bool} (h : bz b = 0) : b = false := by cases b <;> simp_all [bz]
theorem bz_in (b : Bool) : -2147483648 ≤ bz b ∧ bz b < 2147483648 := by cases b <;> simp [bz]
end
section
/-! bit operations over Int, by the machine's own -/
theorem of32 (x : Int32) : -2147483648 ≤ x.toInt ∧ x.toInt < 2147483648 := ⟨by have := Int32.le_toInt x; omega, by have := Int32.toInt_lt x; omega⟩
def zand (a b : Int) : Int := (iv a &&& iv b).toInt
theorem zand_in (a b : Int) : -2147483648 ≤ zand a b ∧ zand a b < 2147483648 := of32 _
theorem zand_iv (a b : Int) : iv a &&& iv b = iv (zand a b) := (iv_of _).symm
def zor (a b : Int) : Int := (iv a ||| iv b).toInt
theorem zor_in (a b : Int) : -2147483648 ≤ zor a b ∧ zor a b < 2147483648 := of32 _
theorem zor_iv (a b : Int) : iv a ||| iv b = iv (zor a b) := (iv_of _).symm
def zxor (a b : Int) : Int := (iv a ^^^ iv b).toInt
theorem zxor_in (a b : Int) : -2147483648 ≤ zxor a b ∧ zxor a b < 2147483648 := of32 _
theorem zxor_iv (a b : Int) : iv a ^^^ iv b = iv (zxor a b) := (iv_of _).symm
def zshl (a b : Int) : Int := (iv a <<< (iv b &&& 31)).toInt
theorem zshl_in (a b : Int) : -2147483648 ≤ zshl a b ∧ zshl a b < 2147483648 := of32 _
theorem zshl_iv (a b : Int) : iv a <<< (iv b &&& 31) = iv (zshl a b) := (iv_of _).symm
def zshr (a b : Int) : Int := (iv a >>> (iv b &&& 31)).toInt
theorem zshr_in (a b : Int) : -2147483648 ≤ zshr a b ∧ zshr a b < 2147483648 := of32 _
theorem zshr_iv (a b : Int) : iv a >>> (iv b &&& 31) = iv (zshr a b) := (iv_of _).symm
def zushr (a b : Int) : Int := (((iv a).toUInt32 >>> ((iv b).toUInt32 &&& Int32.toUInt32 31)).toInt32).toInt
theorem zushr_in (a b : Int) : -2147483648 ≤ zushr a b ∧ zushr a b < 2147483648 := of32 _
theorem zushr_iv (a b : Int) : ((iv a).toUInt32 >>> ((iv b).toUInt32 &&& Int32.toUInt32 31)).toInt32 = iv (zushr a b) := (iv_of _).symm
section AXB
variable {M : ax_M} {d pc : Nat} {lv : ax_L} {st : List Value} {h : ax_H} {Q : Option Value → ax_H → Prop}
theorem az_iand {a b : Int} (hd : decode M.2.1 pc = .ok (.iand, 1)) (k : ax_W M d (pc + 1) lv (.int (iv (zand a b)) :: st) h Q) : ax_W M d pc lv (.int (iv b) :: .int (iv a) :: st) h Q := ax_iand hd (by rw [zand_iv]; exact k)
theorem az_ior {a b : Int} (hd : decode M.2.1 pc = .ok (.ior, 1)) (k : ax_W M d (pc + 1) lv (.int (iv (zor a b)) :: st) h Q) : ax_W M d pc lv (.int (iv b) :: .int (iv a) :: st) h Q := ax_ior hd (by rw [zor_iv]; exact k)
theorem az_ixor {a b : Int} (hd : decode M.2.1 pc = .ok (.ixor, 1)) (k : ax_W M d (pc + 1) lv (.int (iv (zxor a b)) :: st) h Q) : ax_W M d pc lv (.int (iv b) :: .int (iv a) :: st) h Q := ax_ixor hd (by rw [zxor_iv]; exact k)
theorem az_ishl {a b : Int} (hd : decode M.2.1 pc = .ok (.ishl, 1)) (k : ax_W M d (pc + 1) lv (.int (iv (zshl a b)) :: st) h Q) : ax_W M d pc lv (.int (iv b) :: .int (iv a) :: st) h Q := ax_ishl hd (by rw [zshl_iv]; exact k)
theorem az_ishr {a b : Int} (hd : decode M.2.1 pc = .ok (.ishr, 1)) (k : ax_W M d (pc + 1) lv (.int (iv (zshr a b)) :: st) h Q) : ax_W M d pc lv (.int (iv b) :: .int (iv a) :: st) h Q := ax_ishr hd (by rw [zshr_iv]; exact k)
theorem az_iushr {a b : Int} (hd : decode M.2.1 pc = .ok (.iushr, 1)) (k : ax_W M d (pc + 1) lv (.int (iv (zushr a b)) :: st) h Q) : ax_W M d pc lv (.int (iv b) :: .int (iv a) :: st) h Q := ax_iushr hd (by rw [zushr_iv]; exact k)
theorem az_ldc {index : Nat} (v : Int) (hd : decode M.2.1 pc = .ok (.ldc index, 2)) (hw : Cond.constant M.1.cls index (iv v) ∈ ax_all) (k : ax_W M d (pc + 2) lv (.int (iv v) :: st) h Q) : ax_W M d pc lv st h Q := ax_ldc hd hw k
end AXB
end
section
/-! SortTransform.Row: a list of ints in an array -/
def Rw (h : ax_H) (r ra cap : Nat) (xs : List Int) : Prop := ∃ g : Nat → Int, Hs h [(r, ob 6 [.ref ra, .int (iv xs.length)]), (ra, ia cap g)] ∧ (∀ i : Nat, i < xs.length → g i = xs.getD i 0) ∧ xs.length ≤ cap ∧ cap ≤ 3000 ∧ 0 < ra
def rAt (xs : List Int) (i : Int) : Int := if 0 ≤ i ∧ i < (xs.length : Int) then xs.getD i.toNat 0 else -2
theorem Rw.fr {h h1 : ax_H} {r ra cap : Nat} {xs : List Int} {S : List Nat} (hR : Rw h r ra cap xs) (hF : Fr S h h1) (h1r : S.contains r = false) (h1a : S.contains ra = false) : Rw h1 r ra cap xs := by
  obtain ⟨g, hH, hr⟩ := hR
  refine ⟨g, hH.fr hF ?_, hr⟩
  show ((!S.contains r) && ((!S.contains ra) && true)) = true
  rw [h1r, h1a]
  rfl
theorem Rw.sz {h : ax_H} {r ra cap : Nat} {xs : List Int} (hR : Rw h r ra cap xs) : h[r]? = some (ob 6 [.ref ra, .int (iv xs.length)]) := by
  obtain ⟨g, hH, hr⟩ := hR
  exact hH.g 0 rfl
set_option maxRecDepth 100000 in
theorem c_Rw_has {h : ax_H} {r ra cap : Nat} {xs : List Int} (hR : Rw h r ra cap xs) {i : Int} (hi : -2147483648 ≤ i ∧ i < 2147483648) : ax_Cz m_Rw_has 0 [.ref r, .int (iv i)] h (fun b h1 => h1 = h ∧ b = decide (0 ≤ i ∧ i < (xs.length : Int))) := by
  obtain ⟨g, hH, hg, hle, hcap, hra⟩ := hR
  refine ax_enter [some (.ref r), some (.int (iv i))] rfl (Nat.le_of_ble_eq_true rfl) (by decide) ?_
  refine ax_iload_n d_Rw_has_0 rfl ?_
  refine az_if_lt 16 d_Rw_has_1 (by decide) (by omega) (fun hc => ?_) (fun hc => ?_)
  · refine az_iconst d_Rw_has_16 ?_
    refine ax_zret d_Rw_has_17 rfl (by decide) ?_
    refine ⟨false, rfl, rfl, ?_⟩
    simp; omega
  · refine ax_iload_n d_Rw_has_4 rfl ?_
    refine ax_aload_n d_Rw_has_5 rfl ?_
    refine ax_get d_Rw_has_6 fg_Rw_21 (by first | assumption | exact hH.g 0 rfl | exact hH.g 1 rfl) (by rfl) ?_
    refine az_icmp_ge 16 d_Rw_has_9 (by decide) (by omega) (by omega) (fun hc => ?_) (fun hc => ?_)
    · refine az_iconst d_Rw_has_16 ?_
      refine ax_zret d_Rw_has_17 rfl (by decide) ?_
      refine ⟨false, rfl, rfl, ?_⟩
      simp; omega
    · refine az_iconst d_Rw_has_12 ?_
      refine ax_goto 17 d_Rw_has_13 (by decide) ?_
      refine ax_zret d_Rw_has_17 rfl (by decide) ?_
      refine ⟨true, rfl, rfl, ?_⟩
      simp; omega
set_option maxRecDepth 100000 in
theorem c_Rw_hasRoom {h : ax_H} {r ra cap : Nat} {xs : List Int} (hR : Rw h r ra cap xs) {n : Int} (hi : -2147483648 ≤ n ∧ n < 2147483648) : ax_Cz m_Rw_hasRoom 0 [.ref r, .int (iv n)] h (fun b h1 => h1 = h ∧ b = decide (n ≤ (cap : Int) - xs.length)) := by
  obtain ⟨g, hH, hg, hle, hcap, hra⟩ := hR
  refine ax_enter [some (.ref r), some (.int (iv n))] rfl (Nat.le_of_ble_eq_true rfl) (by decide) ?_
  refine ax_iload_n d_Rw_hasRoom_0 rfl ?_
  refine ax_aload_n d_Rw_hasRoom_1 rfl ?_
  refine ax_get d_Rw_hasRoom_2 fg_Rw_15 (by first | assumption | exact hH.g 0 rfl | exact hH.g 1 rfl) (by rfl) ?_
  refine az_alen d_Rw_hasRoom_5 (by first | assumption | exact hH.g 0 rfl | exact hH.g 1 rfl) ?_
  refine ax_aload_n d_Rw_hasRoom_6 rfl ?_
  refine ax_get d_Rw_hasRoom_7 fg_Rw_21 (by first | assumption | exact hH.g 0 rfl | exact hH.g 1 rfl) (by rfl) ?_
  refine az_isub d_Rw_hasRoom_10 ?_
  refine az_icmp_gt 18 d_Rw_hasRoom_11 (by decide) (by omega) (by omega) (fun hc => ?_) (fun hc => ?_)
  · refine az_iconst d_Rw_hasRoom_18 ?_
    refine ax_zret d_Rw_hasRoom_19 rfl (by decide) ?_
    refine ⟨false, rfl, rfl, ?_⟩
    simp; omega
  · refine az_iconst d_Rw_hasRoom_14 ?_
    refine ax_goto 19 d_Rw_hasRoom_15 (by decide) ?_
    refine ax_zret d_Rw_hasRoom_19 rfl (by decide) ?_
    refine ⟨true, rfl, rfl, ?_⟩
    simp; omega
set_option maxRecDepth 100000 in
theorem c_Rw_at {h : ax_H} {r ra cap : Nat} {xs : List Int} (hR : Rw h r ra cap xs) {i : Int} (hi : -2147483648 ≤ i ∧ i < 2147483648) : ax_Ci m_Rw_at 0 [.ref r, .int (iv i)] h (fun z h1 => h1 = h ∧ z = rAt xs i) := by
  obtain ⟨g, hH, hg, hle, hcap, hra⟩ := hR
  refine ax_enter [some (.ref r), some (.int (iv i))] rfl (Nat.le_of_ble_eq_true rfl) (by decide) ?_
  refine ax_iload_n d_Rw_at_0 rfl ?_
  refine az_if_lt 21 d_Rw_at_1 (by decide) (by omega) (fun hc => ?_) (fun hc => ?_)
  · refine az_bipush _ d_Rw_at_21 (by decide) ?_
    refine ax_iret d_Rw_at_23 rfl ?_
    refine ⟨-2, rfl, rfl, ?_⟩
    rw [rAt, if_neg (by omega)]
  · refine ax_iload_n d_Rw_at_4 rfl ?_
    refine ax_aload_n d_Rw_at_5 rfl ?_
    refine ax_get d_Rw_at_6 fg_Rw_21 (by first | assumption | exact hH.g 0 rfl | exact hH.g 1 rfl) (by rfl) ?_
    refine az_icmp_ge 21 d_Rw_at_9 (by decide) (by omega) (by omega) (fun hc => ?_) (fun hc => ?_)
    · refine az_bipush _ d_Rw_at_21 (by decide) ?_
      refine ax_iret d_Rw_at_23 rfl ?_
      refine ⟨-2, rfl, rfl, ?_⟩
      rw [rAt, if_neg (by omega)]
    · refine ax_aload_n d_Rw_at_12 rfl ?_
      refine ax_get d_Rw_at_13 fg_Rw_15 (by first | assumption | exact hH.g 0 rfl | exact hH.g 1 rfl) (by rfl) ?_
      refine ax_iload_n d_Rw_at_16 rfl ?_
      refine az_iald d_Rw_at_17 (by first | assumption | exact hH.g 0 rfl | exact hH.g 1 rfl) (by omega) (by omega) (by omega) ?_
      refine ax_goto 23 d_Rw_at_18 (by decide) ?_
      refine ax_iret d_Rw_at_23 rfl ?_
      refine ⟨_, rfl, rfl, ?_⟩
      rw [rAt, if_pos (by omega), hg _ (by omega)]
theorem getD_snoc (xs : List Int) (b : Int) (i : Nat) : (xs ++ [b]).getD i 0 = if i = xs.length then b else xs.getD i 0 := by
  rw [List.getD_eq_getElem?_getD, List.getD_eq_getElem?_getD, List.getElem?_append]
  by_cases h1 : i < xs.length
  · rw [if_pos h1, if_neg (by omega)]
  · rw [if_neg h1]
    by_cases h2 : i = xs.length
    · subst h2; simp
    · rw [if_neg h2, List.getElem?_eq_none (by simp; omega), List.getElem?_eq_none (by omega)]
def radd (cap : Nat) (xs : List Int) (b : Int) : List Int := if xs.length < cap then xs ++ [b] else xs
set_option maxRecDepth 100000 in
theorem c_Rw_add {h : ax_H} {r ra cap : Nat} {xs : List Int} (hR : Rw h r ra cap xs) (b : Int) : ax_Cv m_Rw_add 0 [.ref r, .int (iv b)] h (fun h1 => Rw h1 r ra cap (radd cap xs b) ∧ Fr [r, ra] h h1) := by
  obtain ⟨g, hH, hg, hle, hcap, hra⟩ := hR
  have hF : Fr [r, ra] h h := Fr.rf
  have hSr : [r, ra].contains r = true := by simp
  have hSa : [r, ra].contains ra = true := by simp
  refine ax_enter [some (.ref r), some (.int (iv b))] rfl (Nat.le_of_ble_eq_true rfl) (by decide) ?_
  refine ax_aload_n d_Rw_add_0 rfl ?_
  refine ax_get d_Rw_add_1 fg_Rw_21 (by first | assumption | exact hH.g 0 rfl | exact hH.g 1 rfl) (by rfl) ?_
  refine ax_aload_n d_Rw_add_4 rfl ?_
  refine ax_get d_Rw_add_5 fg_Rw_15 (by first | assumption | exact hH.g 0 rfl | exact hH.g 1 rfl) (by rfl) ?_
  refine az_alen d_Rw_add_8 (by first | assumption | exact hH.g 0 rfl | exact hH.g 1 rfl) ?_
  refine az_icmp_ge 32 d_Rw_add_9 (by decide) (by omega) (by omega) (fun hc => ?_) (fun hc => ?_)
  · refine ax_vret d_Rw_add_32 rfl ?_
    refine ⟨rfl, ⟨g, ?_⟩, hF⟩
    rw [radd, if_neg (by omega)]
    exact ⟨hH, hg, hle, hcap, hra⟩
  · refine ax_aload_n d_Rw_add_12 rfl ?_
    refine ax_get d_Rw_add_13 fg_Rw_15 (by first | assumption | exact hH.g 0 rfl | exact hH.g 1 rfl) (by rfl) ?_
    refine ax_aload_n d_Rw_add_16 rfl ?_
    refine ax_get d_Rw_add_17 fg_Rw_21 (by first | assumption | exact hH.g 0 rfl | exact hH.g 1 rfl) (by rfl) ?_
    refine ax_iload_n d_Rw_add_20 rfl ?_
    refine ah_iast d_Rw_add_21 hH hF 1 rfl hSa (by omega) (by omega) (by omega) (by omega) (fun h hH hF => ?_)
    refine ax_aload_n d_Rw_add_22 rfl ?_
    refine ax_dup d_Rw_add_23 rfl ?_
    refine ax_get d_Rw_add_24 fg_Rw_21 (by first | assumption | exact hH.g 0 rfl | exact hH.g 1 rfl) (by rfl) ?_
    refine az_iconst d_Rw_add_27 ?_
    refine az_iadd d_Rw_add_28 ?_
    refine ah_put d_Rw_add_29 fp_Rw_21 hH hF 0 rfl hSr rfl rfl (Nat.le_of_ble_eq_true rfl) (fun h hH hF => ?_)
    refine ax_vret d_Rw_add_32 rfl ?_
    refine ⟨rfl, ⟨up g xs.length b, ?_⟩, hF⟩
    rw [radd, if_pos (by omega)]
    refine ⟨?_, fun i hi => ?_, ?_, hcap, hra⟩
    · have e : ((xs ++ [b]).length : Int) = (xs.length : Int) + 1 := by simp
      rw [e]
      exact hH
    · rw [getD_snoc]
      simp at hi
      by_cases h2 : i = xs.length
      · rw [if_pos h2, h2, up_at]
      · rw [if_neg h2, up_ne h2, hg i (by omega)]
    · simp; omega
def raddN (cap : Nat) (b : Int) : Nat → List Int → List Int
  | 0, xs => xs
  | n + 1, xs => raddN cap b n (radd cap xs b)
set_option maxRecDepth 100000 in
theorem c_Rw_addMany {h : ax_H} {r ra cap : Nat} {xs : List Int} (hR : Rw h r ra cap xs) (b : Int) {n : Int} (hn : -2147483648 ≤ n ∧ n < 2147483648) : ax_Cv m_Rw_addMany 1 [.ref r, .int (iv n), .int (iv b)] h (fun h1 => Rw h1 r ra cap (raddN cap b n.toNat xs) ∧ Fr [r, ra] h h1) := by
  refine ax_enter [some (.ref r), some (.int (iv n)), some (.int (iv b)), none] rfl (Nat.le_of_ble_eq_true rfl) (by decide) ?_
  refine az_iconst d_Rw_addMany_0 ?_
  refine ax_istore_n d_Rw_addMany_1 (by decide) rfl ?_
  have key : ∀ (k : Nat) (i : Int) (ys : List Int) (h1 : ax_H), 0 ≤ i → i + k = n.toNat → Rw h1 r ra cap ys → Fr [r, ra] h h1 → raddN cap b k ys = raddN cap b n.toNat xs →
      ax_W m_Rw_addMany 1 2 [some (.ref r), some (.int (iv n)), some (.int (iv b)), some (.int (iv i))] [] h1 (fun r0 h1 => r0 = none ∧ Rw h1 r ra cap (raddN cap b n.toNat xs) ∧ Fr [r, ra] h h1) := by
    intro k
    induction k with
    | zero =>
      intro i ys h1 hi he hR hF hy
      refine ax_iload_n d_Rw_addMany_2 rfl ?_
      refine ax_iload_n d_Rw_addMany_3 rfl ?_
      refine az_icmp_ge 18 d_Rw_addMany_4 (by decide) (by omega) (by omega) (fun hc => ?_) (fun hc => ?_)
      · refine ax_vret d_Rw_addMany_18 rfl ?_
        refine ⟨rfl, ?_, hF⟩
        rw [← hy]
        exact hR
      · exfalso
        omega
    | succ k ih =>
      intro i ys h1 hi he hR hF hy
      refine ax_iload_n d_Rw_addMany_2 rfl ?_
      refine ax_iload_n d_Rw_addMany_3 rfl ?_
      refine az_icmp_ge 18 d_Rw_addMany_4 (by decide) (by omega) (by omega) (fun hc => ?_) (fun hc => ?_)
      · exfalso
        omega
      · have hsz := hR.sz
        refine ax_aload_n d_Rw_addMany_7 rfl ?_
        refine ax_iload_n d_Rw_addMany_8 rfl ?_
        refine ax_cV1 d_Rw_addMany_9 v_Rw_add lk_Rw_25 (by first | assumption | exact hH.g 0 rfl | exact hH.g 1 rfl) (by decide) (Nat.le_of_ble_eq_true rfl) (cm_v (c_Rw_add hR b) (fun h2 hp => ?_))
        obtain ⟨hR2, hF2⟩ := hp
        refine az_iinc d_Rw_addMany_12 rfl (by decide) rfl ?_
        refine ax_goto 2 d_Rw_addMany_15 (by decide) ?_
        exact ih (i + 1) _ h2 (by omega) (by omega) hR2 (hF.tr hF2) hy
  exact key n.toNat 0 xs h (by omega) (by omega) hR Fr.rf rfl
set_option maxRecDepth 100000 in
theorem c_Rw_shorten {h : ax_H} {r ra cap : Nat} {xs : List Int} (hR : Rw h r ra cap xs) {n : Int} (hn : -2147483648 ≤ n ∧ n < 2147483648) : ax_Cv m_Rw_shorten 0 [.ref r, .int (iv n)] h (fun h1 => Rw h1 r ra cap (if 0 ≤ n then xs.take n.toNat else xs) ∧ Fr [r, ra] h h1) := by
  obtain ⟨g, hH, hg, hle, hcap, hra⟩ := hR
  have hF : Fr [r, ra] h h := Fr.rf
  have hSr : [r, ra].contains r = true := by simp
  refine ax_enter [some (.ref r), some (.int (iv n))] rfl (Nat.le_of_ble_eq_true rfl) (by decide) ?_
  refine ax_iload_n d_Rw_shorten_0 rfl ?_
  refine az_if_lt 17 d_Rw_shorten_1 (by decide) (by omega) (fun hc => ?_) (fun hc => ?_)
  · refine ax_vret d_Rw_shorten_17 rfl ?_
    refine ⟨rfl, ⟨g, ?_⟩, hF⟩
    rw [if_neg (by omega)]
    exact ⟨hH, hg, hle, hcap, hra⟩
  · refine ax_iload_n d_Rw_shorten_4 rfl ?_
    refine ax_aload_n d_Rw_shorten_5 rfl ?_
    refine ax_get d_Rw_shorten_6 fg_Rw_21 (by first | assumption | exact hH.g 0 rfl | exact hH.g 1 rfl) (by rfl) ?_
    refine az_icmp_ge 17 d_Rw_shorten_9 (by decide) (by omega) (by omega) (fun hc => ?_) (fun hc => ?_)
    · refine ax_vret d_Rw_shorten_17 rfl ?_
      refine ⟨rfl, ⟨g, ?_⟩, hF⟩
      rw [if_pos (by omega), List.take_of_length_le (by omega)]
      exact ⟨hH, hg, hle, hcap, hra⟩
    · refine ax_aload_n d_Rw_shorten_12 rfl ?_
      refine ax_iload_n d_Rw_shorten_13 rfl ?_
      refine ah_put d_Rw_shorten_14 fp_Rw_21 hH hF 0 rfl hSr rfl rfl (Nat.le_of_ble_eq_true rfl) (fun h hH hF => ?_)
      refine ax_vret d_Rw_shorten_17 rfl ?_
      refine ⟨rfl, ⟨g, ?_⟩, hF⟩
      rw [if_pos (by omega)]
      have e : (xs.take n.toNat).length = n.toNat := by rw [List.length_take]; omega
      refine ⟨?_, fun i hi => ?_, by omega, hcap, hra⟩
      · rw [e, show ((n.toNat : Nat) : Int) = n by omega]
        exact hH
      · rw [e] at hi
        rw [hg i (by omega), List.getD_eq_getElem?_getD, List.getD_eq_getElem?_getD, List.getElem?_take, if_pos hi]
set_option maxRecDepth 100000 in
theorem c_Rw_joinWith {h : ax_H} {r ra cap : Nat} {xs : List Int} (hR : Rw h r ra cap xs) {i m : Int} (hi : 0 ≤ i ∧ i < (xs.length : Int)) : ax_Cv m_Rw_joinWith 1 [.ref r, .int (iv i), .int (iv m)] h (fun h1 => Rw h1 r ra cap (xs.set i.toNat (zxor (xs.getD i.toNat 0) m)) ∧ Fr [r, ra] h h1) := by
  have hsz := hR.sz
  have hR0 := hR
  obtain ⟨g, hH, hg, hle, hcap, hra⟩ := hR
  have hF : Fr [r, ra] h h := Fr.rf
  have hSa : [r, ra].contains ra = true := by simp
  refine ax_enter [some (.ref r), some (.int (iv i)), some (.int (iv m))] rfl (Nat.le_of_ble_eq_true rfl) (by decide) ?_
  refine ax_aload_n d_Rw_joinWith_0 rfl ?_
  refine ax_iload_n d_Rw_joinWith_1 rfl ?_
  refine ax_cV1 d_Rw_joinWith_2 v_Rw_has lk_Rw_29 (by first | assumption | exact hH.g 0 rfl | exact hH.g 1 rfl) (by decide) (Nat.le_of_ble_eq_true rfl) (cm_z (c_Rw_has hR0 (i := i) (by omega)) (fun b h1 hp => ?_))
  obtain ⟨rfl, hb⟩ := hp
  have hb : b = true := by rw [hb]; simp; omega
  subst hb
  refine az_if_eq 18 d_Rw_joinWith_5 (by decide) (by decide) (fun hc => ?_) (fun hc => ?_)
  · cases hc
  · refine ax_aload_n d_Rw_joinWith_8 rfl ?_
    refine ax_get d_Rw_joinWith_9 fg_Rw_15 (by first | assumption | exact hH.g 0 rfl | exact hH.g 1 rfl) (by rfl) ?_
    refine ax_iload_n d_Rw_joinWith_12 rfl ?_
    refine ax_dup2 d_Rw_joinWith_13 rfl rfl ?_
    refine az_iald d_Rw_joinWith_14 (by first | assumption | exact hH.g 0 rfl | exact hH.g 1 rfl) (by omega) (by omega) (by omega) ?_
    refine ax_iload_n d_Rw_joinWith_15 rfl ?_
    refine az_ixor d_Rw_joinWith_16 ?_
    refine ah_iast d_Rw_joinWith_17 hH hF 1 rfl hSa (by omega) (by omega) (by omega) (by omega) (fun h hH hF => ?_)
    refine ax_vret d_Rw_joinWith_18 rfl ?_
    have el : (xs.set i.toNat (zxor (xs.getD i.toNat 0) m)).length = xs.length := List.length_set
    refine ⟨rfl, ⟨up g i.toNat (zxor (g i.toNat) m), ?_⟩, hF⟩
    rw [el]
    refine ⟨hH, fun j hj => ?_, hle, hcap, hra⟩
    rw [List.getD_eq_getElem?_getD, List.getElem?_set]
    by_cases e : i.toNat = j
    · subst e
      rw [up_at, if_pos rfl, if_pos hj, hg _ hj]
      rfl
    · rw [up_ne (Ne.symm e), if_neg e, hg j hj, List.getD_eq_getElem?_getD]
/-- a list of bytes -/
def Bs (xs : List Int) : Prop := ∀ i : Nat, i < xs.length → 0 ≤ xs.getD i 0 ∧ xs.getD i 0 < 256
theorem take_succ_getD (ys : List Int) {k : Nat} (hk : k < ys.length) : ys.take k ++ [ys.getD k 0] = ys.take (k + 1) := by
  rw [List.take_add_one, List.getD_eq_getElem?_getD, List.getElem?_eq_getElem hk]
  rfl
set_option maxRecDepth 100000 in
theorem c_Rw_copyOf {h : ax_H} {r ra cap o oa ocap : Nat} {xs ys : List Int} (hR : Rw h r ra cap xs) (hO : Rw h o oa ocap ys) (hd1 : [r, ra].contains o = false) (hd2 : [r, ra].contains oa = false) (hlen : ys.length ≤ cap) : ax_Cv m_Rw_copyOf 1 [.ref r, .ref o] h (fun h1 => Rw h1 r ra cap ys ∧ Fr [r, ra] h h1) := by
  have hO' := hO
  obtain ⟨g, hH, hg, hle, hcap, hra⟩ := hR
  obtain ⟨go, hHo, hgo, hleo, hcapo, hrao⟩ := hO
  have hF : Fr [r, ra] h h := Fr.rf
  have hSr : [r, ra].contains r = true := by simp
  refine ax_enter [some (.ref r), some (.ref o), none] rfl (Nat.le_of_ble_eq_true rfl) (by decide) ?_
  refine ax_aload_n d_Rw_copyOf_0 rfl ?_
  refine az_iconst d_Rw_copyOf_1 ?_
  refine ah_put d_Rw_copyOf_2 fp_Rw_21 hH hF 0 rfl hSr rfl rfl (Nat.le_of_ble_eq_true rfl) (fun h1 hH hF1 => ?_)
  refine az_iconst d_Rw_copyOf_5 ?_
  refine ax_istore_n d_Rw_copyOf_6 (by decide) rfl ?_
  have key : ∀ (k : Nat) (i : Nat) (h2 : ax_H), i + k = ys.length → Rw h2 r ra cap (ys.take i) → Fr [r, ra] h h2 →
      ax_W m_Rw_copyOf 1 7 [some (.ref r), some (.ref o), some (.int (iv i))] [] h2 (fun r0 h1 => r0 = none ∧ Rw h1 r ra cap ys ∧ Fr [r, ra] h h1) := by
    intro k
    induction k with
    | zero =>
      intro i h2 he hR hF
      have hsz := (hO'.fr hF hd1 hd2).sz
      refine ax_iload_n d_Rw_copyOf_7 rfl ?_
      refine ax_aload_n d_Rw_copyOf_8 rfl ?_
      refine ax_get d_Rw_copyOf_9 fg_Rw_21 (by first | assumption | exact hH.g 0 rfl | exact hH.g 1 rfl) (by rfl) ?_
      refine az_icmp_ge 30 d_Rw_copyOf_12 (by decide) (by omega) (by omega) (fun hc => ?_) (fun hc => ?_)
      · refine ax_vret d_Rw_copyOf_30 rfl ?_
        refine ⟨rfl, ?_, hF⟩
        rw [List.take_of_length_le (by omega)] at hR
        exact hR
      · exfalso
        omega
    | succ k ih =>
      intro i h2 he hR hF
      have hO2 := hO'.fr hF hd1 hd2
      have hsz := hO2.sz
      have hszr := hR.sz
      refine ax_iload_n d_Rw_copyOf_7 rfl ?_
      refine ax_aload_n d_Rw_copyOf_8 rfl ?_
      refine ax_get d_Rw_copyOf_9 fg_Rw_21 (by first | assumption | exact hH.g 0 rfl | exact hH.g 1 rfl) (by rfl) ?_
      refine az_icmp_ge 30 d_Rw_copyOf_12 (by decide) (by omega) (by omega) (fun hc => ?_) (fun hc => ?_)
      · exfalso
        omega
      · refine ax_aload_n d_Rw_copyOf_15 rfl ?_
        refine ax_aload_n d_Rw_copyOf_16 rfl ?_
        refine ax_iload_n d_Rw_copyOf_17 rfl ?_
        refine ax_cV1 d_Rw_copyOf_18 v_Rw_at lk_Rw_33 (by first | assumption | exact hH.g 0 rfl | exact hH.g 1 rfl) (by decide) (Nat.le_of_ble_eq_true rfl) (cm_i (c_Rw_at hO2 (i := i) (by omega)) (fun z h3 hp => ?_))
        obtain ⟨rfl, rfl⟩ := hp
        refine ax_cV1 d_Rw_copyOf_21 v_Rw_add lk_Rw_25 (by first | assumption | exact hH.g 0 rfl | exact hH.g 1 rfl) (by decide) (Nat.le_of_ble_eq_true rfl) (cm_v (c_Rw_add hR _) (fun h4 hp => ?_))
        obtain ⟨hR4, hF4⟩ := hp
        refine az_iinc d_Rw_copyOf_24 rfl (by decide) rfl ?_
        refine ax_goto 7 d_Rw_copyOf_27 (by decide) ?_
        refine ih (i + 1) h4 (by omega) ?_ (hF.tr hF4)
        have e : radd cap (ys.take i) (rAt ys (i : Int)) = ys.take (i + 1) := by
          rw [radd, if_pos (by rw [List.length_take]; omega), rAt, if_pos (by omega), ← take_succ_getD ys (by omega)]
          rfl
        rw [e] at hR4
        exact hR4
  refine key ys.length 0 h1 (by omega) ⟨g, hH, fun i hi => by simp at hi, by simp, hcap, hra⟩ hF1
theorem ext_getD {xs ys : List Int} (hl : xs.length = ys.length) (h : ∀ i : Nat, i < xs.length → xs.getD i 0 = ys.getD i 0) : xs = ys := by
  apply List.ext_getElem?
  intro i
  by_cases hi : i < xs.length
  · have := h i hi
    rw [List.getD_eq_getElem?_getD, List.getD_eq_getElem?_getD, List.getElem?_eq_getElem hi, List.getElem?_eq_getElem (by omega)] at this
    rw [List.getElem?_eq_getElem hi, List.getElem?_eq_getElem (by omega)]
    exact congrArg some this
  · rw [List.getElem?_eq_none (by omega), List.getElem?_eq_none (by omega)]
set_option maxRecDepth 100000 in
theorem c_Rw_isLike {h : ax_H} {r ra cap o oa ocap : Nat} {xs ys : List Int} (hR : Rw h r ra cap xs) (hO : Rw h o oa ocap ys) (hbx : Bs xs) (hby : Bs ys) : ax_Cz m_Rw_isLike 1 [.ref r, .ref o] h (fun b h1 => h1 = h ∧ b = decide (xs = ys)) := by
  have hsz := hR.sz
  have hszo := hO.sz
  have hlx : xs.length ≤ 3000 := by obtain ⟨g, -, -, h1, h2, -⟩ := hR; omega
  have hly : ys.length ≤ 3000 := by obtain ⟨g, -, -, h1, h2, -⟩ := hO; omega
  refine ax_enter [some (.ref r), some (.ref o), none] rfl (Nat.le_of_ble_eq_true rfl) (by decide) ?_
  refine ax_aload_n d_Rw_isLike_0 rfl ?_
  refine ax_get d_Rw_isLike_1 fg_Rw_21 (by first | assumption ) (by rfl) ?_
  refine ax_aload_n d_Rw_isLike_4 rfl ?_
  refine ax_get d_Rw_isLike_5 fg_Rw_21 (by first | assumption ) (by rfl) ?_
  refine az_icmp_eq 13 d_Rw_isLike_8 (by decide) (by omega) (by omega) (fun hc => ?_) (fun hc => ?_)
  · have hl : xs.length = ys.length := by omega
    refine az_iconst d_Rw_isLike_13 ?_
    refine ax_istore_n d_Rw_isLike_14 (by decide) rfl ?_
    have key : ∀ (k : Nat) (i : Nat), i + k = xs.length → (∀ j : Nat, j < i → xs.getD j 0 = ys.getD j 0) →
        ax_W m_Rw_isLike 1 15 [some (.ref r), some (.ref o), some (.int (iv i))] [] h (fun r0 h1 => ∃ b : Bool, r0 = some (.int (iv (bz b))) ∧ h1 = h ∧ b = decide (xs = ys)) := by
      intro k
      induction k with
      | zero =>
        intro i he hj
        refine ax_iload_n d_Rw_isLike_15 rfl ?_
        refine ax_aload_n d_Rw_isLike_16 rfl ?_
        refine ax_get d_Rw_isLike_17 fg_Rw_21 (by first | assumption ) (by rfl) ?_
        refine az_icmp_ge 44 d_Rw_isLike_20 (by decide) (by omega) (by omega) (fun hc => ?_) (fun hc => ?_)
        · refine az_iconst d_Rw_isLike_44 ?_
          refine ax_zret d_Rw_isLike_45 rfl (by decide) ?_
          refine ⟨true, rfl, rfl, ?_⟩
          symm
          rw [decide_eq_true_eq]
          exact ext_getD hl (fun j hjx => hj j (by omega))
        · exfalso
          omega
      | succ k ih =>
        intro i he hj
        have b1 := hbx i (by omega)
        have b2 := hby i (by omega)
        have e1 : rAt xs i = xs.getD i 0 := by rw [rAt, if_pos (by omega)]; rfl
        have e2 : rAt ys i = ys.getD i 0 := by rw [rAt, if_pos (by omega)]; rfl
        refine ax_iload_n d_Rw_isLike_15 rfl ?_
        refine ax_aload_n d_Rw_isLike_16 rfl ?_
        refine ax_get d_Rw_isLike_17 fg_Rw_21 (by first | assumption ) (by rfl) ?_
        refine az_icmp_ge 44 d_Rw_isLike_20 (by decide) (by omega) (by omega) (fun hc => ?_) (fun hc => ?_)
        · exfalso
          omega
        · refine ax_aload_n d_Rw_isLike_23 rfl ?_
          refine ax_iload_n d_Rw_isLike_24 rfl ?_
          refine ax_cV1 d_Rw_isLike_25 v_Rw_at lk_Rw_33 (by first | assumption ) (by decide) (Nat.le_of_ble_eq_true rfl) (cm_i (c_Rw_at hR (i := i) (by omega)) (fun z h3 hp => ?_))
          obtain ⟨rfl, rfl⟩ := hp
          refine ax_aload_n d_Rw_isLike_28 rfl ?_
          refine ax_iload_n d_Rw_isLike_29 rfl ?_
          refine ax_cV1 d_Rw_isLike_30 v_Rw_at lk_Rw_33 (by first | assumption ) (by decide) (Nat.le_of_ble_eq_true rfl) (cm_i (c_Rw_at hO (i := i) (by omega)) (fun z h3 hp => ?_))
          obtain ⟨rfl, rfl⟩ := hp
          rw [e1, e2]
          refine az_icmp_eq 38 d_Rw_isLike_33 (by decide) (by omega) (by omega) (fun hc => ?_) (fun hc => ?_)
          · refine az_iinc d_Rw_isLike_38 rfl (by decide) rfl ?_
            refine ax_goto 15 d_Rw_isLike_41 (by decide) ?_
            refine ih (i + 1) (by omega) (fun j hj2 => ?_)
            by_cases e : j = i
            · subst e; exact hc
            · exact hj j (by omega)
          · refine az_iconst d_Rw_isLike_36 ?_
            refine ax_zret d_Rw_isLike_37 rfl (by decide) ?_
            refine ⟨false, rfl, rfl, ?_⟩
            symm
            rw [decide_eq_false_iff_not]
            intro q
            exact hc (by rw [q])
    exact key xs.length 0 (by omega) (fun j hj => by omega)
  · refine az_iconst d_Rw_isLike_11 ?_
    refine ax_zret d_Rw_isLike_12 rfl (by decide) ?_
    refine ⟨false, rfl, rfl, ?_⟩
    symm
    rw [decide_eq_false_iff_not]
    intro q
    exact hc (by rw [q])
end
