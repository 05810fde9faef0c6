-- ===== PART A: goes FIRST, ahead of the names: the tables' words, and 'selects' of the private methods out of them =====
/-- a private method of a class that the tables say can be made, by its rows of tables_1 -/
def lw_okq (q : MethodName × Nat) : Prop := (q.1.cls ≠ "java/lang/invoke/MethodHandle" ∧ q.1.cls ≠ "java/lang/invoke/VarHandle") ∧ Cond.instantiable q.1.cls q.2 ∈ tables_1 ∧ Cond.privateMethod q.1 ∈ tables_1 ∧ Cond.instanceMethod q.1 ∈ tables_1
theorem lw_p0 : lw_okq (⟨"SortTransform", "blockChanged", "()V"⟩, 8) := ⟨⟨by decide +kernel, by decide +kernel⟩, List.mem_of_getElem? (i := 17) (by decide +kernel), List.mem_of_getElem? (i := 342) (by decide +kernel), List.mem_of_getElem? (i := 343) (by decide +kernel)⟩
theorem lw_p1 : lw_okq (⟨"SortTransform", "benchUsed", "()V"⟩, 8) := ⟨⟨by decide +kernel, by decide +kernel⟩, List.mem_of_getElem? (i := 17) (by decide +kernel), List.mem_of_getElem? (i := 346) (by decide +kernel), List.mem_of_getElem? (i := 347) (by decide +kernel)⟩
theorem lw_p2 : lw_okq (⟨"SortTransform", "freshenPack", "()V"⟩, 8) := ⟨⟨by decide +kernel, by decide +kernel⟩, List.mem_of_getElem? (i := 17) (by decide +kernel), List.mem_of_getElem? (i := 382) (by decide +kernel), List.mem_of_getElem? (i := 383) (by decide +kernel)⟩
theorem lw_p3 : lw_okq (⟨"SortTransform", "freshenTurns", "()V"⟩, 8) := ⟨⟨by decide +kernel, by decide +kernel⟩, List.mem_of_getElem? (i := 17) (by decide +kernel), List.mem_of_getElem? (i := 400) (by decide +kernel), List.mem_of_getElem? (i := 401) (by decide +kernel)⟩
theorem lw_p4 : lw_okq (⟨"SortTransform$Turns", "lineUp", "()V"⟩, 9) := ⟨⟨by decide +kernel, by decide +kernel⟩, List.mem_of_getElem? (i := 56) (by decide +kernel), List.mem_of_getElem? (i := 412) (by decide +kernel), List.mem_of_getElem? (i := 413) (by decide +kernel)⟩
theorem lw_p5 : lw_okq (⟨"SortTransform$Turns", "sortByRank", "()V"⟩, 9) := ⟨⟨by decide +kernel, by decide +kernel⟩, List.mem_of_getElem? (i := 56) (by decide +kernel), List.mem_of_getElem? (i := 416) (by decide +kernel), List.mem_of_getElem? (i := 417) (by decide +kernel)⟩
theorem lw_p6 : lw_okq (⟨"SortTransform$Turns", "numberRanks", "(I)V"⟩, 9) := ⟨⟨by decide +kernel, by decide +kernel⟩, List.mem_of_getElem? (i := 56) (by decide +kernel), List.mem_of_getElem? (i := 420) (by decide +kernel), List.mem_of_getElem? (i := 421) (by decide +kernel)⟩
theorem lw_p7 : lw_okq (⟨"SortTransform$Turns", "around", "(I)I"⟩, 9) := ⟨⟨by decide +kernel, by decide +kernel⟩, List.mem_of_getElem? (i := 56) (by decide +kernel), List.mem_of_getElem? (i := 424) (by decide +kernel), List.mem_of_getElem? (i := 425) (by decide +kernel)⟩
theorem lw_p8 : lw_okq (⟨"SortTransform$Turns", "shift", "(I)V"⟩, 9) := ⟨⟨by decide +kernel, by decide +kernel⟩, List.mem_of_getElem? (i := 56) (by decide +kernel), List.mem_of_getElem? (i := 431) (by decide +kernel), List.mem_of_getElem? (i := 432) (by decide +kernel)⟩
theorem lw_p9 : lw_okq (⟨"SortTransform$Turns", "notePlaces", "(LSortTransform$Row;)V"⟩, 9) := ⟨⟨by decide +kernel, by decide +kernel⟩, List.mem_of_getElem? (i := 56) (by decide +kernel), List.mem_of_getElem? (i := 435) (by decide +kernel), List.mem_of_getElem? (i := 436) (by decide +kernel)⟩
theorem lw_p10 : lw_okq (⟨"SortTransform", "turnBegins", "(IJI)Z"⟩, 8) := ⟨⟨by decide +kernel, by decide +kernel⟩, List.mem_of_getElem? (i := 17) (by decide +kernel), List.mem_of_getElem? (i := 469) (by decide +kernel), List.mem_of_getElem? (i := 470) (by decide +kernel)⟩
theorem lw_p11 : lw_okq (⟨"SortTransform", "freshenCodes", "()V"⟩, 8) := ⟨⟨by decide +kernel, by decide +kernel⟩, List.mem_of_getElem? (i := 17) (by decide +kernel), List.mem_of_getElem? (i := 524) (by decide +kernel), List.mem_of_getElem? (i := 525) (by decide +kernel)⟩
theorem lw_p12 : lw_okq (⟨"SortTransform$Symbols", "addDigits", "(I)V"⟩, 4) := ⟨⟨by decide +kernel, by decide +kernel⟩, List.mem_of_getElem? (i := 112) (by decide +kernel), List.mem_of_getElem? (i := 543) (by decide +kernel), List.mem_of_getElem? (i := 544) (by decide +kernel)⟩
theorem lw_p13 : lw_okq (⟨"SortTransform$Symbols", "addSymbol", "(I)V"⟩, 4) := ⟨⟨by decide +kernel, by decide +kernel⟩, List.mem_of_getElem? (i := 112) (by decide +kernel), List.mem_of_getElem? (i := 547) (by decide +kernel), List.mem_of_getElem? (i := 548) (by decide +kernel)⟩
theorem lw_p14 : lw_okq (⟨"SortTransform$Codes", "weigh", "(LSortTransform$Symbols;)V"⟩, 7) := ⟨⟨by decide +kernel, by decide +kernel⟩, List.mem_of_getElem? (i := 153) (by decide +kernel), List.mem_of_getElem? (i := 560) (by decide +kernel), List.mem_of_getElem? (i := 561) (by decide +kernel)⟩
theorem lw_p15 : lw_okq (⟨"SortTransform$Joiner", "push", "(I)V"⟩, 5) := ⟨⟨by decide +kernel, by decide +kernel⟩, List.mem_of_getElem? (i := 159) (by decide +kernel), List.mem_of_getElem? (i := 578) (by decide +kernel), List.mem_of_getElem? (i := 579) (by decide +kernel)⟩
def lw_privs_1 : List (MethodName × Nat) := [(⟨"SortTransform", "blockChanged", "()V"⟩, 8), (⟨"SortTransform", "benchUsed", "()V"⟩, 8), (⟨"SortTransform", "freshenPack", "()V"⟩, 8), (⟨"SortTransform", "freshenTurns", "()V"⟩, 8), (⟨"SortTransform$Turns", "lineUp", "()V"⟩, 9), (⟨"SortTransform$Turns", "sortByRank", "()V"⟩, 9), (⟨"SortTransform$Turns", "numberRanks", "(I)V"⟩, 9), (⟨"SortTransform$Turns", "around", "(I)I"⟩, 9), (⟨"SortTransform$Turns", "shift", "(I)V"⟩, 9), (⟨"SortTransform$Turns", "notePlaces", "(LSortTransform$Row;)V"⟩, 9), (⟨"SortTransform", "turnBegins", "(IJI)Z"⟩, 8), (⟨"SortTransform", "freshenCodes", "()V"⟩, 8), (⟨"SortTransform$Symbols", "addDigits", "(I)V"⟩, 4), (⟨"SortTransform$Symbols", "addSymbol", "(I)V"⟩, 4), (⟨"SortTransform$Codes", "weigh", "(LSortTransform$Symbols;)V"⟩, 7), (⟨"SortTransform$Joiner", "push", "(I)V"⟩, 5)]
theorem lw_r1 : ∀ q ∈ lw_privs_1, lw_okq q := List.forall_mem_cons.mpr ⟨lw_p0, List.forall_mem_cons.mpr ⟨lw_p1, List.forall_mem_cons.mpr ⟨lw_p2, List.forall_mem_cons.mpr ⟨lw_p3, List.forall_mem_cons.mpr ⟨lw_p4, List.forall_mem_cons.mpr ⟨lw_p5, List.forall_mem_cons.mpr ⟨lw_p6, List.forall_mem_cons.mpr ⟨lw_p7, List.forall_mem_cons.mpr ⟨lw_p8, List.forall_mem_cons.mpr ⟨lw_p9, List.forall_mem_cons.mpr ⟨lw_p10, List.forall_mem_cons.mpr ⟨lw_p11, List.forall_mem_cons.mpr ⟨lw_p12, List.forall_mem_cons.mpr ⟨lw_p13, List.forall_mem_cons.mpr ⟨lw_p14, List.forall_mem_cons.mpr ⟨lw_p15, fun _ h => absurd h List.not_mem_nil⟩⟩⟩⟩⟩⟩⟩⟩⟩⟩⟩⟩⟩⟩⟩⟩
theorem lw_p16 : lw_okq (⟨"SortTransform$Joiner", "joinTwo", "(I)V"⟩, 5) := ⟨⟨by decide +kernel, by decide +kernel⟩, List.mem_of_getElem? (i := 159) (by decide +kernel), List.mem_of_getElem? (i := 582) (by decide +kernel), List.mem_of_getElem? (i := 583) (by decide +kernel)⟩
theorem lw_p17 : lw_okq (⟨"SortTransform$Joiner", "pop", "()I"⟩, 5) := ⟨⟨by decide +kernel, by decide +kernel⟩, List.mem_of_getElem? (i := 159) (by decide +kernel), List.mem_of_getElem? (i := 586) (by decide +kernel), List.mem_of_getElem? (i := 587) (by decide +kernel)⟩
theorem lw_p18 : lw_okq (⟨"SortTransform$Joiner", "measureDepths", "(II[I)I"⟩, 5) := ⟨⟨by decide +kernel, by decide +kernel⟩, List.mem_of_getElem? (i := 159) (by decide +kernel), List.mem_of_getElem? (i := 591) (by decide +kernel), List.mem_of_getElem? (i := 592) (by decide +kernel)⟩
theorem lw_p19 : lw_okq (⟨"SortTransform$StreamWriter", "put", "(II)V"⟩, 3) := ⟨⟨by decide +kernel, by decide +kernel⟩, List.mem_of_getElem? (i := 241) (by decide +kernel), List.mem_of_getElem? (i := 632) (by decide +kernel), List.mem_of_getElem? (i := 633) (by decide +kernel)⟩
theorem lw_p20 : lw_okq (⟨"SortTransform$StreamWriter", "putList", "(LSortTransform$FrontList;)V"⟩, 3) := ⟨⟨by decide +kernel, by decide +kernel⟩, List.mem_of_getElem? (i := 241) (by decide +kernel), List.mem_of_getElem? (i := 640) (by decide +kernel), List.mem_of_getElem? (i := 641) (by decide +kernel)⟩
theorem lw_p21 : lw_okq (⟨"SortTransform$StreamWriter", "putLengths", "(LSortTransform$Codes;)V"⟩, 3) := ⟨⟨by decide +kernel, by decide +kernel⟩, List.mem_of_getElem? (i := 241) (by decide +kernel), List.mem_of_getElem? (i := 654) (by decide +kernel), List.mem_of_getElem? (i := 655) (by decide +kernel)⟩
theorem lw_p22 : lw_okq (⟨"SortTransform$StreamWriter", "putCodes", "(LSortTransform$Symbols;LSortTransform$Codes;)V"⟩, 3) := ⟨⟨by decide +kernel, by decide +kernel⟩, List.mem_of_getElem? (i := 241) (by decide +kernel), List.mem_of_getElem? (i := 659) (by decide +kernel), List.mem_of_getElem? (i := 660) (by decide +kernel)⟩
theorem lw_p23 : lw_okq (⟨"SortTransform$StreamReader", "readHead", "()Z"⟩, 9) := ⟨⟨by decide +kernel, by decide +kernel⟩, List.mem_of_getElem? (i := 260) (by decide +kernel), List.mem_of_getElem? (i := 699) (by decide +kernel), List.mem_of_getElem? (i := 700) (by decide +kernel)⟩
theorem lw_p24 : lw_okq (⟨"SortTransform$StreamReader", "lacks", "(I)Z"⟩, 9) := ⟨⟨by decide +kernel, by decide +kernel⟩, List.mem_of_getElem? (i := 260) (by decide +kernel), List.mem_of_getElem? (i := 703) (by decide +kernel), List.mem_of_getElem? (i := 704) (by decide +kernel)⟩
theorem lw_p25 : lw_okq (⟨"SortTransform$StreamReader", "tapeEnds", "()Z"⟩, 9) := ⟨⟨by decide +kernel, by decide +kernel⟩, List.mem_of_getElem? (i := 260) (by decide +kernel), List.mem_of_getElem? (i := 707) (by decide +kernel), List.mem_of_getElem? (i := 708) (by decide +kernel)⟩
theorem lw_p26 : lw_okq (⟨"SortTransform$StreamReader", "fails", "(II)Z"⟩, 9) := ⟨⟨by decide +kernel, by decide +kernel⟩, List.mem_of_getElem? (i := 260) (by decide +kernel), List.mem_of_getElem? (i := 711) (by decide +kernel), List.mem_of_getElem? (i := 712) (by decide +kernel)⟩
theorem lw_p27 : lw_okq (⟨"SortTransform$StreamReader", "next", "(I)I"⟩, 9) := ⟨⟨by decide +kernel, by decide +kernel⟩, List.mem_of_getElem? (i := 260) (by decide +kernel), List.mem_of_getElem? (i := 715) (by decide +kernel), List.mem_of_getElem? (i := 716) (by decide +kernel)⟩
theorem lw_p28 : lw_okq (⟨"SortTransform$StreamReader", "byteNow", "()I"⟩, 9) := ⟨⟨by decide +kernel, by decide +kernel⟩, List.mem_of_getElem? (i := 260) (by decide +kernel), List.mem_of_getElem? (i := 719) (by decide +kernel), List.mem_of_getElem? (i := 720) (by decide +kernel)⟩
theorem lw_p29 : lw_okq (⟨"SortTransform$StreamReader", "readList", "(LSortTransform$FrontList;)Z"⟩, 9) := ⟨⟨by decide +kernel, by decide +kernel⟩, List.mem_of_getElem? (i := 260) (by decide +kernel), List.mem_of_getElem? (i := 724) (by decide +kernel), List.mem_of_getElem? (i := 725) (by decide +kernel)⟩
theorem lw_p30 : lw_okq (⟨"SortTransform$StreamReader", "readSixteenth", "(LSortTransform$FrontList;I)Z"⟩, 9) := ⟨⟨by decide +kernel, by decide +kernel⟩, List.mem_of_getElem? (i := 260) (by decide +kernel), List.mem_of_getElem? (i := 735) (by decide +kernel), List.mem_of_getElem? (i := 736) (by decide +kernel)⟩
theorem lw_p31 : lw_okq (⟨"SortTransform$StreamReader", "readLengths", "(LSortTransform$Codes;I)Z"⟩, 9) := ⟨⟨by decide +kernel, by decide +kernel⟩, List.mem_of_getElem? (i := 260) (by decide +kernel), List.mem_of_getElem? (i := 743) (by decide +kernel), List.mem_of_getElem? (i := 744) (by decide +kernel)⟩
def lw_privs_2 : List (MethodName × Nat) := [(⟨"SortTransform$Joiner", "joinTwo", "(I)V"⟩, 5), (⟨"SortTransform$Joiner", "pop", "()I"⟩, 5), (⟨"SortTransform$Joiner", "measureDepths", "(II[I)I"⟩, 5), (⟨"SortTransform$StreamWriter", "put", "(II)V"⟩, 3), (⟨"SortTransform$StreamWriter", "putList", "(LSortTransform$FrontList;)V"⟩, 3), (⟨"SortTransform$StreamWriter", "putLengths", "(LSortTransform$Codes;)V"⟩, 3), (⟨"SortTransform$StreamWriter", "putCodes", "(LSortTransform$Symbols;LSortTransform$Codes;)V"⟩, 3), (⟨"SortTransform$StreamReader", "readHead", "()Z"⟩, 9), (⟨"SortTransform$StreamReader", "lacks", "(I)Z"⟩, 9), (⟨"SortTransform$StreamReader", "tapeEnds", "()Z"⟩, 9), (⟨"SortTransform$StreamReader", "fails", "(II)Z"⟩, 9), (⟨"SortTransform$StreamReader", "next", "(I)I"⟩, 9), (⟨"SortTransform$StreamReader", "byteNow", "()I"⟩, 9), (⟨"SortTransform$StreamReader", "readList", "(LSortTransform$FrontList;)Z"⟩, 9), (⟨"SortTransform$StreamReader", "readSixteenth", "(LSortTransform$FrontList;I)Z"⟩, 9), (⟨"SortTransform$StreamReader", "readLengths", "(LSortTransform$Codes;I)Z"⟩, 9)]
theorem lw_r2 : ∀ q ∈ lw_privs_2, lw_okq q := List.forall_mem_cons.mpr ⟨lw_p16, List.forall_mem_cons.mpr ⟨lw_p17, List.forall_mem_cons.mpr ⟨lw_p18, List.forall_mem_cons.mpr ⟨lw_p19, List.forall_mem_cons.mpr ⟨lw_p20, List.forall_mem_cons.mpr ⟨lw_p21, List.forall_mem_cons.mpr ⟨lw_p22, List.forall_mem_cons.mpr ⟨lw_p23, List.forall_mem_cons.mpr ⟨lw_p24, List.forall_mem_cons.mpr ⟨lw_p25, List.forall_mem_cons.mpr ⟨lw_p26, List.forall_mem_cons.mpr ⟨lw_p27, List.forall_mem_cons.mpr ⟨lw_p28, List.forall_mem_cons.mpr ⟨lw_p29, List.forall_mem_cons.mpr ⟨lw_p30, List.forall_mem_cons.mpr ⟨lw_p31, fun _ h => absurd h List.not_mem_nil⟩⟩⟩⟩⟩⟩⟩⟩⟩⟩⟩⟩⟩⟩⟩⟩
theorem lw_p32 : lw_okq (⟨"SortTransform$StreamReader", "readLength", "(LSortTransform$Codes;I)Z"⟩, 9) := ⟨⟨by decide +kernel, by decide +kernel⟩, List.mem_of_getElem? (i := 260) (by decide +kernel), List.mem_of_getElem? (i := 754) (by decide +kernel), List.mem_of_getElem? (i := 755) (by decide +kernel)⟩
theorem lw_p33 : lw_okq (⟨"SortTransform$StreamReader", "readSymbols", "(LSortTransform$Codes;LSortTransform$FrontList;)Z"⟩, 9) := ⟨⟨by decide +kernel, by decide +kernel⟩, List.mem_of_getElem? (i := 260) (by decide +kernel), List.mem_of_getElem? (i := 767) (by decide +kernel), List.mem_of_getElem? (i := 768) (by decide +kernel)⟩
theorem lw_p34 : lw_okq (⟨"SortTransform$StreamReader", "nextSymbol", "(LSortTransform$Codes;)I"⟩, 9) := ⟨⟨by decide +kernel, by decide +kernel⟩, List.mem_of_getElem? (i := 260) (by decide +kernel), List.mem_of_getElem? (i := 771) (by decide +kernel), List.mem_of_getElem? (i := 772) (by decide +kernel)⟩
theorem lw_p35 : lw_okq (⟨"SortTransform$StreamReader", "isGivenBack", "(LSortTransform$Bench;)Z"⟩, 9) := ⟨⟨by decide +kernel, by decide +kernel⟩, List.mem_of_getElem? (i := 260) (by decide +kernel), List.mem_of_getElem? (i := 782) (by decide +kernel), List.mem_of_getElem? (i := 783) (by decide +kernel)⟩
theorem lw_p36 : lw_okq (⟨"SortTransform$StreamReader", "isAtEnd", "()Z"⟩, 9) := ⟨⟨by decide +kernel, by decide +kernel⟩, List.mem_of_getElem? (i := 260) (by decide +kernel), List.mem_of_getElem? (i := 796) (by decide +kernel), List.mem_of_getElem? (i := 797) (by decide +kernel)⟩
theorem lw_p37 : lw_okq (⟨"SortTransformModel", "packBlock", "()V"⟩, 31) := ⟨⟨by decide +kernel, by decide +kernel⟩, List.mem_of_getElem? (i := 808) (by decide +kernel), List.mem_of_getElem? (i := 936) (by decide +kernel), List.mem_of_getElem? (i := 937) (by decide +kernel)⟩
theorem lw_p38 : lw_okq (⟨"SortTransformModel", "lay", "()V"⟩, 31) := ⟨⟨by decide +kernel, by decide +kernel⟩, List.mem_of_getElem? (i := 808) (by decide +kernel), List.mem_of_getElem? (i := 948) (by decide +kernel), List.mem_of_getElem? (i := 949) (by decide +kernel)⟩
theorem lw_p39 : lw_okq (⟨"SortTransformModel", "takeBlock", "()V"⟩, 31) := ⟨⟨by decide +kernel, by decide +kernel⟩, List.mem_of_getElem? (i := 808) (by decide +kernel), List.mem_of_getElem? (i := 952) (by decide +kernel), List.mem_of_getElem? (i := 953) (by decide +kernel)⟩
theorem lw_p40 : lw_okq (⟨"SortTransformModel", "putInOrder", "()V"⟩, 31) := ⟨⟨by decide +kernel, by decide +kernel⟩, List.mem_of_getElem? (i := 808) (by decide +kernel), List.mem_of_getElem? (i := 956) (by decide +kernel), List.mem_of_getElem? (i := 957) (by decide +kernel)⟩
theorem lw_p41 : lw_okq (⟨"SortTransformModel", "isAbove", "(II)Z"⟩, 31) := ⟨⟨by decide +kernel, by decide +kernel⟩, List.mem_of_getElem? (i := 808) (by decide +kernel), List.mem_of_getElem? (i := 960) (by decide +kernel), List.mem_of_getElem? (i := 961) (by decide +kernel)⟩
theorem lw_p42 : lw_okq (⟨"SortTransformModel", "parts", "(II)I"⟩, 31) := ⟨⟨by decide +kernel, by decide +kernel⟩, List.mem_of_getElem? (i := 808) (by decide +kernel), List.mem_of_getElem? (i := 964) (by decide +kernel), List.mem_of_getElem? (i := 965) (by decide +kernel)⟩
theorem lw_p43 : lw_okq (⟨"SortTransformModel", "originOf", "()I"⟩, 31) := ⟨⟨by decide +kernel, by decide +kernel⟩, List.mem_of_getElem? (i := 808) (by decide +kernel), List.mem_of_getElem? (i := 968) (by decide +kernel), List.mem_of_getElem? (i := 969) (by decide +kernel)⟩
theorem lw_p44 : lw_okq (⟨"SortTransformModel", "givesBack", "(I)Z"⟩, 31) := ⟨⟨by decide +kernel, by decide +kernel⟩, List.mem_of_getElem? (i := 808) (by decide +kernel), List.mem_of_getElem? (i := 998) (by decide +kernel), List.mem_of_getElem? (i := 999) (by decide +kernel)⟩
theorem lw_p45 : lw_okq (⟨"SortTransformModel", "nexts", "()V"⟩, 31) := ⟨⟨by decide +kernel, by decide +kernel⟩, List.mem_of_getElem? (i := 808) (by decide +kernel), List.mem_of_getElem? (i := 1002) (by decide +kernel), List.mem_of_getElem? (i := 1003) (by decide +kernel)⟩
theorem lw_p46 : lw_okq (⟨"SortTransformModel", "lastAt", "(I)I"⟩, 31) := ⟨⟨by decide +kernel, by decide +kernel⟩, List.mem_of_getElem? (i := 808) (by decide +kernel), List.mem_of_getElem? (i := 1006) (by decide +kernel), List.mem_of_getElem? (i := 1007) (by decide +kernel)⟩
theorem lw_p47 : lw_okq (⟨"SortTransformModel", "makeSymbols", "()V"⟩, 31) := ⟨⟨by decide +kernel, by decide +kernel⟩, List.mem_of_getElem? (i := 808) (by decide +kernel), List.mem_of_getElem? (i := 1018) (by decide +kernel), List.mem_of_getElem? (i := 1019) (by decide +kernel)⟩
def lw_privs_3 : List (MethodName × Nat) := [(⟨"SortTransform$StreamReader", "readLength", "(LSortTransform$Codes;I)Z"⟩, 9), (⟨"SortTransform$StreamReader", "readSymbols", "(LSortTransform$Codes;LSortTransform$FrontList;)Z"⟩, 9), (⟨"SortTransform$StreamReader", "nextSymbol", "(LSortTransform$Codes;)I"⟩, 9), (⟨"SortTransform$StreamReader", "isGivenBack", "(LSortTransform$Bench;)Z"⟩, 9), (⟨"SortTransform$StreamReader", "isAtEnd", "()Z"⟩, 9), (⟨"SortTransformModel", "packBlock", "()V"⟩, 31), (⟨"SortTransformModel", "lay", "()V"⟩, 31), (⟨"SortTransformModel", "takeBlock", "()V"⟩, 31), (⟨"SortTransformModel", "putInOrder", "()V"⟩, 31), (⟨"SortTransformModel", "isAbove", "(II)Z"⟩, 31), (⟨"SortTransformModel", "parts", "(II)I"⟩, 31), (⟨"SortTransformModel", "originOf", "()I"⟩, 31), (⟨"SortTransformModel", "givesBack", "(I)Z"⟩, 31), (⟨"SortTransformModel", "nexts", "()V"⟩, 31), (⟨"SortTransformModel", "lastAt", "(I)I"⟩, 31), (⟨"SortTransformModel", "makeSymbols", "()V"⟩, 31)]
theorem lw_r3 : ∀ q ∈ lw_privs_3, lw_okq q := List.forall_mem_cons.mpr ⟨lw_p32, List.forall_mem_cons.mpr ⟨lw_p33, List.forall_mem_cons.mpr ⟨lw_p34, List.forall_mem_cons.mpr ⟨lw_p35, List.forall_mem_cons.mpr ⟨lw_p36, List.forall_mem_cons.mpr ⟨lw_p37, List.forall_mem_cons.mpr ⟨lw_p38, List.forall_mem_cons.mpr ⟨lw_p39, List.forall_mem_cons.mpr ⟨lw_p40, List.forall_mem_cons.mpr ⟨lw_p41, List.forall_mem_cons.mpr ⟨lw_p42, List.forall_mem_cons.mpr ⟨lw_p43, List.forall_mem_cons.mpr ⟨lw_p44, List.forall_mem_cons.mpr ⟨lw_p45, List.forall_mem_cons.mpr ⟨lw_p46, List.forall_mem_cons.mpr ⟨lw_p47, fun _ h => absurd h List.not_mem_nil⟩⟩⟩⟩⟩⟩⟩⟩⟩⟩⟩⟩⟩⟩⟩⟩
theorem lw_p48 : lw_okq (⟨"SortTransformModel", "rowHas", "(I)Z"⟩, 31) := ⟨⟨by decide +kernel, by decide +kernel⟩, List.mem_of_getElem? (i := 808) (by decide +kernel), List.mem_of_getElem? (i := 1022) (by decide +kernel), List.mem_of_getElem? (i := 1023) (by decide +kernel)⟩
theorem lw_p49 : lw_okq (⟨"SortTransformModel", "toFront", "(I)I"⟩, 31) := ⟨⟨by decide +kernel, by decide +kernel⟩, List.mem_of_getElem? (i := 808) (by decide +kernel), List.mem_of_getElem? (i := 1026) (by decide +kernel), List.mem_of_getElem? (i := 1027) (by decide +kernel)⟩
theorem lw_p50 : lw_okq (⟨"SortTransformModel", "putNoughts", "(I)V"⟩, 31) := ⟨⟨by decide +kernel, by decide +kernel⟩, List.mem_of_getElem? (i := 808) (by decide +kernel), List.mem_of_getElem? (i := 1030) (by decide +kernel), List.mem_of_getElem? (i := 1031) (by decide +kernel)⟩
theorem lw_p51 : lw_okq (⟨"SortTransformModel", "makeLengths", "()V"⟩, 31) := ⟨⟨by decide +kernel, by decide +kernel⟩, List.mem_of_getElem? (i := 808) (by decide +kernel), List.mem_of_getElem? (i := 1038) (by decide +kernel), List.mem_of_getElem? (i := 1039) (by decide +kernel)⟩
theorem lw_p52 : lw_okq (⟨"SortTransformModel", "join", "(I)V"⟩, 31) := ⟨⟨by decide +kernel, by decide +kernel⟩, List.mem_of_getElem? (i := 808) (by decide +kernel), List.mem_of_getElem? (i := 1042) (by decide +kernel), List.mem_of_getElem? (i := 1043) (by decide +kernel)⟩
theorem lw_p53 : lw_okq (⟨"SortTransformModel", "lightest", "(II)I"⟩, 31) := ⟨⟨by decide +kernel, by decide +kernel⟩, List.mem_of_getElem? (i := 808) (by decide +kernel), List.mem_of_getElem? (i := 1046) (by decide +kernel), List.mem_of_getElem? (i := 1047) (by decide +kernel)⟩
theorem lw_p54 : lw_okq (⟨"SortTransformModel", "makeCodes", "(I)V"⟩, 31) := ⟨⟨by decide +kernel, by decide +kernel⟩, List.mem_of_getElem? (i := 808) (by decide +kernel), List.mem_of_getElem? (i := 1050) (by decide +kernel), List.mem_of_getElem? (i := 1051) (by decide +kernel)⟩
theorem lw_p55 : lw_okq (⟨"SortTransformModel", "put", "(JI)V"⟩, 31) := ⟨⟨by decide +kernel, by decide +kernel⟩, List.mem_of_getElem? (i := 808) (by decide +kernel), List.mem_of_getElem? (i := 1068) (by decide +kernel), List.mem_of_getElem? (i := 1069) (by decide +kernel)⟩
theorem lw_p56 : lw_okq (⟨"SortTransformModel", "writeRow", "()V"⟩, 31) := ⟨⟨by decide +kernel, by decide +kernel⟩, List.mem_of_getElem? (i := 808) (by decide +kernel), List.mem_of_getElem? (i := 1074) (by decide +kernel), List.mem_of_getElem? (i := 1075) (by decide +kernel)⟩
theorem lw_p57 : lw_okq (⟨"SortTransformModel", "reads", "()Z"⟩, 31) := ⟨⟨by decide +kernel, by decide +kernel⟩, List.mem_of_getElem? (i := 808) (by decide +kernel), List.mem_of_getElem? (i := 1104) (by decide +kernel), List.mem_of_getElem? (i := 1105) (by decide +kernel)⟩
theorem lw_p58 : lw_okq (⟨"SortTransformModel", "get", "(I)J"⟩, 31) := ⟨⟨by decide +kernel, by decide +kernel⟩, List.mem_of_getElem? (i := 808) (by decide +kernel), List.mem_of_getElem? (i := 1108) (by decide +kernel), List.mem_of_getElem? (i := 1109) (by decide +kernel)⟩
theorem lw_p59 : lw_okq (⟨"SortTransformModel", "wrong", "(II)Z"⟩, 31) := ⟨⟨by decide +kernel, by decide +kernel⟩, List.mem_of_getElem? (i := 808) (by decide +kernel), List.mem_of_getElem? (i := 1112) (by decide +kernel), List.mem_of_getElem? (i := 1113) (by decide +kernel)⟩
theorem lw_p60 : lw_okq (⟨"SortTransformModel", "readsList", "()Z"⟩, 31) := ⟨⟨by decide +kernel, by decide +kernel⟩, List.mem_of_getElem? (i := 808) (by decide +kernel), List.mem_of_getElem? (i := 1116) (by decide +kernel), List.mem_of_getElem? (i := 1117) (by decide +kernel)⟩
theorem lw_p61 : lw_okq (⟨"SortTransformModel", "readsLengths", "()Z"⟩, 31) := ⟨⟨by decide +kernel, by decide +kernel⟩, List.mem_of_getElem? (i := 808) (by decide +kernel), List.mem_of_getElem? (i := 1120) (by decide +kernel), List.mem_of_getElem? (i := 1121) (by decide +kernel)⟩
theorem lw_p62 : lw_okq (⟨"SortTransformModel", "readsRow", "(I)Z"⟩, 31) := ⟨⟨by decide +kernel, by decide +kernel⟩, List.mem_of_getElem? (i := 808) (by decide +kernel), List.mem_of_getElem? (i := 1126) (by decide +kernel), List.mem_of_getElem? (i := 1127) (by decide +kernel)⟩
theorem lw_p63 : lw_okq (⟨"SortTransformModel", "readsSymbol", "()I"⟩, 31) := ⟨⟨by decide +kernel, by decide +kernel⟩, List.mem_of_getElem? (i := 808) (by decide +kernel), List.mem_of_getElem? (i := 1130) (by decide +kernel), List.mem_of_getElem? (i := 1131) (by decide +kernel)⟩
def lw_privs_4 : List (MethodName × Nat) := [(⟨"SortTransformModel", "rowHas", "(I)Z"⟩, 31), (⟨"SortTransformModel", "toFront", "(I)I"⟩, 31), (⟨"SortTransformModel", "putNoughts", "(I)V"⟩, 31), (⟨"SortTransformModel", "makeLengths", "()V"⟩, 31), (⟨"SortTransformModel", "join", "(I)V"⟩, 31), (⟨"SortTransformModel", "lightest", "(II)I"⟩, 31), (⟨"SortTransformModel", "makeCodes", "(I)V"⟩, 31), (⟨"SortTransformModel", "put", "(JI)V"⟩, 31), (⟨"SortTransformModel", "writeRow", "()V"⟩, 31), (⟨"SortTransformModel", "reads", "()Z"⟩, 31), (⟨"SortTransformModel", "get", "(I)J"⟩, 31), (⟨"SortTransformModel", "wrong", "(II)Z"⟩, 31), (⟨"SortTransformModel", "readsList", "()Z"⟩, 31), (⟨"SortTransformModel", "readsLengths", "()Z"⟩, 31), (⟨"SortTransformModel", "readsRow", "(I)Z"⟩, 31), (⟨"SortTransformModel", "readsSymbol", "()I"⟩, 31)]
theorem lw_r4 : ∀ q ∈ lw_privs_4, lw_okq q := List.forall_mem_cons.mpr ⟨lw_p48, List.forall_mem_cons.mpr ⟨lw_p49, List.forall_mem_cons.mpr ⟨lw_p50, List.forall_mem_cons.mpr ⟨lw_p51, List.forall_mem_cons.mpr ⟨lw_p52, List.forall_mem_cons.mpr ⟨lw_p53, List.forall_mem_cons.mpr ⟨lw_p54, List.forall_mem_cons.mpr ⟨lw_p55, List.forall_mem_cons.mpr ⟨lw_p56, List.forall_mem_cons.mpr ⟨lw_p57, List.forall_mem_cons.mpr ⟨lw_p58, List.forall_mem_cons.mpr ⟨lw_p59, List.forall_mem_cons.mpr ⟨lw_p60, List.forall_mem_cons.mpr ⟨lw_p61, List.forall_mem_cons.mpr ⟨lw_p62, List.forall_mem_cons.mpr ⟨lw_p63, fun _ h => absurd h List.not_mem_nil⟩⟩⟩⟩⟩⟩⟩⟩⟩⟩⟩⟩⟩⟩⟩⟩
theorem lw_p64 : lw_okq (⟨"SortTransformModel", "unpacks", "()Z"⟩, 31) := ⟨⟨by decide +kernel, by decide +kernel⟩, List.mem_of_getElem? (i := 808) (by decide +kernel), List.mem_of_getElem? (i := 1134) (by decide +kernel), List.mem_of_getElem? (i := 1135) (by decide +kernel)⟩
def lw_privs_5 : List (MethodName × Nat) := [(⟨"SortTransformModel", "unpacks", "()Z"⟩, 31)]
theorem lw_r5 : ∀ q ∈ lw_privs_5, lw_okq q := List.forall_mem_cons.mpr ⟨lw_p64, fun _ h => absurd h List.not_mem_nil⟩
def lw_privs : List (MethodName × Nat) := lw_privs_1 ++ (lw_privs_2 ++ (lw_privs_3 ++ (lw_privs_4 ++ (lw_privs_5))))
def lw_tbl : List Cond := k2_sels lw_privs ++ tables_1
theorem lw_privs_ok : ∀ q ∈ lw_privs, lw_okq q := by
  show ∀ q ∈ lw_privs_1 ++ (lw_privs_2 ++ (lw_privs_3 ++ (lw_privs_4 ++ (lw_privs_5)))), lw_okq q
  exact List.forall_mem_append.mpr ⟨lw_r1, List.forall_mem_append.mpr ⟨lw_r2, List.forall_mem_append.mpr ⟨lw_r3, List.forall_mem_append.mpr ⟨lw_r4, lw_r5⟩⟩⟩⟩
def n_S : String := "SortTransform"
def f_S : u_T := fun k => match k with
  | 0 => ("SortTransform", "block", "LSortTransform$Row;", true)
  | 1 => ("SortTransform", "packedBlock", "LSortTransform$Row;", true)
  | 2 => ("SortTransform", "bench", "LSortTransform$Bench;", true)
  | 3 => ("SortTransform", "writer", "LSortTransform$StreamWriter;", true)
  | 4 => ("SortTransform", "reader", "LSortTransform$StreamReader;", true)
  | 5 => ("SortTransform", "packFresh", "Z", false)
  | 6 => ("SortTransform", "turnsFresh", "Z", false)
  | _ => ("SortTransform", "codesFresh", "Z", false)
def t_S : Nat → FieldType := fun k => match k with
  | 0 => .object "SortTransform$Row"
  | 1 => .object "SortTransform$Row"
  | 2 => .object "SortTransform$Bench"
  | 3 => .object "SortTransform$StreamWriter"
  | 4 => .object "SortTransform$StreamReader"
  | 5 => .boolean
  | 6 => .boolean
  | _ => .boolean
theorem nm_S : ∀ a, a < 8 → ∀ b, b < 8 → a ≠ b → (f_S a).2.1 ≠ (f_S b).2.1 := by decide +kernel
theorem ty_S : ∀ k, k < 8 → parseFieldDescriptor (f_S k).2.2.1 = some (t_S k) := by decide +kernel
def n_Bn : String := "SortTransform$Bench"
def f_Bn : u_T := fun k => match k with
  | 0 => ("SortTransform$Bench", "turns", "LSortTransform$Turns;", true)
  | 1 => ("SortTransform$Bench", "chain", "LSortTransform$Chain;", true)
  | 2 => ("SortTransform$Bench", "symbols", "LSortTransform$Symbols;", true)
  | 3 => ("SortTransform$Bench", "codes", "LSortTransform$Codes;", true)
  | 4 => ("SortTransform$Bench", "given", "LSortTransform$Row;", true)
  | 5 => ("SortTransform$Bench", "unpacked", "LSortTransform$Row;", true)
  | _ => ("SortTransform$Bench", "again", "LSortTransform$Row;", true)
def t_Bn : Nat → FieldType := fun k => match k with
  | 0 => .object "SortTransform$Turns"
  | 1 => .object "SortTransform$Chain"
  | 2 => .object "SortTransform$Symbols"
  | 3 => .object "SortTransform$Codes"
  | 4 => .object "SortTransform$Row"
  | 5 => .object "SortTransform$Row"
  | _ => .object "SortTransform$Row"
theorem nm_Bn : ∀ a, a < 7 → ∀ b, b < 7 → a ≠ b → (f_Bn a).2.1 ≠ (f_Bn b).2.1 := by decide +kernel
theorem ty_Bn : ∀ k, k < 7 → parseFieldDescriptor (f_Bn k).2.2.1 = some (t_Bn k) := by decide +kernel
def n_Ch : String := "SortTransform$Chain"
def f_Ch : u_T := fun k => match k with
  | 0 => ("SortTransform$Chain", "next", "[I", true)
  | 1 => ("SortTransform$Chain", "offsets", "[I", true)
  | _ => ("SortTransform$Chain", "size", "I", false)
def t_Ch : Nat → FieldType := fun k => match k with
  | 0 => .array .int
  | 1 => .array .int
  | _ => .int
theorem nm_Ch : ∀ a, a < 3 → ∀ b, b < 3 → a ≠ b → (f_Ch a).2.1 ≠ (f_Ch b).2.1 := by decide +kernel
theorem ty_Ch : ∀ k, k < 3 → parseFieldDescriptor (f_Ch k).2.2.1 = some (t_Ch k) := by decide +kernel
def n_Cd : String := "SortTransform$Codes"
def f_Cd : u_T := fun k => match k with
  | 0 => ("SortTransform$Codes", "joiner", "LSortTransform$Joiner;", true)
  | 1 => ("SortTransform$Codes", "weights", "[I", true)
  | 2 => ("SortTransform$Codes", "lengths", "[I", true)
  | 3 => ("SortTransform$Codes", "values", "[I", true)
  | 4 => ("SortTransform$Codes", "byLength", "[I", true)
  | 5 => ("SortTransform$Codes", "perLength", "[I", true)
  | _ => ("SortTransform$Codes", "count", "I", false)
def t_Cd : Nat → FieldType := fun k => match k with
  | 0 => .object "SortTransform$Joiner"
  | 1 => .array .int
  | 2 => .array .int
  | 3 => .array .int
  | 4 => .array .int
  | 5 => .array .int
  | _ => .int
theorem nm_Cd : ∀ a, a < 7 → ∀ b, b < 7 → a ≠ b → (f_Cd a).2.1 ≠ (f_Cd b).2.1 := by decide +kernel
theorem ty_Cd : ∀ k, k < 7 → parseFieldDescriptor (f_Cd k).2.2.1 = some (t_Cd k) := by decide +kernel
def n_Fl : String := "SortTransform$FrontList"
def f_Fl : u_T := fun k => match k with
  | 0 => ("SortTransform$FrontList", "bytes", "[I", true)
  | _ => ("SortTransform$FrontList", "size", "I", false)
def t_Fl : Nat → FieldType := fun k => match k with
  | 0 => .array .int
  | _ => .int
theorem nm_Fl : ∀ a, a < 2 → ∀ b, b < 2 → a ≠ b → (f_Fl a).2.1 ≠ (f_Fl b).2.1 := by decide +kernel
theorem ty_Fl : ∀ k, k < 2 → parseFieldDescriptor (f_Fl k).2.2.1 = some (t_Fl k) := by decide +kernel
def n_Jn : String := "SortTransform$Joiner"
def f_Jn : u_T := fun k => match k with
  | 0 => ("SortTransform$Joiner", "heap", "[I", true)
  | 1 => ("SortTransform$Joiner", "nodeOfLeast", "[I", true)
  | 2 => ("SortTransform$Joiner", "parents", "[I", true)
  | 3 => ("SortTransform$Joiner", "depths", "[I", true)
  | _ => ("SortTransform$Joiner", "size", "I", false)
def t_Jn : Nat → FieldType := fun k => match k with
  | 0 => .array .int
  | 1 => .array .int
  | 2 => .array .int
  | 3 => .array .int
  | _ => .int
theorem nm_Jn : ∀ a, a < 5 → ∀ b, b < 5 → a ≠ b → (f_Jn a).2.1 ≠ (f_Jn b).2.1 := by decide +kernel
theorem ty_Jn : ∀ k, k < 5 → parseFieldDescriptor (f_Jn k).2.2.1 = some (t_Jn k) := by decide +kernel
def n_Rw : String := "SortTransform$Row"
def f_Rw : u_T := fun k => match k with
  | 0 => ("SortTransform$Row", "bytes", "[I", true)
  | _ => ("SortTransform$Row", "size", "I", false)
def t_Rw : Nat → FieldType := fun k => match k with
  | 0 => .array .int
  | _ => .int
theorem nm_Rw : ∀ a, a < 2 → ∀ b, b < 2 → a ≠ b → (f_Rw a).2.1 ≠ (f_Rw b).2.1 := by decide +kernel
theorem ty_Rw : ∀ k, k < 2 → parseFieldDescriptor (f_Rw k).2.2.1 = some (t_Rw k) := by decide +kernel
def n_Sr : String := "SortTransform$StreamReader"
def f_Sr : u_T := fun k => match k with
  | 0 => ("SortTransform$StreamReader", "tape", "LSortTransform$Row;", true)
  | 1 => ("SortTransform$StreamReader", "last", "LSortTransform$Row;", true)
  | 2 => ("SortTransform$StreamReader", "position", "I", false)
  | 3 => ("SortTransform$StreamReader", "count", "I", false)
  | 4 => ("SortTransform$StreamReader", "origin", "I", false)
  | 5 => ("SortTransform$StreamReader", "check", "I", false)
  | 6 => ("SortTransform$StreamReader", "lengthAtHand", "I", false)
  | 7 => ("SortTransform$StreamReader", "fault", "I", false)
  | _ => ("SortTransform$StreamReader", "faultPlace", "I", false)
def t_Sr : Nat → FieldType := fun k => match k with
  | 0 => .object "SortTransform$Row"
  | 1 => .object "SortTransform$Row"
  | 2 => .int
  | 3 => .int
  | 4 => .int
  | 5 => .int
  | 6 => .int
  | 7 => .int
  | _ => .int
theorem nm_Sr : ∀ a, a < 9 → ∀ b, b < 9 → a ≠ b → (f_Sr a).2.1 ≠ (f_Sr b).2.1 := by decide +kernel
theorem ty_Sr : ∀ k, k < 9 → parseFieldDescriptor (f_Sr k).2.2.1 = some (t_Sr k) := by decide +kernel
def n_Sw : String := "SortTransform$StreamWriter"
def f_Sw : u_T := fun k => match k with
  | 0 => ("SortTransform$StreamWriter", "out", "LSortTransform$Row;", true)
  | 1 => ("SortTransform$StreamWriter", "held", "I", false)
  | _ => ("SortTransform$StreamWriter", "heldBits", "I", false)
def t_Sw : Nat → FieldType := fun k => match k with
  | 0 => .object "SortTransform$Row"
  | 1 => .int
  | _ => .int
theorem nm_Sw : ∀ a, a < 3 → ∀ b, b < 3 → a ≠ b → (f_Sw a).2.1 ≠ (f_Sw b).2.1 := by decide +kernel
theorem ty_Sw : ∀ k, k < 3 → parseFieldDescriptor (f_Sw k).2.2.1 = some (t_Sw k) := by decide +kernel
def n_Sy : String := "SortTransform$Symbols"
def f_Sy : u_T := fun k => match k with
  | 0 => ("SortTransform$Symbols", "list", "LSortTransform$FrontList;", true)
  | 1 => ("SortTransform$Symbols", "row", "[I", true)
  | 2 => ("SortTransform$Symbols", "count", "I", false)
  | _ => ("SortTransform$Symbols", "end", "I", false)
def t_Sy : Nat → FieldType := fun k => match k with
  | 0 => .object "SortTransform$FrontList"
  | 1 => .array .int
  | 2 => .int
  | _ => .int
theorem nm_Sy : ∀ a, a < 4 → ∀ b, b < 4 → a ≠ b → (f_Sy a).2.1 ≠ (f_Sy b).2.1 := by decide +kernel
theorem ty_Sy : ∀ k, k < 4 → parseFieldDescriptor (f_Sy k).2.2.1 = some (t_Sy k) := by decide +kernel
def n_Tu : String := "SortTransform$Turns"
def f_Tu : u_T := fun k => match k with
  | 0 => ("SortTransform$Turns", "lasts", "LSortTransform$Row;", true)
  | 1 => ("SortTransform$Turns", "order", "[I", true)
  | 2 => ("SortTransform$Turns", "places", "[I", true)
  | 3 => ("SortTransform$Turns", "ranks", "[I", true)
  | 4 => ("SortTransform$Turns", "line", "[I", true)
  | 5 => ("SortTransform$Turns", "offsets", "[I", true)
  | 6 => ("SortTransform$Turns", "size", "I", false)
  | 7 => ("SortTransform$Turns", "rankCount", "I", false)
  | _ => ("SortTransform$Turns", "doublings", "I", false)
def t_Tu : Nat → FieldType := fun k => match k with
  | 0 => .object "SortTransform$Row"
  | 1 => .array .int
  | 2 => .array .int
  | 3 => .array .int
  | 4 => .array .int
  | 5 => .array .int
  | 6 => .int
  | 7 => .int
  | _ => .int
theorem nm_Tu : ∀ a, a < 9 → ∀ b, b < 9 → a ≠ b → (f_Tu a).2.1 ≠ (f_Tu b).2.1 := by decide +kernel
theorem ty_Tu : ∀ k, k < 9 → parseFieldDescriptor (f_Tu k).2.2.1 = some (t_Tu k) := by decide +kernel
def n_Mo : String := "SortTransformModel"
def f_Mo : u_T := fun k => match k with
  | 0 => ("SortTransformModel", "many", "I", false)
  | 1 => ("SortTransformModel", "block", "[I", true)
  | 2 => ("SortTransformModel", "size", "I", false)
  | 3 => ("SortTransformModel", "row", "[I", true)
  | 4 => ("SortTransformModel", "order", "[I", true)
  | 5 => ("SortTransformModel", "merged", "[I", true)
  | 6 => ("SortTransformModel", "isLaid", "Z", false)
  | 7 => ("SortTransformModel", "blockOrder", "[I", true)
  | 8 => ("SortTransformModel", "blockOrigin", "I", false)
  | 9 => ("SortTransformModel", "blockRounds", "I", false)
  | 10 => ("SortTransformModel", "next", "[I", true)
  | 11 => ("SortTransformModel", "given", "[I", true)
  | 12 => ("SortTransformModel", "listed", "I", false)
  | 13 => ("SortTransformModel", "list", "[I", true)
  | 14 => ("SortTransformModel", "symbols", "I", false)
  | 15 => ("SortTransformModel", "symbol", "[I", true)
  | 16 => ("SortTransformModel", "lengths", "[I", true)
  | 17 => ("SortTransformModel", "codes", "[I", true)
  | 18 => ("SortTransformModel", "weight", "[J", true)
  | 19 => ("SortTransformModel", "leastOf", "[I", true)
  | 20 => ("SortTransformModel", "above", "[I", true)
  | 21 => ("SortTransformModel", "told", "[J", true)
  | 22 => ("SortTransformModel", "out", "[B", true)
  | 23 => ("SortTransformModel", "outBits", "I", false)
  | 24 => ("SortTransformModel", "outSize", "I", false)
  | 25 => ("SortTransformModel", "tape", "[B", true)
  | 26 => ("SortTransformModel", "taped", "I", false)
  | 27 => ("SortTransformModel", "at", "I", false)
  | 28 => ("SortTransformModel", "fault", "I", false)
  | 29 => ("SortTransformModel", "faultPlace", "I", false)
  | _ => ("SortTransformModel", "kept", "[I", true)
def t_Mo : Nat → FieldType := fun k => match k with
  | 0 => .int
  | 1 => .array .int
  | 2 => .int
  | 3 => .array .int
  | 4 => .array .int
  | 5 => .array .int
  | 6 => .boolean
  | 7 => .array .int
  | 8 => .int
  | 9 => .int
  | 10 => .array .int
  | 11 => .array .int
  | 12 => .int
  | 13 => .array .int
  | 14 => .int
  | 15 => .array .int
  | 16 => .array .int
  | 17 => .array .int
  | 18 => .array .long
  | 19 => .array .int
  | 20 => .array .int
  | 21 => .array .long
  | 22 => .array .byte
  | 23 => .int
  | 24 => .int
  | 25 => .array .byte
  | 26 => .int
  | 27 => .int
  | 28 => .int
  | 29 => .int
  | _ => .array .int
theorem nm_Mo : ∀ a, a < 31 → ∀ b, b < 31 → a ≠ b → (f_Mo a).2.1 ≠ (f_Mo b).2.1 := by decide +kernel
theorem ty_Mo : ∀ k, k < 31 → parseFieldDescriptor (f_Mo k).2.2.1 = some (t_Mo k) := by decide +kernel
def n_Lw : String := "SortTransformLaw"
def n_Ar : String := "java/util/Arrays"
abbrev vwCl : List vw_C := [(n_S, f_S, 8), (n_Bn, f_Bn, 7), (n_Ch, f_Ch, 3), (n_Cd, f_Cd, 7), (n_Fl, f_Fl, 2), (n_Jn, f_Jn, 5), (n_Rw, f_Rw, 2), (n_Sr, f_Sr, 9), (n_Sw, f_Sw, 3), (n_Sy, f_Sy, 4), (n_Tu, f_Tu, 9), (n_Mo, f_Mo, 31)]
abbrev ax_ty : List FieldType := [.int, .long, .byte]
abbrev m_S_init : MethodName × ByteArray × Nat × Option FieldType := (⟨n_S, "<init>", "()V"⟩, prog_1_method_1_code, 1, none)
abbrev m_S_feed : MethodName × ByteArray × Nat × Option FieldType := (⟨n_S, "feed", "(JI)I"⟩, prog_1_method_2_code, 5, (some .int))
abbrev m_S_fill : MethodName × ByteArray × Nat × Option FieldType := (⟨n_S, "fill", "(II)I"⟩, prog_1_method_3_code, 3, (some .int))
abbrev m_S_clear : MethodName × ByteArray × Nat × Option FieldType := (⟨n_S, "clear", "()I"⟩, prog_1_method_4_code, 2, (some .int))
abbrev m_S_octet : MethodName × ByteArray × Nat × Option FieldType := (⟨n_S, "octet", "(I)I"⟩, prog_1_method_5_code, 2, (some .int))
abbrev m_S_pack : MethodName × ByteArray × Nat × Option FieldType := (⟨n_S, "pack", "()I"⟩, prog_1_method_6_code, 1, (some .int))
abbrev m_S_packed : MethodName × ByteArray × Nat × Option FieldType := (⟨n_S, "packed", "(I)I"⟩, prog_1_method_7_code, 2, (some .int))
abbrev m_S_order : MethodName × ByteArray × Nat × Option FieldType := (⟨n_S, "order", "(I)I"⟩, prog_1_method_8_code, 2, (some .int))
abbrev m_S_last : MethodName × ByteArray × Nat × Option FieldType := (⟨n_S, "last", "(I)I"⟩, prog_1_method_9_code, 2, (some .int))
abbrev m_S_origin : MethodName × ByteArray × Nat × Option FieldType := (⟨n_S, "origin", "()I"⟩, prog_1_method_10_code, 1, (some .int))
abbrev m_S_rounds : MethodName × ByteArray × Nat × Option FieldType := (⟨n_S, "rounds", "()I"⟩, prog_1_method_11_code, 1, (some .int))
abbrev m_S_start : MethodName × ByteArray × Nat × Option FieldType := (⟨n_S, "start", "(II)I"⟩, prog_1_method_12_code, 3, (some .int))
abbrev m_S_steps : MethodName × ByteArray × Nat × Option FieldType := (⟨n_S, "steps", "(JII)I"⟩, prog_1_method_13_code, 8, (some .int))
abbrev m_S_back : MethodName × ByteArray × Nat × Option FieldType := (⟨n_S, "back", "(I)I"⟩, prog_1_method_14_code, 3, (some .int))
abbrev m_S_ring : MethodName × ByteArray × Nat × Option FieldType := (⟨n_S, "ring", "(I)I"⟩, prog_1_method_15_code, 2, (some .int))
abbrev m_S_symbol : MethodName × ByteArray × Nat × Option FieldType := (⟨n_S, "symbol", "(I)I"⟩, prog_1_method_16_code, 2, (some .int))
abbrev m_S_code : MethodName × ByteArray × Nat × Option FieldType := (⟨n_S, "code", "(II)I"⟩, prog_1_method_17_code, 4, (some .int))
abbrev m_S_bits : MethodName × ByteArray × Nat × Option FieldType := (⟨n_S, "bits", "()I"⟩, prog_1_method_18_code, 3, (some .int))
abbrev m_S_write : MethodName × ByteArray × Nat × Option FieldType := (⟨n_S, "write", "()I"⟩, prog_1_method_19_code, 1, (some .int))
abbrev m_S_out : MethodName × ByteArray × Nat × Option FieldType := (⟨n_S, "out", "(I)I"⟩, prog_1_method_20_code, 2, (some .int))
abbrev m_S_tape : MethodName × ByteArray × Nat × Option FieldType := (⟨n_S, "tape", "(JI)I"⟩, prog_1_method_21_code, 4, (some .int))
abbrev m_S_take : MethodName × ByteArray × Nat × Option FieldType := (⟨n_S, "take", "()I"⟩, prog_1_method_22_code, 1, (some .int))
abbrev m_S_spoil : MethodName × ByteArray × Nat × Option FieldType := (⟨n_S, "spoil", "(II)I"⟩, prog_1_method_23_code, 3, (some .int))
abbrev m_S_cut : MethodName × ByteArray × Nat × Option FieldType := (⟨n_S, "cut", "(I)I"⟩, prog_1_method_24_code, 3, (some .int))
abbrev m_S_read : MethodName × ByteArray × Nat × Option FieldType := (⟨n_S, "read", "()I"⟩, prog_1_method_25_code, 2, (some .int))
abbrev m_S_faultAt : MethodName × ByteArray × Nat × Option FieldType := (⟨n_S, "faultAt", "()I"⟩, prog_1_method_26_code, 1, (some .int))
abbrev m_S_check : MethodName × ByteArray × Nat × Option FieldType := (⟨n_S, "check", "()I"⟩, prog_1_method_27_code, 1, (some .int))
abbrev m_S_blockChanged : MethodName × ByteArray × Nat × Option FieldType := (⟨n_S, "blockChanged", "()V"⟩, prog_1_method_28_code, 1, none)
abbrev m_S_benchUsed : MethodName × ByteArray × Nat × Option FieldType := (⟨n_S, "benchUsed", "()V"⟩, prog_1_method_29_code, 1, none)
abbrev m_S_freshenPack : MethodName × ByteArray × Nat × Option FieldType := (⟨n_S, "freshenPack", "()V"⟩, prog_1_method_30_code, 1, none)
abbrev m_S_freshenTurns : MethodName × ByteArray × Nat × Option FieldType := (⟨n_S, "freshenTurns", "()V"⟩, prog_1_method_31_code, 1, none)
abbrev m_S_freshenCodes : MethodName × ByteArray × Nat × Option FieldType := (⟨n_S, "freshenCodes", "()V"⟩, prog_1_method_32_code, 1, none)
abbrev m_S_turnBegins : MethodName × ByteArray × Nat × Option FieldType := (⟨n_S, "turnBegins", "(IJI)Z"⟩, prog_1_method_33_code, 7, (some .boolean))
abbrev m_S_addLowest : MethodName × ByteArray × Nat × Option FieldType := (⟨n_S, "addLowest", "(LSortTransform$Row;JI)I"⟩, prog_1_method_34_code, 5, (some .int))
abbrev m_S_byteOf : MethodName × ByteArray × Nat × Option FieldType := (⟨n_S, "byteOf", "(JI)I"⟩, prog_1_method_35_code, 3, (some .int))
abbrev m_S_isByte : MethodName × ByteArray × Nat × Option FieldType := (⟨n_S, "isByte", "(I)Z"⟩, prog_1_method_36_code, 1, (some .boolean))
abbrev m_S_checkOf : MethodName × ByteArray × Nat × Option FieldType := (⟨n_S, "checkOf", "(LSortTransform$Row;)I"⟩, prog_1_method_37_code, 4, (some .int))
abbrev m_S_packInto : MethodName × ByteArray × Nat × Option FieldType := (⟨n_S, "packInto", "(LSortTransform$Row;LSortTransform$Row;)V"⟩, prog_1_method_38_code, 6, none)
abbrev m_S_countMore : MethodName × ByteArray × Nat × Option FieldType := (⟨n_S, "countMore", "(LSortTransform$Row;II)I"⟩, prog_1_method_39_code, 4, (some .int))
abbrev m_S_unpackInto : MethodName × ByteArray × Nat × Option FieldType := (⟨n_S, "unpackInto", "(LSortTransform$Row;LSortTransform$Row;)Z"⟩, prog_1_method_40_code, 7, (some .boolean))
abbrev m_Mo_init : MethodName × ByteArray × Nat × Option FieldType := (⟨n_Mo, "<init>", "()V"⟩, prog_13_method_1_code, 1, none)
abbrev m_Mo_isIn : MethodName × ByteArray × Nat × Option FieldType := (⟨n_Mo, "isIn", "(JJJ)Z"⟩, prog_13_method_2_code, 6, (some .boolean))
abbrev m_Mo_feed : MethodName × ByteArray × Nat × Option FieldType := (⟨n_Mo, "feed", "(JI)I"⟩, prog_13_method_3_code, 5, (some .int))
abbrev m_Mo_fill : MethodName × ByteArray × Nat × Option FieldType := (⟨n_Mo, "fill", "(II)I"⟩, prog_13_method_4_code, 4, (some .int))
abbrev m_Mo_clear : MethodName × ByteArray × Nat × Option FieldType := (⟨n_Mo, "clear", "()I"⟩, prog_13_method_5_code, 2, (some .int))
abbrev m_Mo_octet : MethodName × ByteArray × Nat × Option FieldType := (⟨n_Mo, "octet", "(I)I"⟩, prog_13_method_6_code, 2, (some .int))
abbrev m_Mo_takeBlock : MethodName × ByteArray × Nat × Option FieldType := (⟨n_Mo, "takeBlock", "()V"⟩, prog_13_method_7_code, 2, none)
abbrev m_Mo_packBlock : MethodName × ByteArray × Nat × Option FieldType := (⟨n_Mo, "packBlock", "()V"⟩, prog_13_method_8_code, 4, none)
abbrev m_Mo_pack : MethodName × ByteArray × Nat × Option FieldType := (⟨n_Mo, "pack", "()I"⟩, prog_13_method_9_code, 1, (some .int))
abbrev m_Mo_packed : MethodName × ByteArray × Nat × Option FieldType := (⟨n_Mo, "packed", "(I)I"⟩, prog_13_method_10_code, 2, (some .int))
abbrev m_Mo_parts : MethodName × ByteArray × Nat × Option FieldType := (⟨n_Mo, "parts", "(II)I"⟩, prog_13_method_11_code, 4, (some .int))
abbrev m_Mo_isAbove : MethodName × ByteArray × Nat × Option FieldType := (⟨n_Mo, "isAbove", "(II)Z"⟩, prog_13_method_12_code, 4, (some .boolean))
abbrev m_Mo_putInOrder : MethodName × ByteArray × Nat × Option FieldType := (⟨n_Mo, "putInOrder", "()V"⟩, prog_13_method_13_code, 9, none)
abbrev m_Mo_lastAt : MethodName × ByteArray × Nat × Option FieldType := (⟨n_Mo, "lastAt", "(I)I"⟩, prog_13_method_14_code, 2, (some .int))
abbrev m_Mo_originOf : MethodName × ByteArray × Nat × Option FieldType := (⟨n_Mo, "originOf", "()I"⟩, prog_13_method_15_code, 2, (some .int))
abbrev m_Mo_lay : MethodName × ByteArray × Nat × Option FieldType := (⟨n_Mo, "lay", "()V"⟩, prog_13_method_16_code, 4, none)
abbrev m_Mo_order : MethodName × ByteArray × Nat × Option FieldType := (⟨n_Mo, "order", "(I)I"⟩, prog_13_method_17_code, 2, (some .int))
abbrev m_Mo_last : MethodName × ByteArray × Nat × Option FieldType := (⟨n_Mo, "last", "(I)I"⟩, prog_13_method_18_code, 2, (some .int))
abbrev m_Mo_origin : MethodName × ByteArray × Nat × Option FieldType := (⟨n_Mo, "origin", "()I"⟩, prog_13_method_19_code, 1, (some .int))
abbrev m_Mo_rounds : MethodName × ByteArray × Nat × Option FieldType := (⟨n_Mo, "rounds", "()I"⟩, prog_13_method_20_code, 1, (some .int))
abbrev m_Mo_start : MethodName × ByteArray × Nat × Option FieldType := (⟨n_Mo, "start", "(II)I"⟩, prog_13_method_21_code, 5, (some .int))
abbrev m_Mo_steps : MethodName × ByteArray × Nat × Option FieldType := (⟨n_Mo, "steps", "(JII)I"⟩, prog_13_method_22_code, 10, (some .int))
abbrev m_Mo_nexts : MethodName × ByteArray × Nat × Option FieldType := (⟨n_Mo, "nexts", "()V"⟩, prog_13_method_23_code, 4, none)
abbrev m_Mo_givesBack : MethodName × ByteArray × Nat × Option FieldType := (⟨n_Mo, "givesBack", "(I)Z"⟩, prog_13_method_24_code, 5, (some .boolean))
abbrev m_Mo_back : MethodName × ByteArray × Nat × Option FieldType := (⟨n_Mo, "back", "(I)I"⟩, prog_13_method_25_code, 4, (some .int))
abbrev m_Mo_ring : MethodName × ByteArray × Nat × Option FieldType := (⟨n_Mo, "ring", "(I)I"⟩, prog_13_method_26_code, 4, (some .int))
abbrev m_Mo_rowHas : MethodName × ByteArray × Nat × Option FieldType := (⟨n_Mo, "rowHas", "(I)Z"⟩, prog_13_method_27_code, 3, (some .boolean))
abbrev m_Mo_putNoughts : MethodName × ByteArray × Nat × Option FieldType := (⟨n_Mo, "putNoughts", "(I)V"⟩, prog_13_method_28_code, 4, none)
abbrev m_Mo_makeSymbols : MethodName × ByteArray × Nat × Option FieldType := (⟨n_Mo, "makeSymbols", "()V"⟩, prog_13_method_29_code, 4, none)
abbrev m_Mo_toFront : MethodName × ByteArray × Nat × Option FieldType := (⟨n_Mo, "toFront", "(I)I"⟩, prog_13_method_30_code, 4, (some .int))
abbrev m_Mo_makeLengths : MethodName × ByteArray × Nat × Option FieldType := (⟨n_Mo, "makeLengths", "()V"⟩, prog_13_method_31_code, 4, none)
abbrev m_Mo_join : MethodName × ByteArray × Nat × Option FieldType := (⟨n_Mo, "join", "(I)V"⟩, prog_13_method_32_code, 6, none)
abbrev m_Mo_lightest : MethodName × ByteArray × Nat × Option FieldType := (⟨n_Mo, "lightest", "(II)I"⟩, prog_13_method_33_code, 5, (some .int))
abbrev m_Mo_makeCodes : MethodName × ByteArray × Nat × Option FieldType := (⟨n_Mo, "makeCodes", "(I)V"⟩, prog_13_method_34_code, 6, none)
abbrev m_Mo_symbol : MethodName × ByteArray × Nat × Option FieldType := (⟨n_Mo, "symbol", "(I)I"⟩, prog_13_method_35_code, 2, (some .int))
abbrev m_Mo_code : MethodName × ByteArray × Nat × Option FieldType := (⟨n_Mo, "code", "(II)I"⟩, prog_13_method_36_code, 3, (some .int))
abbrev m_Mo_bits : MethodName × ByteArray × Nat × Option FieldType := (⟨n_Mo, "bits", "()I"⟩, prog_13_method_37_code, 3, (some .int))
abbrev m_Mo_put : MethodName × ByteArray × Nat × Option FieldType := (⟨n_Mo, "put", "(JI)V"⟩, prog_13_method_38_code, 5, none)
abbrev m_Mo_check : MethodName × ByteArray × Nat × Option FieldType := (⟨n_Mo, "check", "()I"⟩, prog_13_method_39_code, 4, (some .int))
abbrev m_Mo_write : MethodName × ByteArray × Nat × Option FieldType := (⟨n_Mo, "write", "()I"⟩, prog_13_method_40_code, 3, (some .int))
abbrev m_Mo_writeRow : MethodName × ByteArray × Nat × Option FieldType := (⟨n_Mo, "writeRow", "()V"⟩, prog_13_method_41_code, 5, none)
abbrev m_Mo_out : MethodName × ByteArray × Nat × Option FieldType := (⟨n_Mo, "out", "(I)I"⟩, prog_13_method_42_code, 2, (some .int))
abbrev m_Mo_tape : MethodName × ByteArray × Nat × Option FieldType := (⟨n_Mo, "tape", "(JI)I"⟩, prog_13_method_43_code, 5, (some .int))
abbrev m_Mo_take : MethodName × ByteArray × Nat × Option FieldType := (⟨n_Mo, "take", "()I"⟩, prog_13_method_44_code, 2, (some .int))
abbrev m_Mo_spoil : MethodName × ByteArray × Nat × Option FieldType := (⟨n_Mo, "spoil", "(II)I"⟩, prog_13_method_45_code, 3, (some .int))
abbrev m_Mo_cut : MethodName × ByteArray × Nat × Option FieldType := (⟨n_Mo, "cut", "(I)I"⟩, prog_13_method_46_code, 3, (some .int))
abbrev m_Mo_wrong : MethodName × ByteArray × Nat × Option FieldType := (⟨n_Mo, "wrong", "(II)Z"⟩, prog_13_method_47_code, 3, (some .boolean))
abbrev m_Mo_get : MethodName × ByteArray × Nat × Option FieldType := (⟨n_Mo, "get", "(I)J"⟩, prog_13_method_48_code, 5, (some .long))
abbrev m_Mo_readsList : MethodName × ByteArray × Nat × Option FieldType := (⟨n_Mo, "readsList", "()Z"⟩, prog_13_method_49_code, 8, (some .boolean))
abbrev m_Mo_readsLengths : MethodName × ByteArray × Nat × Option FieldType := (⟨n_Mo, "readsLengths", "()Z"⟩, prog_13_method_50_code, 8, (some .boolean))
abbrev m_Mo_readsSymbol : MethodName × ByteArray × Nat × Option FieldType := (⟨n_Mo, "readsSymbol", "()I"⟩, prog_13_method_51_code, 4, (some .int))
abbrev m_Mo_readsRow : MethodName × ByteArray × Nat × Option FieldType := (⟨n_Mo, "readsRow", "(I)Z"⟩, prog_13_method_52_code, 8, (some .boolean))
abbrev m_Mo_unpacks : MethodName × ByteArray × Nat × Option FieldType := (⟨n_Mo, "unpacks", "()Z"⟩, prog_13_method_53_code, 5, (some .boolean))
abbrev m_Mo_read : MethodName × ByteArray × Nat × Option FieldType := (⟨n_Mo, "read", "()I"⟩, prog_13_method_54_code, 3, (some .int))
abbrev m_Mo_reads : MethodName × ByteArray × Nat × Option FieldType := (⟨n_Mo, "reads", "()Z"⟩, prog_13_method_55_code, 6, (some .boolean))
abbrev m_Mo_faultAt : MethodName × ByteArray × Nat × Option FieldType := (⟨n_Mo, "faultAt", "()I"⟩, prog_13_method_56_code, 1, (some .int))
abbrev m_Bn_init : MethodName × ByteArray × Nat × Option FieldType := (⟨n_Bn, "<init>", "()V"⟩, prog_2_method_1_code, 1, none)
abbrev m_Bn_goBack : MethodName × ByteArray × Nat × Option FieldType := (⟨n_Bn, "goBack", "(LSortTransform$Row;I)Z"⟩, prog_2_method_2_code, 3, (some .boolean))
abbrev m_Bn_unpackGiven : MethodName × ByteArray × Nat × Option FieldType := (⟨n_Bn, "unpackGiven", "()Z"⟩, prog_2_method_3_code, 1, (some .boolean))
abbrev m_Ch_init : MethodName × ByteArray × Nat × Option FieldType := (⟨n_Ch, "<init>", "()V"⟩, prog_3_method_1_code, 1, none)
abbrev m_Ch_link : MethodName × ByteArray × Nat × Option FieldType := (⟨n_Ch, "link", "(LSortTransform$Row;)V"⟩, prog_3_method_2_code, 4, none)
abbrev m_Ch_ringLength : MethodName × ByteArray × Nat × Option FieldType := (⟨n_Ch, "ringLength", "(I)I"⟩, prog_3_method_3_code, 4, (some .int))
abbrev m_Ch_follow : MethodName × ByteArray × Nat × Option FieldType := (⟨n_Ch, "follow", "(LSortTransform$Row;ILSortTransform$Row;)V"⟩, prog_3_method_4_code, 6, none)
abbrev m_Cd_init : MethodName × ByteArray × Nat × Option FieldType := (⟨n_Cd, "<init>", "()V"⟩, prog_4_method_1_code, 1, none)
abbrev m_Cd_has : MethodName × ByteArray × Nat × Option FieldType := (⟨n_Cd, "has", "(I)Z"⟩, prog_4_method_2_code, 2, (some .boolean))
abbrev m_Cd_lengthOf : MethodName × ByteArray × Nat × Option FieldType := (⟨n_Cd, "lengthOf", "(I)I"⟩, prog_4_method_3_code, 2, (some .int))
abbrev m_Cd_valueOf : MethodName × ByteArray × Nat × Option FieldType := (⟨n_Cd, "valueOf", "(I)I"⟩, prog_4_method_4_code, 2, (some .int))
abbrev m_Cd_symbolAt : MethodName × ByteArray × Nat × Option FieldType := (⟨n_Cd, "symbolAt", "(I)I"⟩, prog_4_method_5_code, 2, (some .int))
abbrev m_Cd_makeFrom : MethodName × ByteArray × Nat × Option FieldType := (⟨n_Cd, "makeFrom", "(LSortTransform$Symbols;)V"⟩, prog_4_method_6_code, 4, none)
abbrev m_Cd_weigh : MethodName × ByteArray × Nat × Option FieldType := (⟨n_Cd, "weigh", "(LSortTransform$Symbols;)V"⟩, prog_4_method_7_code, 4, none)
abbrev m_Cd_beginLengths : MethodName × ByteArray × Nat × Option FieldType := (⟨n_Cd, "beginLengths", "(I)V"⟩, prog_4_method_8_code, 2, none)
abbrev m_Cd_setLength : MethodName × ByteArray × Nat × Option FieldType := (⟨n_Cd, "setLength", "(II)V"⟩, prog_4_method_9_code, 3, none)
abbrev m_Cd_arrange : MethodName × ByteArray × Nat × Option FieldType := (⟨n_Cd, "arrange", "()V"⟩, prog_4_method_10_code, 6, none)
abbrev m_Cd_areWhole : MethodName × ByteArray × Nat × Option FieldType := (⟨n_Cd, "areWhole", "()Z"⟩, prog_4_method_11_code, 3, (some .boolean))
abbrev m_Fl_init : MethodName × ByteArray × Nat × Option FieldType := (⟨n_Fl, "<init>", "()V"⟩, prog_5_method_1_code, 1, none)
abbrev m_Fl_makeEmpty : MethodName × ByteArray × Nat × Option FieldType := (⟨n_Fl, "makeEmpty", "()V"⟩, prog_5_method_2_code, 1, none)
abbrev m_Fl_add : MethodName × ByteArray × Nat × Option FieldType := (⟨n_Fl, "add", "(I)V"⟩, prog_5_method_3_code, 2, none)
abbrev m_Fl_listBytes : MethodName × ByteArray × Nat × Option FieldType := (⟨n_Fl, "listBytes", "(LSortTransform$Row;)V"⟩, prog_5_method_4_code, 3, none)
abbrev m_Fl_placeOf : MethodName × ByteArray × Nat × Option FieldType := (⟨n_Fl, "placeOf", "(I)I"⟩, prog_5_method_5_code, 3, (some .int))
abbrev m_Fl_at : MethodName × ByteArray × Nat × Option FieldType := (⟨n_Fl, "at", "(I)I"⟩, prog_5_method_6_code, 2, (some .int))
abbrev m_Fl_bringToFront : MethodName × ByteArray × Nat × Option FieldType := (⟨n_Fl, "bringToFront", "(I)V"⟩, prog_5_method_7_code, 4, none)
abbrev m_Jn_init : MethodName × ByteArray × Nat × Option FieldType := (⟨n_Jn, "<init>", "()V"⟩, prog_6_method_1_code, 1, none)
abbrev m_Jn_findLengths : MethodName × ByteArray × Nat × Option FieldType := (⟨n_Jn, "findLengths", "([II[I)I"⟩, prog_6_method_2_code, 6, (some .int))
abbrev m_Jn_joinTwo : MethodName × ByteArray × Nat × Option FieldType := (⟨n_Jn, "joinTwo", "(I)V"⟩, prog_6_method_3_code, 6, none)
abbrev m_Jn_measureDepths : MethodName × ByteArray × Nat × Option FieldType := (⟨n_Jn, "measureDepths", "(II[I)I"⟩, prog_6_method_4_code, 6, (some .int))
abbrev m_Jn_push : MethodName × ByteArray × Nat × Option FieldType := (⟨n_Jn, "push", "(I)V"⟩, prog_6_method_5_code, 3, none)
abbrev m_Jn_pop : MethodName × ByteArray × Nat × Option FieldType := (⟨n_Jn, "pop", "()I"⟩, prog_6_method_6_code, 5, (some .int))
abbrev m_Rw_init : MethodName × ByteArray × Nat × Option FieldType := (⟨n_Rw, "<init>", "(I)V"⟩, prog_7_method_1_code, 2, none)
abbrev m_Rw_has : MethodName × ByteArray × Nat × Option FieldType := (⟨n_Rw, "has", "(I)Z"⟩, prog_7_method_2_code, 2, (some .boolean))
abbrev m_Rw_hasRoom : MethodName × ByteArray × Nat × Option FieldType := (⟨n_Rw, "hasRoom", "(I)Z"⟩, prog_7_method_3_code, 2, (some .boolean))
abbrev m_Rw_at : MethodName × ByteArray × Nat × Option FieldType := (⟨n_Rw, "at", "(I)I"⟩, prog_7_method_4_code, 2, (some .int))
abbrev m_Rw_add : MethodName × ByteArray × Nat × Option FieldType := (⟨n_Rw, "add", "(I)V"⟩, prog_7_method_5_code, 2, none)
abbrev m_Rw_addMany : MethodName × ByteArray × Nat × Option FieldType := (⟨n_Rw, "addMany", "(II)V"⟩, prog_7_method_6_code, 4, none)
abbrev m_Rw_joinWith : MethodName × ByteArray × Nat × Option FieldType := (⟨n_Rw, "joinWith", "(II)V"⟩, prog_7_method_7_code, 3, none)
abbrev m_Rw_shorten : MethodName × ByteArray × Nat × Option FieldType := (⟨n_Rw, "shorten", "(I)V"⟩, prog_7_method_8_code, 2, none)
abbrev m_Rw_copyOf : MethodName × ByteArray × Nat × Option FieldType := (⟨n_Rw, "copyOf", "(LSortTransform$Row;)V"⟩, prog_7_method_9_code, 3, none)
abbrev m_Rw_isLike : MethodName × ByteArray × Nat × Option FieldType := (⟨n_Rw, "isLike", "(LSortTransform$Row;)Z"⟩, prog_7_method_10_code, 3, (some .boolean))
abbrev m_Sr_init : MethodName × ByteArray × Nat × Option FieldType := (⟨n_Sr, "<init>", "()V"⟩, prog_8_method_1_code, 1, none)
abbrev m_Sr_readStream : MethodName × ByteArray × Nat × Option FieldType := (⟨n_Sr, "readStream", "(LSortTransform$Bench;)Z"⟩, prog_8_method_2_code, 4, (some .boolean))
abbrev m_Sr_fails : MethodName × ByteArray × Nat × Option FieldType := (⟨n_Sr, "fails", "(II)Z"⟩, prog_8_method_3_code, 3, (some .boolean))
abbrev m_Sr_tapeEnds : MethodName × ByteArray × Nat × Option FieldType := (⟨n_Sr, "tapeEnds", "()Z"⟩, prog_8_method_4_code, 1, (some .boolean))
abbrev m_Sr_lacks : MethodName × ByteArray × Nat × Option FieldType := (⟨n_Sr, "lacks", "(I)Z"⟩, prog_8_method_5_code, 2, (some .boolean))
abbrev m_Sr_next : MethodName × ByteArray × Nat × Option FieldType := (⟨n_Sr, "next", "(I)I"⟩, prog_8_method_6_code, 4, (some .int))
abbrev m_Sr_byteNow : MethodName × ByteArray × Nat × Option FieldType := (⟨n_Sr, "byteNow", "()I"⟩, prog_8_method_7_code, 1, (some .int))
abbrev m_Sr_readHead : MethodName × ByteArray × Nat × Option FieldType := (⟨n_Sr, "readHead", "()Z"⟩, prog_8_method_8_code, 1, (some .boolean))
abbrev m_Sr_readList : MethodName × ByteArray × Nat × Option FieldType := (⟨n_Sr, "readList", "(LSortTransform$FrontList;)Z"⟩, prog_8_method_9_code, 5, (some .boolean))
abbrev m_Sr_readSixteenth : MethodName × ByteArray × Nat × Option FieldType := (⟨n_Sr, "readSixteenth", "(LSortTransform$FrontList;I)Z"⟩, prog_8_method_10_code, 6, (some .boolean))
abbrev m_Sr_isMarked : MethodName × ByteArray × Nat × Option FieldType := (⟨n_Sr, "isMarked", "(II)Z"⟩, prog_8_method_11_code, 2, (some .boolean))
abbrev m_Sr_readLengths : MethodName × ByteArray × Nat × Option FieldType := (⟨n_Sr, "readLengths", "(LSortTransform$Codes;I)Z"⟩, prog_8_method_12_code, 5, (some .boolean))
abbrev m_Sr_readLength : MethodName × ByteArray × Nat × Option FieldType := (⟨n_Sr, "readLength", "(LSortTransform$Codes;I)Z"⟩, prog_8_method_13_code, 5, (some .boolean))
abbrev m_Sr_isNoLength : MethodName × ByteArray × Nat × Option FieldType := (⟨n_Sr, "isNoLength", "(I)Z"⟩, prog_8_method_14_code, 1, (some .boolean))
abbrev m_Sr_readSymbols : MethodName × ByteArray × Nat × Option FieldType := (⟨n_Sr, "readSymbols", "(LSortTransform$Codes;LSortTransform$FrontList;)Z"⟩, prog_8_method_15_code, 10, (some .boolean))
abbrev m_Sr_nextSymbol : MethodName × ByteArray × Nat × Option FieldType := (⟨n_Sr, "nextSymbol", "(LSortTransform$Codes;)I"⟩, prog_8_method_16_code, 7, (some .int))
abbrev m_Sr_isGivenBack : MethodName × ByteArray × Nat × Option FieldType := (⟨n_Sr, "isGivenBack", "(LSortTransform$Bench;)Z"⟩, prog_8_method_17_code, 2, (some .boolean))
abbrev m_Sr_isAtEnd : MethodName × ByteArray × Nat × Option FieldType := (⟨n_Sr, "isAtEnd", "()Z"⟩, prog_8_method_18_code, 3, (some .boolean))
abbrev m_Sw_init : MethodName × ByteArray × Nat × Option FieldType := (⟨n_Sw, "<init>", "()V"⟩, prog_9_method_1_code, 1, none)
abbrev m_Sw_writeStream : MethodName × ByteArray × Nat × Option FieldType := (⟨n_Sw, "writeStream", "(LSortTransform$Row;ILSortTransform$Bench;)V"⟩, prog_9_method_2_code, 4, none)
abbrev m_Sw_put : MethodName × ByteArray × Nat × Option FieldType := (⟨n_Sw, "put", "(II)V"⟩, prog_9_method_3_code, 4, none)
abbrev m_Sw_putList : MethodName × ByteArray × Nat × Option FieldType := (⟨n_Sw, "putList", "(LSortTransform$FrontList;)V"⟩, prog_9_method_4_code, 5, none)
abbrev m_Sw_marksIn : MethodName × ByteArray × Nat × Option FieldType := (⟨n_Sw, "marksIn", "(LSortTransform$FrontList;I)I"⟩, prog_9_method_5_code, 5, (some .int))
abbrev m_Sw_markOf : MethodName × ByteArray × Nat × Option FieldType := (⟨n_Sw, "markOf", "(I)I"⟩, prog_9_method_6_code, 1, (some .int))
abbrev m_Sw_putLengths : MethodName × ByteArray × Nat × Option FieldType := (⟨n_Sw, "putLengths", "(LSortTransform$Codes;)V"⟩, prog_9_method_7_code, 5, none)
abbrev m_Sw_putCodes : MethodName × ByteArray × Nat × Option FieldType := (⟨n_Sw, "putCodes", "(LSortTransform$Symbols;LSortTransform$Codes;)V"⟩, prog_9_method_8_code, 5, none)
abbrev m_Sy_init : MethodName × ByteArray × Nat × Option FieldType := (⟨n_Sy, "<init>", "()V"⟩, prog_10_method_1_code, 1, none)
abbrev m_Sy_at : MethodName × ByteArray × Nat × Option FieldType := (⟨n_Sy, "at", "(I)I"⟩, prog_10_method_2_code, 2, (some .int))
abbrev m_Sy_makeFrom : MethodName × ByteArray × Nat × Option FieldType := (⟨n_Sy, "makeFrom", "(LSortTransform$Row;)V"⟩, prog_10_method_3_code, 5, none)
abbrev m_Sy_addDigits : MethodName × ByteArray × Nat × Option FieldType := (⟨n_Sy, "addDigits", "(I)V"⟩, prog_10_method_4_code, 3, none)
abbrev m_Sy_addSymbol : MethodName × ByteArray × Nat × Option FieldType := (⟨n_Sy, "addSymbol", "(I)V"⟩, prog_10_method_5_code, 2, none)
abbrev m_Tu_init : MethodName × ByteArray × Nat × Option FieldType := (⟨n_Tu, "<init>", "()V"⟩, prog_11_method_1_code, 1, none)
abbrev m_Tu_turnAt : MethodName × ByteArray × Nat × Option FieldType := (⟨n_Tu, "turnAt", "(I)I"⟩, prog_11_method_2_code, 2, (some .int))
abbrev m_Tu_placeOf : MethodName × ByteArray × Nat × Option FieldType := (⟨n_Tu, "placeOf", "(I)I"⟩, prog_11_method_3_code, 2, (some .int))
abbrev m_Tu_sortTurns : MethodName × ByteArray × Nat × Option FieldType := (⟨n_Tu, "sortTurns", "(LSortTransform$Row;)V"⟩, prog_11_method_4_code, 4, none)
abbrev m_Tu_lineUp : MethodName × ByteArray × Nat × Option FieldType := (⟨n_Tu, "lineUp", "()V"⟩, prog_11_method_5_code, 2, none)
abbrev m_Tu_shift : MethodName × ByteArray × Nat × Option FieldType := (⟨n_Tu, "shift", "(I)V"⟩, prog_11_method_6_code, 3, none)
abbrev m_Tu_sortByRank : MethodName × ByteArray × Nat × Option FieldType := (⟨n_Tu, "sortByRank", "()V"⟩, prog_11_method_7_code, 3, none)
abbrev m_Tu_numberRanks : MethodName × ByteArray × Nat × Option FieldType := (⟨n_Tu, "numberRanks", "(I)V"⟩, prog_11_method_8_code, 8, none)
abbrev m_Tu_around : MethodName × ByteArray × Nat × Option FieldType := (⟨n_Tu, "around", "(I)I"⟩, prog_11_method_9_code, 2, (some .int))
abbrev m_Tu_notePlaces : MethodName × ByteArray × Nat × Option FieldType := (⟨n_Tu, "notePlaces", "(LSortTransform$Row;)V"⟩, prog_11_method_10_code, 4, none)
abbrev m_Lw_law : MethodName × ByteArray × Nat × Option FieldType := (⟨n_Lw, "law", "([I)Z"⟩, code, 4, (some .boolean))
abbrev m_Ar_fill : MethodName × ByteArray × Nat × Option FieldType := (⟨n_Ar, "fill", "([II)V"⟩, prog_16_method_103_code, 4, none)
