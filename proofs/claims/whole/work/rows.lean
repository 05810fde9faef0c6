section
-- ===== PART A: goes FIRST, ahead of the names: the tables' words, and 'selects' of the private methods out of them =====
/-- a private method of a class that the tables say can be made, by its rows of tables_1 -/
def lw_okq (q : MethodName × Nat) : Prop := (q.1.cls ≠ "java/lang/invoke/MethodHandle" ∧ q.1.cls ≠ "java/lang/invoke/VarHandle") ∧ Cond.instantiable q.1.cls q.2 ∈ tables_1 ∧ Cond.privateMethod q.1 ∈ tables_1 ∧ Cond.instanceMethod q.1 ∈ tables_1
theorem lw_p0 : lw_okq (⟨"SortTransform", "blockChanged", "()V"⟩, 8) := ⟨⟨by decide +kernel, by decide +kernel⟩, List.mem_of_getElem? (i := 17) (by decide +kernel), List.mem_of_getElem? (i := 342) (by decide +kernel), List.mem_of_getElem? (i := 343) (by decide +kernel)⟩
theorem lw_p1 : lw_okq (⟨"SortTransform", "benchUsed", "()V"⟩, 8) := ⟨⟨by decide +kernel, by decide +kernel⟩, List.mem_of_getElem? (i := 17) (by decide +kernel), List.mem_of_getElem? (i := 346) (by decide +kernel), List.mem_of_getElem? (i := 347) (by decide +kernel)⟩
theorem lw_p2 : lw_okq (⟨"SortTransform", "freshenPack", "()V"⟩, 8) := ⟨⟨by decide +kernel, by decide +kernel⟩, List.mem_of_getElem? (i := 17) (by decide +kernel), List.mem_of_getElem? (i := 382) (by decide +kernel), List.mem_of_getElem? (i := 383) (by decide +kernel)⟩
theorem lw_p3 : lw_okq (⟨"SortTransform", "freshenTurns", "()V"⟩, 8) := ⟨⟨by decide +kernel, by decide +kernel⟩, List.mem_of_getElem? (i := 17) (by decide +kernel), List.mem_of_getElem? (i := 400) (by decide +kernel), List.mem_of_getElem? (i := 401) (by decide +kernel)⟩
theorem lw_p4 : lw_okq (⟨"SortTransform$Turns", "lineUp", "()V"⟩, 9) := ⟨⟨by decide +kernel, by decide +kernel⟩, List.mem_of_getElem? (i := 56) (by decide +kernel), List.mem_of_getElem? (i := 412) (by decide +kernel), List.mem_of_getElem? (i := 413) (by decide +kernel)⟩
theorem lw_p5 : lw_okq (⟨"SortTransform$Turns", "sortByRank", "()V"⟩, 9) := ⟨⟨by decide +kernel, by decide +kernel⟩, List.mem_of_getElem? (i := 56) (by decide +kernel), List.mem_of_getElem? (i := 416) (by decide +kernel), List.mem_of_getElem? (i := 417) (by decide +kernel)⟩
theorem lw_p6 : lw_okq (⟨"SortTransform$Turns", "numberRanks", "(I)V"⟩, 9) := ⟨⟨by decide +kernel, by decide +kernel⟩, List.mem_of_getElem? (i := 56) (by decide +kernel), List.mem_of_getElem? (i := 420) (by decide +kernel), List.mem_of_getElem? (i := 421) (by decide +kernel)⟩
theorem lw_p7 : lw_okq (⟨"SortTransform$Turns", "around", "(I)I"⟩, 9) := ⟨⟨by decide +kernel, by decide +kernel⟩, List.mem_of_getElem? (i := 56) (by decide +kernel), List.mem_of_getElem? (i := 424) (by decide +kernel), List.mem_of_getElem? (i := 425) (by decide +kernel)⟩
theorem lw_p8 : lw_okq (⟨"SortTransform$Turns", "shift", "(I)V"⟩, 9) := ⟨⟨by decide +kernel, by decide +kernel⟩, List.mem_of_getElem? (i := 56) (by decide +kernel), List.mem_of_getElem? (i := 431) (by decide +kernel), List.mem_of_getElem? (i := 432) (by decide +kernel)⟩
theorem lw_p9 : lw_okq (⟨"SortTransform$Turns", "notePlaces", "(LSortTransform$Row;)V"⟩, 9) := ⟨⟨by decide +kernel, by decide +kernel⟩, List.mem_of_getElem? (i := 56) (by decide +kernel), List.mem_of_getElem? (i := 435) (by decide +kernel), List.mem_of_getElem? (i := 436) (by decide +kernel)⟩
theorem lw_p10 : lw_okq (⟨"SortTransform", "turnBegins", "(IJI)Z"⟩, 8) := ⟨⟨by decide +kernel, by decide +kernel⟩, List.mem_of_getElem? (i := 17) (by decide +kernel), List.mem_of_getElem? (i := 469) (by decide +kernel), List.mem_of_getElem? (i := 470) (by decide +kernel)⟩
theorem lw_p11 : lw_okq (⟨"SortTransform", "freshenCodes", "()V"⟩, 8) := ⟨⟨by decide +kernel, by decide +kernel⟩, List.mem_of_getElem? (i := 17) (by decide +kernel), List.mem_of_getElem? (i := 524) (by decide +kernel), List.mem_of_getElem? (i := 525) (by decide +kernel)⟩
theorem lw_p12 : lw_okq (⟨"SortTransform$Symbols", "addDigits", "(I)V"⟩, 4) := ⟨⟨by decide +kernel, by decide +kernel⟩, List.mem_of_getElem? (i := 112) (by decide +kernel), List.mem_of_getElem? (i := 543) (by decide +kernel), List.mem_of_getElem? (i := 544) (by decide +kernel)⟩
theorem lw_p13 : lw_okq (⟨"SortTransform$Symbols", "addSymbol", "(I)V"⟩, 4) := ⟨⟨by decide +kernel, by decide +kernel⟩, List.mem_of_getElem? (i := 112) (by decide +kernel), List.mem_of_getElem? (i := 547) (by decide +kernel), List.mem_of_getElem? (i := 548) (by decide +kernel)⟩
theorem lw_p14 : lw_okq (⟨"SortTransform$Codes", "weigh", "(LSortTransform$Symbols;)V"⟩, 7) := ⟨⟨by decide +kernel, by decide +kernel⟩, List.mem_of_getElem? (i := 153) (by decide +kernel), List.mem_of_getElem? (i := 560) (by decide +kernel), List.mem_of_getElem? (i := 561) (by decide +kernel)⟩
theorem lw_p15 : lw_okq (⟨"SortTransform$Joiner", "push", "(I)V"⟩, 5) := ⟨⟨by decide +kernel, by decide +kernel⟩, List.mem_of_getElem? (i := 159) (by decide +kernel), List.mem_of_getElem? (i := 578) (by decide +kernel), List.mem_of_getElem? (i := 579) (by decide +kernel)⟩
def lw_privs_1 : List (MethodName × Nat) := [(⟨"SortTransform", "blockChanged", "()V"⟩, 8), (⟨"SortTransform", "benchUsed", "()V"⟩, 8), (⟨"SortTransform", "freshenPack", "()V"⟩, 8), (⟨"SortTransform", "freshenTurns", "()V"⟩, 8), (⟨"SortTransform$Turns", "lineUp", "()V"⟩, 9), (⟨"SortTransform$Turns", "sortByRank", "()V"⟩, 9), (⟨"SortTransform$Turns", "numberRanks", "(I)V"⟩, 9), (⟨"SortTransform$Turns", "around", "(I)I"⟩, 9), (⟨"SortTransform$Turns", "shift", "(I)V"⟩, 9), (⟨"SortTransform$Turns", "notePlaces", "(LSortTransform$Row;)V"⟩, 9), (⟨"SortTransform", "turnBegins", "(IJI)Z"⟩, 8), (⟨"SortTransform", "freshenCodes", "()V"⟩, 8), (⟨"SortTransform$Symbols", "addDigits", "(I)V"⟩, 4), (⟨"SortTransform$Symbols", "addSymbol", "(I)V"⟩, 4), (⟨"SortTransform$Codes", "weigh", "(LSortTransform$Symbols;)V"⟩, 7), (⟨"SortTransform$Joiner", "push", "(I)V"⟩, 5)]
theorem lw_r1 : ∀ q ∈ lw_privs_1, lw_okq q := List.forall_mem_cons.mpr ⟨lw_p0, List.forall_mem_cons.mpr ⟨lw_p1, List.forall_mem_cons.mpr ⟨lw_p2, List.forall_mem_cons.mpr ⟨lw_p3, List.forall_mem_cons.mpr ⟨lw_p4, List.forall_mem_cons.mpr ⟨lw_p5, List.forall_mem_cons.mpr ⟨lw_p6, List.forall_mem_cons.mpr ⟨lw_p7, List.forall_mem_cons.mpr ⟨lw_p8, List.forall_mem_cons.mpr ⟨lw_p9, List.forall_mem_cons.mpr ⟨lw_p10, List.forall_mem_cons.mpr ⟨lw_p11, List.forall_mem_cons.mpr ⟨lw_p12, List.forall_mem_cons.mpr ⟨lw_p13, List.forall_mem_cons.mpr ⟨lw_p14, List.forall_mem_cons.mpr ⟨lw_p15, fun _ h => absurd h List.not_mem_nil⟩⟩⟩⟩⟩⟩⟩⟩⟩⟩⟩⟩⟩⟩⟩⟩
theorem lw_p16 : lw_okq (⟨"SortTransform$Joiner", "joinTwo", "(I)V"⟩, 5) := ⟨⟨by decide +kernel, by decide +kernel⟩, List.mem_of_getElem? (i := 159) (by decide +kernel), List.mem_of_getElem? (i := 582) (by decide +kernel), List.mem_of_getElem? (i := 583) (by decide +kernel)⟩
theorem lw_p17 : lw_okq (⟨"SortTransform$Joiner", "pop", "()I"⟩, 5) := ⟨⟨by decide +kernel, by decide +kernel⟩, List.mem_of_getElem? (i := 159) (by decide +kernel), List.mem_of_getElem? (i := 586) (by decide +kernel), List.mem_of_getElem? (i := 587) (by decide +kernel)⟩
theorem lw_p18 : lw_okq (⟨"SortTransform$Joiner", "measureDepths", "(II[I)I"⟩, 5) := ⟨⟨by decide +kernel, by decide +kernel⟩, List.mem_of_getElem? (i := 159) (by decide +kernel), List.mem_of_getElem? (i := 591) (by decide +kernel), List.mem_of_getElem? (i := 592) (by decide +kernel)⟩
theorem lw_p19 : lw_okq (⟨"SortTransform$StreamWriter", "put", "(II)V"⟩, 3) := ⟨⟨by decide +kernel, by decide +kernel⟩, List.mem_of_getElem? (i := 241) (by decide +kernel), List.mem_of_getElem? (i := 632) (by decide +kernel), List.mem_of_getElem? (i := 633) (by decide +kernel)⟩
theorem lw_p20 : lw_okq (⟨"SortTransform$StreamWriter", "putList", "(LSortTransform$FrontList;)V"⟩, 3) := ⟨⟨by decide +kernel, by decide +kernel⟩, List.mem_of_getElem? (i := 241) (by decide +kernel), List.mem_of_getElem? (i := 640) (by decide +kernel), List.mem_of_getElem? (i := 641) (by decide +kernel)⟩
theorem lw_p21 : lw_okq (⟨"SortTransform$StreamWriter", "putLengths", "(LSortTransform$Codes;)V"⟩, 3) := ⟨⟨by decide +kernel, by decide +kernel⟩, List.mem_of_getElem? (i := 241) (by decide +kernel), List.mem_of_getElem? (i := 654) (by decide +kernel), List.mem_of_getElem? (i := 655) (by decide +kernel)⟩
theorem lw_p22 : lw_okq (⟨"SortTransform$StreamWriter", "putCodes", "(LSortTransform$Symbols;LSortTransform$Codes;)V"⟩, 3) := ⟨⟨by decide +kernel, by decide +kernel⟩, List.mem_of_getElem? (i := 241) (by decide +kernel), List.mem_of_getElem? (i := 659) (by decide +kernel), List.mem_of_getElem? (i := 660) (by decide +kernel)⟩
theorem lw_p23 : lw_okq (⟨"SortTransform$StreamReader", "readHead", "()Z"⟩, 9) := ⟨⟨by decide +kernel, by decide +kernel⟩, List.mem_of_getElem? (i := 260) (by decide +kernel), List.mem_of_getElem? (i := 699) (by decide +kernel), List.mem_of_getElem? (i := 700) (by decide +kernel)⟩
theorem lw_p24 : lw_okq (⟨"SortTransform$StreamReader", "lacks", "(I)Z"⟩, 9) := ⟨⟨by decide +kernel, by decide +kernel⟩, List.mem_of_getElem? (i := 260) (by decide +kernel), List.mem_of_getElem? (i := 703) (by decide +kernel), List.mem_of_getElem? (i := 704) (by decide +kernel)⟩
theorem lw_p25 : lw_okq (⟨"SortTransform$StreamReader", "tapeEnds", "()Z"⟩, 9) := ⟨⟨by decide +kernel, by decide +kernel⟩, List.mem_of_getElem? (i := 260) (by decide +kernel), List.mem_of_getElem? (i := 707) (by decide +kernel), List.mem_of_getElem? (i := 708) (by decide +kernel)⟩
theorem lw_p26 : lw_okq (⟨"SortTransform$StreamReader", "fails", "(II)Z"⟩, 9) := ⟨⟨by decide +kernel, by decide +kernel⟩, List.mem_of_getElem? (i := 260) (by decide +kernel), List.mem_of_getElem? (i := 711) (by decide +kernel), List.mem_of_getElem? (i := 712) (by decide +kernel)⟩
theorem lw_p27 : lw_okq (⟨"SortTransform$StreamReader", "next", "(I)I"⟩, 9) := ⟨⟨by decide +kernel, by decide +kernel⟩, List.mem_of_getElem? (i := 260) (by decide +kernel), List.mem_of_getElem? (i := 715) (by decide +kernel), List.mem_of_getElem? (i := 716) (by decide +kernel)⟩
theorem lw_p28 : lw_okq (⟨"SortTransform$StreamReader", "byteNow", "()I"⟩, 9) := ⟨⟨by decide +kernel, by decide +kernel⟩, List.mem_of_getElem? (i := 260) (by decide +kernel), List.mem_of_getElem? (i := 719) (by decide +kernel), List.mem_of_getElem? (i := 720) (by decide +kernel)⟩
theorem lw_p29 : lw_okq (⟨"SortTransform$StreamReader", "readList", "(LSortTransform$FrontList;)Z"⟩, 9) := ⟨⟨by decide +kernel, by decide +kernel⟩, List.mem_of_getElem? (i := 260) (by decide +kernel), List.mem_of_getElem? (i := 724) (by decide +kernel), List.mem_of_getElem? (i := 725) (by decide +kernel)⟩
theorem lw_p30 : lw_okq (⟨"SortTransform$StreamReader", "readSixteenth", "(LSortTransform$FrontList;I)Z"⟩, 9) := ⟨⟨by decide +kernel, by decide +kernel⟩, List.mem_of_getElem? (i := 260) (by decide +kernel), List.mem_of_getElem? (i := 735) (by decide +kernel), List.mem_of_getElem? (i := 736) (by decide +kernel)⟩
theorem lw_p31 : lw_okq (⟨"SortTransform$StreamReader", "readLengths", "(LSortTransform$Codes;I)Z"⟩, 9) := ⟨⟨by decide +kernel, by decide +kernel⟩, List.mem_of_getElem? (i := 260) (by decide +kernel), List.mem_of_getElem? (i := 743) (by decide +kernel), List.mem_of_getElem? (i := 744) (by decide +kernel)⟩
def lw_privs_2 : List (MethodName × Nat) := [(⟨"SortTransform$Joiner", "joinTwo", "(I)V"⟩, 5), (⟨"SortTransform$Joiner", "pop", "()I"⟩, 5), (⟨"SortTransform$Joiner", "measureDepths", "(II[I)I"⟩, 5), (⟨"SortTransform$StreamWriter", "put", "(II)V"⟩, 3), (⟨"SortTransform$StreamWriter", "putList", "(LSortTransform$FrontList;)V"⟩, 3), (⟨"SortTransform$StreamWriter", "putLengths", "(LSortTransform$Codes;)V"⟩, 3), (⟨"SortTransform$StreamWriter", "putCodes", "(LSortTransform$Symbols;LSortTransform$Codes;)V"⟩, 3), (⟨"SortTransform$StreamReader", "readHead", "()Z"⟩, 9), (⟨"SortTransform$StreamReader", "lacks", "(I)Z"⟩, 9), (⟨"SortTransform$StreamReader", "tapeEnds", "()Z"⟩, 9), (⟨"SortTransform$StreamReader", "fails", "(II)Z"⟩, 9), (⟨"SortTransform$StreamReader", "next", "(I)I"⟩, 9), (⟨"SortTransform$StreamReader", "byteNow", "()I"⟩, 9), (⟨"SortTransform$StreamReader", "readList", "(LSortTransform$FrontList;)Z"⟩, 9), (⟨"SortTransform$StreamReader", "readSixteenth", "(LSortTransform$FrontList;I)Z"⟩, 9), (⟨"SortTransform$StreamReader", "readLengths", "(LSortTransform$Codes;I)Z"⟩, 9)]
theorem lw_r2 : ∀ q ∈ lw_privs_2, lw_okq q := List.forall_mem_cons.mpr ⟨lw_p16, List.forall_mem_cons.mpr ⟨lw_p17, List.forall_mem_cons.mpr ⟨lw_p18, List.forall_mem_cons.mpr ⟨lw_p19, List.forall_mem_cons.mpr ⟨lw_p20, List.forall_mem_cons.mpr ⟨lw_p21, List.forall_mem_cons.mpr ⟨lw_p22, List.forall_mem_cons.mpr ⟨lw_p23, List.forall_mem_cons.mpr ⟨lw_p24, List.forall_mem_cons.mpr ⟨lw_p25, List.forall_mem_cons.mpr ⟨lw_p26, List.forall_mem_cons.mpr ⟨lw_p27, List.forall_mem_cons.mpr ⟨lw_p28, List.forall_mem_cons.mpr ⟨lw_p29, List.forall_mem_cons.mpr ⟨lw_p30, List.forall_mem_cons.mpr ⟨lw_p31, fun _ h => absurd h List.not_mem_nil⟩⟩⟩⟩⟩⟩⟩⟩⟩⟩⟩⟩⟩⟩⟩⟩
theorem lw_p32 : lw_okq (⟨"SortTransform$StreamReader", "readLength", "(LSortTransform$Codes;I)Z"⟩, 9) := ⟨⟨by decide +kernel, by decide +kernel⟩, List.mem_of_getElem? (i := 260) (by decide +kernel), List.mem_of_getElem? (i := 754) (by decide +kernel), List.mem_of_getElem? (i := 755) (by decide +kernel)⟩
theorem lw_p33 : lw_okq (⟨"SortTransform$StreamReader", "readSymbols", "(LSortTransform$Codes;LSortTransform$FrontList;)Z"⟩, 9) := ⟨⟨by decide +kernel, by decide +kernel⟩, List.mem_of_getElem? (i := 260) (by decide +kernel), List.mem_of_getElem? (i := 767) (by decide +kernel), List.mem_of_getElem? (i := 768) (by decide +kernel)⟩
theorem lw_p34 : lw_okq (⟨"SortTransform$StreamReader", "nextSymbol", "(LSortTransform$Codes;)I"⟩, 9) := ⟨⟨by decide +kernel, by decide +kernel⟩, List.mem_of_getElem? (i := 260) (by decide +kernel), List.mem_of_getElem? (i := 771) (by decide +kernel), List.mem_of_getElem? (i := 772) (by decide +kernel)⟩
theorem lw_p35 : lw_okq (⟨"SortTransform$StreamReader", "isGivenBack", "(LSortTransform$Bench;)Z"⟩, 9) := ⟨⟨by decide +kernel, by decide +kernel⟩, List.mem_of_getElem? (i := 260) (by decide +kernel), List.mem_of_getElem? (i := 782) (by decide +kernel), List.mem_of_getElem? (i := 783) (by decide +kernel)⟩
theorem lw_p36 : lw_okq (⟨"SortTransform$StreamReader", "isAtEnd", "()Z"⟩, 9) := ⟨⟨by decide +kernel, by decide +kernel⟩, List.mem_of_getElem? (i := 260) (by decide +kernel), List.mem_of_getElem? (i := 796) (by decide +kernel), List.mem_of_getElem? (i := 797) (by decide +kernel)⟩
theorem lw_p37 : lw_okq (⟨"SortTransformModel", "packBlock", "()V"⟩, 31) := ⟨⟨by decide +kernel, by decide +kernel⟩, List.mem_of_getElem? (i := 808) (by decide +kernel), List.mem_of_getElem? (i := 936) (by decide +kernel), List.mem_of_getElem? (i := 937) (by decide +kernel)⟩
theorem lw_p38 : lw_okq (⟨"SortTransformModel", "lay", "()V"⟩, 31) := ⟨⟨by decide +kernel, by decide +kernel⟩, List.mem_of_getElem? (i := 808) (by decide +kernel), List.mem_of_getElem? (i := 948) (by decide +kernel), List.mem_of_getElem? (i := 949) (by decide +kernel)⟩
theorem lw_p39 : lw_okq (⟨"SortTransformModel", "takeBlock", "()V"⟩, 31) := ⟨⟨by decide +kernel, by decide +kernel⟩, List.mem_of_getElem? (i := 808) (by decide +kernel), List.mem_of_getElem? (i := 952) (by decide +kernel), List.mem_of_getElem? (i := 953) (by decide +kernel)⟩
theorem lw_p40 : lw_okq (⟨"SortTransformModel", "putInOrder", "()V"⟩, 31) := ⟨⟨by decide +kernel, by decide +kernel⟩, List.mem_of_getElem? (i := 808) (by decide +kernel), List.mem_of_getElem? (i := 956) (by decide +kernel), List.mem_of_getElem? (i := 957) (by decide +kernel)⟩
theorem lw_p41 : lw_okq (⟨"SortTransformModel", "isAbove", "(II)Z"⟩, 31) := ⟨⟨by decide +kernel, by decide +kernel⟩, List.mem_of_getElem? (i := 808) (by decide +kernel), List.mem_of_getElem? (i := 960) (by decide +kernel), List.mem_of_getElem? (i := 961) (by decide +kernel)⟩
theorem lw_p42 : lw_okq (⟨"SortTransformModel", "parts", "(II)I"⟩, 31) := ⟨⟨by decide +kernel, by decide +kernel⟩, List.mem_of_getElem? (i := 808) (by decide +kernel), List.mem_of_getElem? (i := 964) (by decide +kernel), List.mem_of_getElem? (i := 965) (by decide +kernel)⟩
theorem lw_p43 : lw_okq (⟨"SortTransformModel", "originOf", "()I"⟩, 31) := ⟨⟨by decide +kernel, by decide +kernel⟩, List.mem_of_getElem? (i := 808) (by decide +kernel), List.mem_of_getElem? (i := 968) (by decide +kernel), List.mem_of_getElem? (i := 969) (by decide +kernel)⟩
theorem lw_p44 : lw_okq (⟨"SortTransformModel", "givesBack", "(I)Z"⟩, 31) := ⟨⟨by decide +kernel, by decide +kernel⟩, List.mem_of_getElem? (i := 808) (by decide +kernel), List.mem_of_getElem? (i := 998) (by decide +kernel), List.mem_of_getElem? (i := 999) (by decide +kernel)⟩
theorem lw_p45 : lw_okq (⟨"SortTransformModel", "nexts", "()V"⟩, 31) := ⟨⟨by decide +kernel, by decide +kernel⟩, List.mem_of_getElem? (i := 808) (by decide +kernel), List.mem_of_getElem? (i := 1002) (by decide +kernel), List.mem_of_getElem? (i := 1003) (by decide +kernel)⟩
theorem lw_p46 : lw_okq (⟨"SortTransformModel", "lastAt", "(I)I"⟩, 31) := ⟨⟨by decide +kernel, by decide +kernel⟩, List.mem_of_getElem? (i := 808) (by decide +kernel), List.mem_of_getElem? (i := 1006) (by decide +kernel), List.mem_of_getElem? (i := 1007) (by decide +kernel)⟩
theorem lw_p47 : lw_okq (⟨"SortTransformModel", "makeSymbols", "()V"⟩, 31) := ⟨⟨by decide +kernel, by decide +kernel⟩, List.mem_of_getElem? (i := 808) (by decide +kernel), List.mem_of_getElem? (i := 1018) (by decide +kernel), List.mem_of_getElem? (i := 1019) (by decide +kernel)⟩
def lw_privs_3 : List (MethodName × Nat) := [(⟨"SortTransform$StreamReader", "readLength", "(LSortTransform$Codes;I)Z"⟩, 9), (⟨"SortTransform$StreamReader", "readSymbols", "(LSortTransform$Codes;LSortTransform$FrontList;)Z"⟩, 9), (⟨"SortTransform$StreamReader", "nextSymbol", "(LSortTransform$Codes;)I"⟩, 9), (⟨"SortTransform$StreamReader", "isGivenBack", "(LSortTransform$Bench;)Z"⟩, 9), (⟨"SortTransform$StreamReader", "isAtEnd", "()Z"⟩, 9), (⟨"SortTransformModel", "packBlock", "()V"⟩, 31), (⟨"SortTransformModel", "lay", "()V"⟩, 31), (⟨"SortTransformModel", "takeBlock", "()V"⟩, 31), (⟨"SortTransformModel", "putInOrder", "()V"⟩, 31), (⟨"SortTransformModel", "isAbove", "(II)Z"⟩, 31), (⟨"SortTransformModel", "parts", "(II)I"⟩, 31), (⟨"SortTransformModel", "originOf", "()I"⟩, 31), (⟨"SortTransformModel", "givesBack", "(I)Z"⟩, 31), (⟨"SortTransformModel", "nexts", "()V"⟩, 31), (⟨"SortTransformModel", "lastAt", "(I)I"⟩, 31), (⟨"SortTransformModel", "makeSymbols", "()V"⟩, 31)]
theorem lw_r3 : ∀ q ∈ lw_privs_3, lw_okq q := List.forall_mem_cons.mpr ⟨lw_p32, List.forall_mem_cons.mpr ⟨lw_p33, List.forall_mem_cons.mpr ⟨lw_p34, List.forall_mem_cons.mpr ⟨lw_p35, List.forall_mem_cons.mpr ⟨lw_p36, List.forall_mem_cons.mpr ⟨lw_p37, List.forall_mem_cons.mpr ⟨lw_p38, List.forall_mem_cons.mpr ⟨lw_p39, List.forall_mem_cons.mpr ⟨lw_p40, List.forall_mem_cons.mpr ⟨lw_p41, List.forall_mem_cons.mpr ⟨lw_p42, List.forall_mem_cons.mpr ⟨lw_p43, List.forall_mem_cons.mpr ⟨lw_p44, List.forall_mem_cons.mpr ⟨lw_p45, List.forall_mem_cons.mpr ⟨lw_p46, List.forall_mem_cons.mpr ⟨lw_p47, fun _ h => absurd h List.not_mem_nil⟩⟩⟩⟩⟩⟩⟩⟩⟩⟩⟩⟩⟩⟩⟩⟩
theorem lw_p48 : lw_okq (⟨"SortTransformModel", "rowHas", "(I)Z"⟩, 31) := ⟨⟨by decide +kernel, by decide +kernel⟩, List.mem_of_getElem? (i := 808) (by decide +kernel), List.mem_of_getElem? (i := 1022) (by decide +kernel), List.mem_of_getElem? (i := 1023) (by decide +kernel)⟩
theorem lw_p49 : lw_okq (⟨"SortTransformModel", "toFront", "(I)I"⟩, 31) := ⟨⟨by decide +kernel, by decide +kernel⟩, List.mem_of_getElem? (i := 808) (by decide +kernel), List.mem_of_getElem? (i := 1026) (by decide +kernel), List.mem_of_getElem? (i := 1027) (by decide +kernel)⟩
theorem lw_p50 : lw_okq (⟨"SortTransformModel", "putNoughts", "(I)V"⟩, 31) := ⟨⟨by decide +kernel, by decide +kernel⟩, List.mem_of_getElem? (i := 808) (by decide +kernel), List.mem_of_getElem? (i := 1030) (by decide +kernel), List.mem_of_getElem? (i := 1031) (by decide +kernel)⟩
theorem lw_p51 : lw_okq (⟨"SortTransformModel", "makeLengths", "()V"⟩, 31) := ⟨⟨by decide +kernel, by decide +kernel⟩, List.mem_of_getElem? (i := 808) (by decide +kernel), List.mem_of_getElem? (i := 1038) (by decide +kernel), List.mem_of_getElem? (i := 1039) (by decide +kernel)⟩
theorem lw_p52 : lw_okq (⟨"SortTransformModel", "join", "(I)V"⟩, 31) := ⟨⟨by decide +kernel, by decide +kernel⟩, List.mem_of_getElem? (i := 808) (by decide +kernel), List.mem_of_getElem? (i := 1042) (by decide +kernel), List.mem_of_getElem? (i := 1043) (by decide +kernel)⟩
theorem lw_p53 : lw_okq (⟨"SortTransformModel", "lightest", "(II)I"⟩, 31) := ⟨⟨by decide +kernel, by decide +kernel⟩, List.mem_of_getElem? (i := 808) (by decide +kernel), List.mem_of_getElem? (i := 1046) (by decide +kernel), List.mem_of_getElem? (i := 1047) (by decide +kernel)⟩
theorem lw_p54 : lw_okq (⟨"SortTransformModel", "makeCodes", "(I)V"⟩, 31) := ⟨⟨by decide +kernel, by decide +kernel⟩, List.mem_of_getElem? (i := 808) (by decide +kernel), List.mem_of_getElem? (i := 1050) (by decide +kernel), List.mem_of_getElem? (i := 1051) (by decide +kernel)⟩
theorem lw_p55 : lw_okq (⟨"SortTransformModel", "put", "(JI)V"⟩, 31) := ⟨⟨by decide +kernel, by decide +kernel⟩, List.mem_of_getElem? (i := 808) (by decide +kernel), List.mem_of_getElem? (i := 1068) (by decide +kernel), List.mem_of_getElem? (i := 1069) (by decide +kernel)⟩
theorem lw_p56 : lw_okq (⟨"SortTransformModel", "writeRow", "()V"⟩, 31) := ⟨⟨by decide +kernel, by decide +kernel⟩, List.mem_of_getElem? (i := 808) (by decide +kernel), List.mem_of_getElem? (i := 1074) (by decide +kernel), List.mem_of_getElem? (i := 1075) (by decide +kernel)⟩
theorem lw_p57 : lw_okq (⟨"SortTransformModel", "reads", "()Z"⟩, 31) := ⟨⟨by decide +kernel, by decide +kernel⟩, List.mem_of_getElem? (i := 808) (by decide +kernel), List.mem_of_getElem? (i := 1104) (by decide +kernel), List.mem_of_getElem? (i := 1105) (by decide +kernel)⟩
theorem lw_p58 : lw_okq (⟨"SortTransformModel", "get", "(I)J"⟩, 31) := ⟨⟨by decide +kernel, by decide +kernel⟩, List.mem_of_getElem? (i := 808) (by decide +kernel), List.mem_of_getElem? (i := 1108) (by decide +kernel), List.mem_of_getElem? (i := 1109) (by decide +kernel)⟩
theorem lw_p59 : lw_okq (⟨"SortTransformModel", "wrong", "(II)Z"⟩, 31) := ⟨⟨by decide +kernel, by decide +kernel⟩, List.mem_of_getElem? (i := 808) (by decide +kernel), List.mem_of_getElem? (i := 1112) (by decide +kernel), List.mem_of_getElem? (i := 1113) (by decide +kernel)⟩
theorem lw_p60 : lw_okq (⟨"SortTransformModel", "readsList", "()Z"⟩, 31) := ⟨⟨by decide +kernel, by decide +kernel⟩, List.mem_of_getElem? (i := 808) (by decide +kernel), List.mem_of_getElem? (i := 1116) (by decide +kernel), List.mem_of_getElem? (i := 1117) (by decide +kernel)⟩
theorem lw_p61 : lw_okq (⟨"SortTransformModel", "readsLengths", "()Z"⟩, 31) := ⟨⟨by decide +kernel, by decide +kernel⟩, List.mem_of_getElem? (i := 808) (by decide +kernel), List.mem_of_getElem? (i := 1120) (by decide +kernel), List.mem_of_getElem? (i := 1121) (by decide +kernel)⟩
theorem lw_p62 : lw_okq (⟨"SortTransformModel", "readsRow", "(I)Z"⟩, 31) := ⟨⟨by decide +kernel, by decide +kernel⟩, List.mem_of_getElem? (i := 808) (by decide +kernel), List.mem_of_getElem? (i := 1126) (by decide +kernel), List.mem_of_getElem? (i := 1127) (by decide +kernel)⟩
theorem lw_p63 : lw_okq (⟨"SortTransformModel", "readsSymbol", "()I"⟩, 31) := ⟨⟨by decide +kernel, by decide +kernel⟩, List.mem_of_getElem? (i := 808) (by decide +kernel), List.mem_of_getElem? (i := 1130) (by decide +kernel), List.mem_of_getElem? (i := 1131) (by decide +kernel)⟩
def lw_privs_4 : List (MethodName × Nat) := [(⟨"SortTransformModel", "rowHas", "(I)Z"⟩, 31), (⟨"SortTransformModel", "toFront", "(I)I"⟩, 31), (⟨"SortTransformModel", "putNoughts", "(I)V"⟩, 31), (⟨"SortTransformModel", "makeLengths", "()V"⟩, 31), (⟨"SortTransformModel", "join", "(I)V"⟩, 31), (⟨"SortTransformModel", "lightest", "(II)I"⟩, 31), (⟨"SortTransformModel", "makeCodes", "(I)V"⟩, 31), (⟨"SortTransformModel", "put", "(JI)V"⟩, 31), (⟨"SortTransformModel", "writeRow", "()V"⟩, 31), (⟨"SortTransformModel", "reads", "()Z"⟩, 31), (⟨"SortTransformModel", "get", "(I)J"⟩, 31), (⟨"SortTransformModel", "wrong", "(II)Z"⟩, 31), (⟨"SortTransformModel", "readsList", "()Z"⟩, 31), (⟨"SortTransformModel", "readsLengths", "()Z"⟩, 31), (⟨"SortTransformModel", "readsRow", "(I)Z"⟩, 31), (⟨"SortTransformModel", "readsSymbol", "()I"⟩, 31)]
theorem lw_r4 : ∀ q ∈ lw_privs_4, lw_okq q := List.forall_mem_cons.mpr ⟨lw_p48, List.forall_mem_cons.mpr ⟨lw_p49, List.forall_mem_cons.mpr ⟨lw_p50, List.forall_mem_cons.mpr ⟨lw_p51, List.forall_mem_cons.mpr ⟨lw_p52, List.forall_mem_cons.mpr ⟨lw_p53, List.forall_mem_cons.mpr ⟨lw_p54, List.forall_mem_cons.mpr ⟨lw_p55, List.forall_mem_cons.mpr ⟨lw_p56, List.forall_mem_cons.mpr ⟨lw_p57, List.forall_mem_cons.mpr ⟨lw_p58, List.forall_mem_cons.mpr ⟨lw_p59, List.forall_mem_cons.mpr ⟨lw_p60, List.forall_mem_cons.mpr ⟨lw_p61, List.forall_mem_cons.mpr ⟨lw_p62, List.forall_mem_cons.mpr ⟨lw_p63, fun _ h => absurd h List.not_mem_nil⟩⟩⟩⟩⟩⟩⟩⟩⟩⟩⟩⟩⟩⟩⟩⟩
theorem lw_p64 : lw_okq (⟨"SortTransformModel", "unpacks", "()Z"⟩, 31) := ⟨⟨by decide +kernel, by decide +kernel⟩, List.mem_of_getElem? (i := 808) (by decide +kernel), List.mem_of_getElem? (i := 1134) (by decide +kernel), List.mem_of_getElem? (i := 1135) (by decide +kernel)⟩
def lw_privs_5 : List (MethodName × Nat) := [(⟨"SortTransformModel", "unpacks", "()Z"⟩, 31)]
theorem lw_r5 : ∀ q ∈ lw_privs_5, lw_okq q := List.forall_mem_cons.mpr ⟨lw_p64, fun _ h => absurd h List.not_mem_nil⟩
def lw_privs : List (MethodName × Nat) := lw_privs_1 ++ (lw_privs_2 ++ (lw_privs_3 ++ (lw_privs_4 ++ (lw_privs_5))))
def lw_tbl : List Cond := k2_sels lw_privs ++ tables_1
theorem lw_privs_ok : ∀ q ∈ lw_privs, lw_okq q := by
  show ∀ q ∈ lw_privs_1 ++ (lw_privs_2 ++ (lw_privs_3 ++ (lw_privs_4 ++ (lw_privs_5)))), lw_okq q
  exact List.forall_mem_append.mpr ⟨lw_r1, List.forall_mem_append.mpr ⟨lw_r2, List.forall_mem_append.mpr ⟨lw_r3, List.forall_mem_append.mpr ⟨lw_r4, lw_r5⟩⟩⟩⟩
def n_S : String := "SortTransform"
def f_S : u_T := fun k => match k with
  | 0 => ("SortTransform", "block", "LSortTransform$Row;", true)
  | 1 => ("SortTransform", "packedBlock", "LSortTransform$Row;", true)
  | 2 => ("SortTransform", "bench", "LSortTransform$Bench;", true)
  | 3 => ("SortTransform", "writer", "LSortTransform$StreamWriter;", true)
  | 4 => ("SortTransform", "reader", "LSortTransform$StreamReader;", true)
  | 5 => ("SortTransform", "packFresh", "Z", false)
  | 6 => ("SortTransform", "turnsFresh", "Z", false)
  | _ => ("SortTransform", "codesFresh", "Z", false)
def t_S : Nat → FieldType := fun k => match k with
  | 0 => .object "SortTransform$Row"
  | 1 => .object "SortTransform$Row"
  | 2 => .object "SortTransform$Bench"
  | 3 => .object "SortTransform$StreamWriter"
  | 4 => .object "SortTransform$StreamReader"
  | 5 => .boolean
  | 6 => .boolean
  | _ => .boolean
theorem nm_S : ∀ a, a < 8 → ∀ b, b < 8 → a ≠ b → (f_S a).2.1 ≠ (f_S b).2.1 := by decide +kernel
theorem ty_S : ∀ k, k < 8 → parseFieldDescriptor (f_S k).2.2.1 = some (t_S k) := by decide +kernel
def n_Bn : String := "SortTransform$Bench"
def f_Bn : u_T := fun k => match k with
  | 0 => ("SortTransform$Bench", "turns", "LSortTransform$Turns;", true)
  | 1 => ("SortTransform$Bench", "chain", "LSortTransform$Chain;", true)
  | 2 => ("SortTransform$Bench", "symbols", "LSortTransform$Symbols;", true)
  | 3 => ("SortTransform$Bench", "codes", "LSortTransform$Codes;", true)
  | 4 => ("SortTransform$Bench", "given", "LSortTransform$Row;", true)
  | 5 => ("SortTransform$Bench", "unpacked", "LSortTransform$Row;", true)
  | _ => ("SortTransform$Bench", "again", "LSortTransform$Row;", true)
def t_Bn : Nat → FieldType := fun k => match k with
  | 0 => .object "SortTransform$Turns"
  | 1 => .object "SortTransform$Chain"
  | 2 => .object "SortTransform$Symbols"
  | 3 => .object "SortTransform$Codes"
  | 4 => .object "SortTransform$Row"
  | 5 => .object "SortTransform$Row"
  | _ => .object "SortTransform$Row"
theorem nm_Bn : ∀ a, a < 7 → ∀ b, b < 7 → a ≠ b → (f_Bn a).2.1 ≠ (f_Bn b).2.1 := by decide +kernel
theorem ty_Bn : ∀ k, k < 7 → parseFieldDescriptor (f_Bn k).2.2.1 = some (t_Bn k) := by decide +kernel
def n_Ch : String := "SortTransform$Chain"
def f_Ch : u_T := fun k => match k with
  | 0 => ("SortTransform$Chain", "next", "[I", true)
  | 1 => ("SortTransform$Chain", "offsets", "[I", true)
  | _ => ("SortTransform$Chain", "size", "I", false)
def t_Ch : Nat → FieldType := fun k => match k with
  | 0 => .array .int
  | 1 => .array .int
  | _ => .int
theorem nm_Ch : ∀ a, a < 3 → ∀ b, b < 3 → a ≠ b → (f_Ch a).2.1 ≠ (f_Ch b).2.1 := by decide +kernel
theorem ty_Ch : ∀ k, k < 3 → parseFieldDescriptor (f_Ch k).2.2.1 = some (t_Ch k) := by decide +kernel
def n_Cd : String := "SortTransform$Codes"
def f_Cd : u_T := fun k => match k with
  | 0 => ("SortTransform$Codes", "joiner", "LSortTransform$Joiner;", true)
  | 1 => ("SortTransform$Codes", "weights", "[I", true)
  | 2 => ("SortTransform$Codes", "lengths", "[I", true)
  | 3 => ("SortTransform$Codes", "values", "[I", true)
  | 4 => ("SortTransform$Codes", "byLength", "[I", true)
  | 5 => ("SortTransform$Codes", "perLength", "[I", true)
  | _ => ("SortTransform$Codes", "count", "I", false)
def t_Cd : Nat → FieldType := fun k => match k with
  | 0 => .object "SortTransform$Joiner"
  | 1 => .array .int
  | 2 => .array .int
  | 3 => .array .int
  | 4 => .array .int
  | 5 => .array .int
  | _ => .int
theorem nm_Cd : ∀ a, a < 7 → ∀ b, b < 7 → a ≠ b → (f_Cd a).2.1 ≠ (f_Cd b).2.1 := by decide +kernel
theorem ty_Cd : ∀ k, k < 7 → parseFieldDescriptor (f_Cd k).2.2.1 = some (t_Cd k) := by decide +kernel
def n_Fl : String := "SortTransform$FrontList"
def f_Fl : u_T := fun k => match k with
  | 0 => ("SortTransform$FrontList", "bytes", "[I", true)
  | _ => ("SortTransform$FrontList", "size", "I", false)
def t_Fl : Nat → FieldType := fun k => match k with
  | 0 => .array .int
  | _ => .int
theorem nm_Fl : ∀ a, a < 2 → ∀ b, b < 2 → a ≠ b → (f_Fl a).2.1 ≠ (f_Fl b).2.1 := by decide +kernel
theorem ty_Fl : ∀ k, k < 2 → parseFieldDescriptor (f_Fl k).2.2.1 = some (t_Fl k) := by decide +kernel
def n_Jn : String := "SortTransform$Joiner"
def f_Jn : u_T := fun k => match k with
  | 0 => ("SortTransform$Joiner", "heap", "[I", true)
  | 1 => ("SortTransform$Joiner", "nodeOfLeast", "[I", true)
  | 2 => ("SortTransform$Joiner", "parents", "[I", true)
  | 3 => ("SortTransform$Joiner", "depths", "[I", true)
  | _ => ("SortTransform$Joiner", "size", "I", false)
def t_Jn : Nat → FieldType := fun k => match k with
  | 0 => .array .int
  | 1 => .array .int
  | 2 => .array .int
  | 3 => .array .int
  | _ => .int
theorem nm_Jn : ∀ a, a < 5 → ∀ b, b < 5 → a ≠ b → (f_Jn a).2.1 ≠ (f_Jn b).2.1 := by decide +kernel
theorem ty_Jn : ∀ k, k < 5 → parseFieldDescriptor (f_Jn k).2.2.1 = some (t_Jn k) := by decide +kernel
def n_Rw : String := "SortTransform$Row"
def f_Rw : u_T := fun k => match k with
  | 0 => ("SortTransform$Row", "bytes", "[I", true)
  | _ => ("SortTransform$Row", "size", "I", false)
def t_Rw : Nat → FieldType := fun k => match k with
  | 0 => .array .int
  | _ => .int
theorem nm_Rw : ∀ a, a < 2 → ∀ b, b < 2 → a ≠ b → (f_Rw a).2.1 ≠ (f_Rw b).2.1 := by decide +kernel
theorem ty_Rw : ∀ k, k < 2 → parseFieldDescriptor (f_Rw k).2.2.1 = some (t_Rw k) := by decide +kernel
def n_Sr : String := "SortTransform$StreamReader"
def f_Sr : u_T := fun k => match k with
  | 0 => ("SortTransform$StreamReader", "tape", "LSortTransform$Row;", true)
  | 1 => ("SortTransform$StreamReader", "last", "LSortTransform$Row;", true)
  | 2 => ("SortTransform$StreamReader", "position", "I", false)
  | 3 => ("SortTransform$StreamReader", "count", "I", false)
  | 4 => ("SortTransform$StreamReader", "origin", "I", false)
  | 5 => ("SortTransform$StreamReader", "check", "I", false)
  | 6 => ("SortTransform$StreamReader", "lengthAtHand", "I", false)
  | 7 => ("SortTransform$StreamReader", "fault", "I", false)
  | _ => ("SortTransform$StreamReader", "faultPlace", "I", false)
def t_Sr : Nat → FieldType := fun k => match k with
  | 0 => .object "SortTransform$Row"
  | 1 => .object "SortTransform$Row"
  | 2 => .int
  | 3 => .int
  | 4 => .int
  | 5 => .int
  | 6 => .int
  | 7 => .int
  | _ => .int
theorem nm_Sr : ∀ a, a < 9 → ∀ b, b < 9 → a ≠ b → (f_Sr a).2.1 ≠ (f_Sr b).2.1 := by decide +kernel
theorem ty_Sr : ∀ k, k < 9 → parseFieldDescriptor (f_Sr k).2.2.1 = some (t_Sr k) := by decide +kernel
def n_Sw : String := "SortTransform$StreamWriter"
def f_Sw : u_T := fun k => match k with
  | 0 => ("SortTransform$StreamWriter", "out", "LSortTransform$Row;", true)
  | 1 => ("SortTransform$StreamWriter", "held", "I", false)
  | _ => ("SortTransform$StreamWriter", "heldBits", "I", false)
def t_Sw : Nat → FieldType := fun k => match k with
  | 0 => .object "SortTransform$Row"
  | 1 => .int
  | _ => .int
theorem nm_Sw : ∀ a, a < 3 → ∀ b, b < 3 → a ≠ b → (f_Sw a).2.1 ≠ (f_Sw b).2.1 := by decide +kernel
theorem ty_Sw : ∀ k, k < 3 → parseFieldDescriptor (f_Sw k).2.2.1 = some (t_Sw k) := by decide +kernel
def n_Sy : String := "SortTransform$Symbols"
def f_Sy : u_T := fun k => match k with
  | 0 => ("SortTransform$Symbols", "list", "LSortTransform$FrontList;", true)
  | 1 => ("SortTransform$Symbols", "row", "[I", true)
  | 2 => ("SortTransform$Symbols", "count", "I", false)
  | _ => ("SortTransform$Symbols", "end", "I", false)
def t_Sy : Nat → FieldType := fun k => match k with
  | 0 => .object "SortTransform$FrontList"
  | 1 => .array .int
  | 2 => .int
  | _ => .int
theorem nm_Sy : ∀ a, a < 4 → ∀ b, b < 4 → a ≠ b → (f_Sy a).2.1 ≠ (f_Sy b).2.1 := by decide +kernel
theorem ty_Sy : ∀ k, k < 4 → parseFieldDescriptor (f_Sy k).2.2.1 = some (t_Sy k) := by decide +kernel
def n_Tu : String := "SortTransform$Turns"
def f_Tu : u_T := fun k => match k with
  | 0 => ("SortTransform$Turns", "lasts", "LSortTransform$Row;", true)
  | 1 => ("SortTransform$Turns", "order", "[I", true)
  | 2 => ("SortTransform$Turns", "places", "[I", true)
  | 3 => ("SortTransform$Turns", "ranks", "[I", true)
  | 4 => ("SortTransform$Turns", "line", "[I", true)
  | 5 => ("SortTransform$Turns", "offsets", "[I", true)
  | 6 => ("SortTransform$Turns", "size", "I", false)
  | 7 => ("SortTransform$Turns", "rankCount", "I", false)
  | _ => ("SortTransform$Turns", "doublings", "I", false)
def t_Tu : Nat → FieldType := fun k => match k with
  | 0 => .object "SortTransform$Row"
  | 1 => .array .int
  | 2 => .array .int
  | 3 => .array .int
  | 4 => .array .int
  | 5 => .array .int
  | 6 => .int
  | 7 => .int
  | _ => .int
theorem nm_Tu : ∀ a, a < 9 → ∀ b, b < 9 → a ≠ b → (f_Tu a).2.1 ≠ (f_Tu b).2.1 := by decide +kernel
theorem ty_Tu : ∀ k, k < 9 → parseFieldDescriptor (f_Tu k).2.2.1 = some (t_Tu k) := by decide +kernel
def n_Mo : String := "SortTransformModel"
def f_Mo : u_T := fun k => match k with
  | 0 => ("SortTransformModel", "many", "I", false)
  | 1 => ("SortTransformModel", "block", "[I", true)
  | 2 => ("SortTransformModel", "size", "I", false)
  | 3 => ("SortTransformModel", "row", "[I", true)
  | 4 => ("SortTransformModel", "order", "[I", true)
  | 5 => ("SortTransformModel", "merged", "[I", true)
  | 6 => ("SortTransformModel", "isLaid", "Z", false)
  | 7 => ("SortTransformModel", "blockOrder", "[I", true)
  | 8 => ("SortTransformModel", "blockOrigin", "I", false)
  | 9 => ("SortTransformModel", "blockRounds", "I", false)
  | 10 => ("SortTransformModel", "next", "[I", true)
  | 11 => ("SortTransformModel", "given", "[I", true)
  | 12 => ("SortTransformModel", "listed", "I", false)
  | 13 => ("SortTransformModel", "list", "[I", true)
  | 14 => ("SortTransformModel", "symbols", "I", false)
  | 15 => ("SortTransformModel", "symbol", "[I", true)
  | 16 => ("SortTransformModel", "lengths", "[I", true)
  | 17 => ("SortTransformModel", "codes", "[I", true)
  | 18 => ("SortTransformModel", "weight", "[J", true)
  | 19 => ("SortTransformModel", "leastOf", "[I", true)
  | 20 => ("SortTransformModel", "above", "[I", true)
  | 21 => ("SortTransformModel", "told", "[J", true)
  | 22 => ("SortTransformModel", "out", "[B", true)
  | 23 => ("SortTransformModel", "outBits", "I", false)
  | 24 => ("SortTransformModel", "outSize", "I", false)
  | 25 => ("SortTransformModel", "tape", "[B", true)
  | 26 => ("SortTransformModel", "taped", "I", false)
  | 27 => ("SortTransformModel", "at", "I", false)
  | 28 => ("SortTransformModel", "fault", "I", false)
  | 29 => ("SortTransformModel", "faultPlace", "I", false)
  | _ => ("SortTransformModel", "kept", "[I", true)
def t_Mo : Nat → FieldType := fun k => match k with
  | 0 => .int
  | 1 => .array .int
  | 2 => .int
  | 3 => .array .int
  | 4 => .array .int
  | 5 => .array .int
  | 6 => .boolean
  | 7 => .array .int
  | 8 => .int
  | 9 => .int
  | 10 => .array .int
  | 11 => .array .int
  | 12 => .int
  | 13 => .array .int
  | 14 => .int
  | 15 => .array .int
  | 16 => .array .int
  | 17 => .array .int
  | 18 => .array .long
  | 19 => .array .int
  | 20 => .array .int
  | 21 => .array .long
  | 22 => .array .byte
  | 23 => .int
  | 24 => .int
  | 25 => .array .byte
  | 26 => .int
  | 27 => .int
  | 28 => .int
  | 29 => .int
  | _ => .array .int
theorem nm_Mo : ∀ a, a < 31 → ∀ b, b < 31 → a ≠ b → (f_Mo a).2.1 ≠ (f_Mo b).2.1 := by decide +kernel
theorem ty_Mo : ∀ k, k < 31 → parseFieldDescriptor (f_Mo k).2.2.1 = some (t_Mo k) := by decide +kernel
def n_Lw : String := "SortTransformLaw"
def n_Ar : String := "java/util/Arrays"
abbrev vwCl : List vw_C := [(n_S, f_S, 8), (n_Bn, f_Bn, 7), (n_Ch, f_Ch, 3), (n_Cd, f_Cd, 7), (n_Fl, f_Fl, 2), (n_Jn, f_Jn, 5), (n_Rw, f_Rw, 2), (n_Sr, f_Sr, 9), (n_Sw, f_Sw, 3), (n_Sy, f_Sy, 4), (n_Tu, f_Tu, 9), (n_Mo, f_Mo, 31)]
abbrev ax_ty : List FieldType := [.int, .long, .byte]
abbrev m_S_init : MethodName × ByteArray × Nat × Option FieldType := (⟨n_S, "<init>", "()V"⟩, prog_1_method_1_code, 1, none)
abbrev m_S_feed : MethodName × ByteArray × Nat × Option FieldType := (⟨n_S, "feed", "(JI)I"⟩, prog_1_method_2_code, 5, (some .int))
abbrev m_S_fill : MethodName × ByteArray × Nat × Option FieldType := (⟨n_S, "fill", "(II)I"⟩, prog_1_method_3_code, 3, (some .int))
abbrev m_S_clear : MethodName × ByteArray × Nat × Option FieldType := (⟨n_S, "clear", "()I"⟩, prog_1_method_4_code, 2, (some .int))
abbrev m_S_octet : MethodName × ByteArray × Nat × Option FieldType := (⟨n_S, "octet", "(I)I"⟩, prog_1_method_5_code, 2, (some .int))
abbrev m_S_pack : MethodName × ByteArray × Nat × Option FieldType := (⟨n_S, "pack", "()I"⟩, prog_1_method_6_code, 1, (some .int))
abbrev m_S_packed : MethodName × ByteArray × Nat × Option FieldType := (⟨n_S, "packed", "(I)I"⟩, prog_1_method_7_code, 2, (some .int))
abbrev m_S_order : MethodName × ByteArray × Nat × Option FieldType := (⟨n_S, "order", "(I)I"⟩, prog_1_method_8_code, 2, (some .int))
abbrev m_S_last : MethodName × ByteArray × Nat × Option FieldType := (⟨n_S, "last", "(I)I"⟩, prog_1_method_9_code, 2, (some .int))
abbrev m_S_origin : MethodName × ByteArray × Nat × Option FieldType := (⟨n_S, "origin", "()I"⟩, prog_1_method_10_code, 1, (some .int))
abbrev m_S_rounds : MethodName × ByteArray × Nat × Option FieldType := (⟨n_S, "rounds", "()I"⟩, prog_1_method_11_code, 1, (some .int))
abbrev m_S_start : MethodName × ByteArray × Nat × Option FieldType := (⟨n_S, "start", "(II)I"⟩, prog_1_method_12_code, 3, (some .int))
abbrev m_S_steps : MethodName × ByteArray × Nat × Option FieldType := (⟨n_S, "steps", "(JII)I"⟩, prog_1_method_13_code, 8, (some .int))
abbrev m_S_back : MethodName × ByteArray × Nat × Option FieldType := (⟨n_S, "back", "(I)I"⟩, prog_1_method_14_code, 3, (some .int))
abbrev m_S_ring : MethodName × ByteArray × Nat × Option FieldType := (⟨n_S, "ring", "(I)I"⟩, prog_1_method_15_code, 2, (some .int))
abbrev m_S_symbol : MethodName × ByteArray × Nat × Option FieldType := (⟨n_S, "symbol", "(I)I"⟩, prog_1_method_16_code, 2, (some .int))
abbrev m_S_code : MethodName × ByteArray × Nat × Option FieldType := (⟨n_S, "code", "(II)I"⟩, prog_1_method_17_code, 4, (some .int))
abbrev m_S_bits : MethodName × ByteArray × Nat × Option FieldType := (⟨n_S, "bits", "()I"⟩, prog_1_method_18_code, 3, (some .int))
abbrev m_S_write : MethodName × ByteArray × Nat × Option FieldType := (⟨n_S, "write", "()I"⟩, prog_1_method_19_code, 1, (some .int))
abbrev m_S_out : MethodName × ByteArray × Nat × Option FieldType := (⟨n_S, "out", "(I)I"⟩, prog_1_method_20_code, 2, (some .int))
abbrev m_S_tape : MethodName × ByteArray × Nat × Option FieldType := (⟨n_S, "tape", "(JI)I"⟩, prog_1_method_21_code, 4, (some .int))
abbrev m_S_take : MethodName × ByteArray × Nat × Option FieldType := (⟨n_S, "take", "()I"⟩, prog_1_method_22_code, 1, (some .int))
abbrev m_S_spoil : MethodName × ByteArray × Nat × Option FieldType := (⟨n_S, "spoil", "(II)I"⟩, prog_1_method_23_code, 3, (some .int))
abbrev m_S_cut : MethodName × ByteArray × Nat × Option FieldType := (⟨n_S, "cut", "(I)I"⟩, prog_1_method_24_code, 3, (some .int))
abbrev m_S_read : MethodName × ByteArray × Nat × Option FieldType := (⟨n_S, "read", "()I"⟩, prog_1_method_25_code, 2, (some .int))
abbrev m_S_faultAt : MethodName × ByteArray × Nat × Option FieldType := (⟨n_S, "faultAt", "()I"⟩, prog_1_method_26_code, 1, (some .int))
abbrev m_S_check : MethodName × ByteArray × Nat × Option FieldType := (⟨n_S, "check", "()I"⟩, prog_1_method_27_code, 1, (some .int))
abbrev m_S_blockChanged : MethodName × ByteArray × Nat × Option FieldType := (⟨n_S, "blockChanged", "()V"⟩, prog_1_method_28_code, 1, none)
abbrev m_S_benchUsed : MethodName × ByteArray × Nat × Option FieldType := (⟨n_S, "benchUsed", "()V"⟩, prog_1_method_29_code, 1, none)
abbrev m_S_freshenPack : MethodName × ByteArray × Nat × Option FieldType := (⟨n_S, "freshenPack", "()V"⟩, prog_1_method_30_code, 1, none)
abbrev m_S_freshenTurns : MethodName × ByteArray × Nat × Option FieldType := (⟨n_S, "freshenTurns", "()V"⟩, prog_1_method_31_code, 1, none)
abbrev m_S_freshenCodes : MethodName × ByteArray × Nat × Option FieldType := (⟨n_S, "freshenCodes", "()V"⟩, prog_1_method_32_code, 1, none)
abbrev m_S_turnBegins : MethodName × ByteArray × Nat × Option FieldType := (⟨n_S, "turnBegins", "(IJI)Z"⟩, prog_1_method_33_code, 7, (some .boolean))
abbrev m_S_addLowest : MethodName × ByteArray × Nat × Option FieldType := (⟨n_S, "addLowest", "(LSortTransform$Row;JI)I"⟩, prog_1_method_34_code, 5, (some .int))
abbrev m_S_byteOf : MethodName × ByteArray × Nat × Option FieldType := (⟨n_S, "byteOf", "(JI)I"⟩, prog_1_method_35_code, 3, (some .int))
abbrev m_S_isByte : MethodName × ByteArray × Nat × Option FieldType := (⟨n_S, "isByte", "(I)Z"⟩, prog_1_method_36_code, 1, (some .boolean))
abbrev m_S_checkOf : MethodName × ByteArray × Nat × Option FieldType := (⟨n_S, "checkOf", "(LSortTransform$Row;)I"⟩, prog_1_method_37_code, 4, (some .int))
abbrev m_S_packInto : MethodName × ByteArray × Nat × Option FieldType := (⟨n_S, "packInto", "(LSortTransform$Row;LSortTransform$Row;)V"⟩, prog_1_method_38_code, 6, none)
abbrev m_S_countMore : MethodName × ByteArray × Nat × Option FieldType := (⟨n_S, "countMore", "(LSortTransform$Row;II)I"⟩, prog_1_method_39_code, 4, (some .int))
abbrev m_S_unpackInto : MethodName × ByteArray × Nat × Option FieldType := (⟨n_S, "unpackInto", "(LSortTransform$Row;LSortTransform$Row;)Z"⟩, prog_1_method_40_code, 7, (some .boolean))
abbrev m_Mo_init : MethodName × ByteArray × Nat × Option FieldType := (⟨n_Mo, "<init>", "()V"⟩, prog_13_method_1_code, 1, none)
abbrev m_Mo_isIn : MethodName × ByteArray × Nat × Option FieldType := (⟨n_Mo, "isIn", "(JJJ)Z"⟩, prog_13_method_2_code, 6, (some .boolean))
abbrev m_Mo_feed : MethodName × ByteArray × Nat × Option FieldType := (⟨n_Mo, "feed", "(JI)I"⟩, prog_13_method_3_code, 5, (some .int))
abbrev m_Mo_fill : MethodName × ByteArray × Nat × Option FieldType := (⟨n_Mo, "fill", "(II)I"⟩, prog_13_method_4_code, 4, (some .int))
abbrev m_Mo_clear : MethodName × ByteArray × Nat × Option FieldType := (⟨n_Mo, "clear", "()I"⟩, prog_13_method_5_code, 2, (some .int))
abbrev m_Mo_octet : MethodName × ByteArray × Nat × Option FieldType := (⟨n_Mo, "octet", "(I)I"⟩, prog_13_method_6_code, 2, (some .int))
abbrev m_Mo_takeBlock : MethodName × ByteArray × Nat × Option FieldType := (⟨n_Mo, "takeBlock", "()V"⟩, prog_13_method_7_code, 2, none)
abbrev m_Mo_packBlock : MethodName × ByteArray × Nat × Option FieldType := (⟨n_Mo, "packBlock", "()V"⟩, prog_13_method_8_code, 4, none)
abbrev m_Mo_pack : MethodName × ByteArray × Nat × Option FieldType := (⟨n_Mo, "pack", "()I"⟩, prog_13_method_9_code, 1, (some .int))
abbrev m_Mo_packed : MethodName × ByteArray × Nat × Option FieldType := (⟨n_Mo, "packed", "(I)I"⟩, prog_13_method_10_code, 2, (some .int))
abbrev m_Mo_parts : MethodName × ByteArray × Nat × Option FieldType := (⟨n_Mo, "parts", "(II)I"⟩, prog_13_method_11_code, 4, (some .int))
abbrev m_Mo_isAbove : MethodName × ByteArray × Nat × Option FieldType := (⟨n_Mo, "isAbove", "(II)Z"⟩, prog_13_method_12_code, 4, (some .boolean))
abbrev m_Mo_putInOrder : MethodName × ByteArray × Nat × Option FieldType := (⟨n_Mo, "putInOrder", "()V"⟩, prog_13_method_13_code, 9, none)
abbrev m_Mo_lastAt : MethodName × ByteArray × Nat × Option FieldType := (⟨n_Mo, "lastAt", "(I)I"⟩, prog_13_method_14_code, 2, (some .int))
abbrev m_Mo_originOf : MethodName × ByteArray × Nat × Option FieldType := (⟨n_Mo, "originOf", "()I"⟩, prog_13_method_15_code, 2, (some .int))
abbrev m_Mo_lay : MethodName × ByteArray × Nat × Option FieldType := (⟨n_Mo, "lay", "()V"⟩, prog_13_method_16_code, 4, none)
abbrev m_Mo_order : MethodName × ByteArray × Nat × Option FieldType := (⟨n_Mo, "order", "(I)I"⟩, prog_13_method_17_code, 2, (some .int))
abbrev m_Mo_last : MethodName × ByteArray × Nat × Option FieldType := (⟨n_Mo, "last", "(I)I"⟩, prog_13_method_18_code, 2, (some .int))
abbrev m_Mo_origin : MethodName × ByteArray × Nat × Option FieldType := (⟨n_Mo, "origin", "()I"⟩, prog_13_method_19_code, 1, (some .int))
abbrev m_Mo_rounds : MethodName × ByteArray × Nat × Option FieldType := (⟨n_Mo, "rounds", "()I"⟩, prog_13_method_20_code, 1, (some .int))
abbrev m_Mo_start : MethodName × ByteArray × Nat × Option FieldType := (⟨n_Mo, "start", "(II)I"⟩, prog_13_method_21_code, 5, (some .int))
abbrev m_Mo_steps : MethodName × ByteArray × Nat × Option FieldType := (⟨n_Mo, "steps", "(JII)I"⟩, prog_13_method_22_code, 10, (some .int))
abbrev m_Mo_nexts : MethodName × ByteArray × Nat × Option FieldType := (⟨n_Mo, "nexts", "()V"⟩, prog_13_method_23_code, 4, none)
abbrev m_Mo_givesBack : MethodName × ByteArray × Nat × Option FieldType := (⟨n_Mo, "givesBack", "(I)Z"⟩, prog_13_method_24_code, 5, (some .boolean))
abbrev m_Mo_back : MethodName × ByteArray × Nat × Option FieldType := (⟨n_Mo, "back", "(I)I"⟩, prog_13_method_25_code, 4, (some .int))
abbrev m_Mo_ring : MethodName × ByteArray × Nat × Option FieldType := (⟨n_Mo, "ring", "(I)I"⟩, prog_13_method_26_code, 4, (some .int))
abbrev m_Mo_rowHas : MethodName × ByteArray × Nat × Option FieldType := (⟨n_Mo, "rowHas", "(I)Z"⟩, prog_13_method_27_code, 3, (some .boolean))
abbrev m_Mo_putNoughts : MethodName × ByteArray × Nat × Option FieldType := (⟨n_Mo, "putNoughts", "(I)V"⟩, prog_13_method_28_code, 4, none)
abbrev m_Mo_makeSymbols : MethodName × ByteArray × Nat × Option FieldType := (⟨n_Mo, "makeSymbols", "()V"⟩, prog_13_method_29_code, 4, none)
abbrev m_Mo_toFront : MethodName × ByteArray × Nat × Option FieldType := (⟨n_Mo, "toFront", "(I)I"⟩, prog_13_method_30_code, 4, (some .int))
abbrev m_Mo_makeLengths : MethodName × ByteArray × Nat × Option FieldType := (⟨n_Mo, "makeLengths", "()V"⟩, prog_13_method_31_code, 4, none)
abbrev m_Mo_join : MethodName × ByteArray × Nat × Option FieldType := (⟨n_Mo, "join", "(I)V"⟩, prog_13_method_32_code, 6, none)
abbrev m_Mo_lightest : MethodName × ByteArray × Nat × Option FieldType := (⟨n_Mo, "lightest", "(II)I"⟩, prog_13_method_33_code, 5, (some .int))
abbrev m_Mo_makeCodes : MethodName × ByteArray × Nat × Option FieldType := (⟨n_Mo, "makeCodes", "(I)V"⟩, prog_13_method_34_code, 6, none)
abbrev m_Mo_symbol : MethodName × ByteArray × Nat × Option FieldType := (⟨n_Mo, "symbol", "(I)I"⟩, prog_13_method_35_code, 2, (some .int))
abbrev m_Mo_code : MethodName × ByteArray × Nat × Option FieldType := (⟨n_Mo, "code", "(II)I"⟩, prog_13_method_36_code, 3, (some .int))
abbrev m_Mo_bits : MethodName × ByteArray × Nat × Option FieldType := (⟨n_Mo, "bits", "()I"⟩, prog_13_method_37_code, 3, (some .int))
abbrev m_Mo_put : MethodName × ByteArray × Nat × Option FieldType := (⟨n_Mo, "put", "(JI)V"⟩, prog_13_method_38_code, 5, none)
abbrev m_Mo_check : MethodName × ByteArray × Nat × Option FieldType := (⟨n_Mo, "check", "()I"⟩, prog_13_method_39_code, 4, (some .int))
abbrev m_Mo_write : MethodName × ByteArray × Nat × Option FieldType := (⟨n_Mo, "write", "()I"⟩, prog_13_method_40_code, 3, (some .int))
abbrev m_Mo_writeRow : MethodName × ByteArray × Nat × Option FieldType := (⟨n_Mo, "writeRow", "()V"⟩, prog_13_method_41_code, 5, none)
abbrev m_Mo_out : MethodName × ByteArray × Nat × Option FieldType := (⟨n_Mo, "out", "(I)I"⟩, prog_13_method_42_code, 2, (some .int))
abbrev m_Mo_tape : MethodName × ByteArray × Nat × Option FieldType := (⟨n_Mo, "tape", "(JI)I"⟩, prog_13_method_43_code, 5, (some .int))
abbrev m_Mo_take : MethodName × ByteArray × Nat × Option FieldType := (⟨n_Mo, "take", "()I"⟩, prog_13_method_44_code, 2, (some .int))
abbrev m_Mo_spoil : MethodName × ByteArray × Nat × Option FieldType := (⟨n_Mo, "spoil", "(II)I"⟩, prog_13_method_45_code, 3, (some .int))
abbrev m_Mo_cut : MethodName × ByteArray × Nat × Option FieldType := (⟨n_Mo, "cut", "(I)I"⟩, prog_13_method_46_code, 3, (some .int))
abbrev m_Mo_wrong : MethodName × ByteArray × Nat × Option FieldType := (⟨n_Mo, "wrong", "(II)Z"⟩, prog_13_method_47_code, 3, (some .boolean))
abbrev m_Mo_get : MethodName × ByteArray × Nat × Option FieldType := (⟨n_Mo, "get", "(I)J"⟩, prog_13_method_48_code, 5, (some .long))
abbrev m_Mo_readsList : MethodName × ByteArray × Nat × Option FieldType := (⟨n_Mo, "readsList", "()Z"⟩, prog_13_method_49_code, 8, (some .boolean))
abbrev m_Mo_readsLengths : MethodName × ByteArray × Nat × Option FieldType := (⟨n_Mo, "readsLengths", "()Z"⟩, prog_13_method_50_code, 8, (some .boolean))
abbrev m_Mo_readsSymbol : MethodName × ByteArray × Nat × Option FieldType := (⟨n_Mo, "readsSymbol", "()I"⟩, prog_13_method_51_code, 4, (some .int))
abbrev m_Mo_readsRow : MethodName × ByteArray × Nat × Option FieldType := (⟨n_Mo, "readsRow", "(I)Z"⟩, prog_13_method_52_code, 8, (some .boolean))
abbrev m_Mo_unpacks : MethodName × ByteArray × Nat × Option FieldType := (⟨n_Mo, "unpacks", "()Z"⟩, prog_13_method_53_code, 5, (some .boolean))
abbrev m_Mo_read : MethodName × ByteArray × Nat × Option FieldType := (⟨n_Mo, "read", "()I"⟩, prog_13_method_54_code, 3, (some .int))
abbrev m_Mo_reads : MethodName × ByteArray × Nat × Option FieldType := (⟨n_Mo, "reads", "()Z"⟩, prog_13_method_55_code, 6, (some .boolean))
abbrev m_Mo_faultAt : MethodName × ByteArray × Nat × Option FieldType := (⟨n_Mo, "faultAt", "()I"⟩, prog_13_method_56_code, 1, (some .int))
abbrev m_Bn_init : MethodName × ByteArray × Nat × Option FieldType := (⟨n_Bn, "<init>", "()V"⟩, prog_2_method_1_code, 1, none)
abbrev m_Bn_goBack : MethodName × ByteArray × Nat × Option FieldType := (⟨n_Bn, "goBack", "(LSortTransform$Row;I)Z"⟩, prog_2_method_2_code, 3, (some .boolean))
abbrev m_Bn_unpackGiven : MethodName × ByteArray × Nat × Option FieldType := (⟨n_Bn, "unpackGiven", "()Z"⟩, prog_2_method_3_code, 1, (some .boolean))
abbrev m_Ch_init : MethodName × ByteArray × Nat × Option FieldType := (⟨n_Ch, "<init>", "()V"⟩, prog_3_method_1_code, 1, none)
abbrev m_Ch_link : MethodName × ByteArray × Nat × Option FieldType := (⟨n_Ch, "link", "(LSortTransform$Row;)V"⟩, prog_3_method_2_code, 4, none)
abbrev m_Ch_ringLength : MethodName × ByteArray × Nat × Option FieldType := (⟨n_Ch, "ringLength", "(I)I"⟩, prog_3_method_3_code, 4, (some .int))
abbrev m_Ch_follow : MethodName × ByteArray × Nat × Option FieldType := (⟨n_Ch, "follow", "(LSortTransform$Row;ILSortTransform$Row;)V"⟩, prog_3_method_4_code, 6, none)
abbrev m_Cd_init : MethodName × ByteArray × Nat × Option FieldType := (⟨n_Cd, "<init>", "()V"⟩, prog_4_method_1_code, 1, none)
abbrev m_Cd_has : MethodName × ByteArray × Nat × Option FieldType := (⟨n_Cd, "has", "(I)Z"⟩, prog_4_method_2_code, 2, (some .boolean))
abbrev m_Cd_lengthOf : MethodName × ByteArray × Nat × Option FieldType := (⟨n_Cd, "lengthOf", "(I)I"⟩, prog_4_method_3_code, 2, (some .int))
abbrev m_Cd_valueOf : MethodName × ByteArray × Nat × Option FieldType := (⟨n_Cd, "valueOf", "(I)I"⟩, prog_4_method_4_code, 2, (some .int))
abbrev m_Cd_symbolAt : MethodName × ByteArray × Nat × Option FieldType := (⟨n_Cd, "symbolAt", "(I)I"⟩, prog_4_method_5_code, 2, (some .int))
abbrev m_Cd_makeFrom : MethodName × ByteArray × Nat × Option FieldType := (⟨n_Cd, "makeFrom", "(LSortTransform$Symbols;)V"⟩, prog_4_method_6_code, 4, none)
abbrev m_Cd_weigh : MethodName × ByteArray × Nat × Option FieldType := (⟨n_Cd, "weigh", "(LSortTransform$Symbols;)V"⟩, prog_4_method_7_code, 4, none)
abbrev m_Cd_beginLengths : MethodName × ByteArray × Nat × Option FieldType := (⟨n_Cd, "beginLengths", "(I)V"⟩, prog_4_method_8_code, 2, none)
abbrev m_Cd_setLength : MethodName × ByteArray × Nat × Option FieldType := (⟨n_Cd, "setLength", "(II)V"⟩, prog_4_method_9_code, 3, none)
abbrev m_Cd_arrange : MethodName × ByteArray × Nat × Option FieldType := (⟨n_Cd, "arrange", "()V"⟩, prog_4_method_10_code, 6, none)
abbrev m_Cd_areWhole : MethodName × ByteArray × Nat × Option FieldType := (⟨n_Cd, "areWhole", "()Z"⟩, prog_4_method_11_code, 3, (some .boolean))
abbrev m_Fl_init : MethodName × ByteArray × Nat × Option FieldType := (⟨n_Fl, "<init>", "()V"⟩, prog_5_method_1_code, 1, none)
abbrev m_Fl_makeEmpty : MethodName × ByteArray × Nat × Option FieldType := (⟨n_Fl, "makeEmpty", "()V"⟩, prog_5_method_2_code, 1, none)
abbrev m_Fl_add : MethodName × ByteArray × Nat × Option FieldType := (⟨n_Fl, "add", "(I)V"⟩, prog_5_method_3_code, 2, none)
abbrev m_Fl_listBytes : MethodName × ByteArray × Nat × Option FieldType := (⟨n_Fl, "listBytes", "(LSortTransform$Row;)V"⟩, prog_5_method_4_code, 3, none)
abbrev m_Fl_placeOf : MethodName × ByteArray × Nat × Option FieldType := (⟨n_Fl, "placeOf", "(I)I"⟩, prog_5_method_5_code, 3, (some .int))
abbrev m_Fl_at : MethodName × ByteArray × Nat × Option FieldType := (⟨n_Fl, "at", "(I)I"⟩, prog_5_method_6_code, 2, (some .int))
abbrev m_Fl_bringToFront : MethodName × ByteArray × Nat × Option FieldType := (⟨n_Fl, "bringToFront", "(I)V"⟩, prog_5_method_7_code, 4, none)
abbrev m_Jn_init : MethodName × ByteArray × Nat × Option FieldType := (⟨n_Jn, "<init>", "()V"⟩, prog_6_method_1_code, 1, none)
abbrev m_Jn_findLengths : MethodName × ByteArray × Nat × Option FieldType := (⟨n_Jn, "findLengths", "([II[I)I"⟩, prog_6_method_2_code, 6, (some .int))
abbrev m_Jn_joinTwo : MethodName × ByteArray × Nat × Option FieldType := (⟨n_Jn, "joinTwo", "(I)V"⟩, prog_6_method_3_code, 6, none)
abbrev m_Jn_measureDepths : MethodName × ByteArray × Nat × Option FieldType := (⟨n_Jn, "measureDepths", "(II[I)I"⟩, prog_6_method_4_code, 6, (some .int))
abbrev m_Jn_push : MethodName × ByteArray × Nat × Option FieldType := (⟨n_Jn, "push", "(I)V"⟩, prog_6_method_5_code, 3, none)
abbrev m_Jn_pop : MethodName × ByteArray × Nat × Option FieldType := (⟨n_Jn, "pop", "()I"⟩, prog_6_method_6_code, 5, (some .int))
abbrev m_Rw_init : MethodName × ByteArray × Nat × Option FieldType := (⟨n_Rw, "<init>", "(I)V"⟩, prog_7_method_1_code, 2, none)
abbrev m_Rw_has : MethodName × ByteArray × Nat × Option FieldType := (⟨n_Rw, "has", "(I)Z"⟩, prog_7_method_2_code, 2, (some .boolean))
abbrev m_Rw_hasRoom : MethodName × ByteArray × Nat × Option FieldType := (⟨n_Rw, "hasRoom", "(I)Z"⟩, prog_7_method_3_code, 2, (some .boolean))
abbrev m_Rw_at : MethodName × ByteArray × Nat × Option FieldType := (⟨n_Rw, "at", "(I)I"⟩, prog_7_method_4_code, 2, (some .int))
abbrev m_Rw_add : MethodName × ByteArray × Nat × Option FieldType := (⟨n_Rw, "add", "(I)V"⟩, prog_7_method_5_code, 2, none)
abbrev m_Rw_addMany : MethodName × ByteArray × Nat × Option FieldType := (⟨n_Rw, "addMany", "(II)V"⟩, prog_7_method_6_code, 4, none)
abbrev m_Rw_joinWith : MethodName × ByteArray × Nat × Option FieldType := (⟨n_Rw, "joinWith", "(II)V"⟩, prog_7_method_7_code, 3, none)
abbrev m_Rw_shorten : MethodName × ByteArray × Nat × Option FieldType := (⟨n_Rw, "shorten", "(I)V"⟩, prog_7_method_8_code, 2, none)
abbrev m_Rw_copyOf : MethodName × ByteArray × Nat × Option FieldType := (⟨n_Rw, "copyOf", "(LSortTransform$Row;)V"⟩, prog_7_method_9_code, 3, none)
abbrev m_Rw_isLike : MethodName × ByteArray × Nat × Option FieldType := (⟨n_Rw, "isLike", "(LSortTransform$Row;)Z"⟩, prog_7_method_10_code, 3, (some .boolean))
abbrev m_Sr_init : MethodName × ByteArray × Nat × Option FieldType := (⟨n_Sr, "<init>", "()V"⟩, prog_8_method_1_code, 1, none)
abbrev m_Sr_readStream : MethodName × ByteArray × Nat × Option FieldType := (⟨n_Sr, "readStream", "(LSortTransform$Bench;)Z"⟩, prog_8_method_2_code, 4, (some .boolean))
abbrev m_Sr_fails : MethodName × ByteArray × Nat × Option FieldType := (⟨n_Sr, "fails", "(II)Z"⟩, prog_8_method_3_code, 3, (some .boolean))
abbrev m_Sr_tapeEnds : MethodName × ByteArray × Nat × Option FieldType := (⟨n_Sr, "tapeEnds", "()Z"⟩, prog_8_method_4_code, 1, (some .boolean))
abbrev m_Sr_lacks : MethodName × ByteArray × Nat × Option FieldType := (⟨n_Sr, "lacks", "(I)Z"⟩, prog_8_method_5_code, 2, (some .boolean))
abbrev m_Sr_next : MethodName × ByteArray × Nat × Option FieldType := (⟨n_Sr, "next", "(I)I"⟩, prog_8_method_6_code, 4, (some .int))
abbrev m_Sr_byteNow : MethodName × ByteArray × Nat × Option FieldType := (⟨n_Sr, "byteNow", "()I"⟩, prog_8_method_7_code, 1, (some .int))
abbrev m_Sr_readHead : MethodName × ByteArray × Nat × Option FieldType := (⟨n_Sr, "readHead", "()Z"⟩, prog_8_method_8_code, 1, (some .boolean))
abbrev m_Sr_readList : MethodName × ByteArray × Nat × Option FieldType := (⟨n_Sr, "readList", "(LSortTransform$FrontList;)Z"⟩, prog_8_method_9_code, 5, (some .boolean))
abbrev m_Sr_readSixteenth : MethodName × ByteArray × Nat × Option FieldType := (⟨n_Sr, "readSixteenth", "(LSortTransform$FrontList;I)Z"⟩, prog_8_method_10_code, 6, (some .boolean))
abbrev m_Sr_isMarked : MethodName × ByteArray × Nat × Option FieldType := (⟨n_Sr, "isMarked", "(II)Z"⟩, prog_8_method_11_code, 2, (some .boolean))
abbrev m_Sr_readLengths : MethodName × ByteArray × Nat × Option FieldType := (⟨n_Sr, "readLengths", "(LSortTransform$Codes;I)Z"⟩, prog_8_method_12_code, 5, (some .boolean))
abbrev m_Sr_readLength : MethodName × ByteArray × Nat × Option FieldType := (⟨n_Sr, "readLength", "(LSortTransform$Codes;I)Z"⟩, prog_8_method_13_code, 5, (some .boolean))
abbrev m_Sr_isNoLength : MethodName × ByteArray × Nat × Option FieldType := (⟨n_Sr, "isNoLength", "(I)Z"⟩, prog_8_method_14_code, 1, (some .boolean))
abbrev m_Sr_readSymbols : MethodName × ByteArray × Nat × Option FieldType := (⟨n_Sr, "readSymbols", "(LSortTransform$Codes;LSortTransform$FrontList;)Z"⟩, prog_8_method_15_code, 10, (some .boolean))
abbrev m_Sr_nextSymbol : MethodName × ByteArray × Nat × Option FieldType := (⟨n_Sr, "nextSymbol", "(LSortTransform$Codes;)I"⟩, prog_8_method_16_code, 7, (some .int))
abbrev m_Sr_isGivenBack : MethodName × ByteArray × Nat × Option FieldType := (⟨n_Sr, "isGivenBack", "(LSortTransform$Bench;)Z"⟩, prog_8_method_17_code, 2, (some .boolean))
abbrev m_Sr_isAtEnd : MethodName × ByteArray × Nat × Option FieldType := (⟨n_Sr, "isAtEnd", "()Z"⟩, prog_8_method_18_code, 3, (some .boolean))
abbrev m_Sw_init : MethodName × ByteArray × Nat × Option FieldType := (⟨n_Sw, "<init>", "()V"⟩, prog_9_method_1_code, 1, none)
abbrev m_Sw_writeStream : MethodName × ByteArray × Nat × Option FieldType := (⟨n_Sw, "writeStream", "(LSortTransform$Row;ILSortTransform$Bench;)V"⟩, prog_9_method_2_code, 4, none)
abbrev m_Sw_put : MethodName × ByteArray × Nat × Option FieldType := (⟨n_Sw, "put", "(II)V"⟩, prog_9_method_3_code, 4, none)
abbrev m_Sw_putList : MethodName × ByteArray × Nat × Option FieldType := (⟨n_Sw, "putList", "(LSortTransform$FrontList;)V"⟩, prog_9_method_4_code, 5, none)
abbrev m_Sw_marksIn : MethodName × ByteArray × Nat × Option FieldType := (⟨n_Sw, "marksIn", "(LSortTransform$FrontList;I)I"⟩, prog_9_method_5_code, 5, (some .int))
abbrev m_Sw_markOf : MethodName × ByteArray × Nat × Option FieldType := (⟨n_Sw, "markOf", "(I)I"⟩, prog_9_method_6_code, 1, (some .int))
abbrev m_Sw_putLengths : MethodName × ByteArray × Nat × Option FieldType := (⟨n_Sw, "putLengths", "(LSortTransform$Codes;)V"⟩, prog_9_method_7_code, 5, none)
abbrev m_Sw_putCodes : MethodName × ByteArray × Nat × Option FieldType := (⟨n_Sw, "putCodes", "(LSortTransform$Symbols;LSortTransform$Codes;)V"⟩, prog_9_method_8_code, 5, none)
abbrev m_Sy_init : MethodName × ByteArray × Nat × Option FieldType := (⟨n_Sy, "<init>", "()V"⟩, prog_10_method_1_code, 1, none)
abbrev m_Sy_at : MethodName × ByteArray × Nat × Option FieldType := (⟨n_Sy, "at", "(I)I"⟩, prog_10_method_2_code, 2, (some .int))
abbrev m_Sy_makeFrom : MethodName × ByteArray × Nat × Option FieldType := (⟨n_Sy, "makeFrom", "(LSortTransform$Row;)V"⟩, prog_10_method_3_code, 5, none)
abbrev m_Sy_addDigits : MethodName × ByteArray × Nat × Option FieldType := (⟨n_Sy, "addDigits", "(I)V"⟩, prog_10_method_4_code, 3, none)
abbrev m_Sy_addSymbol : MethodName × ByteArray × Nat × Option FieldType := (⟨n_Sy, "addSymbol", "(I)V"⟩, prog_10_method_5_code, 2, none)
abbrev m_Tu_init : MethodName × ByteArray × Nat × Option FieldType := (⟨n_Tu, "<init>", "()V"⟩, prog_11_method_1_code, 1, none)
abbrev m_Tu_turnAt : MethodName × ByteArray × Nat × Option FieldType := (⟨n_Tu, "turnAt", "(I)I"⟩, prog_11_method_2_code, 2, (some .int))
abbrev m_Tu_placeOf : MethodName × ByteArray × Nat × Option FieldType := (⟨n_Tu, "placeOf", "(I)I"⟩, prog_11_method_3_code, 2, (some .int))
abbrev m_Tu_sortTurns : MethodName × ByteArray × Nat × Option FieldType := (⟨n_Tu, "sortTurns", "(LSortTransform$Row;)V"⟩, prog_11_method_4_code, 4, none)
abbrev m_Tu_lineUp : MethodName × ByteArray × Nat × Option FieldType := (⟨n_Tu, "lineUp", "()V"⟩, prog_11_method_5_code, 2, none)
abbrev m_Tu_shift : MethodName × ByteArray × Nat × Option FieldType := (⟨n_Tu, "shift", "(I)V"⟩, prog_11_method_6_code, 3, none)
abbrev m_Tu_sortByRank : MethodName × ByteArray × Nat × Option FieldType := (⟨n_Tu, "sortByRank", "()V"⟩, prog_11_method_7_code, 3, none)
abbrev m_Tu_numberRanks : MethodName × ByteArray × Nat × Option FieldType := (⟨n_Tu, "numberRanks", "(I)V"⟩, prog_11_method_8_code, 8, none)
abbrev m_Tu_around : MethodName × ByteArray × Nat × Option FieldType := (⟨n_Tu, "around", "(I)I"⟩, prog_11_method_9_code, 2, (some .int))
abbrev m_Tu_notePlaces : MethodName × ByteArray × Nat × Option FieldType := (⟨n_Tu, "notePlaces", "(LSortTransform$Row;)V"⟩, prog_11_method_10_code, 4, none)
abbrev m_Lw_law : MethodName × ByteArray × Nat × Option FieldType := (⟨n_Lw, "law", "([I)Z"⟩, code, 4, (some .boolean))
abbrev m_Ar_fill : MethodName × ByteArray × Nat × Option FieldType := (⟨n_Ar, "fill", "([II)V"⟩, prog_16_method_103_code, 4, none)
end
section
/-! THE BASE: an abstract heap (a list of cells; place 0 is the law's script), and a judgement over it that the kit's rows carry to the machine. -/
abbrev ax_C : Type := (Nat × vp_A) ⊕ (Nat × List Value)
abbrev ax_H : Type := List ax_C
abbrev ax_M : Type := MethodName × ByteArray × Nat × Option FieldType
abbrev ax_L : Type := List (Option Value)
def ax_ad (b base i : Nat) : Nat := match i with
  | 0 => b
  | j + 1 => base + j
def ax_v (b base : Nat) (v : Value) : Value := match v with
  | .ref i => .ref (ax_ad b base i)
  | .int x => .int x
  | .long x => .long x
  | .float x => .float x
  | .double x => .double x
  | .null => .null
  | .retAddr x => .retAddr x
theorem ax_v_cat (b base : Nat) (v : Value) : (ax_v b base v).category = v.category := by cases v <;> rfl
def ax_arr (b base : Nat) (a : vp_A) : vp_A := match a with
  | (n, .inl f) => (n, .inl f)
  | (n, .inr (.inl f)) => (n, .inr (.inl f))
  | (n, .inr (.inr (.inl f))) => (n, .inr (.inr (.inl f)))
  | (n, .inr (.inr (.inr (.inl f)))) => (n, .inr (.inr (.inr (.inl f))))
  | (n, .inr (.inr (.inr (.inr f)))) => (n, .inr (.inr (.inr (.inr (fun j => (f j).map (ax_ad b base))))))
def ax_e (b base : Nat) (tc : Nat → ClassId) (c : ax_C) : va_E := match c with
  | .inl a => .inl (tc a.1, ax_arr b base a.2)
  | .inr o => .inr (o.1, o.2.map (ax_v b base))
def ax_w (b base : Nat) (tc : Nat → ClassId) (h : ax_H) : va_W := (h.drop 1).mapIdx (fun i c => (base + i, ax_e b base tc c))
theorem ax_w_at {b base : Nat} {tc : Nat → ClassId} {h : ax_H} {i : Nat} : (ax_w b base tc h)[i]? = (h[i + 1]?).map (fun c => (base + i, ax_e b base tc c)) := by
  rw [ax_w, List.getElem?_mapIdx, List.getElem?_drop, Nat.add_comm 1 i]
theorem ax_w_len {b base : Nat} {tc : Nat → ClassId} {h : ax_H} : (ax_w b base tc h).length = h.length - 1 := by simp [ax_w]
theorem ax_w_set {b base : Nat} {tc : Nat → ClassId} {h : ax_H} {i : Nat} {c : ax_C} : ax_w b base tc (h.set (i + 1) c) = (ax_w b base tc h).set i (base + i, ax_e b base tc c) := by
  apply List.ext_getElem?
  intro j
  rw [ax_w_at, List.getElem?_set, List.getElem?_set, ax_w_len, ax_w_at]
  by_cases e : i = j
  · subst e
    by_cases hl : i + 1 < h.length
    · rw [if_pos rfl, if_pos hl, if_pos rfl, if_pos (by omega)]; rfl
    · rw [if_pos rfl, if_neg hl, if_pos rfl, if_neg (by omega)]; rfl
  · rw [if_neg (by omega), if_neg e]
theorem ax_w_push {b base : Nat} {tc : Nat → ClassId} {h : ax_H} {c : ax_C} (h1 : 1 ≤ h.length) : ax_w b base tc (h ++ [c]) = ax_w b base tc h ++ [(base + (h.length - 1), ax_e b base tc c)] := by
  apply List.ext_getElem?
  intro j
  rw [ax_w_at, List.getElem?_append, List.getElem?_append, ax_w_len]
  by_cases e : j + 1 < h.length
  · rw [if_pos e, if_pos (by omega), ax_w_at]
  · rw [if_neg e, if_neg (by omega)]
    by_cases e2 : j + 1 = h.length
    · have e3 : h.length - 1 = j := by omega
      rw [e3, show j + 1 - h.length = 0 by omega, Nat.sub_self]; rfl
    · rw [List.getElem?_eq_none (by simp; omega), List.getElem?_eq_none (by simp; omega)]; rfl
theorem ax_w_D {b base : Nat} {tc : Nat → ClassId} {h : ax_H} : va_D (fun q => base ≤ q) (ax_w b base tc h) := by
  refine ⟨fun i j x y hi hj hxy => ?_, fun k q hk => ?_⟩
  · rw [ax_w_at] at hi hj
    obtain ⟨c1, _, rfl⟩ := Option.map_eq_some_iff.mp hi
    obtain ⟨c2, _, rfl⟩ := Option.map_eq_some_iff.mp hj
    have : base + i = base + j := hxy
    omega
  · rw [ax_w_at] at hk
    obtain ⟨c1, _, rfl⟩ := Option.map_eq_some_iff.mp hk
    exact Nat.le_add_right _ _
def ax_n (c : ax_C) : Nat := match c with
  | .inl a => a.2.1
  | .inr o => o.2.length
def ax_sl (h : ax_H) : Nat := (h.map ax_n).sum
theorem ax_sl_push {h : ax_H} {c : ax_C} : ax_sl (h ++ [c]) = ax_sl h + ax_n c := by simp [ax_sl]
theorem ax_sl_set {h : ax_H} {a : Nat} {c c0 : ax_C} (ha : h[a]? = some c0) (e : ax_n c = ax_n c0) : ax_sl (h.set a c) = ax_sl h := by
  have key : (h.set a c).map ax_n = h.map ax_n := by
    apply List.ext_getElem?
    intro j
    rw [List.getElem?_map, List.getElem?_map, List.getElem?_set]
    by_cases hj : a = j
    · subst hj
      have hl := (List.getElem?_eq_some_iff.mp ha).1
      rw [if_pos rfl, if_pos hl, ha]
      simp [e]
    · rw [if_neg hj]
  rw [ax_sl, key, ax_sl]
/-! the tables' words -/
def ax_good (w : Cond) : Bool := (w.onTables && w.keeps) || (match w with
  | .arrayClass _ => true
  | _ => false)
def ax_all : List Cond := lw_tbl.filter ax_good
theorem ax_all_in {w : Cond} (h : w ∈ lw_tbl) (g : ax_good w = true) : w ∈ ax_all := List.mem_filter.mpr ⟨h, g⟩
theorem ax_all_good {w : Cond} (h : w ∈ ax_all) : (w.onTables && w.keeps) = true ∨ ∃ ty, w = .arrayClass ty := by
  have h2 := (List.mem_filter.mp h).2
  unfold ax_good at h2
  rcases Bool.or_eq_true_iff.mp h2 with h3 | h3
  · exact Or.inl h3
  · split at h3
    · exact Or.inr ⟨_, rfl⟩
    · cases h3
def ax_isN (w : Cond) : Bool := match w with
  | .fieldLinkNest _ _ _ _ _ _ => true
  | .methodLinkNest _ _ _ _ => true
  | _ => false
def ax_nest : List Cond := lw_tbl.filter ax_isN
theorem ax_nest_in {w : Cond} (h : w ∈ lw_tbl) (g : ax_isN w = true) : w ∈ ax_nest := List.mem_filter.mpr ⟨h, g⟩
theorem ax_nest_tab (w : Cond) (hw : w ∈ ax_nest) : w.onTables = true := by
  have h := (List.mem_filter.mp hw).2
  unfold ax_isN at h
  split at h
  · rfl
  · rfl
  · cases h
theorem ax_nest_warm (w : Cond) (hw : w ∈ ax_nest) {s U : State} (hW : s.WarmedH U.vm) (hZ : va_Nw w s) : va_Nw w U := by
  have h := (List.mem_filter.mp hw).2
  unfold ax_isN at h
  split at h
  · exact va_Nw.warmF hW hZ
  · exact va_Nw.warmM hW hZ
  · cases h
def ax_cd (M : ax_M) : Cond := .code M.1 M.2.1 M.2.2.1 M.2.2.2
def ax_ws (M : ax_M) : List Cond := ax_cd M :: ax_all
theorem ax_goodIn {N : ax_M} (hN : ax_cd N ∈ ax_all) : GoodIn ax_all (ax_ws N) := by
  intro w hw
  rcases List.mem_cons.mp hw with rfl | h
  · exact ⟨hN, ax_all_good hN⟩
  · exact ⟨h, ax_all_good h⟩
/-! the judgement -/
def ax_tys (tc : Nat → ClassId) : List (ClassId × FieldType) := ax_ty.mapIdx (fun i t => (tc i, t))
theorem ax_tys_at {tc : Nat → ClassId} {t0 : Nat} {ty : FieldType} (h : ax_ty[t0]? = some ty) : (ax_tys tc)[t0]? = some (tc t0, ty) := by
  rw [ax_tys, List.getElem?_mapIdx, h]; rfl
def ax_At (D : va_G) (tc : Nat → ClassId) (b base : Nat) (h : ax_H) (U : State) (H : Heap) : Prop :=
  va_P D vwCl (ax_w b base tc h) H ∧ H.size + 1 = base + h.length ∧ ∃ (L : Nat) (xs : Nat → Int32), h[0]? = some (.inl (0, L, .inl xs)) ∧ va_X b L xs U H
def ax_K (D : va_G) (tc : Nat → ClassId) (U : State) : Prop := va_K D vwCl (ax_tys tc) U ∧ ∀ w ∈ ax_nest, va_Nw w U
def ax_Cx (M : ax_M) (D : va_G) (tc : Nat → ClassId) (b base : Nat) (p : Program) (s : State) (m : MethodId) (args : Array Value) (meth : Method) (c : Code) : Prop :=
  p.tables.exec = Jvm.exec ∧ c.code = M.2.1 ∧ c.maxLocals = M.2.2.1 ∧ meth.sig.returnType = M.2.2.2 ∧ meth.locks = false ∧ (M.1.name = "<init>" → meth.name = "<init>") ∧ s.vm.findClass M.1.cls = some m.cls ∧ (∀ w ∈ ax_all, w.before args s = true) ∧ ax_K D tc s ∧ b < base
def ax_lv (b base : Nat) (ls : Array Slot) (n : Nat) (lv : ax_L) : Prop := ls.size = n ∧ lv_wf ls ∧ ∀ (i : Nat) (v : Value), lv[i]? = some (some v) → ls[i]? = some (.val (ax_v b base v))
def ax_mono (h h' : ax_H) : Prop := h.length ≤ h'.length ∧ ax_sl h ≤ ax_sl h'
theorem ax_mono.rf {h : ax_H} : ax_mono h h := ⟨Nat.le_refl _, Nat.le_refl _⟩
theorem ax_mono.tr {a b c : ax_H} (h1 : ax_mono a b) (h2 : ax_mono b c) : ax_mono a c := ⟨Nat.le_trans h1.1 h2.1, Nat.le_trans h1.2 h2.2⟩
def ax_R (R : Room) (d mc ms : Nat) : Prop := d ≤ R.frames ∧ 45 * d ≤ R.locals ∧ mc ≤ R.cells ∧ ms ≤ R.slots
def ax_Q (D : va_G) (tc : Nat → ClassId) (b base : Nat) (r : Option Value) (h' : ax_H) : Array Value → State → Outcome → State → Prop := fun _ st oc t =>
  oc = .returned (r.map (ax_v b base)) ∧ ax_At D tc b base h' t t.heap ∧ va_F (fun q => base ≤ q) st t
def ax_X (M : ax_M) (d pc : Nat) (lv : ax_L) (st : List Value) (h : ax_H) (r : Option Value) (h' : ax_H) : Prop :=
  ax_mono h h' ∧ ∀ (l : Launch) (D : va_G) (tc : Nat → ClassId) (b base : Nat) (p : Program) (e : Env) (R : Room) (s : State) (m : MethodId) (args : Array Value) (below : List Frame) (meth : Method) (c : Code), ax_Cx M D tc b base p s m args meth c →
    ∀ (H : Heap) (locs : List Loc) (ls : Array Slot) (cells slots : Nat), ax_R R d (cells + (h'.length - h.length)) (slots + (ax_sl h' - ax_sl h)) → ax_At D tc b base h s H → va_S (fun q => base ≤ q) s.heap H locs → ax_lv b base ls M.2.2.1 lv →
      W p l e R s m args below meth c H locs cells slots (MQ below (ax_Q D tc b base r h') args s (cells + (h'.length - h.length)) (slots + (ax_sl h' - ax_sl h)) (fun q => base ≤ q)) (F0 m pc ls (st.map (ax_v b base)))
def ax_W (M : ax_M) (d pc : Nat) (lv : ax_L) (st : List Value) (h : ax_H) (Q : Option Value → ax_H → Prop) : Prop := ∃ (r : Option Value) (h' : ax_H), Q r h' ∧ ax_X M d pc lv st h r h'
def ax_rm (d mc ms : Nat) : Room := { frames := d, cells := mc, slots := ms, locals := 45 * d }
def ax_Call (M : ax_M) (d : Nat) (av : List Value) (h : ax_H) (r : Option Value) (h' : ax_H) : Prop :=
  ax_mono h h' ∧ ∀ (l : Launch) (D : va_G) (tc : Nat → ClassId) (b base : Nat), b < base → Met l M.1 (ax_ws M) (ax_rm d (h'.length - h.length) (ax_sl h' - ax_sl h)) (va_Pc (av.map (ax_v b base)) (fun U => ax_At D tc b base h U U.heap ∧ ax_K D tc U)) (ax_Q D tc b base r h') (h'.length - h.length) (ax_sl h' - ax_sl h) (fun q => base ≤ q)
def ax_Cl (M : ax_M) (d : Nat) (av : List Value) (h : ax_H) (Q : Option Value → ax_H → Prop) : Prop := ∃ (r : Option Value) (h' : ax_H), Q r h' ∧ ax_Call M d av h r h'
theorem ax_Cl.mono {M : ax_M} {d : Nat} {av : List Value} {h : ax_H} {Q Q' : Option Value → ax_H → Prop} (k : ax_Cl M d av h Q) (f : ∀ r h', Q r h' → Q' r h') : ax_Cl M d av h Q' := by
  obtain ⟨r, h', q, c⟩ := k
  exact ⟨r, h', f r h' q, c⟩
theorem ax_W.mono {M : ax_M} {d pc : Nat} {lv : ax_L} {st : List Value} {h : ax_H} {Q Q' : Option Value → ax_H → Prop} (k : ax_W M d pc lv st h Q) (f : ∀ r h', Q r h' → Q' r h') : ax_W M d pc lv st h Q' := by
  obtain ⟨r, h', q, c⟩ := k
  exact ⟨r, h', f r h' q, c⟩
/-! a method's start -/
def ax_fl (av : List Value) : ax_L := av.flatMap (fun v => if v.category = 2 then [some v, none] else [some v])
def ax_l0 (n : Nat) (av : List Value) : ax_L := ax_fl av ++ List.replicate (n - (ax_fl av).length) none
theorem ax_sl_len (b base : Nat) (av : List Value) : (lg_sl (av.map (ax_v b base))).length = (ax_fl av).length := by
  induction av with
  | nil => rfl
  | cons v t ih =>
    have e1 : lg_sl ((v :: t).map (ax_v b base)) = (if (ax_v b base v).category = 2 then [Slot.val (ax_v b base v), Slot.second] else [Slot.val (ax_v b base v)]) ++ lg_sl (t.map (ax_v b base)) := by simp [lg_sl]
    have e2 : ax_fl (v :: t) = (if v.category = 2 then [some v, none] else [some v]) ++ ax_fl t := by simp [ax_fl]
    rw [e1, e2, List.length_append, List.length_append, ih, ax_v_cat]
    split <;> rfl
theorem ax_fl_args (b base : Nat) : ∀ (av : List Value) (k i : Nat) (v : Value), (ax_fl av)[i]? = some (some v) → (k + i, ax_v b base v) ∈ lv_args k (av.map (ax_v b base))
  | [], k, i, v, h => by simp [ax_fl] at h
  | w :: t, k, i, v, h => by
    have e2 : ax_fl (w :: t) = (if w.category = 2 then [some w, none] else [some w]) ++ ax_fl t := by simp [ax_fl]
    rw [e2] at h
    show _ ∈ (k, ax_v b base w) :: lv_args (if (ax_v b base w).category = 2 then k + 2 else k + 1) (t.map (ax_v b base))
    rw [ax_v_cat]
    by_cases hc : w.category = 2
    · rw [if_pos hc] at h ⊢
      match i, h with
      | 0, h => simp at h; subst h; exact List.mem_cons_self
      | 1, h => simp at h
      | i + 2, h =>
        have h' : (ax_fl t)[i]? = some (some v) := by simpa using h
        have := ax_fl_args b base t (k + 2) i v h'
        rw [show k + (i + 2) = k + 2 + i by omega]
        exact List.mem_cons_of_mem _ this
    · rw [if_neg hc] at h ⊢
      match i, h with
      | 0, h => simp at h; subst h; exact List.mem_cons_self
      | i + 1, h =>
        have h' : (ax_fl t)[i]? = some (some v) := by simpa using h
        have := ax_fl_args b base t (k + 1) i v h'
        rw [show k + (i + 1) = k + 1 + i by omega]
        exact List.mem_cons_of_mem _ this
theorem ax_lv_entry {b base n : Nat} {av : List Value} (hlen : (ax_fl av).length ≤ n) : ax_lv b base ((lg_sl (av.map (ax_v b base)) ++ List.replicate (n - (lg_sl (av.map (ax_v b base))).length) Slot.unset).toArray) n (ax_l0 n av) := by
  obtain ⟨h1, h2, h3⟩ := lv_entry (av.map (ax_v b base)) (n := n) (by rw [ax_sl_len]; exact hlen)
  refine ⟨h1, h2, fun i v hv => ?_⟩
  have hv' : (ax_fl av)[i]? = some (some v) := by
    unfold ax_l0 at hv
    rw [List.getElem?_append] at hv
    split at hv
    · exact hv
    · exfalso
      rw [List.getElem?_replicate] at hv
      split at hv <;> simp at hv
  have := ax_fl_args b base av 0 i v hv'
  rw [Nat.zero_add] at this
  exact h3 _ this
theorem ax_enter {M : ax_M} {d : Nat} {av : List Value} {h : ax_H} {Q : Option Value → ax_H → Prop} (lv : ax_L) (hlv : ax_l0 M.2.2.1 av = lv) (hlen : (ax_fl av).length ≤ M.2.2.1) (hpl : plainName M.1.cls = true)
    (k : ax_W M d 0 lv [] h Q) : ax_Cl M d av h Q := by
  obtain ⟨r, h', hq, hp, k⟩ := k
  subst hlv
  refine ⟨r, h', hq, hp, fun l D tc b base hbb => ?_⟩
  refine Met.ofW (cc := M.2.1) (maxL := M.2.2.1) (ret := M.2.2.2) hpl rfl ?_
  intro p e s m args below meth c s₁ B hml hv
  obtain ⟨rfl, hA, hK⟩ := hv
  rw [lg_entry_eq]
  have hts := atoms_spec (ws := ax_ws M) B.pre
  have := k l D tc b base p e (headSpec (ax_ws M) (ax_rm d (h'.length - h.length) (ax_sl h' - ax_sl h))).room s m _ below meth c ⟨B.exec, B.bytes, hml, B.returns, B.notSynchronized, fun hi => (name_of_methodNamed B.named B.method).1.trans hi, findClass_of_methodNamed B.named, fun w hw => hts w (List.mem_cons_of_mem _ hw), hK, hbb⟩ s.heap [] _ 0 0 ⟨Nat.le_refl _, Nat.le_refl _, by rw [Nat.zero_add]; exact Nat.le_refl _, by rw [Nat.zero_add]; exact Nat.le_refl _⟩ hA va_S.rf (ax_lv_entry hlen)
  rw [Nat.zero_add, Nat.zero_add] at this
  exact this
/-! a step that touches no cell -/
theorem ax_step {M : ax_M} {d pc pc' : Nat} {lv lv' : ax_L} {st st' : List Value} {h : ax_H} {Q : Option Value → ax_H → Prop}
    (f : ∀ (p : Program) (l : Launch) (e : Env) (R : Room) (s : State) (m : MethodId) (args : Array Value) (below : List Frame) (meth : Method) (c : Code) (H : Heap) (locs : List Loc) (cells slots : Nat) (Qs : State → Prop) (ls : Array Slot) (b base : Nat),
      p.tables.exec = Jvm.exec → c.code = M.2.1 → s.vm.findClass M.1.cls = some m.cls → (∀ w ∈ ax_all, w.before args s = true) → ax_lv b base ls M.2.2.1 lv →
      (∀ ls' : Array Slot, ax_lv b base ls' M.2.2.1 lv' → W p l e R s m args below meth c H locs cells slots Qs (F0 m pc' ls' (st'.map (ax_v b base)))) → W p l e R s m args below meth c H locs cells slots Qs (F0 m pc ls (st.map (ax_v b base))))
    (k : ax_W M d pc' lv' st' h Q) : ax_W M d pc lv st h Q := by
  obtain ⟨r, h', hq, hp, k⟩ := k
  refine ⟨r, h', hq, hp, fun l D tc b base p e R s m args below meth c C H locs ls cells slots hR hA hS hl => ?_⟩
  have C' := C
  obtain ⟨hx, hb, hml, hr, hlk, hnm, how, hts, hK, hbb⟩ := C
  exact f p l e R s m args below meth c H locs cells slots _ ls b base hx hb how hts hl (fun ls' hl' => k l D tc b base p e R s m args below meth c C' H locs ls' cells slots hR hA hS hl')
/-! locals -/
theorem ax_lv_at {b base n i : Nat} {ls : Array Slot} {lv : ax_L} {v : Value} (h : ax_lv b base ls n lv) (hv : lv[i]? = some (some v)) : ls[i]? = some (.val (ax_v b base v)) := h.2.2 i v hv
def ax_c2 (lv : ax_L) (i : Nat) : Bool := match i with
  | 0 => false
  | j + 1 => match lv[j]? with
    | some (some v) => v.category == 2
    | _ => false
def ax_as (b base : Nat) (lv : ax_L) : List (Nat × Value) := lv.zipIdx.filterMap (fun q => q.1.map (fun v => (q.2, ax_v b base v)))
theorem ax_as_mem {b base : Nat} {lv : ax_L} {q : Nat × Value} : q ∈ ax_as b base lv ↔ ∃ v, lv[q.1]? = some (some v) ∧ q.2 = ax_v b base v := by
  unfold ax_as
  rw [List.mem_filterMap]
  constructor
  · rintro ⟨⟨x, i⟩, hx, hq⟩
    have h1 : lv[i]? = some x := List.mem_zipIdx_iff_getElem?.mp hx
    cases x with
    | none => simp at hq
    | some v =>
      have hq' : (i, ax_v b base v) = q := by simpa using hq
      subst hq'
      exact ⟨v, h1, rfl⟩
  · rintro ⟨v, h1, h2⟩
    obtain ⟨i, w⟩ := q
    refine ⟨(some v, i), List.mem_zipIdx_iff_getElem?.mpr h1, ?_⟩
    have h2' : w = ax_v b base v := h2
    rw [h2']
    rfl
theorem ax_lv_has {b base n : Nat} {ls : Array Slot} {lv : ax_L} (h : ax_lv b base ls n lv) : lv_has ls n (ax_as b base lv) := by
  refine ⟨h.1, h.2.1, fun q hq => ?_⟩
  obtain ⟨v, h1, h2⟩ := ax_as_mem.mp hq
  rw [h2]
  exact h.2.2 _ v h1
theorem ax_lv_st1 {b base n i : Nat} {ls : Array Slot} {lv : ax_L} {v : Value} (hc2 : ax_c2 lv i = false) (h : lv_has ls n ((i, ax_v b base v) :: (ax_as b base lv).filter (fun q => !(q.1 == i) && !(q.1 + 1 == i && q.2.category == 2)))) : ax_lv b base ls n (lv.set i (some v)) := by
  refine ⟨h.1, h.2.1, fun j w hw => ?_⟩
  rw [List.getElem?_set] at hw
  by_cases e : i = j
  · subst e
    rw [if_pos rfl] at hw
    split at hw
    · cases hw
      exact h.2.2 _ List.mem_cons_self
    · cases hw
  · rw [if_neg e] at hw
    refine h.2.2 (j, ax_v b base w) (List.mem_cons_of_mem _ (List.mem_filter.mpr ⟨ax_as_mem.mpr ⟨w, hw, rfl⟩, ?_⟩))
    have e1 : (j == i) = false := by simpa using Ne.symm e
    have e2 : (j + 1 == i && (ax_v b base w).category == 2) = false := by
      by_cases e3 : j + 1 = i
      · subst e3
        have : (w.category == 2) = false := by simpa [ax_c2, hw] using hc2
        rw [ax_v_cat, this, Bool.and_false]
      · rw [show (j + 1 == i) = false by simpa using e3, Bool.false_and]
    show (!(j == i) && !(j + 1 == i && (ax_v b base w).category == 2)) = true
    rw [e1, e2]
    rfl
theorem ax_lv_st2 {b base n i : Nat} {ls : Array Slot} {lv : ax_L} {v : Value} (hc2 : ax_c2 lv i = false) (h : lv_has ls n ((i, ax_v b base v) :: (ax_as b base lv).filter (fun q => !(q.1 == i) && (!(q.1 == i + 1) && !(q.1 + 1 == i && q.2.category == 2))))) : ax_lv b base ls n ((lv.set i (some v)).set (i + 1) none) := by
  refine ⟨h.1, h.2.1, fun j w hw => ?_⟩
  rw [List.getElem?_set] at hw
  by_cases e0 : i + 1 = j
  · rw [if_pos e0] at hw
    split at hw <;> simp at hw
  rw [if_neg e0, List.getElem?_set] at hw
  by_cases e : i = j
  · subst e
    rw [if_pos rfl] at hw
    split at hw
    · cases hw
      exact h.2.2 _ List.mem_cons_self
    · cases hw
  · rw [if_neg e] at hw
    refine h.2.2 (j, ax_v b base w) (List.mem_cons_of_mem _ (List.mem_filter.mpr ⟨ax_as_mem.mpr ⟨w, hw, rfl⟩, ?_⟩))
    have e1 : (j == i) = false := by simpa using Ne.symm e
    have e4 : (j == i + 1) = false := by simpa using Ne.symm e0
    have e2 : (j + 1 == i && (ax_v b base w).category == 2) = false := by
      by_cases e3 : j + 1 = i
      · subst e3
        have : (w.category == 2) = false := by simpa [ax_c2, hw] using hc2
        rw [ax_v_cat, this, Bool.and_false]
      · rw [show (j + 1 == i) = false by simpa using e3, Bool.false_and]
    show (!(j == i) && (!(j == i + 1) && !(j + 1 == i && (ax_v b base w).category == 2))) = true
    rw [e1, e2, e4]
    rfl
end
section
section AXR
variable {M : ax_M} {d pc : Nat} {lv : ax_L} {st : List Value} {h : ax_H} {Q : Option Value → ax_H → Prop}
theorem ax_iadd {x y : Int32} (hd : decode M.2.1 pc = .ok (.iadd, 1))  (k : ax_W M d (pc + 1) lv (.int (x + y) :: st) h Q) : ax_W M d pc lv (.int y :: .int x :: st) h Q :=
  ax_step (fun p l e R s m args below meth c H locs cells slots Qs ls b base hx hb ho ht hl k => lv_iadd hx hb hd (k ls hl)) k
theorem ax_isub {x y : Int32} (hd : decode M.2.1 pc = .ok (.isub, 1))  (k : ax_W M d (pc + 1) lv (.int (x - y) :: st) h Q) : ax_W M d pc lv (.int y :: .int x :: st) h Q :=
  ax_step (fun p l e R s m args below meth c H locs cells slots Qs ls b base hx hb ho ht hl k => lv_isub hx hb hd (k ls hl)) k
theorem ax_imul {x y : Int32} (hd : decode M.2.1 pc = .ok (.imul, 1))  (k : ax_W M d (pc + 1) lv (.int (x * y) :: st) h Q) : ax_W M d pc lv (.int y :: .int x :: st) h Q :=
  ax_step (fun p l e R s m args below meth c H locs cells slots Qs ls b base hx hb ho ht hl k => lv_imul hx hb hd (k ls hl)) k
theorem ax_iand {x y : Int32} (hd : decode M.2.1 pc = .ok (.iand, 1))  (k : ax_W M d (pc + 1) lv (.int (x &&& y) :: st) h Q) : ax_W M d pc lv (.int y :: .int x :: st) h Q :=
  ax_step (fun p l e R s m args below meth c H locs cells slots Qs ls b base hx hb ho ht hl k => lv_iand hx hb hd (k ls hl)) k
theorem ax_ior {x y : Int32} (hd : decode M.2.1 pc = .ok (.ior, 1))  (k : ax_W M d (pc + 1) lv (.int (x ||| y) :: st) h Q) : ax_W M d pc lv (.int y :: .int x :: st) h Q :=
  ax_step (fun p l e R s m args below meth c H locs cells slots Qs ls b base hx hb ho ht hl k => lv_ior hx hb hd (k ls hl)) k
theorem ax_ixor {x y : Int32} (hd : decode M.2.1 pc = .ok (.ixor, 1))  (k : ax_W M d (pc + 1) lv (.int (x ^^^ y) :: st) h Q) : ax_W M d pc lv (.int y :: .int x :: st) h Q :=
  ax_step (fun p l e R s m args below meth c H locs cells slots Qs ls b base hx hb ho ht hl k => lv_ixor hx hb hd (k ls hl)) k
theorem ax_idiv {x y : Int32} (hd : decode M.2.1 pc = .ok (.idiv, 1)) (hne : ¬ y = 0) (k : ax_W M d (pc + 1) lv (.int (x / y) :: st) h Q) : ax_W M d pc lv (.int y :: .int x :: st) h Q :=
  ax_step (fun p l e R s m args below meth c H locs cells slots Qs ls b base hx hb ho ht hl k => lv_idiv hx hb hd hne (k ls hl)) k
theorem ax_irem {x y : Int32} (hd : decode M.2.1 pc = .ok (.irem, 1)) (hne : ¬ y = 0) (k : ax_W M d (pc + 1) lv (.int (x - x / y * y) :: st) h Q) : ax_W M d pc lv (.int y :: .int x :: st) h Q :=
  ax_step (fun p l e R s m args below meth c H locs cells slots Qs ls b base hx hb ho ht hl k => lv_irem hx hb hd hne (k ls hl)) k
theorem ax_ineg {x : Int32} (hd : decode M.2.1 pc = .ok (.ineg, 1))  (k : ax_W M d (pc + 1) lv (.int (-x) :: st) h Q) : ax_W M d pc lv (.int x :: st) h Q :=
  ax_step (fun p l e R s m args below meth c H locs cells slots Qs ls b base hx hb ho ht hl k => lv_ineg hx hb hd (k ls hl)) k
theorem ax_ishl {x y : Int32} (hd : decode M.2.1 pc = .ok (.ishl, 1))  (k : ax_W M d (pc + 1) lv (.int (x <<< (y &&& 31)) :: st) h Q) : ax_W M d pc lv (.int y :: .int x :: st) h Q :=
  ax_step (fun p l e R s m args below meth c H locs cells slots Qs ls b base hx hb ho ht hl k => lv_ishl hx hb hd (k ls hl)) k
theorem ax_ishr {x y : Int32} (hd : decode M.2.1 pc = .ok (.ishr, 1))  (k : ax_W M d (pc + 1) lv (.int (x >>> (y &&& 31)) :: st) h Q) : ax_W M d pc lv (.int y :: .int x :: st) h Q :=
  ax_step (fun p l e R s m args below meth c H locs cells slots Qs ls b base hx hb ho ht hl k => lv_ishr hx hb hd (k ls hl)) k
theorem ax_iushr {x y : Int32} (hd : decode M.2.1 pc = .ok (.iushr, 1))  (k : ax_W M d (pc + 1) lv (.int ((x.toUInt32 >>> (y.toUInt32 &&& Int32.toUInt32 31)).toInt32) :: st) h Q) : ax_W M d pc lv (.int y :: .int x :: st) h Q :=
  ax_step (fun p l e R s m args below meth c H locs cells slots Qs ls b base hx hb ho ht hl k => lv_iushr hx hb hd rfl (k ls hl)) k
theorem ax_ladd {x y : Int64} (hd : decode M.2.1 pc = .ok (.ladd, 1))  (k : ax_W M d (pc + 1) lv (.long (x + y) :: st) h Q) : ax_W M d pc lv (.long y :: .long x :: st) h Q :=
  ax_step (fun p l e R s m args below meth c H locs cells slots Qs ls b base hx hb ho ht hl k => lv_ladd hx hb hd (k ls hl)) k
theorem ax_lsub {x y : Int64} (hd : decode M.2.1 pc = .ok (.lsub, 1))  (k : ax_W M d (pc + 1) lv (.long (x - y) :: st) h Q) : ax_W M d pc lv (.long y :: .long x :: st) h Q :=
  ax_step (fun p l e R s m args below meth c H locs cells slots Qs ls b base hx hb ho ht hl k => lv_lsub hx hb hd (k ls hl)) k
theorem ax_lmul {x y : Int64} (hd : decode M.2.1 pc = .ok (.lmul, 1))  (k : ax_W M d (pc + 1) lv (.long (x * y) :: st) h Q) : ax_W M d pc lv (.long y :: .long x :: st) h Q :=
  ax_step (fun p l e R s m args below meth c H locs cells slots Qs ls b base hx hb ho ht hl k => lv_lmul hx hb hd (k ls hl)) k
theorem ax_land {x y : Int64} (hd : decode M.2.1 pc = .ok (.land, 1))  (k : ax_W M d (pc + 1) lv (.long (x &&& y) :: st) h Q) : ax_W M d pc lv (.long y :: .long x :: st) h Q :=
  ax_step (fun p l e R s m args below meth c H locs cells slots Qs ls b base hx hb ho ht hl k => lv_land hx hb hd (k ls hl)) k
theorem ax_lor {x y : Int64} (hd : decode M.2.1 pc = .ok (.lor, 1))  (k : ax_W M d (pc + 1) lv (.long (x ||| y) :: st) h Q) : ax_W M d pc lv (.long y :: .long x :: st) h Q :=
  ax_step (fun p l e R s m args below meth c H locs cells slots Qs ls b base hx hb ho ht hl k => lv_lor hx hb hd (k ls hl)) k
theorem ax_lxor {x y : Int64} (hd : decode M.2.1 pc = .ok (.lxor, 1))  (k : ax_W M d (pc + 1) lv (.long (x ^^^ y) :: st) h Q) : ax_W M d pc lv (.long y :: .long x :: st) h Q :=
  ax_step (fun p l e R s m args below meth c H locs cells slots Qs ls b base hx hb ho ht hl k => lv_lxor hx hb hd (k ls hl)) k
theorem ax_lushr {x : Int64} {y : Int32} (hd : decode M.2.1 pc = .ok (.lushr, 1))  (k : ax_W M d (pc + 1) lv (.long ((x.toUInt64 >>> (y.toInt64.toUInt64 &&& Int64.toUInt64 63)).toInt64) :: st) h Q) : ax_W M d pc lv (.int y :: .long x :: st) h Q :=
  ax_step (fun p l e R s m args below meth c H locs cells slots Qs ls b base hx hb ho ht hl k => lv_lushr hx hb hd rfl (k ls hl)) k
theorem ax_lshl {x : Int64} {y : Int32} (hd : decode M.2.1 pc = .ok (.lshl, 1))  (k : ax_W M d (pc + 1) lv (.long (x <<< (y.toInt64 &&& 63)) :: st) h Q) : ax_W M d pc lv (.int y :: .long x :: st) h Q :=
  ax_step (fun p l e R s m args below meth c H locs cells slots Qs ls b base hx hb ho ht hl k => lv_lshl hx hb hd rfl (k ls hl)) k
theorem ax_lshr {x : Int64} {y : Int32} (hd : decode M.2.1 pc = .ok (.lshr, 1))  (k : ax_W M d (pc + 1) lv (.long (x >>> (y.toInt64 &&& 63)) :: st) h Q) : ax_W M d pc lv (.int y :: .long x :: st) h Q :=
  ax_step (fun p l e R s m args below meth c H locs cells slots Qs ls b base hx hb ho ht hl k => lv_lshr hx hb hd rfl (k ls hl)) k
theorem ax_i2l {x : Int32} (hd : decode M.2.1 pc = .ok (.i2l, 1))  (k : ax_W M d (pc + 1) lv (.long x.toInt64 :: st) h Q) : ax_W M d pc lv (.int x :: st) h Q :=
  ax_step (fun p l e R s m args below meth c H locs cells slots Qs ls b base hx hb ho ht hl k => lv_i2l hx hb hd rfl (k ls hl)) k
theorem ax_l2i {x : Int64} (hd : decode M.2.1 pc = .ok (.l2i, 1))  (k : ax_W M d (pc + 1) lv (.int x.toInt32 :: st) h Q) : ax_W M d pc lv (.long x :: st) h Q :=
  ax_step (fun p l e R s m args below meth c H locs cells slots Qs ls b base hx hb ho ht hl k => lv_l2i hx hb hd rfl (k ls hl)) k
theorem ax_lcmp {x y : Int64} (hd : decode M.2.1 pc = .ok (.lcmp, 1))  (k : ax_W M d (pc + 1) lv (.int (lg_cmp x y) :: st) h Q) : ax_W M d pc lv (.long y :: .long x :: st) h Q :=
  ax_step (fun p l e R s m args below meth c H locs cells slots Qs ls b base hx hb ho ht hl k => W.lcmp hx hb hd (k ls hl)) k
theorem ax_i2b {x : Int32} (hd : decode M.2.1 pc = .ok (.i2b, 1))  (k : ax_W M d (pc + 1) lv (.int x.toInt8.toInt32 :: st) h Q) : ax_W M d pc lv (.int x :: st) h Q :=
  ax_step (fun p l e R s m args below meth c H locs cells slots Qs ls b base hx hb ho ht hl k => lv_i2b hx hb hd rfl (k ls hl)) k
theorem ax_i2c {x : Int32} (hd : decode M.2.1 pc = .ok (.i2c, 1))  (k : ax_W M d (pc + 1) lv (.int (x.toUInt32 % 65536).toInt32 :: st) h Q) : ax_W M d pc lv (.int x :: st) h Q :=
  ax_step (fun p l e R s m args below meth c H locs cells slots Qs ls b base hx hb ho ht hl k => lv_i2c hx hb hd rfl (k ls hl)) k
theorem ax_iconst {n : Int} (v : Int32) (hd : decode M.2.1 pc = .ok (.iconst n, 1)) (hv : Int32.ofInt n = v) (k : ax_W M d (pc + 1) lv (.int v :: st) h Q) : ax_W M d pc lv (st) h Q :=
  ax_step (fun p l e R s m args below meth c H locs cells slots Qs ls b base hx hb ho ht hl k => lv_iconst hx hb hd hv (k ls hl)) k
theorem ax_bipush {n : Int} (v : Int32) (hd : decode M.2.1 pc = .ok (.bipush n, 2)) (hv : (Int8.ofInt n).toInt32 = v) (k : ax_W M d (pc + 2) lv (.int v :: st) h Q) : ax_W M d pc lv (st) h Q :=
  ax_step (fun p l e R s m args below meth c H locs cells slots Qs ls b base hx hb ho ht hl k => lv_bipush hx hb hd hv (k ls hl)) k
theorem ax_sipush {n : Int} (v : Int32) (hd : decode M.2.1 pc = .ok (.sipush n, 3)) (hv : (Int16.ofInt n).toInt32 = v) (k : ax_W M d (pc + 3) lv (.int v :: st) h Q) : ax_W M d pc lv (st) h Q :=
  ax_step (fun p l e R s m args below meth c H locs cells slots Qs ls b base hx hb ho ht hl k => lv_sipush hx hb hd hv (k ls hl)) k
theorem ax_lconst {n : Fin 2} (v : Int64) (hd : decode M.2.1 pc = .ok (.lconst n, 1)) (hv : Int64.ofNat (n : Nat) = v) (k : ax_W M d (pc + 1) lv (.long v :: st) h Q) : ax_W M d pc lv (st) h Q :=
  ax_step (fun p l e R s m args below meth c H locs cells slots Qs ls b base hx hb ho ht hl k => lv_lconst hx hb hd hv (k ls hl)) k
theorem ax_null  (hd : decode M.2.1 pc = .ok (.aconst_null, 1))  (k : ax_W M d (pc + 1) lv (.null :: st) h Q) : ax_W M d pc lv (st) h Q :=
  ax_step (fun p l e R s m args below meth c H locs cells slots Qs ls b base hx hb ho ht hl k => lv_null hx hb hd (k ls hl)) k
theorem ax_ldc {index : Nat} {v : Int32} (hd : decode M.2.1 pc = .ok (.ldc index, 2)) (hw : Cond.constant M.1.cls index v ∈ ax_all) (k : ax_W M d (pc + 2) lv (.int v :: st) h Q) : ax_W M d pc lv (st) h Q :=
  ax_step (fun p l e R s m args below meth c H locs cells slots Qs ls b base hx hb ho ht hl k => lv_ldc hx hb ho (ht _ hw) hd (k ls hl)) k
theorem ax_ldc2 {index : Nat} {v : Int64} (hd : decode M.2.1 pc = .ok (.ldc2_w index, 3)) (hw : Cond.constantLong M.1.cls index v ∈ ax_all) (k : ax_W M d (pc + 3) lv (.long v :: st) h Q) : ax_W M d pc lv (st) h Q :=
  ax_step (fun p l e R s m args below meth c H locs cells slots Qs ls b base hx hb ho ht hl k => lv_ldc2 hx hb ho (ht _ hw) hd (k ls hl)) k
theorem ax_iload_n {n : Fin 4} {x : Int32} (hd : decode M.2.1 pc = .ok (.iload_n n, 1)) (hl0 : lv[(n : Nat)]? = some (some (.int x))) (k : ax_W M d (pc + 1) lv (.int x :: st) h Q) : ax_W M d pc lv (st) h Q :=
  ax_step (fun p l e R s m args below meth c H locs cells slots Qs ls b base hx hb ho ht hl k => lv_iload_n hx hb hd rfl (ax_lv_at hl hl0) (k ls hl)) k
theorem ax_iload {n : Nat} {x : Int32} (hd : decode M.2.1 pc = .ok (.iload n, 2)) (hl0 : lv[n]? = some (some (.int x))) (k : ax_W M d (pc + 2) lv (.int x :: st) h Q) : ax_W M d pc lv (st) h Q :=
  ax_step (fun p l e R s m args below meth c H locs cells slots Qs ls b base hx hb ho ht hl k => lv_iload hx hb hd (ax_lv_at hl hl0) (k ls hl)) k
theorem ax_lload_n {n : Fin 4} {x : Int64} (hd : decode M.2.1 pc = .ok (.lload_n n, 1)) (hl0 : lv[(n : Nat)]? = some (some (.long x))) (k : ax_W M d (pc + 1) lv (.long x :: st) h Q) : ax_W M d pc lv (st) h Q :=
  ax_step (fun p l e R s m args below meth c H locs cells slots Qs ls b base hx hb ho ht hl k => lv_lload_n hx hb hd rfl (ax_lv_at hl hl0) (k ls hl)) k
theorem ax_lload {n : Nat} {x : Int64} (hd : decode M.2.1 pc = .ok (.lload n, 2)) (hl0 : lv[n]? = some (some (.long x))) (k : ax_W M d (pc + 2) lv (.long x :: st) h Q) : ax_W M d pc lv (st) h Q :=
  ax_step (fun p l e R s m args below meth c H locs cells slots Qs ls b base hx hb ho ht hl k => lv_lload hx hb hd (ax_lv_at hl hl0) (k ls hl)) k
theorem ax_aload_n {n : Fin 4} {x : Nat} (hd : decode M.2.1 pc = .ok (.aload_n n, 1)) (hl0 : lv[(n : Nat)]? = some (some (.ref x))) (k : ax_W M d (pc + 1) lv (.ref x :: st) h Q) : ax_W M d pc lv (st) h Q :=
  ax_step (fun p l e R s m args below meth c H locs cells slots Qs ls b base hx hb ho ht hl k => lv_aload_n hx hb hd rfl (ax_lv_at hl hl0) (k ls hl)) k
theorem ax_aload {n : Nat} {x : Nat} (hd : decode M.2.1 pc = .ok (.aload n, 2)) (hl0 : lv[n]? = some (some (.ref x))) (k : ax_W M d (pc + 2) lv (.ref x :: st) h Q) : ax_W M d pc lv (st) h Q :=
  ax_step (fun p l e R s m args below meth c H locs cells slots Qs ls b base hx hb ho ht hl k => lv_aload hx hb hd (ax_lv_at hl hl0) (k ls hl)) k
theorem ax_dup {v : Value} (hd : decode M.2.1 pc = .ok (.dup, 1)) (hv : v.category = 1) (k : ax_W M d (pc + 1) lv (v :: v :: st) h Q) : ax_W M d pc lv (v :: st) h Q :=
  ax_step (fun p l e R s m args below meth c H locs cells slots Qs ls b base hx hb ho ht hl k => lv_dup hx hb hd ((ax_v_cat b base v).trans hv) (k ls hl)) k
theorem ax_pop {v : Value} (hd : decode M.2.1 pc = .ok (.pop, 1)) (hv : v.category = 1) (k : ax_W M d (pc + 1) lv (st) h Q) : ax_W M d pc lv (v :: st) h Q :=
  ax_step (fun p l e R s m args below meth c H locs cells slots Qs ls b base hx hb ho ht hl k => lv_pop hx hb hd ((ax_v_cat b base v).trans hv) (k ls hl)) k
theorem ax_dup_x1 {v w : Value} (hd : decode M.2.1 pc = .ok (.dup_x1, 1)) (hv : v.category = 1) (hw : w.category = 1) (k : ax_W M d (pc + 1) lv (v :: w :: v :: st) h Q) : ax_W M d pc lv (v :: w :: st) h Q :=
  ax_step (fun p l e R s m args below meth c H locs cells slots Qs ls b base hx hb ho ht hl k => lv_dup_x1 hx hb hd ((ax_v_cat b base v).trans hv) ((ax_v_cat b base w).trans hw) (k ls hl)) k
theorem ax_dup_x2 {v w z : Value} (hd : decode M.2.1 pc = .ok (.dup_x2, 1)) (hv : v.category = 1) (hw : w.category = 1) (hz : z.category = 1) (k : ax_W M d (pc + 1) lv (v :: w :: z :: v :: st) h Q) : ax_W M d pc lv (v :: w :: z :: st) h Q :=
  ax_step (fun p l e R s m args below meth c H locs cells slots Qs ls b base hx hb ho ht hl k => lv_dup_x2 hx hb hd ((ax_v_cat b base v).trans hv) ((ax_v_cat b base w).trans hw) ((ax_v_cat b base z).trans hz) (k ls hl)) k
theorem ax_dup2 {v w : Value} (hd : decode M.2.1 pc = .ok (.dup2, 1)) (hv : v.category = 1) (hw : w.category = 1) (k : ax_W M d (pc + 1) lv (v :: w :: v :: w :: st) h Q) : ax_W M d pc lv (v :: w :: st) h Q :=
  ax_step (fun p l e R s m args below meth c H locs cells slots Qs ls b base hx hb ho ht hl k => lv_dup2_11 hx hb hd ((ax_v_cat b base v).trans hv) ((ax_v_cat b base w).trans hw) (k ls hl)) k
theorem ax_istore_n {n : Fin 4} {x : Int32} (hd : decode M.2.1 pc = .ok (.istore_n n, 1)) (hn : ((n : Nat)) < M.2.2.1) (hc : ax_c2 lv ((n : Nat)) = false) (k : ax_W M d (pc + 1) (lv.set ((n : Nat)) (some (.int x))) st h Q) : ax_W M d pc lv (.int x :: st) h Q :=
  ax_step (fun p l e R s m args below meth c H locs cells slots Qs ls b base hx hb ho ht hl k => lv_istore_n hx hb hd rfl (ax_lv_has hl) hn rfl (fun ls' hl' => k ls' (ax_lv_st1 (v := .int x) hc hl'))) k
theorem ax_istore {n : Nat} {x : Int32} (hd : decode M.2.1 pc = .ok (.istore n, 2)) (hn : (n) < M.2.2.1) (hc : ax_c2 lv (n) = false) (k : ax_W M d (pc + 2) (lv.set (n) (some (.int x))) st h Q) : ax_W M d pc lv (.int x :: st) h Q :=
  ax_step (fun p l e R s m args below meth c H locs cells slots Qs ls b base hx hb ho ht hl k => lv_istore hx hb hd (ax_lv_has hl) hn rfl (fun ls' hl' => k ls' (ax_lv_st1 (v := .int x) hc hl'))) k
theorem ax_astore_n {n : Fin 4} {x : Nat} (hd : decode M.2.1 pc = .ok (.astore_n n, 1)) (hn : ((n : Nat)) < M.2.2.1) (hc : ax_c2 lv ((n : Nat)) = false) (k : ax_W M d (pc + 1) (lv.set ((n : Nat)) (some (.ref x))) st h Q) : ax_W M d pc lv (.ref x :: st) h Q :=
  ax_step (fun p l e R s m args below meth c H locs cells slots Qs ls b base hx hb ho ht hl k => lv_astore_n hx hb hd rfl (ax_lv_has hl) hn rfl (fun ls' hl' => k ls' (ax_lv_st1 (v := .ref x) hc hl'))) k
theorem ax_astore {n : Nat} {x : Nat} (hd : decode M.2.1 pc = .ok (.astore n, 2)) (hn : (n) < M.2.2.1) (hc : ax_c2 lv (n) = false) (k : ax_W M d (pc + 2) (lv.set (n) (some (.ref x))) st h Q) : ax_W M d pc lv (.ref x :: st) h Q :=
  ax_step (fun p l e R s m args below meth c H locs cells slots Qs ls b base hx hb ho ht hl k => lv_astore hx hb hd (ax_lv_has hl) hn rfl (fun ls' hl' => k ls' (ax_lv_st1 (v := .ref x) hc hl'))) k
theorem ax_lstore_n {n : Fin 4} {x : Int64} (hd : decode M.2.1 pc = .ok (.lstore_n n, 1)) (hn : ((n : Nat)) + 1 < M.2.2.1) (hc : ax_c2 lv ((n : Nat)) = false) (k : ax_W M d (pc + 1) ((lv.set ((n : Nat)) (some (.long x))).set ((n : Nat) + 1) none) st h Q) : ax_W M d pc lv (.long x :: st) h Q :=
  ax_step (fun p l e R s m args below meth c H locs cells slots Qs ls b base hx hb ho ht hl k => lv_lstore_n hx hb hd rfl (ax_lv_has hl) hn rfl (fun ls' hl' => k ls' (ax_lv_st2 (v := .long x) hc hl'))) k
theorem ax_lstore {n : Nat} {x : Int64} (hd : decode M.2.1 pc = .ok (.lstore n, 2)) (hn : (n) + 1 < M.2.2.1) (hc : ax_c2 lv (n) = false) (k : ax_W M d (pc + 2) ((lv.set (n) (some (.long x))).set (n + 1) none) st h Q) : ax_W M d pc lv (.long x :: st) h Q :=
  ax_step (fun p l e R s m args below meth c H locs cells slots Qs ls b base hx hb ho ht hl k => lv_lstore hx hb hd (ax_lv_has hl) hn rfl (fun ls' hl' => k ls' (ax_lv_st2 (v := .long x) hc hl'))) k
theorem ax_iinc {n : Nat} {z : Int} {x : Int32} (v : Int32) (hd : decode M.2.1 pc = .ok (.iinc n z, 3)) (hl0 : lv[n]? = some (some (.int x))) (hv : x + Int32.ofInt z = v) (hn : n < M.2.2.1) (hc : ax_c2 lv n = false) (k : ax_W M d (pc + 3) (lv.set n (some (.int v))) st h Q) : ax_W M d pc lv st h Q := by
  refine ax_step (fun p l e R s m args below meth c H locs cells slots Qs ls b base hx hb ho ht hl k => ?_) k
  have hm : (n, Value.int x) ∈ ax_as b base lv := ax_as_mem.mpr ⟨.int x, hl0, rfl⟩
  obtain ⟨q, hq⟩ := List.getElem?_of_mem hm
  exact lv_iinc hx hb hd (ax_lv_has hl) hq hv hn rfl (fun ls' hl' => k ls' (ax_lv_st1 (v := .int v) hc hl'))
theorem ax_if_eq {x : Int32} {off : Int} (tgt : Nat) (hd : decode M.2.1 pc = .ok (.ifCond .eq off, 3)) (htg : (pc : Int) + off = (tgt : Int)) (kt : x = 0 → ax_W M d tgt lv st h Q) (kf : ¬ x = 0 → ax_W M d (pc + 3) lv st h Q) : ax_W M d pc lv (.int x :: st) h Q := by
  by_cases hc : x = 0
  · exact ax_step (fun p l e R s m args below meth c H locs cells slots Qs ls b base hx hb ho ht hl k => lv_if_eq hx hb hd htg (fun _ => k ls hl) (fun n => by first | exact absurd hc n | exact absurd n hc)) (kt hc)
  · exact ax_step (fun p l e R s m args below meth c H locs cells slots Qs ls b base hx hb ho ht hl k => lv_if_eq hx hb hd htg (fun n => absurd n hc) (fun _ => k ls hl)) (kf (by first | exact hc | exact Decidable.not_not.mp hc))
theorem ax_if_ne {x : Int32} {off : Int} (tgt : Nat) (hd : decode M.2.1 pc = .ok (.ifCond .ne off, 3)) (htg : (pc : Int) + off = (tgt : Int)) (kt : ¬ x = 0 → ax_W M d tgt lv st h Q) (kf : x = 0 → ax_W M d (pc + 3) lv st h Q) : ax_W M d pc lv (.int x :: st) h Q := by
  by_cases hc : ¬ x = 0
  · exact ax_step (fun p l e R s m args below meth c H locs cells slots Qs ls b base hx hb ho ht hl k => lv_if_ne hx hb hd htg (fun _ => k ls hl) (fun n => by first | exact absurd hc n | exact absurd n hc)) (kt hc)
  · exact ax_step (fun p l e R s m args below meth c H locs cells slots Qs ls b base hx hb ho ht hl k => lv_if_ne hx hb hd htg (fun n => absurd n hc) (fun _ => k ls hl)) (kf (by first | exact hc | exact Decidable.not_not.mp hc))
theorem ax_if_lt {x : Int32} {off : Int} (tgt : Nat) (hd : decode M.2.1 pc = .ok (.ifCond .lt off, 3)) (htg : (pc : Int) + off = (tgt : Int)) (kt : x < 0 → ax_W M d tgt lv st h Q) (kf : ¬ x < 0 → ax_W M d (pc + 3) lv st h Q) : ax_W M d pc lv (.int x :: st) h Q := by
  by_cases hc : x < 0
  · exact ax_step (fun p l e R s m args below meth c H locs cells slots Qs ls b base hx hb ho ht hl k => lv_if_lt hx hb hd htg (fun _ => k ls hl) (fun n => by first | exact absurd hc n | exact absurd n hc)) (kt hc)
  · exact ax_step (fun p l e R s m args below meth c H locs cells slots Qs ls b base hx hb ho ht hl k => lv_if_lt hx hb hd htg (fun n => absurd n hc) (fun _ => k ls hl)) (kf (by first | exact hc | exact Decidable.not_not.mp hc))
theorem ax_if_ge {x : Int32} {off : Int} (tgt : Nat) (hd : decode M.2.1 pc = .ok (.ifCond .ge off, 3)) (htg : (pc : Int) + off = (tgt : Int)) (kt : 0 ≤ x → ax_W M d tgt lv st h Q) (kf : ¬ 0 ≤ x → ax_W M d (pc + 3) lv st h Q) : ax_W M d pc lv (.int x :: st) h Q := by
  by_cases hc : 0 ≤ x
  · exact ax_step (fun p l e R s m args below meth c H locs cells slots Qs ls b base hx hb ho ht hl k => lv_if_ge hx hb hd htg (fun _ => k ls hl) (fun n => by first | exact absurd hc n | exact absurd n hc)) (kt hc)
  · exact ax_step (fun p l e R s m args below meth c H locs cells slots Qs ls b base hx hb ho ht hl k => lv_if_ge hx hb hd htg (fun n => absurd n hc) (fun _ => k ls hl)) (kf (by first | exact hc | exact Decidable.not_not.mp hc))
theorem ax_if_gt {x : Int32} {off : Int} (tgt : Nat) (hd : decode M.2.1 pc = .ok (.ifCond .gt off, 3)) (htg : (pc : Int) + off = (tgt : Int)) (kt : 0 < x → ax_W M d tgt lv st h Q) (kf : ¬ 0 < x → ax_W M d (pc + 3) lv st h Q) : ax_W M d pc lv (.int x :: st) h Q := by
  by_cases hc : 0 < x
  · exact ax_step (fun p l e R s m args below meth c H locs cells slots Qs ls b base hx hb ho ht hl k => lv_if_gt hx hb hd htg (fun _ => k ls hl) (fun n => by first | exact absurd hc n | exact absurd n hc)) (kt hc)
  · exact ax_step (fun p l e R s m args below meth c H locs cells slots Qs ls b base hx hb ho ht hl k => lv_if_gt hx hb hd htg (fun n => absurd n hc) (fun _ => k ls hl)) (kf (by first | exact hc | exact Decidable.not_not.mp hc))
theorem ax_if_le {x : Int32} {off : Int} (tgt : Nat) (hd : decode M.2.1 pc = .ok (.ifCond .le off, 3)) (htg : (pc : Int) + off = (tgt : Int)) (kt : x ≤ 0 → ax_W M d tgt lv st h Q) (kf : ¬ x ≤ 0 → ax_W M d (pc + 3) lv st h Q) : ax_W M d pc lv (.int x :: st) h Q := by
  by_cases hc : x ≤ 0
  · exact ax_step (fun p l e R s m args below meth c H locs cells slots Qs ls b base hx hb ho ht hl k => lv_if_le hx hb hd htg (fun _ => k ls hl) (fun n => by first | exact absurd hc n | exact absurd n hc)) (kt hc)
  · exact ax_step (fun p l e R s m args below meth c H locs cells slots Qs ls b base hx hb ho ht hl k => lv_if_le hx hb hd htg (fun n => absurd n hc) (fun _ => k ls hl)) (kf (by first | exact hc | exact Decidable.not_not.mp hc))
theorem ax_icmp_eq {x y : Int32} {off : Int} (tgt : Nat) (hd : decode M.2.1 pc = .ok (.if_icmp .eq off, 3)) (htg : (pc : Int) + off = (tgt : Int)) (kt : x = y → ax_W M d tgt lv st h Q) (kf : ¬ x = y → ax_W M d (pc + 3) lv st h Q) : ax_W M d pc lv (.int y :: .int x :: st) h Q := by
  by_cases hc : x = y
  · exact ax_step (fun p l e R s m args below meth c H locs cells slots Qs ls b base hx hb ho ht hl k => lv_icmp_eq hx hb hd htg (fun _ => k ls hl) (fun n => by first | exact absurd hc n | exact absurd n hc)) (kt hc)
  · exact ax_step (fun p l e R s m args below meth c H locs cells slots Qs ls b base hx hb ho ht hl k => lv_icmp_eq hx hb hd htg (fun n => absurd n hc) (fun _ => k ls hl)) (kf (by first | exact hc | exact Decidable.not_not.mp hc))
theorem ax_icmp_ne {x y : Int32} {off : Int} (tgt : Nat) (hd : decode M.2.1 pc = .ok (.if_icmp .ne off, 3)) (htg : (pc : Int) + off = (tgt : Int)) (kt : ¬ x = y → ax_W M d tgt lv st h Q) (kf : x = y → ax_W M d (pc + 3) lv st h Q) : ax_W M d pc lv (.int y :: .int x :: st) h Q := by
  by_cases hc : ¬ x = y
  · exact ax_step (fun p l e R s m args below meth c H locs cells slots Qs ls b base hx hb ho ht hl k => lv_icmp_ne hx hb hd htg (fun _ => k ls hl) (fun n => by first | exact absurd hc n | exact absurd n hc)) (kt hc)
  · exact ax_step (fun p l e R s m args below meth c H locs cells slots Qs ls b base hx hb ho ht hl k => lv_icmp_ne hx hb hd htg (fun n => absurd n hc) (fun _ => k ls hl)) (kf (by first | exact hc | exact Decidable.not_not.mp hc))
theorem ax_icmp_lt {x y : Int32} {off : Int} (tgt : Nat) (hd : decode M.2.1 pc = .ok (.if_icmp .lt off, 3)) (htg : (pc : Int) + off = (tgt : Int)) (kt : x < y → ax_W M d tgt lv st h Q) (kf : ¬ x < y → ax_W M d (pc + 3) lv st h Q) : ax_W M d pc lv (.int y :: .int x :: st) h Q := by
  by_cases hc : x < y
  · exact ax_step (fun p l e R s m args below meth c H locs cells slots Qs ls b base hx hb ho ht hl k => lv_icmp_lt hx hb hd htg (fun _ => k ls hl) (fun n => by first | exact absurd hc n | exact absurd n hc)) (kt hc)
  · exact ax_step (fun p l e R s m args below meth c H locs cells slots Qs ls b base hx hb ho ht hl k => lv_icmp_lt hx hb hd htg (fun n => absurd n hc) (fun _ => k ls hl)) (kf (by first | exact hc | exact Decidable.not_not.mp hc))
theorem ax_icmp_ge {x y : Int32} {off : Int} (tgt : Nat) (hd : decode M.2.1 pc = .ok (.if_icmp .ge off, 3)) (htg : (pc : Int) + off = (tgt : Int)) (kt : y ≤ x → ax_W M d tgt lv st h Q) (kf : ¬ y ≤ x → ax_W M d (pc + 3) lv st h Q) : ax_W M d pc lv (.int y :: .int x :: st) h Q := by
  by_cases hc : y ≤ x
  · exact ax_step (fun p l e R s m args below meth c H locs cells slots Qs ls b base hx hb ho ht hl k => lv_icmp_ge hx hb hd htg (fun _ => k ls hl) (fun n => by first | exact absurd hc n | exact absurd n hc)) (kt hc)
  · exact ax_step (fun p l e R s m args below meth c H locs cells slots Qs ls b base hx hb ho ht hl k => lv_icmp_ge hx hb hd htg (fun n => absurd n hc) (fun _ => k ls hl)) (kf (by first | exact hc | exact Decidable.not_not.mp hc))
theorem ax_icmp_gt {x y : Int32} {off : Int} (tgt : Nat) (hd : decode M.2.1 pc = .ok (.if_icmp .gt off, 3)) (htg : (pc : Int) + off = (tgt : Int)) (kt : y < x → ax_W M d tgt lv st h Q) (kf : ¬ y < x → ax_W M d (pc + 3) lv st h Q) : ax_W M d pc lv (.int y :: .int x :: st) h Q := by
  by_cases hc : y < x
  · exact ax_step (fun p l e R s m args below meth c H locs cells slots Qs ls b base hx hb ho ht hl k => lv_icmp_gt hx hb hd htg (fun _ => k ls hl) (fun n => by first | exact absurd hc n | exact absurd n hc)) (kt hc)
  · exact ax_step (fun p l e R s m args below meth c H locs cells slots Qs ls b base hx hb ho ht hl k => lv_icmp_gt hx hb hd htg (fun n => absurd n hc) (fun _ => k ls hl)) (kf (by first | exact hc | exact Decidable.not_not.mp hc))
theorem ax_icmp_le {x y : Int32} {off : Int} (tgt : Nat) (hd : decode M.2.1 pc = .ok (.if_icmp .le off, 3)) (htg : (pc : Int) + off = (tgt : Int)) (kt : x ≤ y → ax_W M d tgt lv st h Q) (kf : ¬ x ≤ y → ax_W M d (pc + 3) lv st h Q) : ax_W M d pc lv (.int y :: .int x :: st) h Q := by
  by_cases hc : x ≤ y
  · exact ax_step (fun p l e R s m args below meth c H locs cells slots Qs ls b base hx hb ho ht hl k => lv_icmp_le hx hb hd htg (fun _ => k ls hl) (fun n => by first | exact absurd hc n | exact absurd n hc)) (kt hc)
  · exact ax_step (fun p l e R s m args below meth c H locs cells slots Qs ls b base hx hb ho ht hl k => lv_icmp_le hx hb hd htg (fun n => absurd n hc) (fun _ => k ls hl)) (kf (by first | exact hc | exact Decidable.not_not.mp hc))
theorem ax_goto {off : Int} (tgt : Nat) (hd : decode M.2.1 pc = .ok (.goto off, 3)) (htg : (pc : Int) + off = (tgt : Int)) (k : ax_W M d tgt lv st h Q) : ax_W M d pc lv st h Q :=
  ax_step (fun p l e R s m args below meth c H locs cells slots Qs ls b base hx hb ho ht hl k => lv_goto hx hb hd htg (k ls hl)) k
end AXR
end
section
/-! rules that touch cells: reads, writes, new cells, calls, returns -/
def ax_cls (ci : Nat) (C : String) (T : u_T) (N : Nat) : Prop := vwCl[ci]? = some (C, T, N) ∧ ∀ w ∈ u_ws C T N, w ∈ ax_all
def ax_fL (own : String) (idx : Nat) (f : String × String × String × Bool) : Prop := Cond.fieldLink own idx f.1 f.2.1 f.2.2.1 ∈ ax_all ∨ ∃ host, Cond.fieldLinkNest own idx f.1 f.2.1 f.2.2.1 host ∈ ax_nest
/-- the pool's field idx in class own is field k of class ci -/
def ax_FG (own : String) (idx ci k : Nat) : Prop := ∃ (C : String) (T : u_T) (N : Nat), ax_cls ci C T N ∧ k < N ∧ ax_fL own idx (T k)
def ax_tyN (T : u_T) (N : Nat) (ty0 : Nat → FieldType) : Prop := (∀ k, k < N → parseFieldDescriptor (T k).2.2.1 = some (ty0 k)) ∧ ∀ a, a < N → ∀ b, b < N → a ≠ b → (T a).2.1 ≠ (T b).2.1
def ax_FP (own : String) (idx ci k : Nat) (ty : FieldType) : Prop := ∃ (C : String) (T : u_T) (N : Nat) (ty0 : Nat → FieldType), ax_cls ci C T N ∧ k < N ∧ ax_fL own idx (T k) ∧ ax_tyN T N ty0 ∧ (T k).2.2.2 = false ∧ parseFieldDescriptor (T k).2.2.1 = some ty
def ax_FF (own : String) (idx ci k : Nat) (ty : FieldType) : Prop := ∃ (C : String) (T : u_T) (N : Nat) (ty0 : Nat → FieldType), ax_cls ci C T N ∧ k < N ∧ Cond.fieldLink own idx (T k).1 (T k).2.1 (T k).2.2.1 ∈ ax_all ∧ ax_tyN T N ty0 ∧ (T k).2.2.2 = true ∧ (T k).1 = own ∧ parseFieldDescriptor (T k).2.2.1 = some ty
theorem ax_narrow {ty : FieldType} {v : Value} (b base : Nat) (h : narrow ty v = v) : narrow ty (ax_v b base v) = ax_v b base v := by
  cases v with
  | ref a => cases ty <;> rfl
  | _ => exact h
theorem ax_fits {ty : FieldType} {v : Value} (b base : Nat) (h : fits ty v = true) : fits ty (ax_v b base v) = true := by
  cases v with
  | ref a => cases ty <;> first | rfl | cases h
  | _ => exact h
theorem ax_pos {D : va_G} {tc : Nat → ClassId} {b base : Nat} {h : ax_H} {U : State} {H : Heap} {a : Nat} {o : Nat × List Value} (hA : ax_At D tc b base h U H) (ha : h[a]? = some (.inr o)) : ∃ i, a = i + 1 := by
  obtain ⟨-, -, L, xs, h0, -⟩ := hA
  cases a with
  | zero => rw [h0] at ha; cases ha
  | succ i => exact ⟨i, rfl⟩
theorem ax_stepH {M : ax_M} {d pc pc' : Nat} {lv : ax_L} {st st' : List Value} {h h2 : ax_H} {Q : Option Value → ax_H → Prop} (e1 : h2.length = h.length) (e2 : ax_sl h2 = ax_sl h)
    (f : ∀ (p : Program) (l : Launch) (e : Env) (R : Room) (s : State) (m : MethodId) (args : Array Value) (below : List Frame) (meth : Method) (c : Code) (H : Heap) (locs : List Loc) (cells slots : Nat) (Qs : State → Prop) (ls : Array Slot) (b base : Nat) (D : va_G) (tc : Nat → ClassId),
      ax_Cx M D tc b base p s m args meth c → ax_R R d cells slots → ax_At D tc b base h s H → va_S (fun q => base ≤ q) s.heap H locs → ls.size = M.2.2.1 →
      (∀ (H2 : Heap) (locs2 : List Loc), ax_At D tc b base h2 s H2 → va_S (fun q => base ≤ q) s.heap H2 locs2 → W p l e R s m args below meth c H2 locs2 cells slots Qs (F0 m pc' ls (st'.map (ax_v b base)))) → W p l e R s m args below meth c H locs cells slots Qs (F0 m pc ls (st.map (ax_v b base))))
    (k : ax_W M d pc' lv st' h2 Q) : ax_W M d pc lv st h Q := by
  obtain ⟨r, h', hq, ⟨m1, m2⟩, k⟩ := k
  rw [e1] at m1
  rw [e2] at m2
  refine ⟨r, h', hq, ⟨m1, m2⟩, fun l D tc b base p e R s m args below meth c C H locs ls cells slots hR hA hS hl => ?_⟩
  refine f p l e R s m args below meth c H locs cells slots _ ls b base D tc C ⟨hR.1, hR.2.1, Nat.le_trans (Nat.le_add_right _ _) hR.2.2.1, Nat.le_trans (Nat.le_add_right _ _) hR.2.2.2⟩ hA hS hl.1 (fun H2 locs2 hA2 hS2 => ?_)
  have := k l D tc b base p e R s m args below meth c C H2 locs2 ls cells slots (by rw [e1, e2]; exact hR) hA2 hS2 hl
  rw [e1, e2] at this
  exact this
section AXH
variable {M : ax_M} {d pc : Nat} {lv : ax_L} {st : List Value} {h : ax_H} {Q : Option Value → ax_H → Prop}
theorem ax_get {ci a k idx : Nat} {fs : List Value} {v : Value} (hd : decode M.2.1 pc = .ok (.getfield idx, 3)) (hF : ax_FG M.1.cls idx ci k) (ha : h[a]? = some (.inr (ci, fs))) (hv : fs[k]? = some v) (kk : ax_W M d (pc + 3) lv (v :: st) h Q) : ax_W M d pc lv (.ref a :: st) h Q := by
  refine ax_stepH rfl rfl (fun p l e R s m args below meth c H locs cells slots Qs ls b base D tc C hR hA hS hl kk => ?_) kk
  obtain ⟨hx, hb, hml, hr, hlk, hnm, how, hts, hK, hbb⟩ := C
  have kk := kk H locs hA hS
  obtain ⟨C, T, N, ⟨hci, hin⟩, hk, hF⟩ := hF
  obtain ⟨i, rfl⟩ := ax_pos hA ha
  have hw : (ax_w b base tc h)[i]? = some (base + i, .inr (ci, fs.map (ax_v b base))) := by rw [ax_w_at, ha]; rfl
  have hv' : (fs.map (ax_v b base))[k]? = some (ax_v b base v) := by rw [List.getElem?_map, hv]; rfl
  rcases hF with hF | ⟨host, hF⟩
  · exact va_get (ref := (T k).1) hx hb hts hin how hK.1 hA.1 i hw hci k hk (hts _ hF) (fun _ h9 => h9) hv' hd kk
  · exact va_getN (ref := (T k).1) (host := host) hx hb hts hin how hK.1 hA.1 i hw hci k hk (va_Nw.use (ax_nest_tab _ hF) (hK.2 _ hF)) (fun _ h9 => h9) hv' hd kk
/-- behind a write to a cell -/
theorem ax_wrote {D : va_G} {tc : Nat → ClassId} {b base i : Nat} {s : State} {H H1 : Heap} {c0 c1 : ax_C} (hA : ax_At D tc b base h s H) (hbb : b < base) (ha : h[i + 1]? = some c0) (he : va_at D vwCl (base + i, ax_e b base tc c1) H1) (z : H1.size = H.size) (oq : ∀ q, q ≠ base + i → H1[q]? = H[q]?) : ax_At D tc b base (h.set (i + 1) c1) s H1 := by
  have hw : (ax_w b base tc h)[i]? = some (base + i, ax_e b base tc c0) := by rw [ax_w_at, ha]; rfl
  obtain ⟨hP, hz, L, xs, h0, hX⟩ := hA
  refine ⟨?_, by rw [z, List.length_set]; exact hz, L, xs, ?_, hX.kept (oq b (by omega))⟩
  · rw [ax_w_set]
    exact hP.set ax_w_D hw he oq
  · rw [List.getElem?_set_ne (by omega)]
    exact h0
theorem ax_put {ci a k idx : Nat} {ty : FieldType} {fs : List Value} {v : Value} (hd : decode M.2.1 pc = .ok (.putfield idx, 3)) (hF : ax_FP M.1.cls idx ci k ty) (ha : h[a]? = some (.inr (ci, fs))) (hn : narrow ty v = v) (hfit : fits ty v = true) (hlf : k < fs.length) (kk : ax_W M d (pc + 3) lv st (h.set a (.inr (ci, fs.set k v))) Q) : ax_W M d pc lv (v :: .ref a :: st) h Q := by
  refine ax_stepH (by rw [List.length_set]) (ax_sl_set ha (by simp [ax_n])) (fun p l e R s m args below meth c H locs cells slots Qs ls b base D tc C hR hA hS hl kk => ?_) kk
  obtain ⟨hx, hb, hml, hr, hlk, hnm, how, hts, hK, hbb⟩ := C
  obtain ⟨C, T, N, ty0, ⟨hci, hin⟩, hk, hF, ⟨hty, hnn⟩, hfin, hdsc⟩ := hF
  obtain ⟨i, rfl⟩ := ax_pos hA ha
  have hw : (ax_w b base tc h)[i]? = some (base + i, .inr (ci, fs.map (ax_v b base))) := by rw [ax_w_at, ha]; rfl
  have hap := va_apart (own := M.1.cls) hts hin ty0 hty hnn hK.1 hci
  obtain ⟨rr, h1, cell, q1, q2, q3, q4⟩ := hA.1 i _ hw
  have hrr : rr = (C, T, N) := Option.some.inj (h1.symm.trans hci)
  subst hrr
  obtain ⟨hSl, hfc, kC, hkC, hkind⟩ := hK.1.1 ci _ hci
  obtain ⟨cf, kf, fi, f, hi, hsl⟩ := hSl k hk
  have hlay := hts _ (hin _ (u_in_lay hk))
  unfold u_lay at hlay
  rw [if_neg (by rw [hfin]; decide)] at hlay
  have hst := (u_facts hfc hkC (u_lays hts hin hk) hi).1
  have h6 := u_store hfc hkC hkind hlay hi hdsc (ax_narrow b base hn) (ax_fits b base hfit)
  have fin : ∀ H' : Heap, H'[base + i]? = some (cell.setSlot f.slot (ax_v b base v)) → H'.size = H.size → (∀ q, q ≠ base + i → H'[q]? = H[q]?) → W p l e R s m args below meth c H' (locs ++ [⟨base + i, f.slot⟩]) cells slots Qs (F0 m (pc + 3) ls (st.map (ax_v b base))) := by
    intro H' e1 e2 e3
    refine kk H' _ (ax_wrote hA hbb ha ?_ e2 e3) (hS.put e2 e3 (Nat.le_add_right _ _))
    rw [hsl] at e1
    refine ⟨_, hci, t_OB.to (V := updV (vp_V (fs.map (ax_v b base))) k (ax_v b base v)) ⟨_, e1, q2, q3, t_set q4 hap hk (ax_v b base v)⟩ (fun j _ => ?_)⟩
    rw [vp_updV_set (by rw [List.length_map]; exact hlf), List.map_set]
  rcases hF with hF | ⟨host, hF⟩
  · exact W.putK hx hb (f := f) ⟨how, hts _ hF, ⟨_, _, _, hi⟩, hst⟩ (by rw [q2]; exact h6) q1 q3 (by rw [hsl]; exact k2_hasslot (q4 k hk)) rfl rfl hd fin
  · exact va_WputK hx hb (f := f) how (va_Nw.use (ax_nest_tab _ hF) (hK.2 _ hF)) hi hst (by rw [q2]; exact h6) q1 q3 (by rw [hsl]; exact k2_hasslot (q4 k hk)) rfl rfl hd fin
theorem ax_putF {ci a k idx : Nat} {ty : FieldType} {fs : List Value} {v : Value} (hd : decode M.2.1 pc = .ok (.putfield idx, 3)) (hF : ax_FF M.1.cls idx ci k ty) (hini : M.1.name = "<init>") (ha : h[a]? = some (.inr (ci, fs))) (hn : narrow ty v = v) (hfit : fits ty v = true) (hlf : k < fs.length) (kk : ax_W M d (pc + 3) lv st (h.set a (.inr (ci, fs.set k v))) Q) : ax_W M d pc lv (v :: .ref a :: st) h Q := by
  refine ax_stepH (by rw [List.length_set]) (ax_sl_set ha (by simp [ax_n])) (fun p l e R s m args below meth c H locs cells slots Qs ls b base D tc C hR hA hS hl kk => ?_) kk
  obtain ⟨hx, hb, hml, hr, hlk, hnm, how, hts, hK, hbb⟩ := C
  obtain ⟨C, T, N, ty0, ⟨hci, hin⟩, hk, hF, ⟨hty, hnn⟩, hfin, hdecl, hdsc⟩ := hF
  obtain ⟨i, rfl⟩ := ax_pos hA ha
  have hw : (ax_w b base tc h)[i]? = some (base + i, .inr (ci, fs.map (ax_v b base))) := by rw [ax_w_at, ha]; rfl
  have hap := va_apart (own := M.1.cls) hts hin ty0 hty hnn hK.1 hci
  obtain ⟨rr, h1, cell, q1, q2, q3, q4⟩ := hA.1 i _ hw
  have hrr : rr = (C, T, N) := Option.some.inj (h1.symm.trans hci)
  subst hrr
  obtain ⟨hSl, hfc, kC, hkC, hkind⟩ := hK.1.1 ci _ hci
  obtain ⟨cf, kf, fi, f, hi, hsl⟩ := hSl k hk
  have hlay := hts _ (hin _ (u_in_lay hk))
  unfold u_lay at hlay
  rw [if_pos hfin] at hlay
  have hst := (u_facts hfc hkC (u_lays hts hin hk) hi).1
  have hcf : m.cls = cf := by
    obtain ⟨_, _, c', _, _, _, -, -, hf', -, -, -, hown2, -⟩ := Cond.laysFinal_spec hlay
    have e1 : c' = cf := by have := hi.symm.trans hf'; simp at this; exact this.1.symm
    rw [hdecl] at hown2
    rw [← e1]; exact Option.some.inj (how.symm.trans hown2)
  have h6 := u_fits hfc hkC hkind (Or.inr hlay) hi hdsc (ax_narrow b base hn) (ax_fits b base hfit)
  refine W.putFinK hx hb how (hts _ hF) hi hst hcf (hnm hini) (by rw [q2]; exact h6) q1 q3 (by rw [hsl]; exact k2_hasslot (q4 k hk)) rfl rfl hd fun H' e1 e2 e3 => ?_
  refine kk H' _ (ax_wrote hA hbb ha ?_ e2 e3) (hS.put e2 e3 (Nat.le_add_right _ _))
  rw [hsl] at e1
  refine ⟨_, hci, t_OB.to (V := updV (vp_V (fs.map (ax_v b base))) k (ax_v b base v)) ⟨_, e1, q2, q3, t_set q4 hap hk (ax_v b base v)⟩ (fun j _ => ?_)⟩
  rw [vp_updV_set (by rw [List.length_map]; exact hlf), List.map_set]
theorem ax_iald {a n : Nat} {f : Nat → Int32} {i : Int32} (hd : decode M.2.1 pc = .ok (.iaload, 1)) (ha : h[a]? = some (.inl (0, n, .inl f))) (hin : vp_in i n) (kk : ax_W M d (pc + 1) lv (.int (f i.toNatClampNeg) :: st) h Q) : ax_W M d pc lv (.int i :: .ref a :: st) h Q := by
  refine ax_stepH rfl rfl (fun p l e R s m args below meth c H locs cells slots Qs ls b base D tc C hR hA hS hl kk => ?_) kk
  obtain ⟨hx, hb, hml, hr, hlk, hnm, how, hts, hK, hbb⟩ := C
  have kk := kk H locs hA hS
  cases a with
  | zero =>
    obtain ⟨-, -, L, xs, h0, scr, h1, h2, h3, h4, h5⟩ := hA
    rw [h0] at ha
    cases ha
    have hlt : i.toNatClampNeg < n := Nat.not_le.mp fun q => hin (Or.inr q)
    exact W.iald (v := .int (f i.toNatClampNeg)) hx hb h1 h2 h3 (by rw [h4]; exact hin) (h5 _ hlt) rfl rfl hd kk
  | succ a =>
    have hw : (ax_w b base tc h)[a]? = some (base + a, .inl (tc 0, n, .inl f)) := by rw [ax_w_at, ha]; rfl
    exact va_iald hx hb hK.1 hA.1 a 0 hw (ax_tys_at rfl) hin hd kk
theorem ax_alen {a t n : Nat} {f : Nat → Int32} {ty : FieldType} (hd : decode M.2.1 pc = .ok (.arraylength, 1)) (ha : h[a]? = some (.inl (t, n, .inl f))) (ht : ax_ty[t]? = some ty) (kk : ax_W M d (pc + 1) lv (.int (Int32.ofNat n) :: st) h Q) : ax_W M d pc lv (.ref a :: st) h Q := by
  refine ax_stepH rfl rfl (fun p l e R s m args below meth c H locs cells slots Qs ls b base D tc C hR hA hS hl kk => ?_) kk
  obtain ⟨hx, hb, hml, hr, hlk, hnm, how, hts, hK, hbb⟩ := C
  have kk := kk H locs hA hS
  cases a with
  | zero =>
    obtain ⟨-, -, L, xs, h0, scr, h1, h2, h3, h4, h5⟩ := hA
    rw [h0] at ha
    cases ha
    exact W.alen (n := Int32.ofNat n) hx hb h1 h2 (by rw [h4] <;> rfl) rfl rfl hd kk
  | succ a =>
    have hw : (ax_w b base tc h)[a]? = some (base + a, .inl (tc t, n, .inl f)) := by rw [ax_w_at, ha]; rfl
    exact va_alen hx hb hK.1 hA.1 a t hw (ax_tys_at ht) rfl hd kk
theorem ax_iast {a n : Nat} {f : Nat → Int32} {i x : Int32} (hd : decode M.2.1 pc = .ok (.iastore, 1)) (ha : h[a]? = some (.inl (0, n, .inl f))) (h0 : 0 < a) (hin : vp_in i n) (kk : ax_W M d (pc + 1) lv st (h.set a (.inl (0, n, .inl (upd f i.toNatClampNeg x)))) Q) : ax_W M d pc lv (.int x :: .int i :: .ref a :: st) h Q := by
  refine ax_stepH (by rw [List.length_set]) (by exact ax_sl_set ha rfl) (fun p l e R s m args below meth c H locs cells slots Qs ls b base D tc C hR hA hS hl kk => ?_) kk
  obtain ⟨hx, hb, hml, hr, hlk, hnm, how, hts, hK, hbb⟩ := C
  obtain ⟨q0, rfl⟩ : ∃ q, a = q + 1 := ⟨a - 1, by omega⟩
  have hw : (ax_w b base tc h)[q0]? = some (base + q0, .inl (tc 0, n, .inl f)) := by rw [ax_w_at, ha]; rfl
  refine W.iast hx hb (hA.1 q0 _ hw) ((hK.1.2 0 _ (ax_tys_at rfl)).1 n (fun j => .int (f j))) (fun q => by cases q) (by show ¬ (i < 0 ∨ (arrV _ _ _).slots.size ≤ _); rw [arrV_size]; exact hin) rfl rfl hd fun H1 e z oq => ?_
  refine kk H1 _ (ax_wrote hA hbb ha ?_ z oq) (hS.put z oq (Nat.le_add_right _ _))
  show H1[base + q0]? = some (vp_cell _ _)
  rw [e]
  show some ((vp_cell (tc 0) (n, .inl f)).setSlot _ _) = some (vp_cell (tc 0) (n, .inl _))
  rw [vp_cell_i, vp_cell_i, arrV_store]
  congr 2
  funext q
  by_cases hq : q = i.toNatClampNeg
  · subst hq
    simp [updV, upd]
  · simp [updV, upd, hq]
/-! new cells -/
theorem ax_ad_len {D : va_G} {tc : Nat → ClassId} {b base : Nat} {s : State} {H : Heap} (hA : ax_At D tc b base h s H) : ax_ad b base h.length = H.size ∧ H.size = base + (h.length - 1) ∧ 1 ≤ h.length := by
  obtain ⟨-, hz, L, xs, h0, -⟩ := hA
  have hl := (List.getElem?_eq_some_iff.mp h0).1
  obtain ⟨n, hn⟩ : ∃ n, h.length = n + 1 := ⟨h.length - 1, by omega⟩
  rw [hn] at hz ⊢
  refine ⟨?_, by omega, by omega⟩
  show base + n = H.size
  omega
theorem ax_made {D : va_G} {tc : Nat → ClassId} {b base : Nat} {s : State} {H H1 : Heap} {c1 : ax_C} (hA : ax_At D tc b base h s H) (hbb : b < base) (he : va_at D vwCl (H.size, ax_e b base tc c1) H1) (z : H1.size = H.size + 1) (oq : ∀ q, q < H.size → H1[q]? = H[q]?) : ax_At D tc b base (h ++ [c1]) s H1 := by
  obtain ⟨e1, e2, e3⟩ := ax_ad_len hA
  obtain ⟨hP, hz, L, xs, h0, hX⟩ := hA
  refine ⟨?_, by rw [z, List.length_append]; simp; omega, L, xs, ?_, hX.kept (oq b (by omega))⟩
  · rw [ax_w_push e3, ← e2]
    refine va_P.app (hP.kept (fun k q hq => oq _ (hP k q hq).lt)) (fun k x hx => ?_)
    have hz2 : k < 1 := (List.getElem?_eq_some_iff.mp hx).1
    rw [show k = 0 by omega] at hx
    cases hx
    exact he
  · rw [List.getElem?_append_left (by omega)]
    exact h0
theorem ax_S_new {base : Nat} {s : State} {H H1 : Heap} {locs : List Loc} (hS : va_S (fun q => base ≤ q) s.heap H locs) (z : H1.size = H.size + 1) (oq : ∀ q, q < H.size → H1[q]? = H[q]?) : va_S (fun q => base ≤ q) s.heap H1 locs :=
  ⟨Nat.le_trans hS.1 (by omega), fun x h1 h2 => (oq x (Nat.lt_of_lt_of_le h1 hS.1)).trans (hS.2.1 x h1 h2), hS.2.2⟩
theorem ax_stepN {pc' : Nat} {st' : List Value} {c1 : ax_C}
    (f : ∀ (p : Program) (l : Launch) (e : Env) (R : Room) (s : State) (m : MethodId) (args : Array Value) (below : List Frame) (meth : Method) (c : Code) (H : Heap) (locs : List Loc) (cells slots : Nat) (Qs : State → Prop) (ls : Array Slot) (b base : Nat) (D : va_G) (tc : Nat → ClassId),
      ax_Cx M D tc b base p s m args meth c → cells + 1 ≤ R.cells → slots + ax_n c1 ≤ R.slots → ax_At D tc b base h s H → va_S (fun q => base ≤ q) s.heap H locs →
      (∀ (H2 : Heap) (locs2 : List Loc), ax_At D tc b base (h ++ [c1]) s H2 → va_S (fun q => base ≤ q) s.heap H2 locs2 → W p l e R s m args below meth c H2 locs2 (cells + 1) (slots + ax_n c1) Qs (F0 m pc' ls (st'.map (ax_v b base)))) → W p l e R s m args below meth c H locs cells slots Qs (F0 m pc ls (st.map (ax_v b base))))
    (k : ax_W M d pc' lv st' (h ++ [c1]) Q) : ax_W M d pc lv st h Q := by
  obtain ⟨r, h', hq, ⟨m1, m2⟩, k⟩ := k
  have e1 : (h ++ [c1]).length = h.length + 1 := by simp
  have e2 : ax_sl (h ++ [c1]) = ax_sl h + ax_n c1 := ax_sl_push
  rw [e1] at m1
  rw [e2] at m2
  refine ⟨r, h', hq, ⟨by omega, by omega⟩, fun l D tc b base p e R s m args below meth c C H locs ls cells slots hR hA hS hl => ?_⟩
  have q1 : cells + 1 + (h'.length - (h.length + 1)) = cells + (h'.length - h.length) := by omega
  have q2 : slots + ax_n c1 + (ax_sl h' - (ax_sl h + ax_n c1)) = slots + (ax_sl h' - ax_sl h) := by omega
  refine f p l e R s m args below meth c H locs cells slots _ ls b base D tc C (Nat.le_trans (by omega) hR.2.2.1) (Nat.le_trans (by omega) hR.2.2.2) hA hS (fun H2 locs2 hA2 hS2 => ?_)
  have := k l D tc b base p e R s m args below meth c C H2 locs2 ls (cells + 1) (slots + ax_n c1) (by rw [e1, e2, q1, q2]; exact hR) hA2 hS2 hl
  rw [e1, e2, q1, q2] at this
  exact this
def ax_NW (own : String) (idx ci : Nat) (fs : List Value) : Prop := ∃ (C : String) (T : u_T) (N : Nat) (ty : Nat → FieldType), ax_cls ci C T N ∧ (∀ k, k < N → parseFieldDescriptor (T k).2.2.1 = some (ty k)) ∧ Cond.classLink own idx C ∈ ax_all ∧ Cond.instantiable C N ∈ ax_all ∧ Cond.initialized C ∈ ax_all ∧ fs.length = N ∧ (∀ j, j < N → defaultValue (ty j) = vp_V fs j) ∧ ∀ b base, fs.map (ax_v b base) = fs
theorem ax_new {ci idx : Nat} (fs : List Value) (hd : decode M.2.1 pc = .ok (.new idx, 3)) (hN : ax_NW M.1.cls idx ci fs) (kk : ax_W M d (pc + 3) lv (.ref h.length :: st) (h ++ [.inr (ci, fs)]) Q) : ax_W M d pc lv st h Q := by
  refine ax_stepN (fun p l e R s m args below meth c H locs cells slots Qs ls b base D tc C hc hs hA hS kk => ?_) kk
  obtain ⟨hx, hb, hml, hr, hlk, hnm, how, hts, hK, hbb⟩ := C
  obtain ⟨C, T, N, ty, ⟨hci, hin⟩, hty, hcl, hinst, hini, hlen, hfs, hmp⟩ := hN
  have hKn := hK.1.1 ci _ hci
  have hn : ax_n (.inr (ci, fs)) = N := hlen
  rw [hn] at hs kk
  obtain ⟨a1, a2, a3⟩ := ax_ad_len hA
  refine W.newcK hx hb how (hts _ hcl) (hts _ hinst) (hts _ hini) rfl hd hc hs hKn.2.1 rfl fun H1 kC hkC e1 z1 o1 => ?_
  have K := kk H1 locs (ax_made hA hbb ?_ z1 o1) (ax_S_new hS z1 o1)
  · have e9 : ((Value.ref h.length :: st).map (ax_v b base)) = .ref H.size :: st.map (ax_v b base) := by
      show Value.ref (ax_ad b base h.length) :: _ = _
      rw [a1]
    rw [e9] at K
    exact K
  · refine ⟨_, hci, ?_⟩
    show t_OB H.size _ N _ H1 (vp_V (fs.map (ax_v b base)))
    rw [hmp]
    exact (u_born ty hts hin hKn hkC e1 hty).to hfs
theorem ax_newI {n : Int32} (N : Nat) (hd : decode M.2.1 pc = .ok (.newarray .int, 2)) (hn : ¬ n < 0) (hN : n.toNatClampNeg = N) (hb8 : N ≤ 100000000) (hw : Cond.arrayClass .int ∈ ax_all) (kk : ax_W M d (pc + 2) lv (.ref h.length :: st) (h ++ [.inl (0, N, .inl (fun _ => 0))]) Q) : ax_W M d pc lv (.int n :: st) h Q := by
  refine ax_stepN (fun p l e R s m args below meth c H locs cells slots Qs ls b base D tc C hc hs hA hS kk => ?_) kk
  obtain ⟨hx, hb, hml, hr, hlk, hnm, how, hts, hK, hbb⟩ := C
  obtain ⟨a1, a2, a3⟩ := ax_ad_len hA
  have hs : slots + N ≤ R.slots := hs
  refine va_newaK (atype := .int) hx hb (hts _ hw) rfl hd rfl hn hN (by show N * 4 ≤ 536870912; omega) hc hs rfl fun H1 cA e1 z1 o1 hAr hNm => ?_
  have hcA : cA = tc 0 := by
    have h2 : s.vm.findClass ("[" ++ FieldType.toString .int) = some (tc 0) := (hK.1.2 0 _ (ax_tys_at rfl)).2
    exact Option.some.inj (hNm.symm.trans h2)
  subst hcA
  have K := kk H1 locs (ax_made hA hbb ?_ z1 o1) (ax_S_new hS z1 o1)
  · have e9 : ((Value.ref h.length :: st).map (ax_v b base)) = .ref H.size :: st.map (ax_v b base) := by
      show Value.ref (ax_ad b base h.length) :: _ = _
      rw [a1]
    rw [e9] at K
    exact K
  · show H1[H.size]? = some (vp_cell _ _)
    rw [e1]
    rfl
/-! returns -/
theorem ax_ret_At {D : va_G} {tc : Nat → ClassId} {b base : Nat} {s t : State} {H : Heap} (hA : ax_At D tc b base h s H) (ht : t.heap = H) (hW : s.WarmedH t.vm) : ax_At D tc b base h t t.heap := by
  obtain ⟨h1, h2, L, xs, h3, h4⟩ := hA
  rw [ht]
  exact ⟨h1, h2, L, xs, h3, h4.moved hW.alike⟩
theorem ax_iret {x : Int32} (hd : decode M.2.1 pc = .ok (.ireturn, 1)) (hr0 : M.2.2.2 = some .int) (hq : Q (some (.int x)) h) : ax_W M d pc lv [.int x] h Q := by
  refine ⟨some (.int x), h, hq, ax_mono.rf, fun l D tc b base p e R s m args below meth c C H locs ls cells slots hR hA hS hl => ?_⟩
  obtain ⟨hx, hb, hml, hr, hlk, hnm, how, hts, hK, hbb⟩ := C
  rw [Nat.sub_self, Nat.add_zero, Nat.sub_self, Nat.add_zero]
  exact W.iret hx hb (hr.trans hr0) (fun t ht hW => ⟨rfl, ax_ret_At hA ht hW, hS.F ht⟩) hS.2.2 hd hlk
theorem ax_zret {x : Int32} (hd : decode M.2.1 pc = .ok (.ireturn, 1)) (hr0 : M.2.2.2 = some .boolean) (hx01 : x &&& 1 = x) (hq : Q (some (.int x)) h) : ax_W M d pc lv [.int x] h Q := by
  refine ⟨some (.int x), h, hq, ax_mono.rf, fun l D tc b base p e R s m args below meth c C H locs ls cells slots hR hA hS hl => ?_⟩
  obtain ⟨hx, hb, hml, hr, hlk, hnm, how, hts, hK, hbb⟩ := C
  rw [Nat.sub_self, Nat.add_zero, Nat.sub_self, Nat.add_zero]
  exact W.zret hx hb (hr.trans hr0) (by show Value.int (x &&& 1) = _; rw [hx01]) (fun t ht hW => ⟨rfl, ax_ret_At hA ht hW, hS.F ht⟩) hS.2.2 hd hlk
theorem ax_vret (hd : decode M.2.1 pc = .ok (.return_, 1)) (hr0 : M.2.2.2 = none) (hq : Q none h) : ax_W M d pc lv [] h Q := by
  refine ⟨none, h, hq, ax_mono.rf, fun l D tc b base p e R s m args below meth c C H locs ls cells slots hR hA hS hl => ?_⟩
  obtain ⟨hx, hb, hml, hr, hlk, hnm, how, hts, hK, hbb⟩ := C
  rw [Nat.sub_self, Nat.add_zero, Nat.sub_self, Nat.add_zero]
  exact W.vret hx hb (hr.trans hr0) (fun t ht hW => ⟨rfl, ax_ret_At hA ht hW, hS.F ht⟩) hS.2.2 hd hlk
/-! calls -/
theorem ax_cats (b base : Nat) (st : List Value) : ((st.map (ax_v b base)).map fun v => v.category).sum = (st.map fun v => v.category).sum := by
  rw [List.map_map]
  congr 1
  apply List.map_congr_left
  intro v _
  exact ax_v_cat b base v
theorem ax_objInit {a idx : Nat} (hd : decode M.2.1 pc = .ok (.invokespecial idx, 3)) (hl : Cond.methodLink M.1.cls idx Lib.objectInit ∈ ax_all) (hi : Cond.instanceMethod Lib.objectInit ∈ ax_all) (hc : Cond.code Lib.objectInit ⟨#[0xb1]⟩ 1 none ∈ ax_all) (hd1 : 1 ≤ d) (hcat : (st.map fun v => v.category).sum ≤ 8) (kk : ax_W M d (pc + 3) lv st h Q) : ax_W M d pc lv (.ref a :: st) h Q := by
  refine ax_stepH rfl rfl (fun p l e R s m args below meth c H locs cells slots Qs ls b base D tc C hR hA hS hls kk => ?_) kk
  obtain ⟨hx, hb, hml, hr, hlk, hnm, how, hts, hK, hbb⟩ := C
  have e1 := ax_cats b base st
  exact W.objInit hx hb how (hts _ hl) (hts _ hi) (hts _ hc) rfl (by show ls.size = _; rw [hls, hml]) rfl hd (Nat.le_trans hd1 hR.1) (by show 2 * 0 + _ + 12 ≤ _; rw [e1]; have := hR.2.1; omega) (kk H locs hA hS)
theorem ax_blind {av : List Value} {D : va_G} {tc : Nat → ClassId} {b base : Nat} : FrameBlind (va_Pc (av.map (ax_v b base)) (fun U => ax_At D tc b base h U U.heap ∧ ax_K D tc U)) := by
  intro a U g mk q
  obtain ⟨q0, ⟨q1, q2, L, xs, q3, q4⟩, qK, qN⟩ := q
  exact ⟨q0, ⟨q1, q2, L, xs, q3, va_X.moved (u := U) (U := U.calling g mk a) (Vm.Alike.refl U.vm) q4⟩, va_K.moved (u := U) (U := U.calling g mk a) (Vm.Alike.refl U.vm) qK, fun w hw => va_Nw.same (u := U) (U := U.calling g mk a) (ax_nest_tab w hw) rfl (qN w hw)⟩
theorem ax_pre {av : List Value} {D : va_G} {tc : Nat → ClassId} {b base : Nat} {s : State} {H : Heap} (hA : ax_At D tc b base h s H) (hK : ax_K D tc s) : PreS s H (va_Pc (av.map (ax_v b base)) (fun U => ax_At D tc b base h U U.heap ∧ ax_K D tc U)) (av.map (ax_v b base)) :=
  ⟨ax_blind, fun U hU hW => ⟨rfl, ax_ret_At hA hU hW, va_K.moved hW.alike hK.1, fun w hw => ax_nest_warm w hw hW (hK.2 w hw)⟩⟩
theorem ax_back {p : Program} {l : Launch} {e : Env} {R : Room} {s : State} {m : MethodId} {args : Array Value} {below : List Frame} {meth : Method} {c : Code} {H : Heap} {locs : List Loc} {cells slots mc ms b base : Nat} {Qs : State → Prop} {D : va_G} {tc : Nat → ClassId} {ls : Array Slot} {st0 rest : List Value} {r : Option Value} {h1 : ax_H} {a : Array Value}
    (hr : va_Run p l e R s m args below meth c H locs cells slots mc ms (F0 m pc ls st0) rest (ax_Q D tc b base r h1 a) (fun q => base ≤ q)) (hS : va_S (fun q => base ≤ q) s.heap H locs)
    (kk : ∀ (H1 : Heap) (locs1 : List Loc), ax_At D tc b base h1 s H1 → va_S (fun q => base ≤ q) s.heap H1 locs1 → W p l e R s m args below meth c H1 locs1 (cells + mc) (slots + ms) Qs (F0 m (pc + 3) ls ((r.map (ax_v b base)).toList ++ rest))) : W p l e R s m args below meth c H locs cells slots Qs (F0 m pc ls st0) := by
  intro T hT X
  obtain ⟨v, st₀, t, T', L, h0, X', hL, e1, e2, ⟨hv, ⟨hP, hz, Ln, xs, h3, h4⟩, hF1, hF2⟩, st⟩ := hr T hT X
  cases hv
  rw [h0] at hF1 hF2
  have hal : t.vm.Alike s.vm := by rw [← e2]; exact X'.warmed.alike.symm
  obtain ⟨t2, a1, b1⟩ := kk T'.heap (locs ++ L) (by rw [e1]; exact ⟨hP, hz, Ln, xs, h3, h4.moved hal⟩) ⟨Nat.le_trans hS.1 (by rw [e1]; exact hF1), fun q g1 g2 => by rw [e1, hF2 q (Nat.lt_of_lt_of_le g1 hS.1) g2]; exact hS.2.1 q g1 g2, fun q hq => by
      rcases List.mem_append.mp hq with h | h
      · exact hS.2.2 q h
      · exact hL q h⟩ T' rfl X'
  exact ⟨t2, st t2 a1, b1⟩
def ax_okM (N : ax_M) (n : Nat) : Prop := ax_cd N ∈ ax_all ∧ Cond.initialized N.1.cls ∈ ax_all ∧ N.1.cls ≠ "java/lang/invoke/MethodHandle" ∧ N.1.cls ≠ "java/lang/invoke/VarHandle" ∧ (parseMethodDescriptor N.1.desc).map (fun d => d.parameters.length) = some n ∧ N.2.2.1 ≤ 26
def ax_lk (own : String) (idx : Nat) (y : MethodName) : Prop := Cond.methodLink own idx y ∈ ax_all ∨ ∃ host, Cond.methodLinkNest own idx y host ∈ ax_nest
theorem ax_call0 {N : ax_M} {d' : Nat} {As rest st0 : List Value} (hdd : d' + 1 ≤ d)
    (f : ∀ (p : Program) (l : Launch) (e : Env) (R : Room) (s : State) (m : MethodId) (args : Array Value) (below : List Frame) (meth : Method) (c : Code) (H : Heap) (locs : List Loc) (cells slots : Nat) (ls : Array Slot) (b base : Nat) (D : va_G) (tc : Nat → ClassId) (r1 : Option Value) (h1 : ax_H),
      ax_Cx M D tc b base p s m args meth c → ax_At D tc b base h s H → ls.size = M.2.2.1 → (d' + 1 ≤ R.frames ∧ 45 * d ≤ R.locals) → Met l N.1 (ax_ws N) (ax_rm d' (h1.length - h.length) (ax_sl h1 - ax_sl h)) (va_Pc (As.map (ax_v b base)) (fun U => ax_At D tc b base h U U.heap ∧ ax_K D tc U)) (ax_Q D tc b base r1 h1) (h1.length - h.length) (ax_sl h1 - ax_sl h) (fun q => base ≤ q) →
      (cells + (h1.length - h.length) ≤ R.cells ∧ slots + (ax_sl h1 - ax_sl h) ≤ R.slots) →
      va_Run p l e R s m args below meth c H locs cells slots (h1.length - h.length) (ax_sl h1 - ax_sl h) (F0 m pc ls (st0.map (ax_v b base))) (rest.map (ax_v b base)) (ax_Q D tc b base r1 h1 (As.map (ax_v b base)).toArray) (fun q => base ≤ q))
    (k : ax_Cl N d' As h (fun r h1 => ax_W M d (pc + 3) lv (r.toList ++ rest) h1 Q)) : ax_W M d pc lv st0 h Q := by
  obtain ⟨r1, h1, ⟨r, h', hq, hm2, k⟩, hm1, hM⟩ := k
  refine ⟨r, h', hq, hm1.tr hm2, fun l D tc b base p e R s m args below meth c C H locs ls cells slots hR hA hS hl => ?_⟩
  obtain ⟨m11, m12⟩ := hm1
  obtain ⟨m21, m22⟩ := hm2
  have hbb : b < base := C.2.2.2.2.2.2.2.2.2
  have q1 : cells + (h1.length - h.length) + (h'.length - h1.length) = cells + (h'.length - h.length) := by omega
  have q2 : slots + (ax_sl h1 - ax_sl h) + (ax_sl h' - ax_sl h1) = slots + (ax_sl h' - ax_sl h) := by omega
  have run := f p l e R s m args below meth c H locs cells slots ls b base D tc r1 h1 C hA hl.1 ⟨Nat.le_trans hdd hR.1, hR.2.1⟩ (hM l D tc b base hbb) ⟨Nat.le_trans (by omega) hR.2.2.1, Nat.le_trans (by omega) hR.2.2.2⟩
  refine ax_back run hS (fun H1 locs1 hA1 hS1 => ?_)
  have K := k l D tc b base p e R s m args below meth c C H1 locs1 ls (cells + (h1.length - h.length)) (slots + (ax_sl h1 - ax_sl h)) (by rw [q1, q2]; exact hR) hA1 hS1 hl
  rw [q1, q2] at K
  have e9 : (r1.toList ++ rest).map (ax_v b base) = (r1.map (ax_v b base)).toList ++ rest.map (ax_v b base) := by cases r1 <;> simp
  rw [e9] at K
  exact K
theorem ax_callS {N : ax_M} {d' idx n : Nat} {As rest : List Value} (hd : decode M.2.1 pc = .ok (.invokestatic idx, 3)) (hN : ax_okM N n) (hst : Cond.static N.1 ∈ ax_all) (hL : ax_lk M.1.cls idx N.1) (hn : As.length = n) (hdd : d' + 1 ≤ d) (hcat : (rest.map fun v => v.category).sum ≤ 8)
    (k : ax_Cl N d' As h (fun r h1 => ax_W M d (pc + 3) lv (r.toList ++ rest) h1 Q)) : ax_W M d pc lv (As.reverse ++ rest) h Q := by
  refine ax_call0 hdd (fun p l e R s m args below meth c H locs cells slots ls b base D tc r1 h1 C hA hls hR hM hf => ?_) k
  obtain ⟨hx, hb, hml, hr, hlk, hnm, how, hts, hK, hbb⟩ := C
  obtain ⟨hcd, hini, hy1, hy2, hpar, hmL⟩ := hN
  have e1 : (As.reverse ++ rest).map (ax_v b base) = (As.map (ax_v b base)).reverse ++ rest.map (ax_v b base) := by rw [List.map_append, List.map_reverse]
  have hR1 : (ax_rm d' (h1.length - h.length) (ax_sl h1 - ax_sl h)).frames + 1 ≤ R.frames ∧ 8 + (N.2.2.1 + 11) + (ax_rm d' (h1.length - h.length) (ax_sl h1 - ax_sl h)).locals ≤ R.locals := ⟨hR.1, by show 8 + (N.2.2.1 + 11) + 45 * d' ≤ _; have := hR.2; omega⟩
  have hca : ((rest.map (ax_v b base)).map fun v => v.category).sum ≤ 8 := by rw [ax_cats]; exact hcat
  rcases hL with hL | ⟨host, hL⟩
  · exact va_runS (Ts := ax_all) (nL := M.2.2.1) (n := n) ⟨hx, hb, hml, how, hts⟩ hM ⟨callB_of n hts (ax_goodIn hcd) rfl rfl rfl (hts _ hini) (hts _ hL) ⟨hy1, hy2, hpar⟩ hR1, hts _ hst⟩ (ax_pre hA hK) rfl (by rw [List.length_map]; exact hn) hls e1 (lv_room hca) hd hf
  · exact va_runSN (Ts := ax_all) (nL := M.2.2.1) (n := n) (host := host) ⟨hx, hb, hml, how, hts⟩ hM ⟨va_cnB n hts (ax_goodIn hcd) rfl rfl rfl (hK.2 _ hL) (hts _ hini) ⟨hy1, hy2, hpar⟩ hR1, hts _ hst, trivial⟩ (ax_pre hA hK) rfl (by rw [List.length_map]; exact hn) hls e1 (lv_room hca) hd hf
theorem ax_callI {N : ax_M} {d' idx n a : Nat} {As rest : List Value} (hd : decode M.2.1 pc = .ok (.invokespecial idx, 3)) (hN : ax_okM N n) (hret : N.2.2.2 = none) (hi : N.1.name = "<init>") (hst : Cond.instanceMethod N.1 ∈ ax_all) (hL : ax_lk M.1.cls idx N.1) (hn : As.length = n) (hdd : d' + 1 ≤ d) (hcat : (rest.map fun v => v.category).sum ≤ 8)
    (k : ax_Cl N d' (.ref a :: As) h (fun r h1 => ax_W M d (pc + 3) lv (r.toList ++ rest) h1 Q)) : ax_W M d pc lv (As.reverse ++ .ref a :: rest) h Q := by
  refine ax_call0 hdd (fun p l e R s m args below meth c H locs cells slots ls b base D tc r1 h1 C hA hls hR hM hf => ?_) k
  obtain ⟨hx, hb, hml, hr, hlk, hnm, how, hts, hK, hbb⟩ := C
  obtain ⟨hcd, hini, hy1, hy2, hpar, hmL⟩ := hN
  have e1 : (As.reverse ++ .ref a :: rest).map (ax_v b base) = (As.map (ax_v b base)).reverse ++ .ref (ax_ad b base a) :: rest.map (ax_v b base) := by rw [List.map_append, List.map_reverse]; rfl
  have hR1 : (ax_rm d' (h1.length - h.length) (ax_sl h1 - ax_sl h)).frames + 1 ≤ R.frames ∧ 8 + (N.2.2.1 + 11) + (ax_rm d' (h1.length - h.length) (ax_sl h1 - ax_sl h)).locals ≤ R.locals := ⟨hR.1, by show 8 + (N.2.2.1 + 11) + 45 * d' ≤ _; have := hR.2; omega⟩
  have hca : ((rest.map (ax_v b base)).map fun v => v.category).sum ≤ 8 := by rw [ax_cats]; exact hcat
  have hcd2 : ax_ws N = Cond.code N.1 N.2.1 N.2.2.1 none :: ax_all := by rw [← hret]; rfl
  rcases hL with hL | ⟨host, hL⟩
  · exact va_runI (Ts := ax_all) (nL := M.2.2.1) (n := n) ⟨hx, hb, hml, how, hts⟩ hM ⟨callB_of n hts (ax_goodIn hcd) hcd2 rfl rfl (hts _ hini) (hts _ hL) ⟨hy1, hy2, hpar⟩ hR1, hi, hts _ hst⟩ (ax_pre (av := .ref a :: As) hA hK) rfl (by rw [List.length_map]; exact hn) hls e1 (lv_room hca) hd hf
  · exact va_runIN (Ts := ax_all) (nL := M.2.2.1) (n := n) (host := host) ⟨hx, hb, hml, how, hts⟩ hM ⟨va_cnB n hts (ax_goodIn hcd) hcd2 rfl rfl (hK.2 _ hL) (hts _ hini) ⟨hy1, hy2, hpar⟩ hR1, hi, hts _ hst⟩ (ax_pre (av := .ref a :: As) hA hK) rfl (by rw [List.length_map]; exact hn) hls e1 (lv_room hca) hd hf
theorem ax_callV {N : ax_M} {d' idx n a ci : Nat} {fs As rest : List Value} {C : vw_C} (hd : decode M.2.1 pc = .ok (.invokevirtual idx, 3)) (hN : ax_okM N n) (hst : Cond.instanceMethod N.1 ∈ ax_all) (hse : Cond.selects N.1.cls N.1 N.1 ∈ ax_all) (hL : ax_lk M.1.cls idx N.1) (hci : vwCl[ci]? = some C) (hC : C.1 = N.1.cls) (ha : h[a]? = some (.inr (ci, fs))) (hn : As.length = n) (hdd : d' + 1 ≤ d) (hcat : (rest.map fun v => v.category).sum ≤ 8)
    (k : ax_Cl N d' (.ref a :: As) h (fun r h1 => ax_W M d (pc + 3) lv (r.toList ++ rest) h1 Q)) : ax_W M d pc lv (As.reverse ++ .ref a :: rest) h Q := by
  refine ax_call0 hdd (fun p l e R s m args below meth c H locs cells slots ls b base D tc r1 h1 C hA hls hR hM hf => ?_) k
  obtain ⟨hx, hb, hml, hr, hlk, hnm, how, hts, hK, hbb⟩ := C
  obtain ⟨hcd, hini, hy1, hy2, hpar, hmL⟩ := hN
  obtain ⟨i, rfl⟩ := ax_pos hA ha
  have e1 : (As.reverse ++ .ref (i + 1) :: rest).map (ax_v b base) = (As.map (ax_v b base)).reverse ++ .ref (base + i) :: rest.map (ax_v b base) := by rw [List.map_append, List.map_reverse]; rfl
  have hR1 : (ax_rm d' (h1.length - h.length) (ax_sl h1 - ax_sl h)).frames + 1 ≤ R.frames ∧ 8 + (N.2.2.1 + 11) + (ax_rm d' (h1.length - h.length) (ax_sl h1 - ax_sl h)).locals ≤ R.locals := ⟨hR.1, by show 8 + (N.2.2.1 + 11) + 45 * d' ≤ _; have := hR.2; omega⟩
  have hca : ((rest.map (ax_v b base)).map fun v => v.category).sum ≤ 8 := by rw [ax_cats]; exact hcat
  have hw : (ax_w b base tc h)[i]? = some (base + i, .inr (ci, fs.map (ax_v b base))) := by rw [ax_w_at, ha]; rfl
  have hpr := ax_pre (av := .ref (i + 1) :: As) hA hK
  have hrc := va_recv hK.1 hA.1 hci hw
  rw [hC] at hrc
  rcases hL with hL | ⟨host, hL⟩
  · exact va_runV (Ts := ax_all) (nL := M.2.2.1) (n := n) (C := N.1.cls) ⟨hx, hb, hml, how, hts⟩ hM ⟨callB_of n hts (ax_goodIn hcd) rfl rfl rfl (hts _ hini) (hts _ hL) ⟨hy1, hy2, hpar⟩ hR1, hts _ hst, hts _ hse⟩ ⟨hpr.1, hrc, hpr.2⟩ rfl (by rw [List.length_map]; exact hn) hls e1 (lv_room hca) hd hf
  · exact va_runVN (Ts := ax_all) (nL := M.2.2.1) (n := n) (C := N.1.cls) (host := host) ⟨hx, hb, hml, how, hts⟩ hM ⟨va_cnB n hts (ax_goodIn hcd) rfl rfl rfl (hK.2 _ hL) (hts _ hini) ⟨hy1, hy2, hpar⟩ hR1, hts _ hst, hts _ hse⟩ ⟨hpr.1, hrc, hpr.2⟩ rfl (by rw [List.length_map]; exact hn) hls e1 (lv_room hca) hd hf
theorem ax_mmax {x y : Int32} {idx : Nat} (hd : decode M.2.1 pc = .ok (.invokestatic idx, 3)) (hl : Cond.methodLink M.1.cls idx Lib.Math.max.name ∈ ax_all) (hst : Cond.static Lib.Math.max.name ∈ ax_all) (hini : Cond.initialized "java/lang/Math" ∈ ax_all) (hc : Cond.code Lib.Math.max.name Lib.Math.max.code 2 (some .int) ∈ ax_all) (hd1 : 1 ≤ d) (hcat : (st.map fun v => v.category).sum ≤ 8) (kk : ax_W M d (pc + 3) lv (.int (if x < y then y else x) :: st) h Q) : ax_W M d pc lv (.int y :: .int x :: st) h Q := by
  refine ax_stepH rfl rfl (fun p l e R s m args below meth c H locs cells slots Qs ls b base D tc C hR hA hS hls kk => ?_) kk
  obtain ⟨hx, hb, hml, hr, hlk, hnm, how, hts, hK, hbb⟩ := C
  have e1 := ax_cats b base st
  exact va_mmax hx hb (hml.trans hls.symm) how (hts _ hl) (hts _ hst) (hts _ hini) (hts _ hc) (Nat.le_trans hd1 hR.1) (by rw [e1]; have := hR.2.1; omega) hR.2.2.1 hR.2.2.2 hd (kk H locs hA hS)
theorem ax_mmin {x y : Int32} {idx : Nat} (hd : decode M.2.1 pc = .ok (.invokestatic idx, 3)) (hl : Cond.methodLink M.1.cls idx Lib.Math.min.name ∈ ax_all) (hst : Cond.static Lib.Math.min.name ∈ ax_all) (hini : Cond.initialized "java/lang/Math" ∈ ax_all) (hc : Cond.code Lib.Math.min.name Lib.Math.min.code 2 (some .int) ∈ ax_all) (hd1 : 1 ≤ d) (hcat : (st.map fun v => v.category).sum ≤ 8) (kk : ax_W M d (pc + 3) lv (.int (if y < x then y else x) :: st) h Q) : ax_W M d pc lv (.int y :: .int x :: st) h Q := by
  refine ax_stepH rfl rfl (fun p l e R s m args below meth c H locs cells slots Qs ls b base D tc C hR hA hS hls kk => ?_) kk
  obtain ⟨hx, hb, hml, hr, hlk, hnm, how, hts, hK, hbb⟩ := C
  have e1 := ax_cats b base st
  exact va_mmin hx hb (hml.trans hls.symm) how (hts _ hl) (hts _ hst) (hts _ hini) (hts _ hc) (Nat.le_trans hd1 hR.1) (by rw [e1]; have := hR.2.1; omega) hR.2.2.1 hR.2.2.2 hd (kk H locs hA hS)
end AXH
end
section
/-! ints as Int: iv z; arrays of ints as ia n g -/
def iv (z : Int) : Int32 := Int32.ofInt z
theorem iv_add (a b : Int) : iv a + iv b = iv (a + b) := (Int32.ofInt_add a b).symm
theorem iv_sub (a b : Int) : iv a - iv b = iv (a - b) := (Int32.ofInt_sub a b).symm
theorem iv_mul (a b : Int) : iv a * iv b = iv (a * b) := (Int32.ofInt_mul a b).symm
theorem iv_neg (a : Int) : -iv a = iv (-a) := (Int32.ofInt_neg a).symm
theorem iv_of (x : Int32) : iv x.toInt = x := Int32.ofInt_toInt x
theorem iv_ex (x : Int32) : ∃ z : Int, x = iv z ∧ -2147483648 ≤ z ∧ z < 2147483648 := ⟨x.toInt, (iv_of x).symm, by have := Int32.le_toInt x; omega, by have := Int32.toInt_lt x; omega⟩
theorem iv_toInt {z : Int} (h : -2147483648 ≤ z ∧ z < 2147483648) : (iv z).toInt = z := Int32.toInt_ofInt_of_le (by omega) (by omega)
theorem iv_nat (n : Nat) : iv (n : Int) = nI n := Int32.ofInt_eq_ofNat
theorem iv_lt {a b : Int} (ha : -2147483648 ≤ a ∧ a < 2147483648) (hb : -2147483648 ≤ b ∧ b < 2147483648) : iv a < iv b ↔ a < b := by
  rw [Int32.lt_iff_toInt_lt, iv_toInt ha, iv_toInt hb]
theorem iv_le {a b : Int} (ha : -2147483648 ≤ a ∧ a < 2147483648) (hb : -2147483648 ≤ b ∧ b < 2147483648) : iv a ≤ iv b ↔ a ≤ b := by
  rw [Int32.le_iff_toInt_le, iv_toInt ha, iv_toInt hb]
theorem iv_eq {a b : Int} (ha : -2147483648 ≤ a ∧ a < 2147483648) (hb : -2147483648 ≤ b ∧ b < 2147483648) : iv a = iv b ↔ a = b := by
  rw [← Int32.toInt_inj, iv_toInt ha, iv_toInt hb]
theorem iv_0 : (0 : Int32) = iv 0 := rfl
theorem iv_cl {z : Int} (h : -2147483648 ≤ z ∧ z < 2147483648) : (iv z).toNatClampNeg = z.toNat := Int32.toNatClampNeg_ofInt_of_le (by omega) (by omega)
theorem iv_in {z : Int} {n : Nat} (h0 : 0 ≤ z) (h1 : z < n) (hn : n ≤ 100000000) : vp_in (iv z) n := by
  rw [vp_in_iff, iv_toInt (by omega)]
  exact ⟨h0, h1⟩
theorem iv_div {a b : Int} (ha : 0 ≤ a ∧ a < 2147483648) (hb : 0 < b ∧ b < 2147483648) : iv a / iv b = iv (a / b) := by
  obtain ⟨m, rfl⟩ := Int.eq_ofNat_of_zero_le ha.1
  obtain ⟨n, rfl⟩ := Int.eq_ofNat_of_zero_le (Int.le_of_lt hb.1)
  rw [iv_nat, iv_nat, pk_div (by omega) (by omega) (by omega), ← iv_nat]
  rfl
theorem iv_rem {a b : Int} (ha : 0 ≤ a ∧ a < 2147483648) (hb : 0 < b ∧ b < 2147483648) : iv a - iv a / iv b * iv b = iv (a % b) := by
  obtain ⟨m, rfl⟩ := Int.eq_ofNat_of_zero_le ha.1
  obtain ⟨n, rfl⟩ := Int.eq_ofNat_of_zero_le (Int.le_of_lt hb.1)
  rw [iv_nat, iv_nat, pk_rem (by omega) (by omega) (by omega), ← iv_nat]
  rfl
abbrev ia (n : Nat) (g : Nat → Int) : ax_C := .inl (0, n, .inl (fun j => iv (g j)))
abbrev ob (ci : Nat) (fs : List Value) : ax_C := .inr (ci, fs)
def up (g : Nat → Int) (k : Nat) (x : Int) : Nat → Int := fun j => if j = k then x else g j
theorem up_at (g : Nat → Int) (k : Nat) (x : Int) : up g k x k = x := if_pos rfl
theorem up_ne {g : Nat → Int} {k j : Nat} {x : Int} (h : j ≠ k) : up g k x j = g j := if_neg h
theorem ia_up (n : Nat) (g : Nat → Int) (k : Nat) (x : Int) : (Sum.inl (0, n, Sum.inl (upd (fun j => iv (g j)) k (iv x))) : ax_C) = ia n (up g k x) := by
  unfold ia
  congr 4
  funext j
  unfold upd up
  split <;> rfl
section AXZ
variable {M : ax_M} {d pc : Nat} {lv : ax_L} {st : List Value} {h : ax_H} {Q : Option Value → ax_H → Prop}
theorem az_iadd {a b : Int} (hd : decode M.2.1 pc = .ok (.iadd, 1)) (k : ax_W M d (pc + 1) lv (.int (iv (a + b)) :: st) h Q) : ax_W M d pc lv (.int (iv b) :: .int (iv a) :: st) h Q := ax_iadd hd (by rw [iv_add]; exact k)
theorem az_isub {a b : Int} (hd : decode M.2.1 pc = .ok (.isub, 1)) (k : ax_W M d (pc + 1) lv (.int (iv (a - b)) :: st) h Q) : ax_W M d pc lv (.int (iv b) :: .int (iv a) :: st) h Q := ax_isub hd (by rw [iv_sub]; exact k)
theorem az_imul {a b : Int} (hd : decode M.2.1 pc = .ok (.imul, 1)) (k : ax_W M d (pc + 1) lv (.int (iv (a * b)) :: st) h Q) : ax_W M d pc lv (.int (iv b) :: .int (iv a) :: st) h Q := ax_imul hd (by rw [iv_mul]; exact k)
theorem az_ineg {a : Int} (hd : decode M.2.1 pc = .ok (.ineg, 1)) (k : ax_W M d (pc + 1) lv (.int (iv (-a)) :: st) h Q) : ax_W M d pc lv (.int (iv a) :: st) h Q := ax_ineg hd (by rw [iv_neg]; exact k)
theorem az_idiv {a b : Int} (hd : decode M.2.1 pc = .ok (.idiv, 1)) (ha : 0 ≤ a ∧ a < 2147483648) (hb : 0 < b ∧ b < 2147483648) (k : ax_W M d (pc + 1) lv (.int (iv (a / b)) :: st) h Q) : ax_W M d pc lv (.int (iv b) :: .int (iv a) :: st) h Q := ax_idiv hd (by rw [iv_0, iv_eq (by omega) (by omega)]; omega) (by rw [iv_div ha hb]; exact k)
theorem az_irem {a b : Int} (hd : decode M.2.1 pc = .ok (.irem, 1)) (ha : 0 ≤ a ∧ a < 2147483648) (hb : 0 < b ∧ b < 2147483648) (k : ax_W M d (pc + 1) lv (.int (iv (a % b)) :: st) h Q) : ax_W M d pc lv (.int (iv b) :: .int (iv a) :: st) h Q := ax_irem hd (by rw [iv_0, iv_eq (by omega) (by omega)]; omega) (by rw [iv_rem ha hb]; exact k)
theorem az_iconst {n : Int} (hd : decode M.2.1 pc = .ok (.iconst n, 1)) (k : ax_W M d (pc + 1) lv (.int (iv n) :: st) h Q) : ax_W M d pc lv st h Q := ax_iconst (iv n) hd rfl k
theorem az_bipush (n : Int) (hd : decode M.2.1 pc = .ok (.bipush n, 2)) (hv : (Int8.ofInt n).toInt32 = iv n) (k : ax_W M d (pc + 2) lv (.int (iv n) :: st) h Q) : ax_W M d pc lv st h Q := ax_bipush (iv n) hd hv k
theorem az_sipush (n : Int) (hd : decode M.2.1 pc = .ok (.sipush n, 3)) (hv : (Int16.ofInt n).toInt32 = iv n) (k : ax_W M d (pc + 3) lv (.int (iv n) :: st) h Q) : ax_W M d pc lv st h Q := ax_sipush (iv n) hd hv k
theorem az_iinc {n : Nat} {z a : Int} (hd : decode M.2.1 pc = .ok (.iinc n z, 3)) (hl0 : lv[n]? = some (some (.int (iv a)))) (hn : n < M.2.2.1) (hc : ax_c2 lv n = false) (k : ax_W M d (pc + 3) (lv.set n (some (.int (iv (a + z))))) st h Q) : ax_W M d pc lv st h Q := ax_iinc (iv (a + z)) hd hl0 (iv_add a z) hn hc k
theorem az_icmp_eq {a b off : Int} (tgt : Nat) (hd : decode M.2.1 pc = .ok (.if_icmp .eq off, 3)) (htg : (pc : Int) + off = (tgt : Int)) (ha : -2147483648 ≤ a ∧ a < 2147483648) (hb : -2147483648 ≤ b ∧ b < 2147483648) (kt : a = b → ax_W M d tgt lv st h Q) (kf : a ≠ b → ax_W M d (pc + 3) lv st h Q) : ax_W M d pc lv (.int (iv b) :: .int (iv a) :: st) h Q := ax_icmp_eq tgt hd htg (fun c => kt ((iv_eq ha hb).mp c)) (fun c => kf (fun q => c ((iv_eq ha hb).mpr q)))
theorem az_icmp_ne {a b off : Int} (tgt : Nat) (hd : decode M.2.1 pc = .ok (.if_icmp .ne off, 3)) (htg : (pc : Int) + off = (tgt : Int)) (ha : -2147483648 ≤ a ∧ a < 2147483648) (hb : -2147483648 ≤ b ∧ b < 2147483648) (kt : a ≠ b → ax_W M d tgt lv st h Q) (kf : a = b → ax_W M d (pc + 3) lv st h Q) : ax_W M d pc lv (.int (iv b) :: .int (iv a) :: st) h Q := ax_icmp_ne tgt hd htg (fun c => kt (fun q => c ((iv_eq ha hb).mpr q))) (fun c => kf ((iv_eq ha hb).mp c))
theorem az_icmp_lt {a b off : Int} (tgt : Nat) (hd : decode M.2.1 pc = .ok (.if_icmp .lt off, 3)) (htg : (pc : Int) + off = (tgt : Int)) (ha : -2147483648 ≤ a ∧ a < 2147483648) (hb : -2147483648 ≤ b ∧ b < 2147483648) (kt : a < b → ax_W M d tgt lv st h Q) (kf : b ≤ a → ax_W M d (pc + 3) lv st h Q) : ax_W M d pc lv (.int (iv b) :: .int (iv a) :: st) h Q := ax_icmp_lt tgt hd htg (fun c => kt ((iv_lt ha hb).mp c)) (fun c => kf (by have := mt (iv_lt ha hb).mpr c; omega))
theorem az_icmp_ge {a b off : Int} (tgt : Nat) (hd : decode M.2.1 pc = .ok (.if_icmp .ge off, 3)) (htg : (pc : Int) + off = (tgt : Int)) (ha : -2147483648 ≤ a ∧ a < 2147483648) (hb : -2147483648 ≤ b ∧ b < 2147483648) (kt : b ≤ a → ax_W M d tgt lv st h Q) (kf : a < b → ax_W M d (pc + 3) lv st h Q) : ax_W M d pc lv (.int (iv b) :: .int (iv a) :: st) h Q := ax_icmp_ge tgt hd htg (fun c => kt ((iv_le hb ha).mp c)) (fun c => kf (by have := mt (iv_le hb ha).mpr c; omega))
theorem az_icmp_gt {a b off : Int} (tgt : Nat) (hd : decode M.2.1 pc = .ok (.if_icmp .gt off, 3)) (htg : (pc : Int) + off = (tgt : Int)) (ha : -2147483648 ≤ a ∧ a < 2147483648) (hb : -2147483648 ≤ b ∧ b < 2147483648) (kt : b < a → ax_W M d tgt lv st h Q) (kf : a ≤ b → ax_W M d (pc + 3) lv st h Q) : ax_W M d pc lv (.int (iv b) :: .int (iv a) :: st) h Q := ax_icmp_gt tgt hd htg (fun c => kt ((iv_lt hb ha).mp c)) (fun c => kf (by have := mt (iv_lt hb ha).mpr c; omega))
theorem az_icmp_le {a b off : Int} (tgt : Nat) (hd : decode M.2.1 pc = .ok (.if_icmp .le off, 3)) (htg : (pc : Int) + off = (tgt : Int)) (ha : -2147483648 ≤ a ∧ a < 2147483648) (hb : -2147483648 ≤ b ∧ b < 2147483648) (kt : a ≤ b → ax_W M d tgt lv st h Q) (kf : b < a → ax_W M d (pc + 3) lv st h Q) : ax_W M d pc lv (.int (iv b) :: .int (iv a) :: st) h Q := ax_icmp_le tgt hd htg (fun c => kt ((iv_le ha hb).mp c)) (fun c => kf (by have := mt (iv_le ha hb).mpr c; omega))
theorem az_if_eq {a off : Int} (tgt : Nat) (hd : decode M.2.1 pc = .ok (.ifCond .eq off, 3)) (htg : (pc : Int) + off = (tgt : Int)) (ha : -2147483648 ≤ a ∧ a < 2147483648) (kt : a = 0 → ax_W M d tgt lv st h Q) (kf : a ≠ 0 → ax_W M d (pc + 3) lv st h Q) : ax_W M d pc lv (.int (iv a) :: st) h Q := by
  have hb : -2147483648 ≤ (0 : Int) ∧ (0 : Int) < 2147483648 := by omega
  exact ax_if_eq tgt hd htg (fun c => kt ((iv_eq ha hb).mp c)) (fun c => kf (fun q => c ((iv_eq ha hb).mpr q)))
theorem az_if_ne {a off : Int} (tgt : Nat) (hd : decode M.2.1 pc = .ok (.ifCond .ne off, 3)) (htg : (pc : Int) + off = (tgt : Int)) (ha : -2147483648 ≤ a ∧ a < 2147483648) (kt : a ≠ 0 → ax_W M d tgt lv st h Q) (kf : a = 0 → ax_W M d (pc + 3) lv st h Q) : ax_W M d pc lv (.int (iv a) :: st) h Q := by
  have hb : -2147483648 ≤ (0 : Int) ∧ (0 : Int) < 2147483648 := by omega
  exact ax_if_ne tgt hd htg (fun c => kt (fun q => c ((iv_eq ha hb).mpr q))) (fun c => kf ((iv_eq ha hb).mp c))
theorem az_if_lt {a off : Int} (tgt : Nat) (hd : decode M.2.1 pc = .ok (.ifCond .lt off, 3)) (htg : (pc : Int) + off = (tgt : Int)) (ha : -2147483648 ≤ a ∧ a < 2147483648) (kt : a < 0 → ax_W M d tgt lv st h Q) (kf : 0 ≤ a → ax_W M d (pc + 3) lv st h Q) : ax_W M d pc lv (.int (iv a) :: st) h Q := by
  have hb : -2147483648 ≤ (0 : Int) ∧ (0 : Int) < 2147483648 := by omega
  exact ax_if_lt tgt hd htg (fun c => kt ((iv_lt ha hb).mp c)) (fun c => kf (by have := mt (iv_lt ha hb).mpr c; omega))
theorem az_if_ge {a off : Int} (tgt : Nat) (hd : decode M.2.1 pc = .ok (.ifCond .ge off, 3)) (htg : (pc : Int) + off = (tgt : Int)) (ha : -2147483648 ≤ a ∧ a < 2147483648) (kt : 0 ≤ a → ax_W M d tgt lv st h Q) (kf : a < 0 → ax_W M d (pc + 3) lv st h Q) : ax_W M d pc lv (.int (iv a) :: st) h Q := by
  have hb : -2147483648 ≤ (0 : Int) ∧ (0 : Int) < 2147483648 := by omega
  exact ax_if_ge tgt hd htg (fun c => kt ((iv_le hb ha).mp c)) (fun c => kf (by have := mt (iv_le hb ha).mpr c; omega))
theorem az_if_gt {a off : Int} (tgt : Nat) (hd : decode M.2.1 pc = .ok (.ifCond .gt off, 3)) (htg : (pc : Int) + off = (tgt : Int)) (ha : -2147483648 ≤ a ∧ a < 2147483648) (kt : 0 < a → ax_W M d tgt lv st h Q) (kf : a ≤ 0 → ax_W M d (pc + 3) lv st h Q) : ax_W M d pc lv (.int (iv a) :: st) h Q := by
  have hb : -2147483648 ≤ (0 : Int) ∧ (0 : Int) < 2147483648 := by omega
  exact ax_if_gt tgt hd htg (fun c => kt ((iv_lt hb ha).mp c)) (fun c => kf (by have := mt (iv_lt hb ha).mpr c; omega))
theorem az_if_le {a off : Int} (tgt : Nat) (hd : decode M.2.1 pc = .ok (.ifCond .le off, 3)) (htg : (pc : Int) + off = (tgt : Int)) (ha : -2147483648 ≤ a ∧ a < 2147483648) (kt : a ≤ 0 → ax_W M d tgt lv st h Q) (kf : 0 < a → ax_W M d (pc + 3) lv st h Q) : ax_W M d pc lv (.int (iv a) :: st) h Q := by
  have hb : -2147483648 ≤ (0 : Int) ∧ (0 : Int) < 2147483648 := by omega
  exact ax_if_le tgt hd htg (fun c => kt ((iv_le ha hb).mp c)) (fun c => kf (by have := mt (iv_le ha hb).mpr c; omega))
theorem az_iald {a n : Nat} {g : Nat → Int} {z : Int} (hd : decode M.2.1 pc = .ok (.iaload, 1)) (ha : h[a]? = some (ia n g)) (h0 : 0 ≤ z) (h1 : z < n) (hn : n ≤ 100000000) (kk : ax_W M d (pc + 1) lv (.int (iv (g z.toNat)) :: st) h Q) : ax_W M d pc lv (.int (iv z) :: .ref a :: st) h Q :=
  ax_iald hd ha (iv_in h0 h1 hn) (by rw [iv_cl (by omega)]; exact kk)
theorem az_iast {a n : Nat} {g : Nat → Int} {z x : Int} (hd : decode M.2.1 pc = .ok (.iastore, 1)) (ha : h[a]? = some (ia n g)) (ha0 : 0 < a) (h0 : 0 ≤ z) (h1 : z < n) (hn : n ≤ 100000000) (kk : ax_W M d (pc + 1) lv st (h.set a (ia n (up g z.toNat x))) Q) : ax_W M d pc lv (.int (iv x) :: .int (iv z) :: .ref a :: st) h Q :=
  ax_iast hd ha ha0 (iv_in h0 h1 hn) (by rw [iv_cl (by omega), ia_up]; exact kk)
theorem az_alen {a n : Nat} {g : Nat → Int} (hd : decode M.2.1 pc = .ok (.arraylength, 1)) (ha : h[a]? = some (ia n g)) (kk : ax_W M d (pc + 1) lv (.int (iv n) :: st) h Q) : ax_W M d pc lv (.ref a :: st) h Q :=
  ax_alen (ty := .int) hd ha rfl (by have e : iv (n : Int) = Int32.ofNat n := Int32.ofInt_eq_ofNat; rw [e] at kk; exact kk)
end AXZ
end
section
/-! counting below a bound -/
def cnt (P : Nat → Bool) : Nat → Nat
  | 0 => 0
  | n + 1 => cnt P n + (if P n = true then 1 else 0)
theorem cnt_le (P : Nat → Bool) : ∀ n, cnt P n ≤ n
  | 0 => Nat.le_refl _
  | n + 1 => by
    have := cnt_le P n
    simp only [cnt]
    split <;> omega
theorem cnt_congr {P Q : Nat → Bool} : ∀ {n : Nat}, (∀ i, i < n → P i = Q i) → cnt P n = cnt Q n
  | 0, _ => rfl
  | n + 1, h => by
    simp only [cnt]
    rw [cnt_congr (fun i hi => h i (by omega)), h n (by omega)]
theorem cnt_mono {P Q : Nat → Bool} : ∀ {n : Nat}, (∀ i, i < n → P i = true → Q i = true) → cnt P n ≤ cnt Q n
  | 0, _ => Nat.le_refl _
  | n + 1, h => by
    have h1 := cnt_mono (n := n) (fun i hi => h i (by omega))
    have h2 := h n (by omega)
    simp only [cnt]
    by_cases hp : P n = true
    · rw [if_pos hp, if_pos (h2 hp)]; omega
    · rw [if_neg hp]; split <;> omega
theorem cnt_lt {P Q : Nat → Bool} : ∀ {n : Nat}, (∀ i, i < n → P i = true → Q i = true) → ∀ j, j < n → P j = false → Q j = true → cnt P n < cnt Q n
  | 0, _, j, hj, _, _ => by omega
  | n + 1, h, j, hj, hp, hq => by
    have h2 := h n (by omega)
    simp only [cnt]
    by_cases e : j = n
    · subst e
      have h1 := cnt_mono (n := j) (fun i hi => h i (by omega))
      rw [if_neg (by rw [hp]; decide), if_pos hq]; omega
    · have h1 := cnt_lt (n := n) (fun i hi => h i (by omega)) j (by omega) hp hq
      by_cases hpn : P n = true
      · rw [if_pos hpn, if_pos (h2 hpn)]; omega
      · rw [if_neg hpn]; split <;> omega
theorem cnt_true : ∀ n, cnt (fun _ => true) n = n
  | 0 => rfl
  | n + 1 => by simp only [cnt]; rw [cnt_true n]; simp
theorem cnt_false {P : Nat → Bool} : ∀ {n : Nat}, (∀ i, i < n → P i = false) → cnt P n = 0
  | 0, _ => rfl
  | n + 1, h => by
    simp only [cnt]
    rw [cnt_false (fun i hi => h i (by omega)), if_neg (by rw [h n (by omega)]; decide)]
theorem cnt_lt_n {P : Nat → Bool} {n j : Nat} (hj : j < n) (hp : P j = false) : cnt P n < n := by
  have := cnt_lt (P := P) (Q := fun _ => true) (n := n) (fun _ _ _ => rfl) j hj hp rfl
  rw [cnt_true] at this
  exact this
theorem cnt_or {P Q : Nat → Bool} : ∀ {n : Nat}, (∀ i, i < n → P i = true → Q i = false) → cnt (fun i => P i || Q i) n = cnt P n + cnt Q n
  | 0, _ => rfl
  | n + 1, h => by
    simp only [cnt]
    rw [cnt_or (fun i hi => h i (by omega))]
    have := h n (by omega)
    by_cases hp : P n = true
    · have hq := this hp
      simp [hp, hq]; omega
    · by_cases hq : Q n = true
      · simp [hp, hq]; omega
      · simp [hp, hq]
theorem cnt_split (P : Nat → Bool) (m : Nat) : ∀ n, m ≤ n → cnt P n = cnt P m + cnt (fun i => decide (m ≤ i) && P i) n
  | 0, h => by
    have : m = 0 := by omega
    subst this; rfl
  | n + 1, h => by
    by_cases e : m = n + 1
    · subst e
      have : cnt (fun i => decide (n + 1 ≤ i) && P i) (n + 1) = 0 := cnt_false (fun i hi => by
        have : ¬ n + 1 ≤ i := by omega
        simp [this])
      omega
    · have h1 := cnt_split P m n (by omega)
      simp only [cnt]
      have : decide (m ≤ n) = true := by simp; omega
      simp only [h1, this, Bool.true_and]
      omega
/-! pigeons -/
theorem pig : ∀ (n : Nat) (f : Nat → Nat), (∀ i, i < n → f i < n) → (∀ i j, i < n → j < n → f i = f j → i = j) → ∀ k, k < n → ∃ i, i < n ∧ f i = k
  | 0, _, _, _, k, hk => by omega
  | n + 1, f, hf, inj, k, hk => by
    by_cases hex : ∃ i, i < n + 1 ∧ f i = k
    · exact hex
    exfalso
    have hne : ∀ i, i < n + 1 → f i ≠ k := fun i hi e => hex ⟨i, hi, e⟩
    -- squeeze the values above k down by one
    let g : Nat → Nat := fun i => if f i < k then f i else f i - 1
    have hg : ∀ i, i < n → g i < n := by
      intro i hi
      have h1 := hf i (by omega)
      have h2 := hne i (by omega)
      show (if f i < k then f i else f i - 1) < n
      split <;> omega
    have ginj : ∀ i j, i < n + 1 → j < n + 1 → g i = g j → i = j := by
      intro i j hi hj e
      have h1 := hne i hi
      have h2 := hne j hj
      have e' : (if f i < k then f i else f i - 1) = (if f j < k then f j else f j - 1) := e
      apply inj i j hi hj
      split at e' <;> split at e' <;> omega
    have hgn : g n < n ∨ n = 0 := by
      have h1 := hf n (by omega)
      have h2 := hne n (by omega)
      by_cases hn : n = 0
      · exact Or.inr hn
      · left
        show (if f n < k then f n else f n - 1) < n
        split <;> omega
    rcases hgn with hgn | hn
    · obtain ⟨i, hi, e⟩ := pig n g hg (fun i j hi hj => ginj i j (by omega) (by omega)) (g n) hgn
      have := ginj i n (by omega) (by omega) e
      omega
    · subst hn
      have h1 := hf 0 (by omega)
      have h2 := hne 0 (by omega)
      omega
/-! places in a strict order of the numbers below n -/
def ord_ok (lt : Nat → Nat → Bool) (n : Nat) : Prop := (∀ p, p < n → lt p p = false) ∧ (∀ p q r, p < n → q < n → r < n → lt p q = true → lt q r = true → lt p r = true) ∧ ∀ p q, p < n → q < n → p ≠ q → lt p q = true ∨ lt q p = true
def plc (lt : Nat → Nat → Bool) (n p : Nat) : Nat := cnt (fun q => lt q p) n
theorem plc_lt_n {lt : Nat → Nat → Bool} {n p : Nat} (h : ord_ok lt n) (hp : p < n) : plc lt n p < n := cnt_lt_n hp (h.1 p hp)
theorem plc_mono {lt : Nat → Nat → Bool} {n p q : Nat} (h : ord_ok lt n) (hp : p < n) (hq : q < n) (hl : lt p q = true) : plc lt n p < plc lt n q :=
  cnt_lt (fun i hi hip => h.2.1 i p q hi hp hq hip hl) p hp (h.1 p hp) hl
theorem plc_iff {lt : Nat → Nat → Bool} {n p q : Nat} (h : ord_ok lt n) (hp : p < n) (hq : q < n) : plc lt n p < plc lt n q ↔ lt p q = true := by
  constructor
  · intro hl
    by_cases e : p = q
    · subst e; omega
    · rcases h.2.2 p q hp hq e with h1 | h1
      · exact h1
      · have := plc_mono h hq hp h1; omega
  · exact plc_mono h hp hq
theorem plc_inj {lt : Nat → Nat → Bool} {n p q : Nat} (h : ord_ok lt n) (hp : p < n) (hq : q < n) (e : plc lt n p = plc lt n q) : p = q := by
  by_cases hpq : p = q
  · exact hpq
  · rcases h.2.2 p q hp hq hpq with h1 | h1
    · have := plc_mono h hp hq h1; omega
    · have := plc_mono h hq hp h1; omega
theorem plc_onto {lt : Nat → Nat → Bool} {n k : Nat} (h : ord_ok lt n) (hk : k < n) : ∃ p, p < n ∧ plc lt n p = k :=
  pig n (plc lt n) (fun _ hi => plc_lt_n h hi) (fun _ _ hi hj e => plc_inj h hi hj e) k hk
end
