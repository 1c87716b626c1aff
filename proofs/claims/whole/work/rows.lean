section
-- ===== PART A: goes FIRST, ahead of the names: the tables' words, and 'selects' of the private methods out of them =====
/-- a private method of a class that the tables say can be made, by its rows of tables_1 -/
def lw_okq (q : MethodName × Nat) : Prop := (q.1.cls ≠ "java/lang/invoke/MethodHandle" ∧ q.1.cls ≠ "java/lang/invoke/VarHandle") ∧ Cond.instantiable q.1.cls q.2 ∈ tables_1 ∧ Cond.privateMethod q.1 ∈ tables_1 ∧ Cond.instanceMethod q.1 ∈ tables_1
theorem lw_p0 : lw_okq (⟨"MileLists$Scribe", "takeToken", "(LMileLists$Tape;ILMileLists$Route;)I"⟩, 3) := ⟨⟨by decide +kernel, by decide +kernel⟩, List.mem_of_getElem? (i := 65) (by decide +kernel), List.mem_of_getElem? (i := 352) (by decide +kernel), List.mem_of_getElem? (i := 353) (by decide +kernel)⟩
theorem lw_p1 : lw_okq (⟨"MileLists$Scribe", "takeWord", "(LMileLists$Tape;IILMileLists$Route;)V"⟩, 3) := ⟨⟨by decide +kernel, by decide +kernel⟩, List.mem_of_getElem? (i := 65) (by decide +kernel), List.mem_of_getElem? (i := 360) (by decide +kernel), List.mem_of_getElem? (i := 361) (by decide +kernel)⟩
theorem lw_p2 : lw_okq (⟨"MileLists$Scribe", "blame", "(II)V"⟩, 3) := ⟨⟨by decide +kernel, by decide +kernel⟩, List.mem_of_getElem? (i := 65) (by decide +kernel), List.mem_of_getElem? (i := 364) (by decide +kernel), List.mem_of_getElem? (i := 365) (by decide +kernel)⟩
theorem lw_p3 : lw_okq (⟨"MileLists$Scribe", "takeSigns", "(LMileLists$Tape;IILMileLists$Route;)V"⟩, 3) := ⟨⟨by decide +kernel, by decide +kernel⟩, List.mem_of_getElem? (i := 65) (by decide +kernel), List.mem_of_getElem? (i := 387) (by decide +kernel), List.mem_of_getElem? (i := 388) (by decide +kernel)⟩
theorem lw_p4 : lw_okq (⟨"MileLists", "takeName", "()Z"⟩, 11) := ⟨⟨by decide +kernel, by decide +kernel⟩, List.mem_of_getElem? (i := 20) (by decide +kernel), List.mem_of_getElem? (i := 407) (by decide +kernel), List.mem_of_getElem? (i := 408) (by decide +kernel)⟩
theorem lw_p5 : lw_okq (⟨"MileLists", "hasStation", "(II)Z"⟩, 11) := ⟨⟨by decide +kernel, by decide +kernel⟩, List.mem_of_getElem? (i := 20) (by decide +kernel), List.mem_of_getElem? (i := 482) (by decide +kernel), List.mem_of_getElem? (i := 483) (by decide +kernel)⟩
theorem lw_p6 : lw_okq (⟨"MileLists", "hasList", "(I)Z"⟩, 11) := ⟨⟨by decide +kernel, by decide +kernel⟩, List.mem_of_getElem? (i := 20) (by decide +kernel), List.mem_of_getElem? (i := 486) (by decide +kernel), List.mem_of_getElem? (i := 487) (by decide +kernel)⟩
theorem lw_p7 : lw_okq (⟨"MileLists$Sounds", "swapCost", "(II)I"⟩, 2) := ⟨⟨by decide +kernel, by decide +kernel⟩, List.mem_of_getElem? (i := 215) (by decide +kernel), List.mem_of_getElem? (i := 498) (by decide +kernel), List.mem_of_getElem? (i := 499) (by decide +kernel)⟩
theorem lw_p8 : lw_okq (⟨"MileLists", "hasNumeral", "(II)Z"⟩, 11) := ⟨⟨by decide +kernel, by decide +kernel⟩, List.mem_of_getElem? (i := 20) (by decide +kernel), List.mem_of_getElem? (i := 510) (by decide +kernel), List.mem_of_getElem? (i := 511) (by decide +kernel)⟩
theorem lw_p9 : lw_okq (⟨"MileLists$Readings", "put", "(II)V"⟩, 3) := ⟨⟨by decide +kernel, by decide +kernel⟩, List.mem_of_getElem? (i := 237) (by decide +kernel), List.mem_of_getElem? (i := 531) (by decide +kernel), List.mem_of_getElem? (i := 532) (by decide +kernel)⟩
theorem lw_p10 : lw_okq (⟨"MileLists$Readings", "find", "(I)I"⟩, 3) := ⟨⟨by decide +kernel, by decide +kernel⟩, List.mem_of_getElem? (i := 237) (by decide +kernel), List.mem_of_getElem? (i := 535) (by decide +kernel), List.mem_of_getElem? (i := 536) (by decide +kernel)⟩
theorem lw_p11 : lw_okq (⟨"MileLists$Habits", "worksIn", "(ILMileLists$Numeral;)Z"⟩, 4) := ⟨⟨by decide +kernel, by decide +kernel⟩, List.mem_of_getElem? (i := 193) (by decide +kernel), List.mem_of_getElem? (i := 544) (by decide +kernel), List.mem_of_getElem? (i := 545) (by decide +kernel)⟩
theorem lw_p12 : lw_okq (⟨"MileLists", "isKnownDay", "(I)Z"⟩, 11) := ⟨⟨by decide +kernel, by decide +kernel⟩, List.mem_of_getElem? (i := 20) (by decide +kernel), List.mem_of_getElem? (i := 566) (by decide +kernel), List.mem_of_getElem? (i := 567) (by decide +kernel)⟩
theorem lw_p13 : lw_okq (⟨"MileLists", "lay", "(II)Z"⟩, 11) := ⟨⟨by decide +kernel, by decide +kernel⟩, List.mem_of_getElem? (i := 20) (by decide +kernel), List.mem_of_getElem? (i := 570) (by decide +kernel), List.mem_of_getElem? (i := 571) (by decide +kernel)⟩
theorem lw_p14 : lw_okq (⟨"MileLists$Land", "addMoved", "([ILMileLists$Find;)V"⟩, 6) := ⟨⟨by decide +kernel, by decide +kernel⟩, List.mem_of_getElem? (i := 135) (by decide +kernel), List.mem_of_getElem? (i := 585) (by decide +kernel), List.mem_of_getElem? (i := 586) (by decide +kernel)⟩
theorem lw_p15 : lw_okq (⟨"MileLists$Placer", "leastOnward", "(II)I"⟩, 10) := ⟨⟨by decide +kernel, by decide +kernel⟩, List.mem_of_getElem? (i := 228) (by decide +kernel), List.mem_of_getElem? (i := 596) (by decide +kernel), List.mem_of_getElem? (i := 597) (by decide +kernel)⟩
def lw_privs_1 : List (MethodName × Nat) := [(⟨"MileLists$Scribe", "takeToken", "(LMileLists$Tape;ILMileLists$Route;)I"⟩, 3), (⟨"MileLists$Scribe", "takeWord", "(LMileLists$Tape;IILMileLists$Route;)V"⟩, 3), (⟨"MileLists$Scribe", "blame", "(II)V"⟩, 3), (⟨"MileLists$Scribe", "takeSigns", "(LMileLists$Tape;IILMileLists$Route;)V"⟩, 3), (⟨"MileLists", "takeName", "()Z"⟩, 11), (⟨"MileLists", "hasStation", "(II)Z"⟩, 11), (⟨"MileLists", "hasList", "(I)Z"⟩, 11), (⟨"MileLists$Sounds", "swapCost", "(II)I"⟩, 2), (⟨"MileLists", "hasNumeral", "(II)Z"⟩, 11), (⟨"MileLists$Readings", "put", "(II)V"⟩, 3), (⟨"MileLists$Readings", "find", "(I)I"⟩, 3), (⟨"MileLists$Habits", "worksIn", "(ILMileLists$Numeral;)Z"⟩, 4), (⟨"MileLists", "isKnownDay", "(I)Z"⟩, 11), (⟨"MileLists", "lay", "(II)Z"⟩, 11), (⟨"MileLists$Land", "addMoved", "([ILMileLists$Find;)V"⟩, 6), (⟨"MileLists$Placer", "leastOnward", "(II)I"⟩, 10)]
theorem lw_r1 : ∀ q ∈ lw_privs_1, lw_okq q := List.forall_mem_cons.mpr ⟨lw_p0, List.forall_mem_cons.mpr ⟨lw_p1, List.forall_mem_cons.mpr ⟨lw_p2, List.forall_mem_cons.mpr ⟨lw_p3, List.forall_mem_cons.mpr ⟨lw_p4, List.forall_mem_cons.mpr ⟨lw_p5, List.forall_mem_cons.mpr ⟨lw_p6, List.forall_mem_cons.mpr ⟨lw_p7, List.forall_mem_cons.mpr ⟨lw_p8, List.forall_mem_cons.mpr ⟨lw_p9, List.forall_mem_cons.mpr ⟨lw_p10, List.forall_mem_cons.mpr ⟨lw_p11, List.forall_mem_cons.mpr ⟨lw_p12, List.forall_mem_cons.mpr ⟨lw_p13, List.forall_mem_cons.mpr ⟨lw_p14, List.forall_mem_cons.mpr ⟨lw_p15, fun _ h => absurd h List.not_mem_nil⟩⟩⟩⟩⟩⟩⟩⟩⟩⟩⟩⟩⟩⟩⟩⟩
theorem lw_p16 : lw_okq (⟨"MileLists$Placer", "placeBehind", "(III)I"⟩, 10) := ⟨⟨by decide +kernel, by decide +kernel⟩, List.mem_of_getElem? (i := 228) (by decide +kernel), List.mem_of_getElem? (i := 601) (by decide +kernel), List.mem_of_getElem? (i := 602) (by decide +kernel)⟩
theorem lw_p17 : lw_okq (⟨"MileLists$Placer", "nextOfBest", "(II)I"⟩, 10) := ⟨⟨by decide +kernel, by decide +kernel⟩, List.mem_of_getElem? (i := 228) (by decide +kernel), List.mem_of_getElem? (i := 617) (by decide +kernel), List.mem_of_getElem? (i := 618) (by decide +kernel)⟩
theorem lw_p18 : lw_okq (⟨"MileLists$Placer", "dearerBy", "(IIII)I"⟩, 10) := ⟨⟨by decide +kernel, by decide +kernel⟩, List.mem_of_getElem? (i := 228) (by decide +kernel), List.mem_of_getElem? (i := 621) (by decide +kernel), List.mem_of_getElem? (i := 622) (by decide +kernel)⟩
theorem lw_p19 : lw_okq (⟨"MileLists$Placer", "stepBefore", "(II)V"⟩, 10) := ⟨⟨by decide +kernel, by decide +kernel⟩, List.mem_of_getElem? (i := 228) (by decide +kernel), List.mem_of_getElem? (i := 636) (by decide +kernel), List.mem_of_getElem? (i := 637) (by decide +kernel)⟩
theorem lw_p20 : lw_okq (⟨"MileLists$Placer", "isRival", "(III)Z"⟩, 10) := ⟨⟨by decide +kernel, by decide +kernel⟩, List.mem_of_getElem? (i := 228) (by decide +kernel), List.mem_of_getElem? (i := 644) (by decide +kernel), List.mem_of_getElem? (i := 645) (by decide +kernel)⟩
theorem lw_p21 : lw_okq (⟨"MileLists$Placer", "startWays", "(I)V"⟩, 10) := ⟨⟨by decide +kernel, by decide +kernel⟩, List.mem_of_getElem? (i := 228) (by decide +kernel), List.mem_of_getElem? (i := 660) (by decide +kernel), List.mem_of_getElem? (i := 661) (by decide +kernel)⟩
theorem lw_p22 : lw_okq (⟨"MileLists$Placer", "holdsWays", "(II)Z"⟩, 10) := ⟨⟨by decide +kernel, by decide +kernel⟩, List.mem_of_getElem? (i := 228) (by decide +kernel), List.mem_of_getElem? (i := 664) (by decide +kernel), List.mem_of_getElem? (i := 665) (by decide +kernel)⟩
theorem lw_p23 : lw_okq (⟨"MileLists$Placer", "stepWays", "(III)V"⟩, 10) := ⟨⟨by decide +kernel, by decide +kernel⟩, List.mem_of_getElem? (i := 228) (by decide +kernel), List.mem_of_getElem? (i := 668) (by decide +kernel), List.mem_of_getElem? (i := 669) (by decide +kernel)⟩
theorem lw_p24 : lw_okq (⟨"MileLists$Placer", "moveWays", "(IIII)V"⟩, 10) := ⟨⟨by decide +kernel, by decide +kernel⟩, List.mem_of_getElem? (i := 228) (by decide +kernel), List.mem_of_getElem? (i := 672) (by decide +kernel), List.mem_of_getElem? (i := 673) (by decide +kernel)⟩
theorem lw_p25 : lw_okq (⟨"MileLists", "markMisread", "(II)Z"⟩, 11) := ⟨⟨by decide +kernel, by decide +kernel⟩, List.mem_of_getElem? (i := 20) (by decide +kernel), List.mem_of_getElem? (i := 682) (by decide +kernel), List.mem_of_getElem? (i := 683) (by decide +kernel)⟩
theorem lw_p26 : lw_okq (⟨"MileLists$Route", "sameStep", "(ILMileLists$Route;I)Z"⟩, 5) := ⟨⟨by decide +kernel, by decide +kernel⟩, List.mem_of_getElem? (i := 84) (by decide +kernel), List.mem_of_getElem? (i := 695) (by decide +kernel), List.mem_of_getElem? (i := 696) (by decide +kernel)⟩
theorem lw_p27 : lw_okq (⟨"MileLists", "countOfRuin", "(I)I"⟩, 11) := ⟨⟨by decide +kernel, by decide +kernel⟩, List.mem_of_getElem? (i := 20) (by decide +kernel), List.mem_of_getElem? (i := 711) (by decide +kernel), List.mem_of_getElem? (i := 712) (by decide +kernel)⟩
theorem lw_p28 : lw_okq (⟨"java/lang/Throwable", "fillInStackTrace", "(I)Ljava/lang/Throwable;"⟩, 6) := ⟨⟨by decide +kernel, by decide +kernel⟩, List.mem_of_getElem? (i := 759) (by decide +kernel), List.mem_of_getElem? (i := 757) (by decide +kernel), List.mem_of_getElem? (i := 758) (by decide +kernel)⟩
theorem lw_p29 : lw_okq (⟨"MileListsModel", "station", "()Z"⟩, 40) := ⟨⟨by decide +kernel, by decide +kernel⟩, List.mem_of_getElem? (i := 791) (by decide +kernel), List.mem_of_getElem? (i := 941) (by decide +kernel), List.mem_of_getElem? (i := 942) (by decide +kernel)⟩
theorem lw_p30 : lw_okq (⟨"MileListsModel", "blanks", "()V"⟩, 40) := ⟨⟨by decide +kernel, by decide +kernel⟩, List.mem_of_getElem? (i := 791) (by decide +kernel), List.mem_of_getElem? (i := 945) (by decide +kernel), List.mem_of_getElem? (i := 946) (by decide +kernel)⟩
theorem lw_p31 : lw_okq (⟨"MileListsModel", "byteAt", "(I)I"⟩, 40) := ⟨⟨by decide +kernel, by decide +kernel⟩, List.mem_of_getElem? (i := 791) (by decide +kernel), List.mem_of_getElem? (i := 949) (by decide +kernel), List.mem_of_getElem? (i := 950) (by decide +kernel)⟩
def lw_privs_2 : List (MethodName × Nat) := [(⟨"MileLists$Placer", "placeBehind", "(III)I"⟩, 10), (⟨"MileLists$Placer", "nextOfBest", "(II)I"⟩, 10), (⟨"MileLists$Placer", "dearerBy", "(IIII)I"⟩, 10), (⟨"MileLists$Placer", "stepBefore", "(II)V"⟩, 10), (⟨"MileLists$Placer", "isRival", "(III)Z"⟩, 10), (⟨"MileLists$Placer", "startWays", "(I)V"⟩, 10), (⟨"MileLists$Placer", "holdsWays", "(II)Z"⟩, 10), (⟨"MileLists$Placer", "stepWays", "(III)V"⟩, 10), (⟨"MileLists$Placer", "moveWays", "(IIII)V"⟩, 10), (⟨"MileLists", "markMisread", "(II)Z"⟩, 11), (⟨"MileLists$Route", "sameStep", "(ILMileLists$Route;I)Z"⟩, 5), (⟨"MileLists", "countOfRuin", "(I)I"⟩, 11), (⟨"java/lang/Throwable", "fillInStackTrace", "(I)Ljava/lang/Throwable;"⟩, 6), (⟨"MileListsModel", "station", "()Z"⟩, 40), (⟨"MileListsModel", "blanks", "()V"⟩, 40), (⟨"MileListsModel", "byteAt", "(I)I"⟩, 40)]
theorem lw_r2 : ∀ q ∈ lw_privs_2, lw_okq q := List.forall_mem_cons.mpr ⟨lw_p16, List.forall_mem_cons.mpr ⟨lw_p17, List.forall_mem_cons.mpr ⟨lw_p18, List.forall_mem_cons.mpr ⟨lw_p19, List.forall_mem_cons.mpr ⟨lw_p20, List.forall_mem_cons.mpr ⟨lw_p21, List.forall_mem_cons.mpr ⟨lw_p22, List.forall_mem_cons.mpr ⟨lw_p23, List.forall_mem_cons.mpr ⟨lw_p24, List.forall_mem_cons.mpr ⟨lw_p25, List.forall_mem_cons.mpr ⟨lw_p26, List.forall_mem_cons.mpr ⟨lw_p27, List.forall_mem_cons.mpr ⟨lw_p28, List.forall_mem_cons.mpr ⟨lw_p29, List.forall_mem_cons.mpr ⟨lw_p30, List.forall_mem_cons.mpr ⟨lw_p31, fun _ h => absurd h List.not_mem_nil⟩⟩⟩⟩⟩⟩⟩⟩⟩⟩⟩⟩⟩⟩⟩⟩
theorem lw_p32 : lw_okq (⟨"MileListsModel", "nameOf", "(II)J"⟩, 40) := ⟨⟨by decide +kernel, by decide +kernel⟩, List.mem_of_getElem? (i := 791) (by decide +kernel), List.mem_of_getElem? (i := 953) (by decide +kernel), List.mem_of_getElem? (i := 954) (by decide +kernel)⟩
theorem lw_p33 : lw_okq (⟨"MileListsModel", "wrong", "(II)Z"⟩, 40) := ⟨⟨by decide +kernel, by decide +kernel⟩, List.mem_of_getElem? (i := 791) (by decide +kernel), List.mem_of_getElem? (i := 957) (by decide +kernel), List.mem_of_getElem? (i := 958) (by decide +kernel)⟩
theorem lw_p34 : lw_okq (⟨"MileListsModel", "numeral", "()Z"⟩, 40) := ⟨⟨by decide +kernel, by decide +kernel⟩, List.mem_of_getElem? (i := 791) (by decide +kernel), List.mem_of_getElem? (i := 961) (by decide +kernel), List.mem_of_getElem? (i := 962) (by decide +kernel)⟩
theorem lw_p35 : lw_okq (⟨"MileListsModel", "tapeName", "()J"⟩, 40) := ⟨⟨by decide +kernel, by decide +kernel⟩, List.mem_of_getElem? (i := 791) (by decide +kernel), List.mem_of_getElem? (i := 976) (by decide +kernel), List.mem_of_getElem? (i := 977) (by decide +kernel)⟩
theorem lw_p36 : lw_okq (⟨"MileListsModel", "isStation", "(II)Z"⟩, 40) := ⟨⟨by decide +kernel, by decide +kernel⟩, List.mem_of_getElem? (i := 791) (by decide +kernel), List.mem_of_getElem? (i := 1001) (by decide +kernel), List.mem_of_getElem? (i := 1002) (by decide +kernel)⟩
theorem lw_p37 : lw_okq (⟨"MileListsModel", "isList", "(I)Z"⟩, 40) := ⟨⟨by decide +kernel, by decide +kernel⟩, List.mem_of_getElem? (i := 791) (by decide +kernel), List.mem_of_getElem? (i := 1005) (by decide +kernel), List.mem_of_getElem? (i := 1006) (by decide +kernel)⟩
theorem lw_p38 : lw_okq (⟨"MileListsModel", "apart", "(JJ)I"⟩, 40) := ⟨⟨by decide +kernel, by decide +kernel⟩, List.mem_of_getElem? (i := 791) (by decide +kernel), List.mem_of_getElem? (i := 1009) (by decide +kernel), List.mem_of_getElem? (i := 1010) (by decide +kernel)⟩
theorem lw_p39 : lw_okq (⟨"MileListsModel", "swap", "(II)I"⟩, 40) := ⟨⟨by decide +kernel, by decide +kernel⟩, List.mem_of_getElem? (i := 791) (by decide +kernel), List.mem_of_getElem? (i := 1023) (by decide +kernel), List.mem_of_getElem? (i := 1024) (by decide +kernel)⟩
theorem lw_p40 : lw_okq (⟨"MileListsModel", "costOf", "(III)I"⟩, 40) := ⟨⟨by decide +kernel, by decide +kernel⟩, List.mem_of_getElem? (i := 791) (by decide +kernel), List.mem_of_getElem? (i := 1031) (by decide +kernel), List.mem_of_getElem? (i := 1032) (by decide +kernel)⟩
theorem lw_p41 : lw_okq (⟨"MileListsModel", "valueOf", "(II)I"⟩, 40) := ⟨⟨by decide +kernel, by decide +kernel⟩, List.mem_of_getElem? (i := 791) (by decide +kernel), List.mem_of_getElem? (i := 1035) (by decide +kernel), List.mem_of_getElem? (i := 1036) (by decide +kernel)⟩
theorem lw_p42 : lw_okq (⟨"MileListsModel", "canBe", "(III)Z"⟩, 40) := ⟨⟨by decide +kernel, by decide +kernel⟩, List.mem_of_getElem? (i := 791) (by decide +kernel), List.mem_of_getElem? (i := 1043) (by decide +kernel), List.mem_of_getElem? (i := 1044) (by decide +kernel)⟩
theorem lw_p43 : lw_okq (⟨"MileListsModel", "first", "(II)I"⟩, 40) := ⟨⟨by decide +kernel, by decide +kernel⟩, List.mem_of_getElem? (i := 791) (by decide +kernel), List.mem_of_getElem? (i := 1047) (by decide +kernel), List.mem_of_getElem? (i := 1048) (by decide +kernel)⟩
theorem lw_p44 : lw_okq (⟨"MileListsModel", "isAsked", "(II)Z"⟩, 40) := ⟨⟨by decide +kernel, by decide +kernel⟩, List.mem_of_getElem? (i := 791) (by decide +kernel), List.mem_of_getElem? (i := 1055) (by decide +kernel), List.mem_of_getElem? (i := 1056) (by decide +kernel)⟩
theorem lw_p45 : lw_okq (⟨"MileListsModel", "lays", "(II)I"⟩, 40) := ⟨⟨by decide +kernel, by decide +kernel⟩, List.mem_of_getElem? (i := 791) (by decide +kernel), List.mem_of_getElem? (i := 1059) (by decide +kernel), List.mem_of_getElem? (i := 1060) (by decide +kernel)⟩
theorem lw_p46 : lw_okq (⟨"MileListsModel", "reads", "(I)V"⟩, 40) := ⟨⟨by decide +kernel, by decide +kernel⟩, List.mem_of_getElem? (i := 791) (by decide +kernel), List.mem_of_getElem? (i := 1063) (by decide +kernel), List.mem_of_getElem? (i := 1064) (by decide +kernel)⟩
theorem lw_p47 : lw_okq (⟨"MileListsModel", "adds", "(III)V"⟩, 40) := ⟨⟨by decide +kernel, by decide +kernel⟩, List.mem_of_getElem? (i := 791) (by decide +kernel), List.mem_of_getElem? (i := 1067) (by decide +kernel), List.mem_of_getElem? (i := 1068) (by decide +kernel)⟩
def lw_privs_3 : List (MethodName × Nat) := [(⟨"MileListsModel", "nameOf", "(II)J"⟩, 40), (⟨"MileListsModel", "wrong", "(II)Z"⟩, 40), (⟨"MileListsModel", "numeral", "()Z"⟩, 40), (⟨"MileListsModel", "tapeName", "()J"⟩, 40), (⟨"MileListsModel", "isStation", "(II)Z"⟩, 40), (⟨"MileListsModel", "isList", "(I)Z"⟩, 40), (⟨"MileListsModel", "apart", "(JJ)I"⟩, 40), (⟨"MileListsModel", "swap", "(II)I"⟩, 40), (⟨"MileListsModel", "costOf", "(III)I"⟩, 40), (⟨"MileListsModel", "valueOf", "(II)I"⟩, 40), (⟨"MileListsModel", "canBe", "(III)Z"⟩, 40), (⟨"MileListsModel", "first", "(II)I"⟩, 40), (⟨"MileListsModel", "isAsked", "(II)Z"⟩, 40), (⟨"MileListsModel", "lays", "(II)I"⟩, 40), (⟨"MileListsModel", "reads", "(I)V"⟩, 40), (⟨"MileListsModel", "adds", "(III)V"⟩, 40)]
theorem lw_r3 : ∀ q ∈ lw_privs_3, lw_okq q := List.forall_mem_cons.mpr ⟨lw_p32, List.forall_mem_cons.mpr ⟨lw_p33, List.forall_mem_cons.mpr ⟨lw_p34, List.forall_mem_cons.mpr ⟨lw_p35, List.forall_mem_cons.mpr ⟨lw_p36, List.forall_mem_cons.mpr ⟨lw_p37, List.forall_mem_cons.mpr ⟨lw_p38, List.forall_mem_cons.mpr ⟨lw_p39, List.forall_mem_cons.mpr ⟨lw_p40, List.forall_mem_cons.mpr ⟨lw_p41, List.forall_mem_cons.mpr ⟨lw_p42, List.forall_mem_cons.mpr ⟨lw_p43, List.forall_mem_cons.mpr ⟨lw_p44, List.forall_mem_cons.mpr ⟨lw_p45, List.forall_mem_cons.mpr ⟨lw_p46, List.forall_mem_cons.mpr ⟨lw_p47, fun _ h => absurd h List.not_mem_nil⟩⟩⟩⟩⟩⟩⟩⟩⟩⟩⟩⟩⟩⟩⟩⟩
theorem lw_p48 : lw_okq (⟨"MileListsModel", "ownCost", "(IIII)I"⟩, 40) := ⟨⟨by decide +kernel, by decide +kernel⟩, List.mem_of_getElem? (i := 791) (by decide +kernel), List.mem_of_getElem? (i := 1071) (by decide +kernel), List.mem_of_getElem? (i := 1072) (by decide +kernel)⟩
theorem lw_p49 : lw_okq (⟨"MileListsModel", "bests", "(II)Z"⟩, 40) := ⟨⟨by decide +kernel, by decide +kernel⟩, List.mem_of_getElem? (i := 791) (by decide +kernel), List.mem_of_getElem? (i := 1079) (by decide +kernel), List.mem_of_getElem? (i := 1080) (by decide +kernel)⟩
theorem lw_p50 : lw_okq (⟨"MileListsModel", "goesAhead", "(I)V"⟩, 40) := ⟨⟨by decide +kernel, by decide +kernel⟩, List.mem_of_getElem? (i := 791) (by decide +kernel), List.mem_of_getElem? (i := 1087) (by decide +kernel), List.mem_of_getElem? (i := 1088) (by decide +kernel)⟩
theorem lw_p51 : lw_okq (⟨"MileListsModel", "joins", "(IIIII)V"⟩, 40) := ⟨⟨by decide +kernel, by decide +kernel⟩, List.mem_of_getElem? (i := 791) (by decide +kernel), List.mem_of_getElem? (i := 1095) (by decide +kernel), List.mem_of_getElem? (i := 1096) (by decide +kernel)⟩
theorem lw_p52 : lw_okq (⟨"MileListsModel", "areSame", "(II)Z"⟩, 40) := ⟨⟨by decide +kernel, by decide +kernel⟩, List.mem_of_getElem? (i := 791) (by decide +kernel), List.mem_of_getElem? (i := 1104) (by decide +kernel), List.mem_of_getElem? (i := 1105) (by decide +kernel)⟩
def lw_privs_4 : List (MethodName × Nat) := [(⟨"MileListsModel", "ownCost", "(IIII)I"⟩, 40), (⟨"MileListsModel", "bests", "(II)Z"⟩, 40), (⟨"MileListsModel", "goesAhead", "(I)V"⟩, 40), (⟨"MileListsModel", "joins", "(IIIII)V"⟩, 40), (⟨"MileListsModel", "areSame", "(II)Z"⟩, 40)]
theorem lw_r4 : ∀ q ∈ lw_privs_4, lw_okq q := List.forall_mem_cons.mpr ⟨lw_p48, List.forall_mem_cons.mpr ⟨lw_p49, List.forall_mem_cons.mpr ⟨lw_p50, List.forall_mem_cons.mpr ⟨lw_p51, List.forall_mem_cons.mpr ⟨lw_p52, fun _ h => absurd h List.not_mem_nil⟩⟩⟩⟩⟩
def lw_privs : List (MethodName × Nat) := lw_privs_1 ++ (lw_privs_2 ++ (lw_privs_3 ++ (lw_privs_4)))
def lw_tbl : List Cond := k2_sels lw_privs ++ tables_1
theorem lw_privs_ok : ∀ q ∈ lw_privs, lw_okq q := by
  show ∀ q ∈ lw_privs_1 ++ (lw_privs_2 ++ (lw_privs_3 ++ (lw_privs_4))), lw_okq q
  exact List.forall_mem_append.mpr ⟨lw_r1, List.forall_mem_append.mpr ⟨lw_r2, List.forall_mem_append.mpr ⟨lw_r3, lw_r4⟩⟩⟩
end
section
/-! ===== BEGIN words of one list among another's, by their places ===== -/
theorem goodIn_r {big : List Cond} (ws : List Cond) (ps : List Nat) (hp : ws = ps.filterMap (fun i => big[i]?)) (h : ws.all goodWord = true) : GoodIn big ws := by
  intro w hw
  have h1 := List.all_eq_true.mp h w hw
  rw [hp] at hw
  obtain ⟨i, -, hi⟩ := List.mem_filterMap.mp hw
  have hm : w ∈ big := by first | exact List.mem_of_getElem? hi | exact List.getElem?_mem hi
  exact ⟨hm, good_of_word h1⟩
theorem goodIn_app {big a b : List Cond} (ha : GoodIn big a) (hb : GoodIn big b) : GoodIn big (a ++ b) := fun w h => (List.mem_append.mp h).elim (ha w) (hb w)
theorem goodIn_ca {big a b : List Cond} {c : Cond} (ha : GoodIn big (c :: a)) (hb : GoodIn big b) : GoodIn big (c :: (a ++ b)) := fun w h => (List.mem_cons.mp h).elim (fun e => ha w (List.mem_cons.mpr (Or.inl e))) (fun h => (List.mem_append.mp h).elim (fun h => ha w (List.mem_cons.mpr (Or.inr h))) (hb w))
theorem goodIn_sub {big ws : List Cond} (hm : ∀ w ∈ ws, w ∈ big) (h : ws.all goodWord = true) : GoodIn big ws := fun w hw => ⟨hm w hw, good_of_word (List.all_eq_true.mp h w hw)⟩
/-! ===== END ===== -/
def RX0 : String := "MileLists$Find"
def TX0 : u_T := fun k => match k with
  | 0 => ("MileLists$Find", "name", "LMileLists$Name;", true)
  | 1 => ("MileLists$Find", "place", "I", false)
  | 2 => ("MileLists$Find", "reach", "I", false)
  | _ => ("MileLists$Find", "found", "I", false)
def tyX0 : Nat → FieldType := fun k => match k with
  | 0 => .object "MileLists$Name"
  | 1 => .int
  | 2 => .int
  | _ => .int
abbrev wsX00 : List Cond := u_ws RX0 TX0 4
theorem nmX0 : ∀ a, a < 4 → ∀ b, b < 4 → a ≠ b → (TX0 a).2.1 ≠ (TX0 b).2.1 := by decide +kernel
theorem tyX0_ok : ∀ k, k < 4 → parseFieldDescriptor (TX0 k).2.2.1 = some (tyX0 k) := by decide +kernel
abbrev cX0_init : ByteArray := prog_2_method_1_code
def yX0_init : MethodName := ⟨RX0, "<init>", "()V"⟩
abbrev cX0_set : ByteArray := prog_2_method_2_code
def yX0_set : MethodName := ⟨RX0, "set", "(LMileLists$Name;III)V"⟩
def RX1 : String := "MileLists$Habits"
def TX1 : u_T := fun k => match k with
  | 0 => ("MileLists$Habits", "truly", "[I", true)
  | 1 => ("MileLists$Habits", "written", "[I", true)
  | 2 => ("MileLists$Habits", "costs", "[I", true)
  | _ => ("MileLists$Habits", "size", "I", false)
def tyX1 : Nat → FieldType := fun k => match k with
  | 0 => .array .int
  | 1 => .array .int
  | 2 => .array .int
  | _ => .int
abbrev wsX10 : List Cond := u_ws RX1 TX1 4
theorem nmX1 : ∀ a, a < 4 → ∀ b, b < 4 → a ≠ b → (TX1 a).2.1 ≠ (TX1 b).2.1 := by decide +kernel
theorem tyX1_ok : ∀ k, k < 4 → parseFieldDescriptor (TX1 k).2.2.1 = some (tyX1 k) := by decide +kernel
abbrev cX1_init : ByteArray := prog_3_method_1_code
def yX1_init : MethodName := ⟨RX1, "<init>", "()V"⟩
abbrev cX1_add : ByteArray := prog_3_method_2_code
def yX1_add : MethodName := ⟨RX1, "add", "(III)I"⟩
abbrev cX1_valueBy : ByteArray := prog_3_method_3_code
def yX1_valueBy : MethodName := ⟨RX1, "valueBy", "(ILMileLists$Numeral;)I"⟩
abbrev cX1_worksIn : ByteArray := prog_3_method_4_code
def yX1_worksIn : MethodName := ⟨RX1, "worksIn", "(ILMileLists$Numeral;)Z"⟩
def RX2 : String := "MileLists$Land"
def TX2 : u_T := fun k => match k with
  | 0 => ("MileLists$Land", "ruins", "[LMileLists$Find;", true)
  | 1 => ("MileLists$Land", "stones", "[LMileLists$Find;", true)
  | 2 => ("MileLists$Land", "ruinCount", "I", false)
  | 3 => ("MileLists$Land", "stoneCount", "I", false)
  | 4 => ("MileLists$Land", "lost", "I", false)
  | _ => ("MileLists$Land", "moved", "I", false)
def tyX2 : Nat → FieldType := fun k => match k with
  | 0 => .array (.object "MileLists$Find")
  | 1 => .array (.object "MileLists$Find")
  | 2 => .int
  | 3 => .int
  | 4 => .int
  | _ => .int
abbrev wsX20 : List Cond := u_ws RX2 TX2 6
theorem nmX2 : ∀ a, a < 6 → ∀ b, b < 6 → a ≠ b → (TX2 a).2.1 ≠ (TX2 b).2.1 := by decide +kernel
theorem tyX2_ok : ∀ k, k < 6 → parseFieldDescriptor (TX2 k).2.2.1 = some (tyX2 k) := by decide +kernel
abbrev cX2_init : ByteArray := prog_4_method_1_code
def yX2_init : MethodName := ⟨RX2, "<init>", "()V"⟩
abbrev cX2_hasRuinAt : ByteArray := prog_4_method_2_code
def yX2_hasRuinAt : MethodName := ⟨RX2, "hasRuinAt", "(I)Z"⟩
abbrev cX2_addRuin : ByteArray := prog_4_method_3_code
def yX2_addRuin : MethodName := ⟨RX2, "addRuin", "(LMileLists$Name;II)I"⟩
abbrev cX2_addStone : ByteArray := prog_4_method_4_code
def yX2_addStone : MethodName := ⟨RX2, "addStone", "(LMileLists$Name;III)I"⟩
abbrev cX2_fillCosts : ByteArray := prog_4_method_5_code
def yX2_fillCosts : MethodName := ⟨RX2, "fillCosts", "([ILMileLists$Name;ILMileLists$Sounds;)V"⟩
abbrev cX2_addMoved : ByteArray := prog_4_method_6_code
def yX2_addMoved : MethodName := ⟨RX2, "addMoved", "([ILMileLists$Find;)V"⟩
def RX3 : String := "MileLists$Name"
def TX3 : u_T := fun k => match k with
  | 0 => ("MileLists$Name", "letters", "[I", true)
  | _ => ("MileLists$Name", "size", "I", false)
def tyX3 : Nat → FieldType := fun k => match k with
  | 0 => .array .int
  | _ => .int
abbrev wsX30 : List Cond := u_ws RX3 TX3 2
theorem nmX3 : ∀ a, a < 2 → ∀ b, b < 2 → a ≠ b → (TX3 a).2.1 ≠ (TX3 b).2.1 := by decide +kernel
theorem tyX3_ok : ∀ k, k < 2 → parseFieldDescriptor (TX3 k).2.2.1 = some (tyX3 k) := by decide +kernel
abbrev cX3_init : ByteArray := prog_5_method_1_code
def yX3_init : MethodName := ⟨RX3, "<init>", "()V"⟩
abbrev cX3_take : ByteArray := prog_5_method_2_code
def yX3_take : MethodName := ⟨RX3, "take", "(LMileLists$Tape;II)V"⟩
abbrev cX3_copy : ByteArray := prog_5_method_3_code
def yX3_copy : MethodName := ⟨RX3, "copy", "(LMileLists$Name;)V"⟩
abbrev cX3_same : ByteArray := prog_5_method_4_code
def yX3_same : MethodName := ⟨RX3, "same", "(LMileLists$Name;)Z"⟩
def RX4 : String := "MileLists$Numeral"
def TX4 : u_T := fun k => match k with
  | 0 => ("MileLists$Numeral", "signs", "[I", true)
  | _ => ("MileLists$Numeral", "size", "I", false)
def tyX4 : Nat → FieldType := fun k => match k with
  | 0 => .array .int
  | _ => .int
abbrev wsX40 : List Cond := u_ws RX4 TX4 2
theorem nmX4 : ∀ a, a < 2 → ∀ b, b < 2 → a ≠ b → (TX4 a).2.1 ≠ (TX4 b).2.1 := by decide +kernel
theorem tyX4_ok : ∀ k, k < 2 → parseFieldDescriptor (TX4 k).2.2.1 = some (tyX4 k) := by decide +kernel
abbrev cX4_init : ByteArray := prog_6_method_1_code
def yX4_init : MethodName := ⟨RX4, "<init>", "()V"⟩
abbrev cX4_take : ByteArray := prog_6_method_2_code
def yX4_take : MethodName := ⟨RX4, "take", "(LMileLists$Tape;II)Z"⟩
abbrev cX4_value : ByteArray := prog_6_method_3_code
def yX4_value : MethodName := ⟨RX4, "value", "()I"⟩
abbrev cX4_same : ByteArray := prog_6_method_4_code
def yX4_same : MethodName := ⟨RX4, "same", "(LMileLists$Numeral;)Z"⟩
abbrev cX4_holds : ByteArray := prog_6_method_5_code
def yX4_holds : MethodName := ⟨RX4, "holds", "(I)Z"⟩
abbrev cX4_canSwap : ByteArray := prog_6_method_6_code
def yX4_canSwap : MethodName := ⟨RX4, "canSwap", "(II)Z"⟩
def RX5 : String := "MileLists$Placer"
def TX5 : u_T := fun k => match k with
  | 0 => ("MileLists$Placer", "own", "[[I", true)
  | 1 => ("MileLists$Placer", "rest", "[[I", true)
  | 2 => ("MileLists$Placer", "before", "[I", true)
  | 3 => ("MileLists$Placer", "ways", "[J", true)
  | 4 => ("MileLists$Placer", "readings", "[LMileLists$Readings;", true)
  | 5 => ("MileLists$Placer", "asked", "LMileLists$Readings;", true)
  | 6 => ("MileLists$Placer", "bestPlaces", "[I", true)
  | 7 => ("MileLists$Placer", "stations", "I", false)
  | 8 => ("MileLists$Placer", "unit", "I", false)
  | _ => ("MileLists$Placer", "least", "I", false)
def tyX5 : Nat → FieldType := fun k => match k with
  | 0 => .array (.array .int)
  | 1 => .array (.array .int)
  | 2 => .array .int
  | 3 => .array .long
  | 4 => .array (.object "MileLists$Readings")
  | 5 => .object "MileLists$Readings"
  | 6 => .array .int
  | 7 => .int
  | 8 => .int
  | _ => .int
abbrev wsX50 : List Cond := u_ws RX5 TX5 10
theorem nmX5 : ∀ a, a < 10 → ∀ b, b < 10 → a ≠ b → (TX5 a).2.1 ≠ (TX5 b).2.1 := by decide +kernel
theorem tyX5_ok : ∀ k, k < 10 → parseFieldDescriptor (TX5 k).2.2.1 = some (tyX5 k) := by decide +kernel
abbrev cX5_init : ByteArray := prog_7_method_1_code
def yX5_init : MethodName := ⟨RX5, "<init>", "()V"⟩
abbrev cX5_costOfValue : ByteArray := prog_7_method_2_code
def yX5_costOfValue : MethodName := ⟨RX5, "costOfValue", "(LMileLists$Numeral;LMileLists$Habits;I)I"⟩
abbrev cX5_takeRoute : ByteArray := prog_7_method_3_code
def yX5_takeRoute : MethodName := ⟨RX5, "takeRoute", "(LMileLists$Route;LMileLists$Habits;)V"⟩
abbrev cX5_hasPlacing : ByteArray := prog_7_method_4_code
def yX5_hasPlacing : MethodName := ⟨RX5, "hasPlacing", "()Z"⟩
abbrev cX5_fillRest : ByteArray := prog_7_method_5_code
def yX5_fillRest : MethodName := ⟨RX5, "fillRest", "()V"⟩
abbrev cX5_leastOnward : ByteArray := prog_7_method_6_code
def yX5_leastOnward : MethodName := ⟨RX5, "leastOnward", "(II)I"⟩
abbrev cX5_placeBehind : ByteArray := prog_7_method_7_code
def yX5_placeBehind : MethodName := ⟨RX5, "placeBehind", "(III)I"⟩
abbrev cX5_dearerBy : ByteArray := prog_7_method_8_code
def yX5_dearerBy : MethodName := ⟨RX5, "dearerBy", "(IIII)I"⟩
abbrev cX5_walkBest : ByteArray := prog_7_method_9_code
def yX5_walkBest : MethodName := ⟨RX5, "walkBest", "()V"⟩
abbrev cX5_nextOfBest : ByteArray := prog_7_method_10_code
def yX5_nextOfBest : MethodName := ⟨RX5, "nextOfBest", "(II)I"⟩
abbrev cX5_fillBefore : ByteArray := prog_7_method_11_code
def yX5_fillBefore : MethodName := ⟨RX5, "fillBefore", "(I)V"⟩
abbrev cX5_stepBefore : ByteArray := prog_7_method_12_code
def yX5_stepBefore : MethodName := ⟨RX5, "stepBefore", "(II)V"⟩
abbrev cX5_leastPlace : ByteArray := prog_7_method_13_code
def yX5_leastPlace : MethodName := ⟨RX5, "leastPlace", "(II)I"⟩
abbrev cX5_greatestPlace : ByteArray := prog_7_method_14_code
def yX5_greatestPlace : MethodName := ⟨RX5, "greatestPlace", "(II)I"⟩
abbrev cX5_isRival : ByteArray := prog_7_method_15_code
def yX5_isRival : MethodName := ⟨RX5, "isRival", "(III)Z"⟩
abbrev cX5_countWithin : ByteArray := prog_7_method_16_code
def yX5_countWithin : MethodName := ⟨RX5, "countWithin", "(I)J"⟩
abbrev cX5_startWays : ByteArray := prog_7_method_17_code
def yX5_startWays : MethodName := ⟨RX5, "startWays", "(I)V"⟩
abbrev cX5_holdsWays : ByteArray := prog_7_method_18_code
def yX5_holdsWays : MethodName := ⟨RX5, "holdsWays", "(II)Z"⟩
abbrev cX5_stepWays : ByteArray := prog_7_method_19_code
def yX5_stepWays : MethodName := ⟨RX5, "stepWays", "(III)V"⟩
abbrev cX5_moveWays : ByteArray := prog_7_method_20_code
def yX5_moveWays : MethodName := ⟨RX5, "moveWays", "(IIII)V"⟩
def RX6 : String := "MileLists$Readings"
def TX6 : u_T := fun k => match k with
  | 0 => ("MileLists$Readings", "values", "[I", true)
  | 1 => ("MileLists$Readings", "costs", "[I", true)
  | _ => ("MileLists$Readings", "size", "I", false)
def tyX6 : Nat → FieldType := fun k => match k with
  | 0 => .array .int
  | 1 => .array .int
  | _ => .int
abbrev wsX60 : List Cond := u_ws RX6 TX6 3
theorem nmX6 : ∀ a, a < 3 → ∀ b, b < 3 → a ≠ b → (TX6 a).2.1 ≠ (TX6 b).2.1 := by decide +kernel
theorem tyX6_ok : ∀ k, k < 3 → parseFieldDescriptor (TX6 k).2.2.1 = some (tyX6 k) := by decide +kernel
abbrev cX6_init : ByteArray := prog_8_method_1_code
def yX6_init : MethodName := ⟨RX6, "<init>", "()V"⟩
abbrev cX6_gather : ByteArray := prog_8_method_2_code
def yX6_gather : MethodName := ⟨RX6, "gather", "(LMileLists$Numeral;LMileLists$Habits;)V"⟩
abbrev cX6_costOf : ByteArray := prog_8_method_3_code
def yX6_costOf : MethodName := ⟨RX6, "costOf", "(I)I"⟩
abbrev cX6_put : ByteArray := prog_8_method_4_code
def yX6_put : MethodName := ⟨RX6, "put", "(II)V"⟩
abbrev cX6_find : ByteArray := prog_8_method_5_code
def yX6_find : MethodName := ⟨RX6, "find", "(I)I"⟩
def RX7 : String := "MileLists$Route"
def TX7 : u_T := fun k => match k with
  | 0 => ("MileLists$Route", "names", "[LMileLists$Name;", true)
  | 1 => ("MileLists$Route", "numerals", "[LMileLists$Numeral;", true)
  | 2 => ("MileLists$Route", "misread", "[Z", true)
  | 3 => ("MileLists$Route", "unit", "I", false)
  | _ => ("MileLists$Route", "stations", "I", false)
def tyX7 : Nat → FieldType := fun k => match k with
  | 0 => .array (.object "MileLists$Name")
  | 1 => .array (.object "MileLists$Numeral")
  | 2 => .array .boolean
  | 3 => .int
  | _ => .int
abbrev wsX70 : List Cond := u_ws RX7 TX7 5
theorem nmX7 : ∀ a, a < 5 → ∀ b, b < 5 → a ≠ b → (TX7 a).2.1 ≠ (TX7 b).2.1 := by decide +kernel
theorem tyX7_ok : ∀ k, k < 5 → parseFieldDescriptor (TX7 k).2.2.1 = some (tyX7 k) := by decide +kernel
abbrev cX7_init : ByteArray := prog_9_method_1_code
def yX7_init : MethodName := ⟨RX7, "<init>", "()V"⟩
abbrev cX7_hasStation : ByteArray := prog_9_method_2_code
def yX7_hasStation : MethodName := ⟨RX7, "hasStation", "(I)Z"⟩
abbrev cX7_hasNumeral : ByteArray := prog_9_method_3_code
def yX7_hasNumeral : MethodName := ⟨RX7, "hasNumeral", "(I)Z"⟩
abbrev cX7_hasNameAhead : ByteArray := prog_9_method_4_code
def yX7_hasNameAhead : MethodName := ⟨RX7, "hasNameAhead", "(I)Z"⟩
abbrev cX7_markMisread : ByteArray := prog_9_method_5_code
def yX7_markMisread : MethodName := ⟨RX7, "markMisread", "([I)V"⟩
abbrev cX7_countShared : ByteArray := prog_9_method_6_code
def yX7_countShared : MethodName := ⟨RX7, "countShared", "(LMileLists$Route;)I"⟩
abbrev cX7_sameStep : ByteArray := prog_9_method_7_code
def yX7_sameStep : MethodName := ⟨RX7, "sameStep", "(ILMileLists$Route;I)Z"⟩
def RX8 : String := "MileLists$Scribe"
def TX8 : u_T := fun k => match k with
  | 0 => ("MileLists$Scribe", "fault", "I", false)
  | 1 => ("MileLists$Scribe", "faultPlace", "I", false)
  | _ => ("MileLists$Scribe", "awaitsName", "Z", false)
def tyX8 : Nat → FieldType := fun k => match k with
  | 0 => .int
  | 1 => .int
  | _ => .boolean
abbrev wsX80 : List Cond := u_ws RX8 TX8 3
theorem nmX8 : ∀ a, a < 3 → ∀ b, b < 3 → a ≠ b → (TX8 a).2.1 ≠ (TX8 b).2.1 := by decide +kernel
theorem tyX8_ok : ∀ k, k < 3 → parseFieldDescriptor (TX8 k).2.2.1 = some (tyX8 k) := by decide +kernel
abbrev cX8_init : ByteArray := prog_10_method_1_code
def yX8_init : MethodName := ⟨RX8, "<init>", "()V"⟩
abbrev cX8_readText : ByteArray := prog_10_method_2_code
def yX8_readText : MethodName := ⟨RX8, "readText", "(LMileLists$Tape;LMileLists$Route;)V"⟩
abbrev cX8_takeToken : ByteArray := prog_10_method_3_code
def yX8_takeToken : MethodName := ⟨RX8, "takeToken", "(LMileLists$Tape;ILMileLists$Route;)I"⟩
abbrev cX8_takeWord : ByteArray := prog_10_method_4_code
def yX8_takeWord : MethodName := ⟨RX8, "takeWord", "(LMileLists$Tape;IILMileLists$Route;)V"⟩
abbrev cX8_takeSigns : ByteArray := prog_10_method_5_code
def yX8_takeSigns : MethodName := ⟨RX8, "takeSigns", "(LMileLists$Tape;IILMileLists$Route;)V"⟩
abbrev cX8_blame : ByteArray := prog_10_method_6_code
def yX8_blame : MethodName := ⟨RX8, "blame", "(II)V"⟩
def RX9 : String := "MileLists$Sounds"
def TX9 : u_T := fun k => match k with
  | 0 => ("MileLists$Sounds", "groups", "[I", true)
  | _ => ("MileLists$Sounds", "row", "[I", true)
def tyX9 : Nat → FieldType := fun k => match k with
  | 0 => .array .int
  | _ => .array .int
abbrev wsX90 : List Cond := u_ws RX9 TX9 2
theorem nmX9 : ∀ a, a < 2 → ∀ b, b < 2 → a ≠ b → (TX9 a).2.1 ≠ (TX9 b).2.1 := by decide +kernel
theorem tyX9_ok : ∀ k, k < 2 → parseFieldDescriptor (TX9 k).2.2.1 = some (tyX9 k) := by decide +kernel
abbrev cX9_init : ByteArray := prog_11_method_1_code
def yX9_init : MethodName := ⟨RX9, "<init>", "()V"⟩
abbrev cX9_alike : ByteArray := prog_11_method_2_code
def yX9_alike : MethodName := ⟨RX9, "alike", "(II)Z"⟩
abbrev cX9_join : ByteArray := prog_11_method_3_code
def yX9_join : MethodName := ⟨RX9, "join", "(II)V"⟩
abbrev cX9_distance : ByteArray := prog_11_method_4_code
def yX9_distance : MethodName := ⟨RX9, "distance", "(LMileLists$Name;LMileLists$Name;)I"⟩
abbrev cX9_swapCost : ByteArray := prog_11_method_5_code
def yX9_swapCost : MethodName := ⟨RX9, "swapCost", "(II)I"⟩
def RX10 : String := "MileLists$Tape"
def TX10 : u_T := fun k => match k with
  | 0 => ("MileLists$Tape", "bytes", "[I", true)
  | _ => ("MileLists$Tape", "size", "I", false)
def tyX10 : Nat → FieldType := fun k => match k with
  | 0 => .array .int
  | _ => .int
abbrev wsX100 : List Cond := u_ws RX10 TX10 2
theorem nmX10 : ∀ a, a < 2 → ∀ b, b < 2 → a ≠ b → (TX10 a).2.1 ≠ (TX10 b).2.1 := by decide +kernel
theorem tyX10_ok : ∀ k, k < 2 → parseFieldDescriptor (TX10 k).2.2.1 = some (tyX10 k) := by decide +kernel
abbrev cX10_init : ByteArray := prog_12_method_1_code
def yX10_init : MethodName := ⟨RX10, "<init>", "()V"⟩
abbrev cX10_addFour : ByteArray := prog_12_method_2_code
def yX10_addFour : MethodName := ⟨RX10, "addFour", "(I)V"⟩
abbrev cX10_isBlank : ByteArray := prog_12_method_3_code
def yX10_isBlank : MethodName := ⟨RX10, "isBlank", "(I)Z"⟩
abbrev cX10_isName : ByteArray := prog_12_method_4_code
def yX10_isName : MethodName := ⟨RX10, "isName", "()Z"⟩
abbrev cX10_lettersFrom : ByteArray := prog_12_method_5_code
def yX10_lettersFrom : MethodName := ⟨RX10, "lettersFrom", "(I)I"⟩
abbrev cX10_signsFrom : ByteArray := prog_12_method_6_code
def yX10_signsFrom : MethodName := ⟨RX10, "signsFrom", "(I)I"⟩
abbrev cX10_signOf : ByteArray := prog_12_method_7_code
def yX10_signOf : MethodName := ⟨RX10, "signOf", "(I)I"⟩
def RX11 : String := "MileLists"
def TX11 : u_T := fun k => match k with
  | 0 => ("MileLists", "tape", "LMileLists$Tape;", true)
  | 1 => ("MileLists", "spoken", "LMileLists$Name;", true)
  | 2 => ("MileLists", "scribe", "LMileLists$Scribe;", true)
  | 3 => ("MileLists", "routes", "[LMileLists$Route;", true)
  | 4 => ("MileLists", "routeCount", "I", false)
  | 5 => ("MileLists", "faultPlace", "I", false)
  | 6 => ("MileLists", "land", "LMileLists$Land;", true)
  | 7 => ("MileLists", "habits", "LMileLists$Habits;", true)
  | 8 => ("MileLists", "sounds", "LMileLists$Sounds;", true)
  | 9 => ("MileLists", "placer", "LMileLists$Placer;", true)
  | _ => ("MileLists", "today", "I", false)
def tyX11 : Nat → FieldType := fun k => match k with
  | 0 => .object "MileLists$Tape"
  | 1 => .object "MileLists$Name"
  | 2 => .object "MileLists$Scribe"
  | 3 => .array (.object "MileLists$Route")
  | 4 => .int
  | 5 => .int
  | 6 => .object "MileLists$Land"
  | 7 => .object "MileLists$Habits"
  | 8 => .object "MileLists$Sounds"
  | 9 => .object "MileLists$Placer"
  | _ => .int
abbrev wsX110 : List Cond := u_ws RX11 TX11 11
theorem nmX11 : ∀ a, a < 11 → ∀ b, b < 11 → a ≠ b → (TX11 a).2.1 ≠ (TX11 b).2.1 := by decide +kernel
theorem tyX11_ok : ∀ k, k < 11 → parseFieldDescriptor (TX11 k).2.2.1 = some (tyX11 k) := by decide +kernel
abbrev cX11_init : ByteArray := prog_1_method_1_code
def yX11_init : MethodName := ⟨RX11, "<init>", "()V"⟩
abbrev cX11_feed : ByteArray := prog_1_method_2_code
def yX11_feed : MethodName := ⟨RX11, "feed", "(IIIII)I"⟩
abbrev cX11_end : ByteArray := prog_1_method_3_code
def yX11_end : MethodName := ⟨RX11, "end", "(I)I"⟩
abbrev cX11_list : ByteArray := prog_1_method_4_code
def yX11_list : MethodName := ⟨RX11, "list", "(I)I"⟩
abbrev cX11_place : ByteArray := prog_1_method_5_code
def yX11_place : MethodName := ⟨RX11, "place", "()I"⟩
abbrev cX11_ruin : ByteArray := prog_1_method_6_code
def yX11_ruin : MethodName := ⟨RX11, "ruin", "(I)I"⟩
abbrev cX11_stone : ByteArray := prog_1_method_7_code
def yX11_stone : MethodName := ⟨RX11, "stone", "(III)I"⟩
abbrev cX11_habit : ByteArray := prog_1_method_8_code
def yX11_habit : MethodName := ⟨RX11, "habit", "(III)I"⟩
abbrev cX11_sound : ByteArray := prog_1_method_9_code
def yX11_sound : MethodName := ⟨RX11, "sound", "(II)Z"⟩
abbrev cX11_costs : ByteArray := prog_1_method_10_code
def yX11_costs : MethodName := ⟨RX11, "costs", "(II)Z"⟩
abbrev cX11_day : ByteArray := prog_1_method_11_code
def yX11_day : MethodName := ⟨RX11, "day", "(I)I"⟩
abbrev cX11_apart : ByteArray := prog_1_method_12_code
def yX11_apart : MethodName := ⟨RX11, "apart", "(II)I"⟩
abbrev cX11_reading : ByteArray := prog_1_method_13_code
def yX11_reading : MethodName := ⟨RX11, "reading", "(III)I"⟩
abbrev cX11_best : ByteArray := prog_1_method_14_code
def yX11_best : MethodName := ⟨RX11, "best", "(II)I"⟩
abbrev cX11_at : ByteArray := prog_1_method_15_code
def yX11_at : MethodName := ⟨RX11, "at", "(III)I"⟩
abbrev cX11_span : ByteArray := prog_1_method_16_code
def yX11_span : MethodName := ⟨RX11, "span", "(IIIII)I"⟩
abbrev cX11_rivals : ByteArray := prog_1_method_17_code
def yX11_rivals : MethodName := ⟨RX11, "rivals", "(III)I"⟩
abbrev cX11_shared : ByteArray := prog_1_method_18_code
def yX11_shared : MethodName := ⟨RX11, "shared", "(III)I"⟩
abbrev cX11_of : ByteArray := prog_1_method_19_code
def yX11_of : MethodName := ⟨RX11, "of", "(II)I"⟩
abbrev cX11_letter : ByteArray := prog_1_method_20_code
def yX11_letter : MethodName := ⟨RX11, "letter", "(III)I"⟩
abbrev cX11_count : ByteArray := prog_1_method_21_code
def yX11_count : MethodName := ⟨RX11, "count", "(I)I"⟩
abbrev cX11_countOfRuin : ByteArray := prog_1_method_22_code
def yX11_countOfRuin : MethodName := ⟨RX11, "countOfRuin", "(I)I"⟩
abbrev cX11_takeName : ByteArray := prog_1_method_23_code
def yX11_takeName : MethodName := ⟨RX11, "takeName", "()Z"⟩
abbrev cX11_hasList : ByteArray := prog_1_method_24_code
def yX11_hasList : MethodName := ⟨RX11, "hasList", "(I)Z"⟩
abbrev cX11_hasStation : ByteArray := prog_1_method_25_code
def yX11_hasStation : MethodName := ⟨RX11, "hasStation", "(II)Z"⟩
abbrev cX11_hasNumeral : ByteArray := prog_1_method_26_code
def yX11_hasNumeral : MethodName := ⟨RX11, "hasNumeral", "(II)Z"⟩
abbrev cX11_isKnownDay : ByteArray := prog_1_method_27_code
def yX11_isKnownDay : MethodName := ⟨RX11, "isKnownDay", "(I)Z"⟩
abbrev cX11_isPlace : ByteArray := prog_1_method_28_code
def yX11_isPlace : MethodName := ⟨RX11, "isPlace", "(I)Z"⟩
abbrev cX11_isUnit : ByteArray := prog_1_method_29_code
def yX11_isUnit : MethodName := ⟨RX11, "isUnit", "(I)Z"⟩
abbrev cX11_isSignOrNone : ByteArray := prog_1_method_30_code
def yX11_isSignOrNone : MethodName := ⟨RX11, "isSignOrNone", "(I)Z"⟩
abbrev cX11_isWidth : ByteArray := prog_1_method_31_code
def yX11_isWidth : MethodName := ⟨RX11, "isWidth", "(I)Z"⟩
abbrev cX11_lay : ByteArray := prog_1_method_32_code
def yX11_lay : MethodName := ⟨RX11, "lay", "(II)Z"⟩
abbrev cX11_markMisread : ByteArray := prog_1_method_33_code
def yX11_markMisread : MethodName := ⟨RX11, "markMisread", "(II)Z"⟩
def RX12 : String := "MileListsModel"
def TX12 : u_T := fun k => match k with
  | 0 => ("MileListsModel", "thrown", "I", false)
  | 1 => ("MileListsModel", "tape", "[B", true)
  | 2 => ("MileListsModel", "taped", "I", false)
  | 3 => ("MileListsModel", "sound", "[I", true)
  | 4 => ("MileListsModel", "ends", "[I", true)
  | 5 => ("MileListsModel", "lists", "I", false)
  | 6 => ("MileListsModel", "unit", "[I", true)
  | 7 => ("MileListsModel", "stations", "[I", true)
  | 8 => ("MileListsModel", "name", "[J", true)
  | 9 => ("MileListsModel", "signs", "[I", true)
  | 10 => ("MileListsModel", "many", "[I", true)
  | 11 => ("MileListsModel", "faultKind", "I", false)
  | 12 => ("MileListsModel", "faultPlace", "I", false)
  | 13 => ("MileListsModel", "at", "I", false)
  | 14 => ("MileListsModel", "ruins", "I", false)
  | 15 => ("MileListsModel", "ruinAt", "[I", true)
  | 16 => ("MileListsModel", "ruinName", "[J", true)
  | 17 => ("MileListsModel", "ruinDay", "[I", true)
  | 18 => ("MileListsModel", "stones", "I", false)
  | 19 => ("MileListsModel", "stoneAt", "[I", true)
  | 20 => ("MileListsModel", "stoneName", "[J", true)
  | 21 => ("MileListsModel", "stoneFar", "[I", true)
  | 22 => ("MileListsModel", "stoneDay", "[I", true)
  | 23 => ("MileListsModel", "habits", "I", false)
  | 24 => ("MileListsModel", "truly", "[I", true)
  | 25 => ("MileListsModel", "written", "[I", true)
  | 26 => ("MileListsModel", "habitCost", "[I", true)
  | 27 => ("MileListsModel", "lost", "I", false)
  | 28 => ("MileListsModel", "moved", "I", false)
  | 29 => ("MileListsModel", "now", "I", false)
  | 30 => ("MileListsModel", "value", "[I", true)
  | 31 => ("MileListsModel", "cost", "[I", true)
  | 32 => ("MileListsModel", "values", "[I", true)
  | 33 => ("MileListsModel", "own", "[I", true)
  | 34 => ("MileListsModel", "rest", "[I", true)
  | 35 => ("MileListsModel", "ahead", "[I", true)
  | 36 => ("MileListsModel", "row", "[I", true)
  | 37 => ("MileListsModel", "taken", "[I", true)
  | 38 => ("MileListsModel", "ways", "[I", true)
  | _ => ("MileListsModel", "took", "[I", true)
def tyX12 : Nat → FieldType := fun k => match k with
  | 0 => .int
  | 1 => .array .byte
  | 2 => .int
  | 3 => .array .int
  | 4 => .array .int
  | 5 => .int
  | 6 => .array .int
  | 7 => .array .int
  | 8 => .array .long
  | 9 => .array .int
  | 10 => .array .int
  | 11 => .int
  | 12 => .int
  | 13 => .int
  | 14 => .int
  | 15 => .array .int
  | 16 => .array .long
  | 17 => .array .int
  | 18 => .int
  | 19 => .array .int
  | 20 => .array .long
  | 21 => .array .int
  | 22 => .array .int
  | 23 => .int
  | 24 => .array .int
  | 25 => .array .int
  | 26 => .array .int
  | 27 => .int
  | 28 => .int
  | 29 => .int
  | 30 => .array .int
  | 31 => .array .int
  | 32 => .array .int
  | 33 => .array .int
  | 34 => .array .int
  | 35 => .array .int
  | 36 => .array .int
  | 37 => .array .int
  | 38 => .array .int
  | _ => .array .int
abbrev wsX120 : List Cond := u_ws RX12 TX12 40
theorem nmX12 : ∀ a, a < 40 → ∀ b, b < 40 → a ≠ b → (TX12 a).2.1 ≠ (TX12 b).2.1 := by decide +kernel
theorem tyX12_ok : ∀ k, k < 40 → parseFieldDescriptor (TX12 k).2.2.1 = some (tyX12 k) := by decide +kernel
abbrev cX12_init : ByteArray := prog_14_method_1_code
def yX12_init : MethodName := ⟨RX12, "<init>", "()V"⟩
abbrev cX12_thrown : ByteArray := prog_14_method_2_code
def yX12_thrown : MethodName := ⟨RX12, "thrown", "()I"⟩
abbrev cX12_within : ByteArray := prog_14_method_3_code
def yX12_within : MethodName := ⟨RX12, "within", "(III)Z"⟩
abbrev cX12_feed : ByteArray := prog_14_method_4_code
def yX12_feed : MethodName := ⟨RX12, "feed", "(IIIII)I"⟩
abbrev cX12_end : ByteArray := prog_14_method_5_code
def yX12_end : MethodName := ⟨RX12, "end", "(I)I"⟩
abbrev cX12_byteAt : ByteArray := prog_14_method_6_code
def yX12_byteAt : MethodName := ⟨RX12, "byteAt", "(I)I"⟩
abbrev cX12_nameOf : ByteArray := prog_14_method_7_code
def yX12_nameOf : MethodName := ⟨RX12, "nameOf", "(II)J"⟩
abbrev cX12_tapeName : ByteArray := prog_14_method_8_code
def yX12_tapeName : MethodName := ⟨RX12, "tapeName", "()J"⟩
abbrev cX12_letters : ByteArray := prog_14_method_9_code
def yX12_letters : MethodName := ⟨RX12, "letters", "(J)I"⟩
abbrev cX12_letterOf : ByteArray := prog_14_method_10_code
def yX12_letterOf : MethodName := ⟨RX12, "letterOf", "(JI)I"⟩
abbrev cX12_sound : ByteArray := prog_14_method_11_code
def yX12_sound : MethodName := ⟨RX12, "sound", "(II)Z"⟩
abbrev cX12_apart : ByteArray := prog_14_method_12_code
def yX12_apart : MethodName := ⟨RX12, "apart", "(JJ)I"⟩
abbrev cX12_less : ByteArray := prog_14_method_13_code
def yX12_less : MethodName := ⟨RX12, "less", "(II)I"⟩
abbrev cX12_swap : ByteArray := prog_14_method_14_code
def yX12_swap : MethodName := ⟨RX12, "swap", "(II)I"⟩
abbrev cX12_signOf : ByteArray := prog_14_method_15_code
def yX12_signOf : MethodName := ⟨RX12, "signOf", "(I)I"⟩
abbrev cX12_worth : ByteArray := prog_14_method_16_code
def yX12_worth : MethodName := ⟨RX12, "worth", "(I)I"⟩
abbrev cX12_wrong : ByteArray := prog_14_method_17_code
def yX12_wrong : MethodName := ⟨RX12, "wrong", "(II)Z"⟩
abbrev cX12_blanks : ByteArray := prog_14_method_18_code
def yX12_blanks : MethodName := ⟨RX12, "blanks", "()V"⟩
abbrev cX12_station : ByteArray := prog_14_method_19_code
def yX12_station : MethodName := ⟨RX12, "station", "()Z"⟩
abbrev cX12_numeral : ByteArray := prog_14_method_20_code
def yX12_numeral : MethodName := ⟨RX12, "numeral", "()Z"⟩
abbrev cX12_list : ByteArray := prog_14_method_21_code
def yX12_list : MethodName := ⟨RX12, "list", "(I)I"⟩
abbrev cX12_place : ByteArray := prog_14_method_22_code
def yX12_place : MethodName := ⟨RX12, "place", "()I"⟩
abbrev cX12_isList : ByteArray := prog_14_method_23_code
def yX12_isList : MethodName := ⟨RX12, "isList", "(I)Z"⟩
abbrev cX12_isStation : ByteArray := prog_14_method_24_code
def yX12_isStation : MethodName := ⟨RX12, "isStation", "(II)Z"⟩
abbrev cX12_valueOf : ByteArray := prog_14_method_25_code
def yX12_valueOf : MethodName := ⟨RX12, "valueOf", "(II)I"⟩
abbrev cX12_ruin : ByteArray := prog_14_method_26_code
def yX12_ruin : MethodName := ⟨RX12, "ruin", "(I)I"⟩
abbrev cX12_stone : ByteArray := prog_14_method_27_code
def yX12_stone : MethodName := ⟨RX12, "stone", "(III)I"⟩
abbrev cX12_habit : ByteArray := prog_14_method_28_code
def yX12_habit : MethodName := ⟨RX12, "habit", "(III)I"⟩
abbrev cX12_costs : ByteArray := prog_14_method_29_code
def yX12_costs : MethodName := ⟨RX12, "costs", "(II)Z"⟩
abbrev cX12_day : ByteArray := prog_14_method_30_code
def yX12_day : MethodName := ⟨RX12, "day", "(I)I"⟩
abbrev cX12_apart_ : ByteArray := prog_14_method_31_code
def yX12_apart_ : MethodName := ⟨RX12, "apart", "(II)I"⟩
abbrev cX12_canBe : ByteArray := prog_14_method_32_code
def yX12_canBe : MethodName := ⟨RX12, "canBe", "(III)Z"⟩
abbrev cX12_first : ByteArray := prog_14_method_33_code
def yX12_first : MethodName := ⟨RX12, "first", "(II)I"⟩
abbrev cX12_costOf : ByteArray := prog_14_method_34_code
def yX12_costOf : MethodName := ⟨RX12, "costOf", "(III)I"⟩
abbrev cX12_reading : ByteArray := prog_14_method_35_code
def yX12_reading : MethodName := ⟨RX12, "reading", "(III)I"⟩
abbrev cX12_reads : ByteArray := prog_14_method_36_code
def yX12_reads : MethodName := ⟨RX12, "reads", "(I)V"⟩
abbrev cX12_adds : ByteArray := prog_14_method_37_code
def yX12_adds : MethodName := ⟨RX12, "adds", "(III)V"⟩
abbrev cX12_ownCost : ByteArray := prog_14_method_38_code
def yX12_ownCost : MethodName := ⟨RX12, "ownCost", "(IIII)I"⟩
abbrev cX12_lays : ByteArray := prog_14_method_39_code
def yX12_lays : MethodName := ⟨RX12, "lays", "(II)I"⟩
abbrev cX12_goesAhead : ByteArray := prog_14_method_40_code
def yX12_goesAhead : MethodName := ⟨RX12, "goesAhead", "(I)V"⟩
abbrev cX12_isAsked : ByteArray := prog_14_method_41_code
def yX12_isAsked : MethodName := ⟨RX12, "isAsked", "(II)Z"⟩
abbrev cX12_best : ByteArray := prog_14_method_42_code
def yX12_best : MethodName := ⟨RX12, "best", "(II)I"⟩
abbrev cX12_bests : ByteArray := prog_14_method_43_code
def yX12_bests : MethodName := ⟨RX12, "bests", "(II)Z"⟩
abbrev cX12_at : ByteArray := prog_14_method_44_code
def yX12_at : MethodName := ⟨RX12, "at", "(III)I"⟩
abbrev cX12_span : ByteArray := prog_14_method_45_code
def yX12_span : MethodName := ⟨RX12, "span", "(IIIII)I"⟩
abbrev cX12_rivals : ByteArray := prog_14_method_46_code
def yX12_rivals : MethodName := ⟨RX12, "rivals", "(III)I"⟩
abbrev cX12_joins : ByteArray := prog_14_method_47_code
def yX12_joins : MethodName := ⟨RX12, "joins", "(IIIII)V"⟩
abbrev cX12_areSame : ByteArray := prog_14_method_48_code
def yX12_areSame : MethodName := ⟨RX12, "areSame", "(II)Z"⟩
abbrev cX12_shared : ByteArray := prog_14_method_49_code
def yX12_shared : MethodName := ⟨RX12, "shared", "(III)I"⟩
abbrev cX12_of : ByteArray := prog_14_method_50_code
def yX12_of : MethodName := ⟨RX12, "of", "(II)I"⟩
abbrev cX12_letter : ByteArray := prog_14_method_51_code
def yX12_letter : MethodName := ⟨RX12, "letter", "(III)I"⟩
abbrev cX12_count : ByteArray := prog_14_method_52_code
def yX12_count : MethodName := ⟨RX12, "count", "(I)I"⟩
def RJ9 : String := "java/lang/Math"
def TJ9 : u_T := fun k => match k with
  | _ => ("", "", "", false)
def tyJ9 : Nat → FieldType := fun k => match k with
  | _ => .int
abbrev wsJ90 : List Cond := u_ws RJ9 TJ9 0
theorem nmJ9 : ∀ a, a < 0 → ∀ b, b < 0 → a ≠ b → (TJ9 a).2.1 ≠ (TJ9 b).2.1 := by decide +kernel
theorem tyJ9_ok : ∀ k, k < 0 → parseFieldDescriptor (TJ9 k).2.2.1 = some (tyJ9 k) := by decide +kernel
abbrev cJ9_abs_0f7a4 : ByteArray := prog_16_method_59_code
def yJ9_abs_0f7a4 : MethodName := ⟨RJ9, "abs", "(I)I"⟩
abbrev cJ9_max_7cf53 : ByteArray := prog_16_method_65_code
def yJ9_max_7cf53 : MethodName := ⟨RJ9, "max", "(II)I"⟩
abbrev cJ9_min_7cf53 : ByteArray := prog_16_method_69_code
def yJ9_min_7cf53 : MethodName := ⟨RJ9, "min", "(II)I"⟩
def RJ0 : String := "java/lang/String"
def TJ0 : u_T := fun k => match k with
  | _ => ("", "", "", false)
def tyJ0 : Nat → FieldType := fun k => match k with
  | _ => .int
abbrev wsJ00 : List Cond := u_ws RJ0 TJ0 0
theorem nmJ0 : ∀ a, a < 0 → ∀ b, b < 0 → a ≠ b → (TJ0 a).2.1 ≠ (TJ0 b).2.1 := by decide +kernel
theorem tyJ0_ok : ∀ k, k < 0 → parseFieldDescriptor (TJ0 k).2.2.1 = some (tyJ0 k) := by decide +kernel
def RL : String := "MileListsLaw"
abbrev cL_of : ByteArray := method_3_code
def yL_of : MethodName := ⟨RL, "of", "(LMileLists;II[J)I"⟩
abbrev cL_law : ByteArray := code
def yL_law : MethodName := ⟨RL, "law", "([I)Z"⟩
abbrev vwCl : List vw_C := [(RX0, TX0, 4), (RX1, TX1, 4), (RX2, TX2, 6), (RX3, TX3, 2), (RX4, TX4, 2), (RX5, TX5, 10), (RX6, TX6, 3), (RX7, TX7, 5), (RX8, TX8, 3), (RX9, TX9, 2), (RX10, TX10, 2), (RX11, TX11, 11), (RX12, TX12, 40)]
end
section
theorem dX0_init_0 : decode cX0_init 0 = .ok (.aload_n 0, 1) := by decide +kernel
theorem dX0_init_1 : decode cX0_init 1 = .ok (.invokespecial 1, 3) := by decide +kernel
theorem dX0_init_4 : decode cX0_init 4 = .ok (.aload_n 0, 1) := by decide +kernel
theorem dX0_init_5 : decode cX0_init 5 = .ok (.new 7, 3) := by decide +kernel
theorem dX0_init_8 : decode cX0_init 8 = .ok (.dup, 1) := by decide +kernel
theorem dX0_init_9 : decode cX0_init 9 = .ok (.invokespecial 9, 3) := by decide +kernel
theorem dX0_init_12 : decode cX0_init 12 = .ok (.putfield 10, 3) := by decide +kernel
theorem dX0_init_15 : decode cX0_init 15 = .ok (.return_, 1) := by decide +kernel
theorem dX0_set_0 : decode cX0_set 0 = .ok (.aload_n 0, 1) := by decide +kernel
theorem dX0_set_1 : decode cX0_set 1 = .ok (.getfield 10, 3) := by decide +kernel
theorem dX0_set_4 : decode cX0_set 4 = .ok (.aload_n 1, 1) := by decide +kernel
theorem dX0_set_5 : decode cX0_set 5 = .ok (.invokevirtual 16, 3) := by decide +kernel
theorem dX0_set_8 : decode cX0_set 8 = .ok (.aload_n 0, 1) := by decide +kernel
theorem dX0_set_9 : decode cX0_set 9 = .ok (.iload_n 2, 1) := by decide +kernel
theorem dX0_set_10 : decode cX0_set 10 = .ok (.putfield 20, 3) := by decide +kernel
theorem dX0_set_13 : decode cX0_set 13 = .ok (.aload_n 0, 1) := by decide +kernel
theorem dX0_set_14 : decode cX0_set 14 = .ok (.iload_n 3, 1) := by decide +kernel
theorem dX0_set_15 : decode cX0_set 15 = .ok (.putfield 24, 3) := by decide +kernel
theorem dX0_set_18 : decode cX0_set 18 = .ok (.aload_n 0, 1) := by decide +kernel
theorem dX0_set_19 : decode cX0_set 19 = .ok (.iload 4, 2) := by decide +kernel
theorem dX0_set_21 : decode cX0_set 21 = .ok (.putfield 27, 3) := by decide +kernel
theorem dX0_set_24 : decode cX0_set 24 = .ok (.return_, 1) := by decide +kernel
theorem dX1_init_0 : decode cX1_init 0 = .ok (.aload_n 0, 1) := by decide +kernel
theorem dX1_init_1 : decode cX1_init 1 = .ok (.invokespecial 3, 3) := by decide +kernel
theorem dX1_init_4 : decode cX1_init 4 = .ok (.aload_n 0, 1) := by decide +kernel
theorem dX1_init_5 : decode cX1_init 5 = .ok (.bipush 20, 2) := by decide +kernel
theorem dX1_init_7 : decode cX1_init 7 = .ok (.newarray .int, 2) := by decide +kernel
theorem dX1_init_9 : decode cX1_init 9 = .ok (.putfield 9, 3) := by decide +kernel
theorem dX1_init_12 : decode cX1_init 12 = .ok (.aload_n 0, 1) := by decide +kernel
theorem dX1_init_13 : decode cX1_init 13 = .ok (.bipush 20, 2) := by decide +kernel
theorem dX1_init_15 : decode cX1_init 15 = .ok (.newarray .int, 2) := by decide +kernel
theorem dX1_init_17 : decode cX1_init 17 = .ok (.putfield 15, 3) := by decide +kernel
theorem dX1_init_20 : decode cX1_init 20 = .ok (.aload_n 0, 1) := by decide +kernel
theorem dX1_init_21 : decode cX1_init 21 = .ok (.bipush 20, 2) := by decide +kernel
theorem dX1_init_23 : decode cX1_init 23 = .ok (.newarray .int, 2) := by decide +kernel
theorem dX1_init_25 : decode cX1_init 25 = .ok (.putfield 18, 3) := by decide +kernel
theorem dX1_init_28 : decode cX1_init 28 = .ok (.return_, 1) := by decide +kernel
theorem dX1_add_0 : decode cX1_add 0 = .ok (.aload_n 0, 1) := by decide +kernel
theorem dX1_add_1 : decode cX1_add 1 = .ok (.getfield 21, 3) := by decide +kernel
theorem dX1_add_4 : decode cX1_add 4 = .ok (.bipush 20, 2) := by decide +kernel
theorem dX1_add_6 : decode cX1_add 6 = .ok (.if_icmp .lt 5, 3) := by decide +kernel
theorem dX1_add_9 : decode cX1_add 9 = .ok (.iconst (-1), 1) := by decide +kernel
theorem dX1_add_10 : decode cX1_add 10 = .ok (.ireturn, 1) := by decide +kernel
theorem dX1_add_11 : decode cX1_add 11 = .ok (.aload_n 0, 1) := by decide +kernel
theorem dX1_add_12 : decode cX1_add 12 = .ok (.getfield 9, 3) := by decide +kernel
theorem dX1_add_15 : decode cX1_add 15 = .ok (.aload_n 0, 1) := by decide +kernel
theorem dX1_add_16 : decode cX1_add 16 = .ok (.getfield 21, 3) := by decide +kernel
theorem dX1_add_19 : decode cX1_add 19 = .ok (.iload_n 1, 1) := by decide +kernel
theorem dX1_add_20 : decode cX1_add 20 = .ok (.iastore, 1) := by decide +kernel
theorem dX1_add_21 : decode cX1_add 21 = .ok (.aload_n 0, 1) := by decide +kernel
theorem dX1_add_22 : decode cX1_add 22 = .ok (.getfield 15, 3) := by decide +kernel
theorem dX1_add_25 : decode cX1_add 25 = .ok (.aload_n 0, 1) := by decide +kernel
theorem dX1_add_26 : decode cX1_add 26 = .ok (.getfield 21, 3) := by decide +kernel
theorem dX1_add_29 : decode cX1_add 29 = .ok (.iload_n 2, 1) := by decide +kernel
theorem dX1_add_30 : decode cX1_add 30 = .ok (.iastore, 1) := by decide +kernel
theorem dX1_add_31 : decode cX1_add 31 = .ok (.aload_n 0, 1) := by decide +kernel
theorem dX1_add_32 : decode cX1_add 32 = .ok (.getfield 18, 3) := by decide +kernel
theorem dX1_add_35 : decode cX1_add 35 = .ok (.aload_n 0, 1) := by decide +kernel
theorem dX1_add_36 : decode cX1_add 36 = .ok (.getfield 21, 3) := by decide +kernel
theorem dX1_add_39 : decode cX1_add 39 = .ok (.iload_n 3, 1) := by decide +kernel
theorem dX1_add_40 : decode cX1_add 40 = .ok (.iastore, 1) := by decide +kernel
theorem dX1_add_41 : decode cX1_add 41 = .ok (.aload_n 0, 1) := by decide +kernel
theorem dX1_add_42 : decode cX1_add 42 = .ok (.dup, 1) := by decide +kernel
theorem dX1_add_43 : decode cX1_add 43 = .ok (.getfield 21, 3) := by decide +kernel
theorem dX1_add_46 : decode cX1_add 46 = .ok (.iconst 1, 1) := by decide +kernel
theorem dX1_add_47 : decode cX1_add 47 = .ok (.iadd, 1) := by decide +kernel
theorem dX1_add_48 : decode cX1_add 48 = .ok (.putfield 21, 3) := by decide +kernel
theorem dX1_add_51 : decode cX1_add 51 = .ok (.aload_n 0, 1) := by decide +kernel
theorem dX1_add_52 : decode cX1_add 52 = .ok (.getfield 21, 3) := by decide +kernel
theorem dX1_add_55 : decode cX1_add 55 = .ok (.iconst 1, 1) := by decide +kernel
theorem dX1_add_56 : decode cX1_add 56 = .ok (.isub, 1) := by decide +kernel
theorem dX1_add_57 : decode cX1_add 57 = .ok (.ireturn, 1) := by decide +kernel
theorem dX1_valueBy_0 : decode cX1_valueBy 0 = .ok (.iload_n 1, 1) := by decide +kernel
theorem dX1_valueBy_1 : decode cX1_valueBy 1 = .ok (.ifCond .lt 20, 3) := by decide +kernel
theorem dX1_valueBy_4 : decode cX1_valueBy 4 = .ok (.iload_n 1, 1) := by decide +kernel
theorem dX1_valueBy_5 : decode cX1_valueBy 5 = .ok (.aload_n 0, 1) := by decide +kernel
theorem dX1_valueBy_6 : decode cX1_valueBy 6 = .ok (.getfield 21, 3) := by decide +kernel
theorem dX1_valueBy_9 : decode cX1_valueBy 9 = .ok (.if_icmp .ge 12, 3) := by decide +kernel
theorem dX1_valueBy_12 : decode cX1_valueBy 12 = .ok (.aload_n 0, 1) := by decide +kernel
theorem dX1_valueBy_13 : decode cX1_valueBy 13 = .ok (.iload_n 1, 1) := by decide +kernel
theorem dX1_valueBy_14 : decode cX1_valueBy 14 = .ok (.aload_n 2, 1) := by decide +kernel
theorem dX1_valueBy_15 : decode cX1_valueBy 15 = .ok (.invokevirtual 25, 3) := by decide +kernel
theorem dX1_valueBy_18 : decode cX1_valueBy 18 = .ok (.ifCond .ne 5, 3) := by decide +kernel
theorem dX1_valueBy_21 : decode cX1_valueBy 21 = .ok (.iconst (-1), 1) := by decide +kernel
theorem dX1_valueBy_22 : decode cX1_valueBy 22 = .ok (.ireturn, 1) := by decide +kernel
theorem dX1_valueBy_23 : decode cX1_valueBy 23 = .ok (.aload_n 2, 1) := by decide +kernel
theorem dX1_valueBy_24 : decode cX1_valueBy 24 = .ok (.invokevirtual 29, 3) := by decide +kernel
theorem dX1_valueBy_27 : decode cX1_valueBy 27 = .ok (.getstatic 35, 3) := by decide +kernel
theorem dX1_valueBy_30 : decode cX1_valueBy 30 = .ok (.aload_n 0, 1) := by decide +kernel
theorem dX1_valueBy_31 : decode cX1_valueBy 31 = .ok (.getfield 15, 3) := by decide +kernel
theorem dX1_valueBy_34 : decode cX1_valueBy 34 = .ok (.iload_n 1, 1) := by decide +kernel
theorem dX1_valueBy_35 : decode cX1_valueBy 35 = .ok (.iaload, 1) := by decide +kernel
theorem dX1_valueBy_36 : decode cX1_valueBy 36 = .ok (.iaload, 1) := by decide +kernel
theorem dX1_valueBy_37 : decode cX1_valueBy 37 = .ok (.isub, 1) := by decide +kernel
theorem dX1_valueBy_38 : decode cX1_valueBy 38 = .ok (.getstatic 35, 3) := by decide +kernel
theorem dX1_valueBy_41 : decode cX1_valueBy 41 = .ok (.aload_n 0, 1) := by decide +kernel
theorem dX1_valueBy_42 : decode cX1_valueBy 42 = .ok (.getfield 9, 3) := by decide +kernel
theorem dX1_valueBy_45 : decode cX1_valueBy 45 = .ok (.iload_n 1, 1) := by decide +kernel
theorem dX1_valueBy_46 : decode cX1_valueBy 46 = .ok (.iaload, 1) := by decide +kernel
theorem dX1_valueBy_47 : decode cX1_valueBy 47 = .ok (.iaload, 1) := by decide +kernel
theorem dX1_valueBy_48 : decode cX1_valueBy 48 = .ok (.iadd, 1) := by decide +kernel
theorem dX1_valueBy_49 : decode cX1_valueBy 49 = .ok (.ireturn, 1) := by decide +kernel
theorem dX1_worksIn_0 : decode cX1_worksIn 0 = .ok (.aload_n 0, 1) := by decide +kernel
theorem dX1_worksIn_1 : decode cX1_worksIn 1 = .ok (.getfield 15, 3) := by decide +kernel
theorem dX1_worksIn_4 : decode cX1_worksIn 4 = .ok (.iload_n 1, 1) := by decide +kernel
theorem dX1_worksIn_5 : decode cX1_worksIn 5 = .ok (.iaload, 1) := by decide +kernel
theorem dX1_worksIn_6 : decode cX1_worksIn 6 = .ok (.ifCond .ne 5, 3) := by decide +kernel
theorem dX1_worksIn_9 : decode cX1_worksIn 9 = .ok (.iconst 1, 1) := by decide +kernel
theorem dX1_worksIn_10 : decode cX1_worksIn 10 = .ok (.ireturn, 1) := by decide +kernel
theorem dX1_worksIn_11 : decode cX1_worksIn 11 = .ok (.aload_n 0, 1) := by decide +kernel
theorem dX1_worksIn_12 : decode cX1_worksIn 12 = .ok (.getfield 9, 3) := by decide +kernel
theorem dX1_worksIn_15 : decode cX1_worksIn 15 = .ok (.iload_n 1, 1) := by decide +kernel
theorem dX1_worksIn_16 : decode cX1_worksIn 16 = .ok (.iaload, 1) := by decide +kernel
theorem dX1_worksIn_17 : decode cX1_worksIn 17 = .ok (.ifCond .ne 30, 3) := by decide +kernel
theorem dX1_worksIn_20 : decode cX1_worksIn 20 = .ok (.aload_n 2, 1) := by decide +kernel
theorem dX1_worksIn_21 : decode cX1_worksIn 21 = .ok (.getfield 38, 3) := by decide +kernel
theorem dX1_worksIn_24 : decode cX1_worksIn 24 = .ok (.iconst 1, 1) := by decide +kernel
theorem dX1_worksIn_25 : decode cX1_worksIn 25 = .ok (.if_icmp .le 20, 3) := by decide +kernel
theorem dX1_worksIn_28 : decode cX1_worksIn 28 = .ok (.aload_n 2, 1) := by decide +kernel
theorem dX1_worksIn_29 : decode cX1_worksIn 29 = .ok (.aload_n 0, 1) := by decide +kernel
theorem dX1_worksIn_30 : decode cX1_worksIn 30 = .ok (.getfield 15, 3) := by decide +kernel
theorem dX1_worksIn_33 : decode cX1_worksIn 33 = .ok (.iload_n 1, 1) := by decide +kernel
theorem dX1_worksIn_34 : decode cX1_worksIn 34 = .ok (.iaload, 1) := by decide +kernel
theorem dX1_worksIn_35 : decode cX1_worksIn 35 = .ok (.invokevirtual 39, 3) := by decide +kernel
theorem dX1_worksIn_38 : decode cX1_worksIn 38 = .ok (.ifCond .eq 7, 3) := by decide +kernel
theorem dX1_worksIn_41 : decode cX1_worksIn 41 = .ok (.iconst 1, 1) := by decide +kernel
theorem dX1_worksIn_42 : decode cX1_worksIn 42 = .ok (.goto 4, 3) := by decide +kernel
theorem dX1_worksIn_45 : decode cX1_worksIn 45 = .ok (.iconst 0, 1) := by decide +kernel
theorem dX1_worksIn_46 : decode cX1_worksIn 46 = .ok (.ireturn, 1) := by decide +kernel
theorem dX1_worksIn_47 : decode cX1_worksIn 47 = .ok (.aload_n 2, 1) := by decide +kernel
theorem dX1_worksIn_48 : decode cX1_worksIn 48 = .ok (.aload_n 0, 1) := by decide +kernel
theorem dX1_worksIn_49 : decode cX1_worksIn 49 = .ok (.getfield 15, 3) := by decide +kernel
theorem dX1_worksIn_52 : decode cX1_worksIn 52 = .ok (.iload_n 1, 1) := by decide +kernel
theorem dX1_worksIn_53 : decode cX1_worksIn 53 = .ok (.iaload, 1) := by decide +kernel
theorem dX1_worksIn_54 : decode cX1_worksIn 54 = .ok (.aload_n 0, 1) := by decide +kernel
theorem dX1_worksIn_55 : decode cX1_worksIn 55 = .ok (.getfield 9, 3) := by decide +kernel
theorem dX1_worksIn_58 : decode cX1_worksIn 58 = .ok (.iload_n 1, 1) := by decide +kernel
theorem dX1_worksIn_59 : decode cX1_worksIn 59 = .ok (.iaload, 1) := by decide +kernel
theorem dX1_worksIn_60 : decode cX1_worksIn 60 = .ok (.invokevirtual 43, 3) := by decide +kernel
theorem dX1_worksIn_63 : decode cX1_worksIn 63 = .ok (.ireturn, 1) := by decide +kernel
theorem dX2_init_0 : decode cX2_init 0 = .ok (.aload_n 0, 1) := by decide +kernel
theorem dX2_init_1 : decode cX2_init 1 = .ok (.invokespecial 3, 3) := by decide +kernel
theorem dX2_init_4 : decode cX2_init 4 = .ok (.aload_n 0, 1) := by decide +kernel
theorem dX2_init_5 : decode cX2_init 5 = .ok (.bipush 12, 2) := by decide +kernel
theorem dX2_init_7 : decode cX2_init 7 = .ok (.anewarray 9, 3) := by decide +kernel
theorem dX2_init_10 : decode cX2_init 10 = .ok (.putfield 11, 3) := by decide +kernel
theorem dX2_init_13 : decode cX2_init 13 = .ok (.aload_n 0, 1) := by decide +kernel
theorem dX2_init_14 : decode cX2_init 14 = .ok (.bipush 12, 2) := by decide +kernel
theorem dX2_init_16 : decode cX2_init 16 = .ok (.anewarray 9, 3) := by decide +kernel
theorem dX2_init_19 : decode cX2_init 19 = .ok (.putfield 17, 3) := by decide +kernel
theorem dX2_init_22 : decode cX2_init 22 = .ok (.aload_n 0, 1) := by decide +kernel
theorem dX2_init_23 : decode cX2_init 23 = .ok (.bipush 10, 2) := by decide +kernel
theorem dX2_init_25 : decode cX2_init 25 = .ok (.putfield 20, 3) := by decide +kernel
theorem dX2_init_28 : decode cX2_init 28 = .ok (.aload_n 0, 1) := by decide +kernel
theorem dX2_init_29 : decode cX2_init 29 = .ok (.bipush 6, 2) := by decide +kernel
theorem dX2_init_31 : decode cX2_init 31 = .ok (.putfield 24, 3) := by decide +kernel
theorem dX2_init_34 : decode cX2_init 34 = .ok (.iconst 0, 1) := by decide +kernel
theorem dX2_init_35 : decode cX2_init 35 = .ok (.istore_n 1, 1) := by decide +kernel
theorem dX2_init_36 : decode cX2_init 36 = .ok (.iload_n 1, 1) := by decide +kernel
theorem dX2_init_37 : decode cX2_init 37 = .ok (.bipush 12, 2) := by decide +kernel
theorem dX2_init_39 : decode cX2_init 39 = .ok (.if_icmp .ge 35, 3) := by decide +kernel
theorem dX2_init_42 : decode cX2_init 42 = .ok (.aload_n 0, 1) := by decide +kernel
theorem dX2_init_43 : decode cX2_init 43 = .ok (.getfield 11, 3) := by decide +kernel
theorem dX2_init_46 : decode cX2_init 46 = .ok (.iload_n 1, 1) := by decide +kernel
theorem dX2_init_47 : decode cX2_init 47 = .ok (.new 9, 3) := by decide +kernel
theorem dX2_init_50 : decode cX2_init 50 = .ok (.dup, 1) := by decide +kernel
theorem dX2_init_51 : decode cX2_init 51 = .ok (.invokespecial 27, 3) := by decide +kernel
theorem dX2_init_54 : decode cX2_init 54 = .ok (.aastore, 1) := by decide +kernel
theorem dX2_init_55 : decode cX2_init 55 = .ok (.aload_n 0, 1) := by decide +kernel
theorem dX2_init_56 : decode cX2_init 56 = .ok (.getfield 17, 3) := by decide +kernel
theorem dX2_init_59 : decode cX2_init 59 = .ok (.iload_n 1, 1) := by decide +kernel
theorem dX2_init_60 : decode cX2_init 60 = .ok (.new 9, 3) := by decide +kernel
theorem dX2_init_63 : decode cX2_init 63 = .ok (.dup, 1) := by decide +kernel
theorem dX2_init_64 : decode cX2_init 64 = .ok (.invokespecial 27, 3) := by decide +kernel
theorem dX2_init_67 : decode cX2_init 67 = .ok (.aastore, 1) := by decide +kernel
theorem dX2_init_68 : decode cX2_init 68 = .ok (.iinc 1 1, 3) := by decide +kernel
theorem dX2_init_71 : decode cX2_init 71 = .ok (.goto (-35), 3) := by decide +kernel
theorem dX2_init_74 : decode cX2_init 74 = .ok (.return_, 1) := by decide +kernel
theorem dX2_hasRuinAt_0 : decode cX2_hasRuinAt 0 = .ok (.iconst 0, 1) := by decide +kernel
theorem dX2_hasRuinAt_1 : decode cX2_hasRuinAt 1 = .ok (.istore_n 2, 1) := by decide +kernel
theorem dX2_hasRuinAt_2 : decode cX2_hasRuinAt 2 = .ok (.iload_n 2, 1) := by decide +kernel
theorem dX2_hasRuinAt_3 : decode cX2_hasRuinAt 3 = .ok (.aload_n 0, 1) := by decide +kernel
theorem dX2_hasRuinAt_4 : decode cX2_hasRuinAt 4 = .ok (.getfield 28, 3) := by decide +kernel
theorem dX2_hasRuinAt_7 : decode cX2_hasRuinAt 7 = .ok (.if_icmp .ge 24, 3) := by decide +kernel
theorem dX2_hasRuinAt_10 : decode cX2_hasRuinAt 10 = .ok (.aload_n 0, 1) := by decide +kernel
theorem dX2_hasRuinAt_11 : decode cX2_hasRuinAt 11 = .ok (.getfield 11, 3) := by decide +kernel
theorem dX2_hasRuinAt_14 : decode cX2_hasRuinAt 14 = .ok (.iload_n 2, 1) := by decide +kernel
theorem dX2_hasRuinAt_15 : decode cX2_hasRuinAt 15 = .ok (.aaload, 1) := by decide +kernel
theorem dX2_hasRuinAt_16 : decode cX2_hasRuinAt 16 = .ok (.getfield 31, 3) := by decide +kernel
theorem dX2_hasRuinAt_19 : decode cX2_hasRuinAt 19 = .ok (.iload_n 1, 1) := by decide +kernel
theorem dX2_hasRuinAt_20 : decode cX2_hasRuinAt 20 = .ok (.if_icmp .ne 5, 3) := by decide +kernel
theorem dX2_hasRuinAt_23 : decode cX2_hasRuinAt 23 = .ok (.iconst 1, 1) := by decide +kernel
theorem dX2_hasRuinAt_24 : decode cX2_hasRuinAt 24 = .ok (.ireturn, 1) := by decide +kernel
theorem dX2_hasRuinAt_25 : decode cX2_hasRuinAt 25 = .ok (.iinc 2 1, 3) := by decide +kernel
theorem dX2_hasRuinAt_28 : decode cX2_hasRuinAt 28 = .ok (.goto (-26), 3) := by decide +kernel
theorem dX2_hasRuinAt_31 : decode cX2_hasRuinAt 31 = .ok (.iconst 0, 1) := by decide +kernel
theorem dX2_hasRuinAt_32 : decode cX2_hasRuinAt 32 = .ok (.ireturn, 1) := by decide +kernel
theorem dX2_addRuin_0 : decode cX2_addRuin 0 = .ok (.aload_n 0, 1) := by decide +kernel
theorem dX2_addRuin_1 : decode cX2_addRuin 1 = .ok (.getfield 28, 3) := by decide +kernel
theorem dX2_addRuin_4 : decode cX2_addRuin 4 = .ok (.bipush 12, 2) := by decide +kernel
theorem dX2_addRuin_6 : decode cX2_addRuin 6 = .ok (.if_icmp .lt 5, 3) := by decide +kernel
theorem dX2_addRuin_9 : decode cX2_addRuin 9 = .ok (.iconst (-1), 1) := by decide +kernel
theorem dX2_addRuin_10 : decode cX2_addRuin 10 = .ok (.ireturn, 1) := by decide +kernel
theorem dX2_addRuin_11 : decode cX2_addRuin 11 = .ok (.aload_n 0, 1) := by decide +kernel
theorem dX2_addRuin_12 : decode cX2_addRuin 12 = .ok (.getfield 11, 3) := by decide +kernel
theorem dX2_addRuin_15 : decode cX2_addRuin 15 = .ok (.aload_n 0, 1) := by decide +kernel
theorem dX2_addRuin_16 : decode cX2_addRuin 16 = .ok (.getfield 28, 3) := by decide +kernel
theorem dX2_addRuin_19 : decode cX2_addRuin 19 = .ok (.aaload, 1) := by decide +kernel
theorem dX2_addRuin_20 : decode cX2_addRuin 20 = .ok (.aload_n 1, 1) := by decide +kernel
theorem dX2_addRuin_21 : decode cX2_addRuin 21 = .ok (.iload_n 2, 1) := by decide +kernel
theorem dX2_addRuin_22 : decode cX2_addRuin 22 = .ok (.iconst 0, 1) := by decide +kernel
theorem dX2_addRuin_23 : decode cX2_addRuin 23 = .ok (.iload_n 3, 1) := by decide +kernel
theorem dX2_addRuin_24 : decode cX2_addRuin 24 = .ok (.invokevirtual 34, 3) := by decide +kernel
theorem dX2_addRuin_27 : decode cX2_addRuin 27 = .ok (.aload_n 0, 1) := by decide +kernel
theorem dX2_addRuin_28 : decode cX2_addRuin 28 = .ok (.dup, 1) := by decide +kernel
theorem dX2_addRuin_29 : decode cX2_addRuin 29 = .ok (.getfield 28, 3) := by decide +kernel
theorem dX2_addRuin_32 : decode cX2_addRuin 32 = .ok (.iconst 1, 1) := by decide +kernel
theorem dX2_addRuin_33 : decode cX2_addRuin 33 = .ok (.iadd, 1) := by decide +kernel
theorem dX2_addRuin_34 : decode cX2_addRuin 34 = .ok (.putfield 28, 3) := by decide +kernel
theorem dX2_addRuin_37 : decode cX2_addRuin 37 = .ok (.aload_n 0, 1) := by decide +kernel
theorem dX2_addRuin_38 : decode cX2_addRuin 38 = .ok (.getfield 28, 3) := by decide +kernel
theorem dX2_addRuin_41 : decode cX2_addRuin 41 = .ok (.iconst 1, 1) := by decide +kernel
theorem dX2_addRuin_42 : decode cX2_addRuin 42 = .ok (.isub, 1) := by decide +kernel
theorem dX2_addRuin_43 : decode cX2_addRuin 43 = .ok (.ireturn, 1) := by decide +kernel
theorem dX2_addStone_0 : decode cX2_addStone 0 = .ok (.aload_n 0, 1) := by decide +kernel
theorem dX2_addStone_1 : decode cX2_addStone 1 = .ok (.getfield 38, 3) := by decide +kernel
theorem dX2_addStone_4 : decode cX2_addStone 4 = .ok (.bipush 12, 2) := by decide +kernel
theorem dX2_addStone_6 : decode cX2_addStone 6 = .ok (.if_icmp .lt 5, 3) := by decide +kernel
theorem dX2_addStone_9 : decode cX2_addStone 9 = .ok (.iconst (-1), 1) := by decide +kernel
theorem dX2_addStone_10 : decode cX2_addStone 10 = .ok (.ireturn, 1) := by decide +kernel
theorem dX2_addStone_11 : decode cX2_addStone 11 = .ok (.aload_n 0, 1) := by decide +kernel
theorem dX2_addStone_12 : decode cX2_addStone 12 = .ok (.getfield 17, 3) := by decide +kernel
theorem dX2_addStone_15 : decode cX2_addStone 15 = .ok (.aload_n 0, 1) := by decide +kernel
theorem dX2_addStone_16 : decode cX2_addStone 16 = .ok (.getfield 38, 3) := by decide +kernel
theorem dX2_addStone_19 : decode cX2_addStone 19 = .ok (.aaload, 1) := by decide +kernel
theorem dX2_addStone_20 : decode cX2_addStone 20 = .ok (.aload_n 1, 1) := by decide +kernel
theorem dX2_addStone_21 : decode cX2_addStone 21 = .ok (.iload_n 2, 1) := by decide +kernel
theorem dX2_addStone_22 : decode cX2_addStone 22 = .ok (.iload_n 3, 1) := by decide +kernel
theorem dX2_addStone_23 : decode cX2_addStone 23 = .ok (.iload 4, 2) := by decide +kernel
theorem dX2_addStone_25 : decode cX2_addStone 25 = .ok (.invokevirtual 34, 3) := by decide +kernel
theorem dX2_addStone_28 : decode cX2_addStone 28 = .ok (.aload_n 0, 1) := by decide +kernel
theorem dX2_addStone_29 : decode cX2_addStone 29 = .ok (.dup, 1) := by decide +kernel
theorem dX2_addStone_30 : decode cX2_addStone 30 = .ok (.getfield 38, 3) := by decide +kernel
theorem dX2_addStone_33 : decode cX2_addStone 33 = .ok (.iconst 1, 1) := by decide +kernel
theorem dX2_addStone_34 : decode cX2_addStone 34 = .ok (.iadd, 1) := by decide +kernel
theorem dX2_addStone_35 : decode cX2_addStone 35 = .ok (.putfield 38, 3) := by decide +kernel
theorem dX2_addStone_38 : decode cX2_addStone 38 = .ok (.aload_n 0, 1) := by decide +kernel
theorem dX2_addStone_39 : decode cX2_addStone 39 = .ok (.getfield 38, 3) := by decide +kernel
theorem dX2_addStone_42 : decode cX2_addStone 42 = .ok (.iconst 1, 1) := by decide +kernel
theorem dX2_addStone_43 : decode cX2_addStone 43 = .ok (.isub, 1) := by decide +kernel
theorem dX2_addStone_44 : decode cX2_addStone 44 = .ok (.ireturn, 1) := by decide +kernel
theorem dX2_fillCosts_0 : decode cX2_fillCosts 0 = .ok (.iconst 0, 1) := by decide +kernel
theorem dX2_fillCosts_1 : decode cX2_fillCosts 1 = .ok (.istore 5, 2) := by decide +kernel
theorem dX2_fillCosts_3 : decode cX2_fillCosts 3 = .ok (.iload 5, 2) := by decide +kernel
theorem dX2_fillCosts_5 : decode cX2_fillCosts 5 = .ok (.aload_n 1, 1) := by decide +kernel
theorem dX2_fillCosts_6 : decode cX2_fillCosts 6 = .ok (.arraylength, 1) := by decide +kernel
theorem dX2_fillCosts_7 : decode cX2_fillCosts 7 = .ok (.if_icmp .ge 17, 3) := by decide +kernel
theorem dX2_fillCosts_10 : decode cX2_fillCosts 10 = .ok (.aload_n 1, 1) := by decide +kernel
theorem dX2_fillCosts_11 : decode cX2_fillCosts 11 = .ok (.iload 5, 2) := by decide +kernel
theorem dX2_fillCosts_13 : decode cX2_fillCosts 13 = .ok (.aload_n 0, 1) := by decide +kernel
theorem dX2_fillCosts_14 : decode cX2_fillCosts 14 = .ok (.getfield 20, 3) := by decide +kernel
theorem dX2_fillCosts_17 : decode cX2_fillCosts 17 = .ok (.iastore, 1) := by decide +kernel
theorem dX2_fillCosts_18 : decode cX2_fillCosts 18 = .ok (.iinc 5 1, 3) := by decide +kernel
theorem dX2_fillCosts_21 : decode cX2_fillCosts 21 = .ok (.goto (-18), 3) := by decide +kernel
theorem dX2_fillCosts_24 : decode cX2_fillCosts 24 = .ok (.iconst 0, 1) := by decide +kernel
theorem dX2_fillCosts_25 : decode cX2_fillCosts 25 = .ok (.istore 5, 2) := by decide +kernel
theorem dX2_fillCosts_27 : decode cX2_fillCosts 27 = .ok (.iload 5, 2) := by decide +kernel
theorem dX2_fillCosts_29 : decode cX2_fillCosts 29 = .ok (.aload_n 0, 1) := by decide +kernel
theorem dX2_fillCosts_30 : decode cX2_fillCosts 30 = .ok (.getfield 28, 3) := by decide +kernel
theorem dX2_fillCosts_33 : decode cX2_fillCosts 33 = .ok (.if_icmp .ge 63, 3) := by decide +kernel
theorem dX2_fillCosts_36 : decode cX2_fillCosts 36 = .ok (.aload_n 0, 1) := by decide +kernel
theorem dX2_fillCosts_37 : decode cX2_fillCosts 37 = .ok (.getfield 11, 3) := by decide +kernel
theorem dX2_fillCosts_40 : decode cX2_fillCosts 40 = .ok (.iload 5, 2) := by decide +kernel
theorem dX2_fillCosts_42 : decode cX2_fillCosts 42 = .ok (.aaload, 1) := by decide +kernel
theorem dX2_fillCosts_43 : decode cX2_fillCosts 43 = .ok (.astore 6, 2) := by decide +kernel
theorem dX2_fillCosts_45 : decode cX2_fillCosts 45 = .ok (.aload 6, 2) := by decide +kernel
theorem dX2_fillCosts_47 : decode cX2_fillCosts 47 = .ok (.getfield 41, 3) := by decide +kernel
theorem dX2_fillCosts_50 : decode cX2_fillCosts 50 = .ok (.iload_n 3, 1) := by decide +kernel
theorem dX2_fillCosts_51 : decode cX2_fillCosts 51 = .ok (.if_icmp .gt 39, 3) := by decide +kernel
theorem dX2_fillCosts_54 : decode cX2_fillCosts 54 = .ok (.aload 6, 2) := by decide +kernel
theorem dX2_fillCosts_56 : decode cX2_fillCosts 56 = .ok (.getfield 31, 3) := by decide +kernel
theorem dX2_fillCosts_59 : decode cX2_fillCosts 59 = .ok (.ifCond .lt 31, 3) := by decide +kernel
theorem dX2_fillCosts_62 : decode cX2_fillCosts 62 = .ok (.aload 6, 2) := by decide +kernel
theorem dX2_fillCosts_64 : decode cX2_fillCosts 64 = .ok (.getfield 31, 3) := by decide +kernel
theorem dX2_fillCosts_67 : decode cX2_fillCosts 67 = .ok (.aload_n 1, 1) := by decide +kernel
theorem dX2_fillCosts_68 : decode cX2_fillCosts 68 = .ok (.arraylength, 1) := by decide +kernel
theorem dX2_fillCosts_69 : decode cX2_fillCosts 69 = .ok (.if_icmp .ge 21, 3) := by decide +kernel
theorem dX2_fillCosts_72 : decode cX2_fillCosts 72 = .ok (.aload_n 1, 1) := by decide +kernel
theorem dX2_fillCosts_73 : decode cX2_fillCosts 73 = .ok (.aload 6, 2) := by decide +kernel
theorem dX2_fillCosts_75 : decode cX2_fillCosts 75 = .ok (.getfield 31, 3) := by decide +kernel
theorem dX2_fillCosts_78 : decode cX2_fillCosts 78 = .ok (.aload 4, 2) := by decide +kernel
theorem dX2_fillCosts_80 : decode cX2_fillCosts 80 = .ok (.aload_n 2, 1) := by decide +kernel
theorem dX2_fillCosts_81 : decode cX2_fillCosts 81 = .ok (.aload 6, 2) := by decide +kernel
theorem dX2_fillCosts_83 : decode cX2_fillCosts 83 = .ok (.getfield 44, 3) := by decide +kernel
theorem dX2_fillCosts_86 : decode cX2_fillCosts 86 = .ok (.invokevirtual 48, 3) := by decide +kernel
theorem dX2_fillCosts_89 : decode cX2_fillCosts 89 = .ok (.iastore, 1) := by decide +kernel
theorem dX2_fillCosts_90 : decode cX2_fillCosts 90 = .ok (.iinc 5 1, 3) := by decide +kernel
theorem dX2_fillCosts_93 : decode cX2_fillCosts 93 = .ok (.goto (-66), 3) := by decide +kernel
theorem dX2_fillCosts_96 : decode cX2_fillCosts 96 = .ok (.iconst 0, 1) := by decide +kernel
theorem dX2_fillCosts_97 : decode cX2_fillCosts 97 = .ok (.istore 5, 2) := by decide +kernel
theorem dX2_fillCosts_99 : decode cX2_fillCosts 99 = .ok (.iload 5, 2) := by decide +kernel
theorem dX2_fillCosts_101 : decode cX2_fillCosts 101 = .ok (.aload_n 0, 1) := by decide +kernel
theorem dX2_fillCosts_102 : decode cX2_fillCosts 102 = .ok (.getfield 38, 3) := by decide +kernel
theorem dX2_fillCosts_105 : decode cX2_fillCosts 105 = .ok (.if_icmp .ge 52, 3) := by decide +kernel
theorem dX2_fillCosts_108 : decode cX2_fillCosts 108 = .ok (.aload_n 0, 1) := by decide +kernel
theorem dX2_fillCosts_109 : decode cX2_fillCosts 109 = .ok (.getfield 17, 3) := by decide +kernel
theorem dX2_fillCosts_112 : decode cX2_fillCosts 112 = .ok (.iload 5, 2) := by decide +kernel
theorem dX2_fillCosts_114 : decode cX2_fillCosts 114 = .ok (.aaload, 1) := by decide +kernel
theorem dX2_fillCosts_115 : decode cX2_fillCosts 115 = .ok (.getfield 41, 3) := by decide +kernel
theorem dX2_fillCosts_118 : decode cX2_fillCosts 118 = .ok (.iload_n 3, 1) := by decide +kernel
theorem dX2_fillCosts_119 : decode cX2_fillCosts 119 = .ok (.if_icmp .gt 32, 3) := by decide +kernel
theorem dX2_fillCosts_122 : decode cX2_fillCosts 122 = .ok (.aload_n 0, 1) := by decide +kernel
theorem dX2_fillCosts_123 : decode cX2_fillCosts 123 = .ok (.getfield 17, 3) := by decide +kernel
theorem dX2_fillCosts_126 : decode cX2_fillCosts 126 = .ok (.iload 5, 2) := by decide +kernel
theorem dX2_fillCosts_128 : decode cX2_fillCosts 128 = .ok (.aaload, 1) := by decide +kernel
theorem dX2_fillCosts_129 : decode cX2_fillCosts 129 = .ok (.getfield 44, 3) := by decide +kernel
theorem dX2_fillCosts_132 : decode cX2_fillCosts 132 = .ok (.aload_n 2, 1) := by decide +kernel
theorem dX2_fillCosts_133 : decode cX2_fillCosts 133 = .ok (.invokevirtual 54, 3) := by decide +kernel
theorem dX2_fillCosts_136 : decode cX2_fillCosts 136 = .ok (.ifCond .eq 15, 3) := by decide +kernel
theorem dX2_fillCosts_139 : decode cX2_fillCosts 139 = .ok (.aload_n 0, 1) := by decide +kernel
theorem dX2_fillCosts_140 : decode cX2_fillCosts 140 = .ok (.aload_n 1, 1) := by decide +kernel
theorem dX2_fillCosts_141 : decode cX2_fillCosts 141 = .ok (.aload_n 0, 1) := by decide +kernel
theorem dX2_fillCosts_142 : decode cX2_fillCosts 142 = .ok (.getfield 17, 3) := by decide +kernel
theorem dX2_fillCosts_145 : decode cX2_fillCosts 145 = .ok (.iload 5, 2) := by decide +kernel
theorem dX2_fillCosts_147 : decode cX2_fillCosts 147 = .ok (.aaload, 1) := by decide +kernel
theorem dX2_fillCosts_148 : decode cX2_fillCosts 148 = .ok (.invokevirtual 60, 3) := by decide +kernel
theorem dX2_fillCosts_151 : decode cX2_fillCosts 151 = .ok (.iinc 5 1, 3) := by decide +kernel
theorem dX2_fillCosts_154 : decode cX2_fillCosts 154 = .ok (.goto (-55), 3) := by decide +kernel
theorem dX2_fillCosts_157 : decode cX2_fillCosts 157 = .ok (.return_, 1) := by decide +kernel
theorem dX2_addMoved_0 : decode cX2_addMoved 0 = .ok (.iconst 0, 1) := by decide +kernel
theorem dX2_addMoved_1 : decode cX2_addMoved 1 = .ok (.istore_n 3, 1) := by decide +kernel
theorem dX2_addMoved_2 : decode cX2_addMoved 2 = .ok (.iload_n 3, 1) := by decide +kernel
theorem dX2_addMoved_3 : decode cX2_addMoved 3 = .ok (.aload_n 1, 1) := by decide +kernel
theorem dX2_addMoved_4 : decode cX2_addMoved 4 = .ok (.arraylength, 1) := by decide +kernel
theorem dX2_addMoved_5 : decode cX2_addMoved 5 = .ok (.if_icmp .ge 35, 3) := by decide +kernel
theorem dX2_addMoved_8 : decode cX2_addMoved 8 = .ok (.iload_n 3, 1) := by decide +kernel
theorem dX2_addMoved_9 : decode cX2_addMoved 9 = .ok (.aload_n 2, 1) := by decide +kernel
theorem dX2_addMoved_10 : decode cX2_addMoved 10 = .ok (.getfield 31, 3) := by decide +kernel
theorem dX2_addMoved_13 : decode cX2_addMoved 13 = .ok (.isub, 1) := by decide +kernel
theorem dX2_addMoved_14 : decode cX2_addMoved 14 = .ok (.invokestatic 64, 3) := by decide +kernel
theorem dX2_addMoved_17 : decode cX2_addMoved 17 = .ok (.aload_n 2, 1) := by decide +kernel
theorem dX2_addMoved_18 : decode cX2_addMoved 18 = .ok (.getfield 70, 3) := by decide +kernel
theorem dX2_addMoved_21 : decode cX2_addMoved 21 = .ok (.if_icmp .eq 13, 3) := by decide +kernel
theorem dX2_addMoved_24 : decode cX2_addMoved 24 = .ok (.aload_n 1, 1) := by decide +kernel
theorem dX2_addMoved_25 : decode cX2_addMoved 25 = .ok (.iload_n 3, 1) := by decide +kernel
theorem dX2_addMoved_26 : decode cX2_addMoved 26 = .ok (.dup2, 1) := by decide +kernel
theorem dX2_addMoved_27 : decode cX2_addMoved 27 = .ok (.iaload, 1) := by decide +kernel
theorem dX2_addMoved_28 : decode cX2_addMoved 28 = .ok (.aload_n 0, 1) := by decide +kernel
theorem dX2_addMoved_29 : decode cX2_addMoved 29 = .ok (.getfield 24, 3) := by decide +kernel
theorem dX2_addMoved_32 : decode cX2_addMoved 32 = .ok (.iadd, 1) := by decide +kernel
theorem dX2_addMoved_33 : decode cX2_addMoved 33 = .ok (.iastore, 1) := by decide +kernel
theorem dX2_addMoved_34 : decode cX2_addMoved 34 = .ok (.iinc 3 1, 3) := by decide +kernel
theorem dX2_addMoved_37 : decode cX2_addMoved 37 = .ok (.goto (-35), 3) := by decide +kernel
theorem dX2_addMoved_40 : decode cX2_addMoved 40 = .ok (.return_, 1) := by decide +kernel
theorem dX3_init_0 : decode cX3_init 0 = .ok (.aload_n 0, 1) := by decide +kernel
theorem dX3_init_1 : decode cX3_init 1 = .ok (.invokespecial 3, 3) := by decide +kernel
theorem dX3_init_4 : decode cX3_init 4 = .ok (.aload_n 0, 1) := by decide +kernel
theorem dX3_init_5 : decode cX3_init 5 = .ok (.bipush 8, 2) := by decide +kernel
theorem dX3_init_7 : decode cX3_init 7 = .ok (.newarray .int, 2) := by decide +kernel
theorem dX3_init_9 : decode cX3_init 9 = .ok (.putfield 9, 3) := by decide +kernel
theorem dX3_init_12 : decode cX3_init 12 = .ok (.return_, 1) := by decide +kernel
theorem dX3_take_0 : decode cX3_take 0 = .ok (.aload_n 0, 1) := by decide +kernel
theorem dX3_take_1 : decode cX3_take 1 = .ok (.iconst 0, 1) := by decide +kernel
theorem dX3_take_2 : decode cX3_take 2 = .ok (.putfield 15, 3) := by decide +kernel
theorem dX3_take_5 : decode cX3_take 5 = .ok (.iload_n 2, 1) := by decide +kernel
theorem dX3_take_6 : decode cX3_take 6 = .ok (.istore 4, 2) := by decide +kernel
theorem dX3_take_8 : decode cX3_take 8 = .ok (.iload 4, 2) := by decide +kernel
theorem dX3_take_10 : decode cX3_take 10 = .ok (.iload_n 2, 1) := by decide +kernel
theorem dX3_take_11 : decode cX3_take 11 = .ok (.iload_n 3, 1) := by decide +kernel
theorem dX3_take_12 : decode cX3_take 12 = .ok (.iadd, 1) := by decide +kernel
theorem dX3_take_13 : decode cX3_take 13 = .ok (.if_icmp .ge 61, 3) := by decide +kernel
theorem dX3_take_16 : decode cX3_take 16 = .ok (.iload 4, 2) := by decide +kernel
theorem dX3_take_18 : decode cX3_take 18 = .ok (.ifCond .lt 50, 3) := by decide +kernel
theorem dX3_take_21 : decode cX3_take 21 = .ok (.iload 4, 2) := by decide +kernel
theorem dX3_take_23 : decode cX3_take 23 = .ok (.aload_n 1, 1) := by decide +kernel
theorem dX3_take_24 : decode cX3_take 24 = .ok (.getfield 19, 3) := by decide +kernel
theorem dX3_take_27 : decode cX3_take 27 = .ok (.if_icmp .ge 41, 3) := by decide +kernel
theorem dX3_take_30 : decode cX3_take 30 = .ok (.aload_n 0, 1) := by decide +kernel
theorem dX3_take_31 : decode cX3_take 31 = .ok (.getfield 15, 3) := by decide +kernel
theorem dX3_take_34 : decode cX3_take 34 = .ok (.aload_n 0, 1) := by decide +kernel
theorem dX3_take_35 : decode cX3_take 35 = .ok (.getfield 9, 3) := by decide +kernel
theorem dX3_take_38 : decode cX3_take 38 = .ok (.arraylength, 1) := by decide +kernel
theorem dX3_take_39 : decode cX3_take 39 = .ok (.if_icmp .ge 29, 3) := by decide +kernel
theorem dX3_take_42 : decode cX3_take 42 = .ok (.aload_n 0, 1) := by decide +kernel
theorem dX3_take_43 : decode cX3_take 43 = .ok (.getfield 9, 3) := by decide +kernel
theorem dX3_take_46 : decode cX3_take 46 = .ok (.aload_n 0, 1) := by decide +kernel
theorem dX3_take_47 : decode cX3_take 47 = .ok (.getfield 15, 3) := by decide +kernel
theorem dX3_take_50 : decode cX3_take 50 = .ok (.aload_n 1, 1) := by decide +kernel
theorem dX3_take_51 : decode cX3_take 51 = .ok (.getfield 22, 3) := by decide +kernel
theorem dX3_take_54 : decode cX3_take 54 = .ok (.iload 4, 2) := by decide +kernel
theorem dX3_take_56 : decode cX3_take 56 = .ok (.iaload, 1) := by decide +kernel
theorem dX3_take_57 : decode cX3_take 57 = .ok (.iastore, 1) := by decide +kernel
theorem dX3_take_58 : decode cX3_take 58 = .ok (.aload_n 0, 1) := by decide +kernel
theorem dX3_take_59 : decode cX3_take 59 = .ok (.dup, 1) := by decide +kernel
theorem dX3_take_60 : decode cX3_take 60 = .ok (.getfield 15, 3) := by decide +kernel
theorem dX3_take_63 : decode cX3_take 63 = .ok (.iconst 1, 1) := by decide +kernel
theorem dX3_take_64 : decode cX3_take 64 = .ok (.iadd, 1) := by decide +kernel
theorem dX3_take_65 : decode cX3_take 65 = .ok (.putfield 15, 3) := by decide +kernel
theorem dX3_take_68 : decode cX3_take 68 = .ok (.iinc 4 1, 3) := by decide +kernel
theorem dX3_take_71 : decode cX3_take 71 = .ok (.goto (-63), 3) := by decide +kernel
theorem dX3_take_74 : decode cX3_take 74 = .ok (.return_, 1) := by decide +kernel
theorem dX3_copy_0 : decode cX3_copy 0 = .ok (.aload_n 0, 1) := by decide +kernel
theorem dX3_copy_1 : decode cX3_copy 1 = .ok (.aload_n 1, 1) := by decide +kernel
theorem dX3_copy_2 : decode cX3_copy 2 = .ok (.getfield 15, 3) := by decide +kernel
theorem dX3_copy_5 : decode cX3_copy 5 = .ok (.putfield 15, 3) := by decide +kernel
theorem dX3_copy_8 : decode cX3_copy 8 = .ok (.iconst 0, 1) := by decide +kernel
theorem dX3_copy_9 : decode cX3_copy 9 = .ok (.istore_n 2, 1) := by decide +kernel
theorem dX3_copy_10 : decode cX3_copy 10 = .ok (.iload_n 2, 1) := by decide +kernel
theorem dX3_copy_11 : decode cX3_copy 11 = .ok (.aload_n 0, 1) := by decide +kernel
theorem dX3_copy_12 : decode cX3_copy 12 = .ok (.getfield 15, 3) := by decide +kernel
theorem dX3_copy_15 : decode cX3_copy 15 = .ok (.if_icmp .ge 21, 3) := by decide +kernel
theorem dX3_copy_18 : decode cX3_copy 18 = .ok (.aload_n 0, 1) := by decide +kernel
theorem dX3_copy_19 : decode cX3_copy 19 = .ok (.getfield 9, 3) := by decide +kernel
theorem dX3_copy_22 : decode cX3_copy 22 = .ok (.iload_n 2, 1) := by decide +kernel
theorem dX3_copy_23 : decode cX3_copy 23 = .ok (.aload_n 1, 1) := by decide +kernel
theorem dX3_copy_24 : decode cX3_copy 24 = .ok (.getfield 9, 3) := by decide +kernel
theorem dX3_copy_27 : decode cX3_copy 27 = .ok (.iload_n 2, 1) := by decide +kernel
theorem dX3_copy_28 : decode cX3_copy 28 = .ok (.iaload, 1) := by decide +kernel
theorem dX3_copy_29 : decode cX3_copy 29 = .ok (.iastore, 1) := by decide +kernel
theorem dX3_copy_30 : decode cX3_copy 30 = .ok (.iinc 2 1, 3) := by decide +kernel
theorem dX3_copy_33 : decode cX3_copy 33 = .ok (.goto (-23), 3) := by decide +kernel
theorem dX3_copy_36 : decode cX3_copy 36 = .ok (.return_, 1) := by decide +kernel
theorem dX3_same_0 : decode cX3_same 0 = .ok (.aload_n 0, 1) := by decide +kernel
theorem dX3_same_1 : decode cX3_same 1 = .ok (.getfield 15, 3) := by decide +kernel
theorem dX3_same_4 : decode cX3_same 4 = .ok (.aload_n 1, 1) := by decide +kernel
theorem dX3_same_5 : decode cX3_same 5 = .ok (.getfield 15, 3) := by decide +kernel
theorem dX3_same_8 : decode cX3_same 8 = .ok (.if_icmp .eq 5, 3) := by decide +kernel
theorem dX3_same_11 : decode cX3_same 11 = .ok (.iconst 0, 1) := by decide +kernel
theorem dX3_same_12 : decode cX3_same 12 = .ok (.ireturn, 1) := by decide +kernel
theorem dX3_same_13 : decode cX3_same 13 = .ok (.iconst 0, 1) := by decide +kernel
theorem dX3_same_14 : decode cX3_same 14 = .ok (.istore_n 2, 1) := by decide +kernel
theorem dX3_same_15 : decode cX3_same 15 = .ok (.iload_n 2, 1) := by decide +kernel
theorem dX3_same_16 : decode cX3_same 16 = .ok (.aload_n 0, 1) := by decide +kernel
theorem dX3_same_17 : decode cX3_same 17 = .ok (.getfield 15, 3) := by decide +kernel
theorem dX3_same_20 : decode cX3_same 20 = .ok (.if_icmp .ge 26, 3) := by decide +kernel
theorem dX3_same_23 : decode cX3_same 23 = .ok (.aload_n 0, 1) := by decide +kernel
theorem dX3_same_24 : decode cX3_same 24 = .ok (.getfield 9, 3) := by decide +kernel
theorem dX3_same_27 : decode cX3_same 27 = .ok (.iload_n 2, 1) := by decide +kernel
theorem dX3_same_28 : decode cX3_same 28 = .ok (.iaload, 1) := by decide +kernel
theorem dX3_same_29 : decode cX3_same 29 = .ok (.aload_n 1, 1) := by decide +kernel
theorem dX3_same_30 : decode cX3_same 30 = .ok (.getfield 9, 3) := by decide +kernel
theorem dX3_same_33 : decode cX3_same 33 = .ok (.iload_n 2, 1) := by decide +kernel
theorem dX3_same_34 : decode cX3_same 34 = .ok (.iaload, 1) := by decide +kernel
theorem dX3_same_35 : decode cX3_same 35 = .ok (.if_icmp .eq 5, 3) := by decide +kernel
theorem dX3_same_38 : decode cX3_same 38 = .ok (.iconst 0, 1) := by decide +kernel
theorem dX3_same_39 : decode cX3_same 39 = .ok (.ireturn, 1) := by decide +kernel
theorem dX3_same_40 : decode cX3_same 40 = .ok (.iinc 2 1, 3) := by decide +kernel
theorem dX3_same_43 : decode cX3_same 43 = .ok (.goto (-28), 3) := by decide +kernel
theorem dX3_same_46 : decode cX3_same 46 = .ok (.iconst 1, 1) := by decide +kernel
theorem dX3_same_47 : decode cX3_same 47 = .ok (.ireturn, 1) := by decide +kernel
theorem dX4_init_0 : decode cX4_init 0 = .ok (.aload_n 0, 1) := by decide +kernel
theorem dX4_init_1 : decode cX4_init 1 = .ok (.invokespecial 3, 3) := by decide +kernel
theorem dX4_init_4 : decode cX4_init 4 = .ok (.aload_n 0, 1) := by decide +kernel
theorem dX4_init_5 : decode cX4_init 5 = .ok (.bipush 8, 2) := by decide +kernel
theorem dX4_init_7 : decode cX4_init 7 = .ok (.newarray .int, 2) := by decide +kernel
theorem dX4_init_9 : decode cX4_init 9 = .ok (.putfield 9, 3) := by decide +kernel
theorem dX4_init_12 : decode cX4_init 12 = .ok (.return_, 1) := by decide +kernel
theorem dX4_take_0 : decode cX4_take 0 = .ok (.aload_n 0, 1) := by decide +kernel
theorem dX4_take_1 : decode cX4_take 1 = .ok (.iconst 0, 1) := by decide +kernel
theorem dX4_take_2 : decode cX4_take 2 = .ok (.putfield 15, 3) := by decide +kernel
theorem dX4_take_5 : decode cX4_take 5 = .ok (.iload_n 3, 1) := by decide +kernel
theorem dX4_take_6 : decode cX4_take 6 = .ok (.iconst 1, 1) := by decide +kernel
theorem dX4_take_7 : decode cX4_take 7 = .ok (.if_icmp .lt 9, 3) := by decide +kernel
theorem dX4_take_10 : decode cX4_take 10 = .ok (.iload_n 3, 1) := by decide +kernel
theorem dX4_take_11 : decode cX4_take 11 = .ok (.bipush 8, 2) := by decide +kernel
theorem dX4_take_13 : decode cX4_take 13 = .ok (.if_icmp .le 5, 3) := by decide +kernel
theorem dX4_take_16 : decode cX4_take 16 = .ok (.iconst 0, 1) := by decide +kernel
theorem dX4_take_17 : decode cX4_take 17 = .ok (.ireturn, 1) := by decide +kernel
theorem dX4_take_18 : decode cX4_take 18 = .ok (.iload_n 2, 1) := by decide +kernel
theorem dX4_take_19 : decode cX4_take 19 = .ok (.istore 4, 2) := by decide +kernel
theorem dX4_take_21 : decode cX4_take 21 = .ok (.iload 4, 2) := by decide +kernel
theorem dX4_take_23 : decode cX4_take 23 = .ok (.iload_n 2, 1) := by decide +kernel
theorem dX4_take_24 : decode cX4_take 24 = .ok (.iload_n 3, 1) := by decide +kernel
theorem dX4_take_25 : decode cX4_take 25 = .ok (.iadd, 1) := by decide +kernel
theorem dX4_take_26 : decode cX4_take 26 = .ok (.if_icmp .ge 98, 3) := by decide +kernel
theorem dX4_take_29 : decode cX4_take 29 = .ok (.iload 4, 2) := by decide +kernel
theorem dX4_take_31 : decode cX4_take 31 = .ok (.ifCond .lt 24, 3) := by decide +kernel
theorem dX4_take_34 : decode cX4_take 34 = .ok (.iload 4, 2) := by decide +kernel
theorem dX4_take_36 : decode cX4_take 36 = .ok (.aload_n 1, 1) := by decide +kernel
theorem dX4_take_37 : decode cX4_take 37 = .ok (.getfield 19, 3) := by decide +kernel
theorem dX4_take_40 : decode cX4_take 40 = .ok (.if_icmp .ge 15, 3) := by decide +kernel
theorem dX4_take_43 : decode cX4_take 43 = .ok (.aload_n 0, 1) := by decide +kernel
theorem dX4_take_44 : decode cX4_take 44 = .ok (.getfield 15, 3) := by decide +kernel
theorem dX4_take_47 : decode cX4_take 47 = .ok (.aload_n 0, 1) := by decide +kernel
theorem dX4_take_48 : decode cX4_take 48 = .ok (.getfield 9, 3) := by decide +kernel
theorem dX4_take_51 : decode cX4_take 51 = .ok (.arraylength, 1) := by decide +kernel
theorem dX4_take_52 : decode cX4_take 52 = .ok (.if_icmp .lt 5, 3) := by decide +kernel
theorem dX4_take_55 : decode cX4_take 55 = .ok (.iconst 0, 1) := by decide +kernel
theorem dX4_take_56 : decode cX4_take 56 = .ok (.ireturn, 1) := by decide +kernel
theorem dX4_take_57 : decode cX4_take 57 = .ok (.aload_n 0, 1) := by decide +kernel
theorem dX4_take_58 : decode cX4_take 58 = .ok (.getfield 9, 3) := by decide +kernel
theorem dX4_take_61 : decode cX4_take 61 = .ok (.aload_n 0, 1) := by decide +kernel
theorem dX4_take_62 : decode cX4_take 62 = .ok (.getfield 15, 3) := by decide +kernel
theorem dX4_take_65 : decode cX4_take 65 = .ok (.aload_n 1, 1) := by decide +kernel
theorem dX4_take_66 : decode cX4_take 66 = .ok (.getfield 22, 3) := by decide +kernel
theorem dX4_take_69 : decode cX4_take 69 = .ok (.iload 4, 2) := by decide +kernel
theorem dX4_take_71 : decode cX4_take 71 = .ok (.iaload, 1) := by decide +kernel
theorem dX4_take_72 : decode cX4_take 72 = .ok (.invokestatic 25, 3) := by decide +kernel
theorem dX4_take_75 : decode cX4_take 75 = .ok (.iastore, 1) := by decide +kernel
theorem dX4_take_76 : decode cX4_take 76 = .ok (.aload_n 0, 1) := by decide +kernel
theorem dX4_take_77 : decode cX4_take 77 = .ok (.getfield 15, 3) := by decide +kernel
theorem dX4_take_80 : decode cX4_take 80 = .ok (.ifCond .le 28, 3) := by decide +kernel
theorem dX4_take_83 : decode cX4_take 83 = .ok (.aload_n 0, 1) := by decide +kernel
theorem dX4_take_84 : decode cX4_take 84 = .ok (.getfield 9, 3) := by decide +kernel
theorem dX4_take_87 : decode cX4_take 87 = .ok (.aload_n 0, 1) := by decide +kernel
theorem dX4_take_88 : decode cX4_take 88 = .ok (.getfield 15, 3) := by decide +kernel
theorem dX4_take_91 : decode cX4_take 91 = .ok (.iaload, 1) := by decide +kernel
theorem dX4_take_92 : decode cX4_take 92 = .ok (.aload_n 0, 1) := by decide +kernel
theorem dX4_take_93 : decode cX4_take 93 = .ok (.getfield 9, 3) := by decide +kernel
theorem dX4_take_96 : decode cX4_take 96 = .ok (.aload_n 0, 1) := by decide +kernel
theorem dX4_take_97 : decode cX4_take 97 = .ok (.getfield 15, 3) := by decide +kernel
theorem dX4_take_100 : decode cX4_take 100 = .ok (.iconst 1, 1) := by decide +kernel
theorem dX4_take_101 : decode cX4_take 101 = .ok (.isub, 1) := by decide +kernel
theorem dX4_take_102 : decode cX4_take 102 = .ok (.iaload, 1) := by decide +kernel
theorem dX4_take_103 : decode cX4_take 103 = .ok (.if_icmp .le 5, 3) := by decide +kernel
theorem dX4_take_106 : decode cX4_take 106 = .ok (.iconst 0, 1) := by decide +kernel
theorem dX4_take_107 : decode cX4_take 107 = .ok (.ireturn, 1) := by decide +kernel
theorem dX4_take_108 : decode cX4_take 108 = .ok (.aload_n 0, 1) := by decide +kernel
theorem dX4_take_109 : decode cX4_take 109 = .ok (.dup, 1) := by decide +kernel
theorem dX4_take_110 : decode cX4_take 110 = .ok (.getfield 15, 3) := by decide +kernel
theorem dX4_take_113 : decode cX4_take 113 = .ok (.iconst 1, 1) := by decide +kernel
theorem dX4_take_114 : decode cX4_take 114 = .ok (.iadd, 1) := by decide +kernel
theorem dX4_take_115 : decode cX4_take 115 = .ok (.putfield 15, 3) := by decide +kernel
theorem dX4_take_118 : decode cX4_take 118 = .ok (.iinc 4 1, 3) := by decide +kernel
theorem dX4_take_121 : decode cX4_take 121 = .ok (.goto (-100), 3) := by decide +kernel
theorem dX4_take_124 : decode cX4_take 124 = .ok (.iconst 1, 1) := by decide +kernel
theorem dX4_take_125 : decode cX4_take 125 = .ok (.ireturn, 1) := by decide +kernel
theorem dX4_value_0 : decode cX4_value 0 = .ok (.iconst 0, 1) := by decide +kernel
theorem dX4_value_1 : decode cX4_value 1 = .ok (.istore_n 1, 1) := by decide +kernel
theorem dX4_value_2 : decode cX4_value 2 = .ok (.iconst 0, 1) := by decide +kernel
theorem dX4_value_3 : decode cX4_value 3 = .ok (.istore_n 2, 1) := by decide +kernel
theorem dX4_value_4 : decode cX4_value 4 = .ok (.iload_n 2, 1) := by decide +kernel
theorem dX4_value_5 : decode cX4_value 5 = .ok (.aload_n 0, 1) := by decide +kernel
theorem dX4_value_6 : decode cX4_value 6 = .ok (.getfield 15, 3) := by decide +kernel
theorem dX4_value_9 : decode cX4_value 9 = .ok (.if_icmp .ge 22, 3) := by decide +kernel
theorem dX4_value_12 : decode cX4_value 12 = .ok (.iload_n 1, 1) := by decide +kernel
theorem dX4_value_13 : decode cX4_value 13 = .ok (.getstatic 29, 3) := by decide +kernel
theorem dX4_value_16 : decode cX4_value 16 = .ok (.aload_n 0, 1) := by decide +kernel
theorem dX4_value_17 : decode cX4_value 17 = .ok (.getfield 9, 3) := by decide +kernel
theorem dX4_value_20 : decode cX4_value 20 = .ok (.iload_n 2, 1) := by decide +kernel
theorem dX4_value_21 : decode cX4_value 21 = .ok (.iaload, 1) := by decide +kernel
theorem dX4_value_22 : decode cX4_value 22 = .ok (.iaload, 1) := by decide +kernel
theorem dX4_value_23 : decode cX4_value 23 = .ok (.iadd, 1) := by decide +kernel
theorem dX4_value_24 : decode cX4_value 24 = .ok (.istore_n 1, 1) := by decide +kernel
theorem dX4_value_25 : decode cX4_value 25 = .ok (.iinc 2 1, 3) := by decide +kernel
theorem dX4_value_28 : decode cX4_value 28 = .ok (.goto (-24), 3) := by decide +kernel
theorem dX4_value_31 : decode cX4_value 31 = .ok (.iload_n 1, 1) := by decide +kernel
theorem dX4_value_32 : decode cX4_value 32 = .ok (.ireturn, 1) := by decide +kernel
theorem dX4_same_0 : decode cX4_same 0 = .ok (.aload_n 0, 1) := by decide +kernel
theorem dX4_same_1 : decode cX4_same 1 = .ok (.getfield 15, 3) := by decide +kernel
theorem dX4_same_4 : decode cX4_same 4 = .ok (.aload_n 1, 1) := by decide +kernel
theorem dX4_same_5 : decode cX4_same 5 = .ok (.getfield 15, 3) := by decide +kernel
theorem dX4_same_8 : decode cX4_same 8 = .ok (.if_icmp .eq 5, 3) := by decide +kernel
theorem dX4_same_11 : decode cX4_same 11 = .ok (.iconst 0, 1) := by decide +kernel
theorem dX4_same_12 : decode cX4_same 12 = .ok (.ireturn, 1) := by decide +kernel
theorem dX4_same_13 : decode cX4_same 13 = .ok (.iconst 0, 1) := by decide +kernel
theorem dX4_same_14 : decode cX4_same 14 = .ok (.istore_n 2, 1) := by decide +kernel
theorem dX4_same_15 : decode cX4_same 15 = .ok (.iload_n 2, 1) := by decide +kernel
theorem dX4_same_16 : decode cX4_same 16 = .ok (.aload_n 0, 1) := by decide +kernel
theorem dX4_same_17 : decode cX4_same 17 = .ok (.getfield 15, 3) := by decide +kernel
theorem dX4_same_20 : decode cX4_same 20 = .ok (.if_icmp .ge 26, 3) := by decide +kernel
theorem dX4_same_23 : decode cX4_same 23 = .ok (.aload_n 0, 1) := by decide +kernel
theorem dX4_same_24 : decode cX4_same 24 = .ok (.getfield 9, 3) := by decide +kernel
theorem dX4_same_27 : decode cX4_same 27 = .ok (.iload_n 2, 1) := by decide +kernel
theorem dX4_same_28 : decode cX4_same 28 = .ok (.iaload, 1) := by decide +kernel
theorem dX4_same_29 : decode cX4_same 29 = .ok (.aload_n 1, 1) := by decide +kernel
theorem dX4_same_30 : decode cX4_same 30 = .ok (.getfield 9, 3) := by decide +kernel
theorem dX4_same_33 : decode cX4_same 33 = .ok (.iload_n 2, 1) := by decide +kernel
theorem dX4_same_34 : decode cX4_same 34 = .ok (.iaload, 1) := by decide +kernel
theorem dX4_same_35 : decode cX4_same 35 = .ok (.if_icmp .eq 5, 3) := by decide +kernel
theorem dX4_same_38 : decode cX4_same 38 = .ok (.iconst 0, 1) := by decide +kernel
theorem dX4_same_39 : decode cX4_same 39 = .ok (.ireturn, 1) := by decide +kernel
theorem dX4_same_40 : decode cX4_same 40 = .ok (.iinc 2 1, 3) := by decide +kernel
theorem dX4_same_43 : decode cX4_same 43 = .ok (.goto (-28), 3) := by decide +kernel
theorem dX4_same_46 : decode cX4_same 46 = .ok (.iconst 1, 1) := by decide +kernel
theorem dX4_same_47 : decode cX4_same 47 = .ok (.ireturn, 1) := by decide +kernel
theorem dX4_holds_0 : decode cX4_holds 0 = .ok (.iconst 0, 1) := by decide +kernel
theorem dX4_holds_1 : decode cX4_holds 1 = .ok (.istore_n 2, 1) := by decide +kernel
theorem dX4_holds_2 : decode cX4_holds 2 = .ok (.iload_n 2, 1) := by decide +kernel
theorem dX4_holds_3 : decode cX4_holds 3 = .ok (.aload_n 0, 1) := by decide +kernel
theorem dX4_holds_4 : decode cX4_holds 4 = .ok (.getfield 15, 3) := by decide +kernel
theorem dX4_holds_7 : decode cX4_holds 7 = .ok (.if_icmp .ge 21, 3) := by decide +kernel
theorem dX4_holds_10 : decode cX4_holds 10 = .ok (.aload_n 0, 1) := by decide +kernel
theorem dX4_holds_11 : decode cX4_holds 11 = .ok (.getfield 9, 3) := by decide +kernel
theorem dX4_holds_14 : decode cX4_holds 14 = .ok (.iload_n 2, 1) := by decide +kernel
theorem dX4_holds_15 : decode cX4_holds 15 = .ok (.iaload, 1) := by decide +kernel
theorem dX4_holds_16 : decode cX4_holds 16 = .ok (.iload_n 1, 1) := by decide +kernel
theorem dX4_holds_17 : decode cX4_holds 17 = .ok (.if_icmp .ne 5, 3) := by decide +kernel
theorem dX4_holds_20 : decode cX4_holds 20 = .ok (.iconst 1, 1) := by decide +kernel
theorem dX4_holds_21 : decode cX4_holds 21 = .ok (.ireturn, 1) := by decide +kernel
theorem dX4_holds_22 : decode cX4_holds 22 = .ok (.iinc 2 1, 3) := by decide +kernel
theorem dX4_holds_25 : decode cX4_holds 25 = .ok (.goto (-23), 3) := by decide +kernel
theorem dX4_holds_28 : decode cX4_holds 28 = .ok (.iconst 0, 1) := by decide +kernel
theorem dX4_holds_29 : decode cX4_holds 29 = .ok (.ireturn, 1) := by decide +kernel
theorem dX4_canSwap_0 : decode cX4_canSwap 0 = .ok (.iconst 0, 1) := by decide +kernel
theorem dX4_canSwap_1 : decode cX4_canSwap 1 = .ok (.istore_n 3, 1) := by decide +kernel
theorem dX4_canSwap_2 : decode cX4_canSwap 2 = .ok (.iload_n 3, 1) := by decide +kernel
theorem dX4_canSwap_3 : decode cX4_canSwap 3 = .ok (.aload_n 0, 1) := by decide +kernel
theorem dX4_canSwap_4 : decode cX4_canSwap 4 = .ok (.getfield 15, 3) := by decide +kernel
theorem dX4_canSwap_7 : decode cX4_canSwap 7 = .ok (.if_icmp .ge 83, 3) := by decide +kernel
theorem dX4_canSwap_10 : decode cX4_canSwap 10 = .ok (.iload_n 3, 1) := by decide +kernel
theorem dX4_canSwap_11 : decode cX4_canSwap 11 = .ok (.ifCond .eq 15, 3) := by decide +kernel
theorem dX4_canSwap_14 : decode cX4_canSwap 14 = .ok (.aload_n 0, 1) := by decide +kernel
theorem dX4_canSwap_15 : decode cX4_canSwap 15 = .ok (.getfield 9, 3) := by decide +kernel
theorem dX4_canSwap_18 : decode cX4_canSwap 18 = .ok (.iload_n 3, 1) := by decide +kernel
theorem dX4_canSwap_19 : decode cX4_canSwap 19 = .ok (.iconst 1, 1) := by decide +kernel
theorem dX4_canSwap_20 : decode cX4_canSwap 20 = .ok (.isub, 1) := by decide +kernel
theorem dX4_canSwap_21 : decode cX4_canSwap 21 = .ok (.iaload, 1) := by decide +kernel
theorem dX4_canSwap_22 : decode cX4_canSwap 22 = .ok (.iload_n 2, 1) := by decide +kernel
theorem dX4_canSwap_23 : decode cX4_canSwap 23 = .ok (.if_icmp .lt 7, 3) := by decide +kernel
theorem dX4_canSwap_26 : decode cX4_canSwap 26 = .ok (.iconst 1, 1) := by decide +kernel
theorem dX4_canSwap_27 : decode cX4_canSwap 27 = .ok (.goto 4, 3) := by decide +kernel
theorem dX4_canSwap_30 : decode cX4_canSwap 30 = .ok (.iconst 0, 1) := by decide +kernel
theorem dX4_canSwap_31 : decode cX4_canSwap 31 = .ok (.istore 4, 2) := by decide +kernel
theorem dX4_canSwap_33 : decode cX4_canSwap 33 = .ok (.iload_n 3, 1) := by decide +kernel
theorem dX4_canSwap_34 : decode cX4_canSwap 34 = .ok (.aload_n 0, 1) := by decide +kernel
theorem dX4_canSwap_35 : decode cX4_canSwap 35 = .ok (.getfield 15, 3) := by decide +kernel
theorem dX4_canSwap_38 : decode cX4_canSwap 38 = .ok (.iconst 1, 1) := by decide +kernel
theorem dX4_canSwap_39 : decode cX4_canSwap 39 = .ok (.isub, 1) := by decide +kernel
theorem dX4_canSwap_40 : decode cX4_canSwap 40 = .ok (.if_icmp .eq 15, 3) := by decide +kernel
theorem dX4_canSwap_43 : decode cX4_canSwap 43 = .ok (.aload_n 0, 1) := by decide +kernel
theorem dX4_canSwap_44 : decode cX4_canSwap 44 = .ok (.getfield 9, 3) := by decide +kernel
theorem dX4_canSwap_47 : decode cX4_canSwap 47 = .ok (.iload_n 3, 1) := by decide +kernel
theorem dX4_canSwap_48 : decode cX4_canSwap 48 = .ok (.iconst 1, 1) := by decide +kernel
theorem dX4_canSwap_49 : decode cX4_canSwap 49 = .ok (.iadd, 1) := by decide +kernel
theorem dX4_canSwap_50 : decode cX4_canSwap 50 = .ok (.iaload, 1) := by decide +kernel
theorem dX4_canSwap_51 : decode cX4_canSwap 51 = .ok (.iload_n 2, 1) := by decide +kernel
theorem dX4_canSwap_52 : decode cX4_canSwap 52 = .ok (.if_icmp .gt 7, 3) := by decide +kernel
theorem dX4_canSwap_55 : decode cX4_canSwap 55 = .ok (.iconst 1, 1) := by decide +kernel
theorem dX4_canSwap_56 : decode cX4_canSwap 56 = .ok (.goto 4, 3) := by decide +kernel
theorem dX4_canSwap_59 : decode cX4_canSwap 59 = .ok (.iconst 0, 1) := by decide +kernel
theorem dX4_canSwap_60 : decode cX4_canSwap 60 = .ok (.istore 5, 2) := by decide +kernel
theorem dX4_canSwap_62 : decode cX4_canSwap 62 = .ok (.aload_n 0, 1) := by decide +kernel
theorem dX4_canSwap_63 : decode cX4_canSwap 63 = .ok (.getfield 9, 3) := by decide +kernel
theorem dX4_canSwap_66 : decode cX4_canSwap 66 = .ok (.iload_n 3, 1) := by decide +kernel
theorem dX4_canSwap_67 : decode cX4_canSwap 67 = .ok (.iaload, 1) := by decide +kernel
theorem dX4_canSwap_68 : decode cX4_canSwap 68 = .ok (.iload_n 1, 1) := by decide +kernel
theorem dX4_canSwap_69 : decode cX4_canSwap 69 = .ok (.if_icmp .ne 15, 3) := by decide +kernel
theorem dX4_canSwap_72 : decode cX4_canSwap 72 = .ok (.iload 4, 2) := by decide +kernel
theorem dX4_canSwap_74 : decode cX4_canSwap 74 = .ok (.ifCond .eq 10, 3) := by decide +kernel
theorem dX4_canSwap_77 : decode cX4_canSwap 77 = .ok (.iload 5, 2) := by decide +kernel
theorem dX4_canSwap_79 : decode cX4_canSwap 79 = .ok (.ifCond .eq 5, 3) := by decide +kernel
theorem dX4_canSwap_82 : decode cX4_canSwap 82 = .ok (.iconst 1, 1) := by decide +kernel
theorem dX4_canSwap_83 : decode cX4_canSwap 83 = .ok (.ireturn, 1) := by decide +kernel
theorem dX4_canSwap_84 : decode cX4_canSwap 84 = .ok (.iinc 3 1, 3) := by decide +kernel
theorem dX4_canSwap_87 : decode cX4_canSwap 87 = .ok (.goto (-85), 3) := by decide +kernel
theorem dX4_canSwap_90 : decode cX4_canSwap 90 = .ok (.iconst 0, 1) := by decide +kernel
theorem dX4_canSwap_91 : decode cX4_canSwap 91 = .ok (.ireturn, 1) := by decide +kernel
theorem dX6_init_0 : decode cX6_init 0 = .ok (.aload_n 0, 1) := by decide +kernel
theorem dX6_init_1 : decode cX6_init 1 = .ok (.invokespecial 3, 3) := by decide +kernel
theorem dX6_init_4 : decode cX6_init 4 = .ok (.aload_n 0, 1) := by decide +kernel
theorem dX6_init_5 : decode cX6_init 5 = .ok (.bipush 21, 2) := by decide +kernel
theorem dX6_init_7 : decode cX6_init 7 = .ok (.newarray .int, 2) := by decide +kernel
theorem dX6_init_9 : decode cX6_init 9 = .ok (.putfield 9, 3) := by decide +kernel
theorem dX6_init_12 : decode cX6_init 12 = .ok (.aload_n 0, 1) := by decide +kernel
theorem dX6_init_13 : decode cX6_init 13 = .ok (.bipush 21, 2) := by decide +kernel
theorem dX6_init_15 : decode cX6_init 15 = .ok (.newarray .int, 2) := by decide +kernel
theorem dX6_init_17 : decode cX6_init 17 = .ok (.putfield 15, 3) := by decide +kernel
theorem dX6_init_20 : decode cX6_init 20 = .ok (.return_, 1) := by decide +kernel
theorem dX6_gather_0 : decode cX6_gather 0 = .ok (.aload_n 0, 1) := by decide +kernel
theorem dX6_gather_1 : decode cX6_gather 1 = .ok (.iconst 0, 1) := by decide +kernel
theorem dX6_gather_2 : decode cX6_gather 2 = .ok (.putfield 18, 3) := by decide +kernel
theorem dX6_gather_5 : decode cX6_gather 5 = .ok (.aload_n 0, 1) := by decide +kernel
theorem dX6_gather_6 : decode cX6_gather 6 = .ok (.aload_n 1, 1) := by decide +kernel
theorem dX6_gather_7 : decode cX6_gather 7 = .ok (.invokevirtual 22, 3) := by decide +kernel
theorem dX6_gather_10 : decode cX6_gather 10 = .ok (.iconst 0, 1) := by decide +kernel
theorem dX6_gather_11 : decode cX6_gather 11 = .ok (.invokevirtual 28, 3) := by decide +kernel
theorem dX6_gather_14 : decode cX6_gather 14 = .ok (.iconst 0, 1) := by decide +kernel
theorem dX6_gather_15 : decode cX6_gather 15 = .ok (.istore_n 3, 1) := by decide +kernel
theorem dX6_gather_16 : decode cX6_gather 16 = .ok (.iload_n 3, 1) := by decide +kernel
theorem dX6_gather_17 : decode cX6_gather 17 = .ok (.aload_n 2, 1) := by decide +kernel
theorem dX6_gather_18 : decode cX6_gather 18 = .ok (.getfield 32, 3) := by decide +kernel
theorem dX6_gather_21 : decode cX6_gather 21 = .ok (.if_icmp .ge 35, 3) := by decide +kernel
theorem dX6_gather_24 : decode cX6_gather 24 = .ok (.aload_n 2, 1) := by decide +kernel
theorem dX6_gather_25 : decode cX6_gather 25 = .ok (.iload_n 3, 1) := by decide +kernel
theorem dX6_gather_26 : decode cX6_gather 26 = .ok (.aload_n 1, 1) := by decide +kernel
theorem dX6_gather_27 : decode cX6_gather 27 = .ok (.invokevirtual 35, 3) := by decide +kernel
theorem dX6_gather_30 : decode cX6_gather 30 = .ok (.istore 4, 2) := by decide +kernel
theorem dX6_gather_32 : decode cX6_gather 32 = .ok (.iload 4, 2) := by decide +kernel
theorem dX6_gather_34 : decode cX6_gather 34 = .ok (.iconst (-1), 1) := by decide +kernel
theorem dX6_gather_35 : decode cX6_gather 35 = .ok (.if_icmp .eq 15, 3) := by decide +kernel
theorem dX6_gather_38 : decode cX6_gather 38 = .ok (.aload_n 0, 1) := by decide +kernel
theorem dX6_gather_39 : decode cX6_gather 39 = .ok (.iload 4, 2) := by decide +kernel
theorem dX6_gather_41 : decode cX6_gather 41 = .ok (.aload_n 2, 1) := by decide +kernel
theorem dX6_gather_42 : decode cX6_gather 42 = .ok (.getfield 39, 3) := by decide +kernel
theorem dX6_gather_45 : decode cX6_gather 45 = .ok (.iload_n 3, 1) := by decide +kernel
theorem dX6_gather_46 : decode cX6_gather 46 = .ok (.iaload, 1) := by decide +kernel
theorem dX6_gather_47 : decode cX6_gather 47 = .ok (.invokevirtual 28, 3) := by decide +kernel
theorem dX6_gather_50 : decode cX6_gather 50 = .ok (.iinc 3 1, 3) := by decide +kernel
theorem dX6_gather_53 : decode cX6_gather 53 = .ok (.goto (-37), 3) := by decide +kernel
theorem dX6_gather_56 : decode cX6_gather 56 = .ok (.return_, 1) := by decide +kernel
theorem dX6_costOf_0 : decode cX6_costOf 0 = .ok (.aload_n 0, 1) := by decide +kernel
theorem dX6_costOf_1 : decode cX6_costOf 1 = .ok (.iload_n 1, 1) := by decide +kernel
theorem dX6_costOf_2 : decode cX6_costOf 2 = .ok (.invokevirtual 40, 3) := by decide +kernel
theorem dX6_costOf_5 : decode cX6_costOf 5 = .ok (.istore_n 2, 1) := by decide +kernel
theorem dX6_costOf_6 : decode cX6_costOf 6 = .ok (.iload_n 2, 1) := by decide +kernel
theorem dX6_costOf_7 : decode cX6_costOf 7 = .ok (.iconst (-1), 1) := by decide +kernel
theorem dX6_costOf_8 : decode cX6_costOf 8 = .ok (.if_icmp .ne 7, 3) := by decide +kernel
theorem dX6_costOf_11 : decode cX6_costOf 11 = .ok (.iconst (-1), 1) := by decide +kernel
theorem dX6_costOf_12 : decode cX6_costOf 12 = .ok (.goto 9, 3) := by decide +kernel
theorem dX6_costOf_15 : decode cX6_costOf 15 = .ok (.aload_n 0, 1) := by decide +kernel
theorem dX6_costOf_16 : decode cX6_costOf 16 = .ok (.getfield 15, 3) := by decide +kernel
theorem dX6_costOf_19 : decode cX6_costOf 19 = .ok (.iload_n 2, 1) := by decide +kernel
theorem dX6_costOf_20 : decode cX6_costOf 20 = .ok (.iaload, 1) := by decide +kernel
theorem dX6_costOf_21 : decode cX6_costOf 21 = .ok (.ireturn, 1) := by decide +kernel
theorem dX6_put_0 : decode cX6_put 0 = .ok (.aload_n 0, 1) := by decide +kernel
theorem dX6_put_1 : decode cX6_put 1 = .ok (.iload_n 1, 1) := by decide +kernel
theorem dX6_put_2 : decode cX6_put 2 = .ok (.invokevirtual 40, 3) := by decide +kernel
theorem dX6_put_5 : decode cX6_put 5 = .ok (.istore_n 3, 1) := by decide +kernel
theorem dX6_put_6 : decode cX6_put 6 = .ok (.iload_n 3, 1) := by decide +kernel
theorem dX6_put_7 : decode cX6_put 7 = .ok (.iconst (-1), 1) := by decide +kernel
theorem dX6_put_8 : decode cX6_put 8 = .ok (.if_icmp .eq 22, 3) := by decide +kernel
theorem dX6_put_11 : decode cX6_put 11 = .ok (.aload_n 0, 1) := by decide +kernel
theorem dX6_put_12 : decode cX6_put 12 = .ok (.getfield 15, 3) := by decide +kernel
theorem dX6_put_15 : decode cX6_put 15 = .ok (.iload_n 3, 1) := by decide +kernel
theorem dX6_put_16 : decode cX6_put 16 = .ok (.aload_n 0, 1) := by decide +kernel
theorem dX6_put_17 : decode cX6_put 17 = .ok (.getfield 15, 3) := by decide +kernel
theorem dX6_put_20 : decode cX6_put 20 = .ok (.iload_n 3, 1) := by decide +kernel
theorem dX6_put_21 : decode cX6_put 21 = .ok (.iaload, 1) := by decide +kernel
theorem dX6_put_22 : decode cX6_put 22 = .ok (.iload_n 2, 1) := by decide +kernel
theorem dX6_put_23 : decode cX6_put 23 = .ok (.invokestatic 44, 3) := by decide +kernel
theorem dX6_put_26 : decode cX6_put 26 = .ok (.iastore, 1) := by decide +kernel
theorem dX6_put_27 : decode cX6_put 27 = .ok (.goto 45, 3) := by decide +kernel
theorem dX6_put_30 : decode cX6_put 30 = .ok (.aload_n 0, 1) := by decide +kernel
theorem dX6_put_31 : decode cX6_put 31 = .ok (.getfield 18, 3) := by decide +kernel
theorem dX6_put_34 : decode cX6_put 34 = .ok (.aload_n 0, 1) := by decide +kernel
theorem dX6_put_35 : decode cX6_put 35 = .ok (.getfield 9, 3) := by decide +kernel
theorem dX6_put_38 : decode cX6_put 38 = .ok (.arraylength, 1) := by decide +kernel
theorem dX6_put_39 : decode cX6_put 39 = .ok (.if_icmp .ge 33, 3) := by decide +kernel
theorem dX6_put_42 : decode cX6_put 42 = .ok (.aload_n 0, 1) := by decide +kernel
theorem dX6_put_43 : decode cX6_put 43 = .ok (.getfield 9, 3) := by decide +kernel
theorem dX6_put_46 : decode cX6_put 46 = .ok (.aload_n 0, 1) := by decide +kernel
theorem dX6_put_47 : decode cX6_put 47 = .ok (.getfield 18, 3) := by decide +kernel
theorem dX6_put_50 : decode cX6_put 50 = .ok (.iload_n 1, 1) := by decide +kernel
theorem dX6_put_51 : decode cX6_put 51 = .ok (.iastore, 1) := by decide +kernel
theorem dX6_put_52 : decode cX6_put 52 = .ok (.aload_n 0, 1) := by decide +kernel
theorem dX6_put_53 : decode cX6_put 53 = .ok (.getfield 15, 3) := by decide +kernel
theorem dX6_put_56 : decode cX6_put 56 = .ok (.aload_n 0, 1) := by decide +kernel
theorem dX6_put_57 : decode cX6_put 57 = .ok (.getfield 18, 3) := by decide +kernel
theorem dX6_put_60 : decode cX6_put 60 = .ok (.iload_n 2, 1) := by decide +kernel
theorem dX6_put_61 : decode cX6_put 61 = .ok (.iastore, 1) := by decide +kernel
theorem dX6_put_62 : decode cX6_put 62 = .ok (.aload_n 0, 1) := by decide +kernel
theorem dX6_put_63 : decode cX6_put 63 = .ok (.dup, 1) := by decide +kernel
theorem dX6_put_64 : decode cX6_put 64 = .ok (.getfield 18, 3) := by decide +kernel
theorem dX6_put_67 : decode cX6_put 67 = .ok (.iconst 1, 1) := by decide +kernel
theorem dX6_put_68 : decode cX6_put 68 = .ok (.iadd, 1) := by decide +kernel
theorem dX6_put_69 : decode cX6_put 69 = .ok (.putfield 18, 3) := by decide +kernel
theorem dX6_put_72 : decode cX6_put 72 = .ok (.return_, 1) := by decide +kernel
theorem dX6_find_0 : decode cX6_find 0 = .ok (.iconst 0, 1) := by decide +kernel
theorem dX6_find_1 : decode cX6_find 1 = .ok (.istore_n 2, 1) := by decide +kernel
theorem dX6_find_2 : decode cX6_find 2 = .ok (.iload_n 2, 1) := by decide +kernel
theorem dX6_find_3 : decode cX6_find 3 = .ok (.aload_n 0, 1) := by decide +kernel
theorem dX6_find_4 : decode cX6_find 4 = .ok (.getfield 18, 3) := by decide +kernel
theorem dX6_find_7 : decode cX6_find 7 = .ok (.if_icmp .ge 21, 3) := by decide +kernel
theorem dX6_find_10 : decode cX6_find 10 = .ok (.aload_n 0, 1) := by decide +kernel
theorem dX6_find_11 : decode cX6_find 11 = .ok (.getfield 9, 3) := by decide +kernel
theorem dX6_find_14 : decode cX6_find 14 = .ok (.iload_n 2, 1) := by decide +kernel
theorem dX6_find_15 : decode cX6_find 15 = .ok (.iaload, 1) := by decide +kernel
theorem dX6_find_16 : decode cX6_find 16 = .ok (.iload_n 1, 1) := by decide +kernel
theorem dX6_find_17 : decode cX6_find 17 = .ok (.if_icmp .ne 5, 3) := by decide +kernel
theorem dX6_find_20 : decode cX6_find 20 = .ok (.iload_n 2, 1) := by decide +kernel
theorem dX6_find_21 : decode cX6_find 21 = .ok (.ireturn, 1) := by decide +kernel
theorem dX6_find_22 : decode cX6_find 22 = .ok (.iinc 2 1, 3) := by decide +kernel
theorem dX6_find_25 : decode cX6_find 25 = .ok (.goto (-23), 3) := by decide +kernel
theorem dX6_find_28 : decode cX6_find 28 = .ok (.iconst (-1), 1) := by decide +kernel
theorem dX6_find_29 : decode cX6_find 29 = .ok (.ireturn, 1) := by decide +kernel
theorem dX7_init_0 : decode cX7_init 0 = .ok (.aload_n 0, 1) := by decide +kernel
theorem dX7_init_1 : decode cX7_init 1 = .ok (.invokespecial 3, 3) := by decide +kernel
theorem dX7_init_4 : decode cX7_init 4 = .ok (.aload_n 0, 1) := by decide +kernel
theorem dX7_init_5 : decode cX7_init 5 = .ok (.bipush 10, 2) := by decide +kernel
theorem dX7_init_7 : decode cX7_init 7 = .ok (.anewarray 9, 3) := by decide +kernel
theorem dX7_init_10 : decode cX7_init 10 = .ok (.putfield 11, 3) := by decide +kernel
theorem dX7_init_13 : decode cX7_init 13 = .ok (.aload_n 0, 1) := by decide +kernel
theorem dX7_init_14 : decode cX7_init 14 = .ok (.bipush 10, 2) := by decide +kernel
theorem dX7_init_16 : decode cX7_init 16 = .ok (.anewarray 17, 3) := by decide +kernel
theorem dX7_init_19 : decode cX7_init 19 = .ok (.putfield 19, 3) := by decide +kernel
theorem dX7_init_22 : decode cX7_init 22 = .ok (.aload_n 0, 1) := by decide +kernel
theorem dX7_init_23 : decode cX7_init 23 = .ok (.bipush 10, 2) := by decide +kernel
theorem dX7_init_25 : decode cX7_init 25 = .ok (.newarray .boolean, 2) := by decide +kernel
theorem dX7_init_27 : decode cX7_init 27 = .ok (.putfield 23, 3) := by decide +kernel
theorem dX7_init_30 : decode cX7_init 30 = .ok (.iconst 0, 1) := by decide +kernel
theorem dX7_init_31 : decode cX7_init 31 = .ok (.istore_n 1, 1) := by decide +kernel
theorem dX7_init_32 : decode cX7_init 32 = .ok (.iload_n 1, 1) := by decide +kernel
theorem dX7_init_33 : decode cX7_init 33 = .ok (.bipush 10, 2) := by decide +kernel
theorem dX7_init_35 : decode cX7_init 35 = .ok (.if_icmp .ge 35, 3) := by decide +kernel
theorem dX7_init_38 : decode cX7_init 38 = .ok (.aload_n 0, 1) := by decide +kernel
theorem dX7_init_39 : decode cX7_init 39 = .ok (.getfield 11, 3) := by decide +kernel
theorem dX7_init_42 : decode cX7_init 42 = .ok (.iload_n 1, 1) := by decide +kernel
theorem dX7_init_43 : decode cX7_init 43 = .ok (.new 9, 3) := by decide +kernel
theorem dX7_init_46 : decode cX7_init 46 = .ok (.dup, 1) := by decide +kernel
theorem dX7_init_47 : decode cX7_init 47 = .ok (.invokespecial 27, 3) := by decide +kernel
theorem dX7_init_50 : decode cX7_init 50 = .ok (.aastore, 1) := by decide +kernel
theorem dX7_init_51 : decode cX7_init 51 = .ok (.aload_n 0, 1) := by decide +kernel
theorem dX7_init_52 : decode cX7_init 52 = .ok (.getfield 19, 3) := by decide +kernel
theorem dX7_init_55 : decode cX7_init 55 = .ok (.iload_n 1, 1) := by decide +kernel
theorem dX7_init_56 : decode cX7_init 56 = .ok (.new 17, 3) := by decide +kernel
theorem dX7_init_59 : decode cX7_init 59 = .ok (.dup, 1) := by decide +kernel
theorem dX7_init_60 : decode cX7_init 60 = .ok (.invokespecial 28, 3) := by decide +kernel
theorem dX7_init_63 : decode cX7_init 63 = .ok (.aastore, 1) := by decide +kernel
theorem dX7_init_64 : decode cX7_init 64 = .ok (.iinc 1 1, 3) := by decide +kernel
theorem dX7_init_67 : decode cX7_init 67 = .ok (.goto (-35), 3) := by decide +kernel
theorem dX7_init_70 : decode cX7_init 70 = .ok (.return_, 1) := by decide +kernel
theorem dX7_hasStation_0 : decode cX7_hasStation 0 = .ok (.iload_n 1, 1) := by decide +kernel
theorem dX7_hasStation_1 : decode cX7_hasStation 1 = .ok (.ifCond .lt 15, 3) := by decide +kernel
theorem dX7_hasStation_4 : decode cX7_hasStation 4 = .ok (.iload_n 1, 1) := by decide +kernel
theorem dX7_hasStation_5 : decode cX7_hasStation 5 = .ok (.aload_n 0, 1) := by decide +kernel
theorem dX7_hasStation_6 : decode cX7_hasStation 6 = .ok (.getfield 29, 3) := by decide +kernel
theorem dX7_hasStation_9 : decode cX7_hasStation 9 = .ok (.if_icmp .ge 7, 3) := by decide +kernel
theorem dX7_hasStation_12 : decode cX7_hasStation 12 = .ok (.iconst 1, 1) := by decide +kernel
theorem dX7_hasStation_13 : decode cX7_hasStation 13 = .ok (.goto 4, 3) := by decide +kernel
theorem dX7_hasStation_16 : decode cX7_hasStation 16 = .ok (.iconst 0, 1) := by decide +kernel
theorem dX7_hasStation_17 : decode cX7_hasStation 17 = .ok (.ireturn, 1) := by decide +kernel
theorem dX7_hasNumeral_0 : decode cX7_hasNumeral 0 = .ok (.iload_n 1, 1) := by decide +kernel
theorem dX7_hasNumeral_1 : decode cX7_hasNumeral 1 = .ok (.ifCond .lt 17, 3) := by decide +kernel
theorem dX7_hasNumeral_4 : decode cX7_hasNumeral 4 = .ok (.iload_n 1, 1) := by decide +kernel
theorem dX7_hasNumeral_5 : decode cX7_hasNumeral 5 = .ok (.aload_n 0, 1) := by decide +kernel
theorem dX7_hasNumeral_6 : decode cX7_hasNumeral 6 = .ok (.getfield 29, 3) := by decide +kernel
theorem dX7_hasNumeral_9 : decode cX7_hasNumeral 9 = .ok (.iconst 1, 1) := by decide +kernel
theorem dX7_hasNumeral_10 : decode cX7_hasNumeral 10 = .ok (.isub, 1) := by decide +kernel
theorem dX7_hasNumeral_11 : decode cX7_hasNumeral 11 = .ok (.if_icmp .ge 7, 3) := by decide +kernel
theorem dX7_hasNumeral_14 : decode cX7_hasNumeral 14 = .ok (.iconst 1, 1) := by decide +kernel
theorem dX7_hasNumeral_15 : decode cX7_hasNumeral 15 = .ok (.goto 4, 3) := by decide +kernel
theorem dX7_hasNumeral_18 : decode cX7_hasNumeral 18 = .ok (.iconst 0, 1) := by decide +kernel
theorem dX7_hasNumeral_19 : decode cX7_hasNumeral 19 = .ok (.ireturn, 1) := by decide +kernel
theorem dX7_hasNameAhead_0 : decode cX7_hasNameAhead 0 = .ok (.iconst 0, 1) := by decide +kernel
theorem dX7_hasNameAhead_1 : decode cX7_hasNameAhead 1 = .ok (.istore_n 2, 1) := by decide +kernel
theorem dX7_hasNameAhead_2 : decode cX7_hasNameAhead 2 = .ok (.iload_n 2, 1) := by decide +kernel
theorem dX7_hasNameAhead_3 : decode cX7_hasNameAhead 3 = .ok (.iload_n 1, 1) := by decide +kernel
theorem dX7_hasNameAhead_4 : decode cX7_hasNameAhead 4 = .ok (.if_icmp .ge 29, 3) := by decide +kernel
theorem dX7_hasNameAhead_7 : decode cX7_hasNameAhead 7 = .ok (.aload_n 0, 1) := by decide +kernel
theorem dX7_hasNameAhead_8 : decode cX7_hasNameAhead 8 = .ok (.getfield 11, 3) := by decide +kernel
theorem dX7_hasNameAhead_11 : decode cX7_hasNameAhead 11 = .ok (.iload_n 2, 1) := by decide +kernel
theorem dX7_hasNameAhead_12 : decode cX7_hasNameAhead 12 = .ok (.aaload, 1) := by decide +kernel
theorem dX7_hasNameAhead_13 : decode cX7_hasNameAhead 13 = .ok (.aload_n 0, 1) := by decide +kernel
theorem dX7_hasNameAhead_14 : decode cX7_hasNameAhead 14 = .ok (.getfield 11, 3) := by decide +kernel
theorem dX7_hasNameAhead_17 : decode cX7_hasNameAhead 17 = .ok (.iload_n 1, 1) := by decide +kernel
theorem dX7_hasNameAhead_18 : decode cX7_hasNameAhead 18 = .ok (.aaload, 1) := by decide +kernel
theorem dX7_hasNameAhead_19 : decode cX7_hasNameAhead 19 = .ok (.invokevirtual 33, 3) := by decide +kernel
theorem dX7_hasNameAhead_22 : decode cX7_hasNameAhead 22 = .ok (.ifCond .eq 5, 3) := by decide +kernel
theorem dX7_hasNameAhead_25 : decode cX7_hasNameAhead 25 = .ok (.iconst 1, 1) := by decide +kernel
theorem dX7_hasNameAhead_26 : decode cX7_hasNameAhead 26 = .ok (.ireturn, 1) := by decide +kernel
theorem dX7_hasNameAhead_27 : decode cX7_hasNameAhead 27 = .ok (.iinc 2 1, 3) := by decide +kernel
theorem dX7_hasNameAhead_30 : decode cX7_hasNameAhead 30 = .ok (.goto (-28), 3) := by decide +kernel
theorem dX7_hasNameAhead_33 : decode cX7_hasNameAhead 33 = .ok (.iconst 0, 1) := by decide +kernel
theorem dX7_hasNameAhead_34 : decode cX7_hasNameAhead 34 = .ok (.ireturn, 1) := by decide +kernel
theorem dX7_markMisread_0 : decode cX7_markMisread 0 = .ok (.iconst 0, 1) := by decide +kernel
theorem dX7_markMisread_1 : decode cX7_markMisread 1 = .ok (.istore_n 2, 1) := by decide +kernel
theorem dX7_markMisread_2 : decode cX7_markMisread 2 = .ok (.iload_n 2, 1) := by decide +kernel
theorem dX7_markMisread_3 : decode cX7_markMisread 3 = .ok (.aload_n 0, 1) := by decide +kernel
theorem dX7_markMisread_4 : decode cX7_markMisread 4 = .ok (.getfield 29, 3) := by decide +kernel
theorem dX7_markMisread_7 : decode cX7_markMisread 7 = .ok (.iconst 1, 1) := by decide +kernel
theorem dX7_markMisread_8 : decode cX7_markMisread 8 = .ok (.isub, 1) := by decide +kernel
theorem dX7_markMisread_9 : decode cX7_markMisread 9 = .ok (.if_icmp .ge 46, 3) := by decide +kernel
theorem dX7_markMisread_12 : decode cX7_markMisread 12 = .ok (.aload_n 0, 1) := by decide +kernel
theorem dX7_markMisread_13 : decode cX7_markMisread 13 = .ok (.getfield 23, 3) := by decide +kernel
theorem dX7_markMisread_16 : decode cX7_markMisread 16 = .ok (.iload_n 2, 1) := by decide +kernel
theorem dX7_markMisread_17 : decode cX7_markMisread 17 = .ok (.aload_n 1, 1) := by decide +kernel
theorem dX7_markMisread_18 : decode cX7_markMisread 18 = .ok (.iload_n 2, 1) := by decide +kernel
theorem dX7_markMisread_19 : decode cX7_markMisread 19 = .ok (.iconst 1, 1) := by decide +kernel
theorem dX7_markMisread_20 : decode cX7_markMisread 20 = .ok (.iadd, 1) := by decide +kernel
theorem dX7_markMisread_21 : decode cX7_markMisread 21 = .ok (.iaload, 1) := by decide +kernel
theorem dX7_markMisread_22 : decode cX7_markMisread 22 = .ok (.aload_n 1, 1) := by decide +kernel
theorem dX7_markMisread_23 : decode cX7_markMisread 23 = .ok (.iload_n 2, 1) := by decide +kernel
theorem dX7_markMisread_24 : decode cX7_markMisread 24 = .ok (.iaload, 1) := by decide +kernel
theorem dX7_markMisread_25 : decode cX7_markMisread 25 = .ok (.isub, 1) := by decide +kernel
theorem dX7_markMisread_26 : decode cX7_markMisread 26 = .ok (.aload_n 0, 1) := by decide +kernel
theorem dX7_markMisread_27 : decode cX7_markMisread 27 = .ok (.getfield 37, 3) := by decide +kernel
theorem dX7_markMisread_30 : decode cX7_markMisread 30 = .ok (.aload_n 0, 1) := by decide +kernel
theorem dX7_markMisread_31 : decode cX7_markMisread 31 = .ok (.getfield 19, 3) := by decide +kernel
theorem dX7_markMisread_34 : decode cX7_markMisread 34 = .ok (.iload_n 2, 1) := by decide +kernel
theorem dX7_markMisread_35 : decode cX7_markMisread 35 = .ok (.aaload, 1) := by decide +kernel
theorem dX7_markMisread_36 : decode cX7_markMisread 36 = .ok (.invokevirtual 40, 3) := by decide +kernel
theorem dX7_markMisread_39 : decode cX7_markMisread 39 = .ok (.imul, 1) := by decide +kernel
theorem dX7_markMisread_40 : decode cX7_markMisread 40 = .ok (.if_icmp .eq 7, 3) := by decide +kernel
theorem dX7_markMisread_43 : decode cX7_markMisread 43 = .ok (.iconst 1, 1) := by decide +kernel
theorem dX7_markMisread_44 : decode cX7_markMisread 44 = .ok (.goto 4, 3) := by decide +kernel
theorem dX7_markMisread_47 : decode cX7_markMisread 47 = .ok (.iconst 0, 1) := by decide +kernel
theorem dX7_markMisread_48 : decode cX7_markMisread 48 = .ok (.bastore, 1) := by decide +kernel
theorem dX7_markMisread_49 : decode cX7_markMisread 49 = .ok (.iinc 2 1, 3) := by decide +kernel
theorem dX7_markMisread_52 : decode cX7_markMisread 52 = .ok (.goto (-50), 3) := by decide +kernel
theorem dX7_markMisread_55 : decode cX7_markMisread 55 = .ok (.return_, 1) := by decide +kernel
theorem dX7_countShared_0 : decode cX7_countShared 0 = .ok (.iconst 0, 1) := by decide +kernel
theorem dX7_countShared_1 : decode cX7_countShared 1 = .ok (.istore_n 2, 1) := by decide +kernel
theorem dX7_countShared_2 : decode cX7_countShared 2 = .ok (.iconst 0, 1) := by decide +kernel
theorem dX7_countShared_3 : decode cX7_countShared 3 = .ok (.istore_n 3, 1) := by decide +kernel
theorem dX7_countShared_4 : decode cX7_countShared 4 = .ok (.iload_n 3, 1) := by decide +kernel
theorem dX7_countShared_5 : decode cX7_countShared 5 = .ok (.aload_n 0, 1) := by decide +kernel
theorem dX7_countShared_6 : decode cX7_countShared 6 = .ok (.getfield 29, 3) := by decide +kernel
theorem dX7_countShared_9 : decode cX7_countShared 9 = .ok (.iconst 1, 1) := by decide +kernel
theorem dX7_countShared_10 : decode cX7_countShared 10 = .ok (.isub, 1) := by decide +kernel
theorem dX7_countShared_11 : decode cX7_countShared 11 = .ok (.if_icmp .ge 62, 3) := by decide +kernel
theorem dX7_countShared_14 : decode cX7_countShared 14 = .ok (.iconst 0, 1) := by decide +kernel
theorem dX7_countShared_15 : decode cX7_countShared 15 = .ok (.istore 4, 2) := by decide +kernel
theorem dX7_countShared_17 : decode cX7_countShared 17 = .ok (.iload 4, 2) := by decide +kernel
theorem dX7_countShared_19 : decode cX7_countShared 19 = .ok (.aload_n 1, 1) := by decide +kernel
theorem dX7_countShared_20 : decode cX7_countShared 20 = .ok (.getfield 29, 3) := by decide +kernel
theorem dX7_countShared_23 : decode cX7_countShared 23 = .ok (.iconst 1, 1) := by decide +kernel
theorem dX7_countShared_24 : decode cX7_countShared 24 = .ok (.isub, 1) := by decide +kernel
theorem dX7_countShared_25 : decode cX7_countShared 25 = .ok (.if_icmp .ge 42, 3) := by decide +kernel
theorem dX7_countShared_28 : decode cX7_countShared 28 = .ok (.aload_n 0, 1) := by decide +kernel
theorem dX7_countShared_29 : decode cX7_countShared 29 = .ok (.getfield 23, 3) := by decide +kernel
theorem dX7_countShared_32 : decode cX7_countShared 32 = .ok (.iload_n 3, 1) := by decide +kernel
theorem dX7_countShared_33 : decode cX7_countShared 33 = .ok (.baload, 1) := by decide +kernel
theorem dX7_countShared_34 : decode cX7_countShared 34 = .ok (.ifCond .eq 27, 3) := by decide +kernel
theorem dX7_countShared_37 : decode cX7_countShared 37 = .ok (.aload_n 1, 1) := by decide +kernel
theorem dX7_countShared_38 : decode cX7_countShared 38 = .ok (.getfield 23, 3) := by decide +kernel
theorem dX7_countShared_41 : decode cX7_countShared 41 = .ok (.iload 4, 2) := by decide +kernel
theorem dX7_countShared_43 : decode cX7_countShared 43 = .ok (.baload, 1) := by decide +kernel
theorem dX7_countShared_44 : decode cX7_countShared 44 = .ok (.ifCond .eq 17, 3) := by decide +kernel
theorem dX7_countShared_47 : decode cX7_countShared 47 = .ok (.aload_n 0, 1) := by decide +kernel
theorem dX7_countShared_48 : decode cX7_countShared 48 = .ok (.iload_n 3, 1) := by decide +kernel
theorem dX7_countShared_49 : decode cX7_countShared 49 = .ok (.aload_n 1, 1) := by decide +kernel
theorem dX7_countShared_50 : decode cX7_countShared 50 = .ok (.iload 4, 2) := by decide +kernel
theorem dX7_countShared_52 : decode cX7_countShared 52 = .ok (.invokevirtual 44, 3) := by decide +kernel
theorem dX7_countShared_55 : decode cX7_countShared 55 = .ok (.ifCond .eq 6, 3) := by decide +kernel
theorem dX7_countShared_58 : decode cX7_countShared 58 = .ok (.iinc 2 1, 3) := by decide +kernel
theorem dX7_countShared_61 : decode cX7_countShared 61 = .ok (.iinc 4 1, 3) := by decide +kernel
theorem dX7_countShared_64 : decode cX7_countShared 64 = .ok (.goto (-47), 3) := by decide +kernel
theorem dX7_countShared_67 : decode cX7_countShared 67 = .ok (.iinc 3 1, 3) := by decide +kernel
theorem dX7_countShared_70 : decode cX7_countShared 70 = .ok (.goto (-66), 3) := by decide +kernel
theorem dX7_countShared_73 : decode cX7_countShared 73 = .ok (.iload_n 2, 1) := by decide +kernel
theorem dX7_countShared_74 : decode cX7_countShared 74 = .ok (.ireturn, 1) := by decide +kernel
theorem dX7_sameStep_0 : decode cX7_sameStep 0 = .ok (.aload_n 0, 1) := by decide +kernel
theorem dX7_sameStep_1 : decode cX7_sameStep 1 = .ok (.getfield 11, 3) := by decide +kernel
theorem dX7_sameStep_4 : decode cX7_sameStep 4 = .ok (.iload_n 1, 1) := by decide +kernel
theorem dX7_sameStep_5 : decode cX7_sameStep 5 = .ok (.aaload, 1) := by decide +kernel
theorem dX7_sameStep_6 : decode cX7_sameStep 6 = .ok (.aload_n 2, 1) := by decide +kernel
theorem dX7_sameStep_7 : decode cX7_sameStep 7 = .ok (.getfield 11, 3) := by decide +kernel
theorem dX7_sameStep_10 : decode cX7_sameStep 10 = .ok (.iload_n 3, 1) := by decide +kernel
theorem dX7_sameStep_11 : decode cX7_sameStep 11 = .ok (.aaload, 1) := by decide +kernel
theorem dX7_sameStep_12 : decode cX7_sameStep 12 = .ok (.invokevirtual 33, 3) := by decide +kernel
theorem dX7_sameStep_15 : decode cX7_sameStep 15 = .ok (.ifCond .eq 47, 3) := by decide +kernel
theorem dX7_sameStep_18 : decode cX7_sameStep 18 = .ok (.aload_n 0, 1) := by decide +kernel
theorem dX7_sameStep_19 : decode cX7_sameStep 19 = .ok (.getfield 11, 3) := by decide +kernel
theorem dX7_sameStep_22 : decode cX7_sameStep 22 = .ok (.iload_n 1, 1) := by decide +kernel
theorem dX7_sameStep_23 : decode cX7_sameStep 23 = .ok (.iconst 1, 1) := by decide +kernel
theorem dX7_sameStep_24 : decode cX7_sameStep 24 = .ok (.iadd, 1) := by decide +kernel
theorem dX7_sameStep_25 : decode cX7_sameStep 25 = .ok (.aaload, 1) := by decide +kernel
theorem dX7_sameStep_26 : decode cX7_sameStep 26 = .ok (.aload_n 2, 1) := by decide +kernel
theorem dX7_sameStep_27 : decode cX7_sameStep 27 = .ok (.getfield 11, 3) := by decide +kernel
theorem dX7_sameStep_30 : decode cX7_sameStep 30 = .ok (.iload_n 3, 1) := by decide +kernel
theorem dX7_sameStep_31 : decode cX7_sameStep 31 = .ok (.iconst 1, 1) := by decide +kernel
theorem dX7_sameStep_32 : decode cX7_sameStep 32 = .ok (.iadd, 1) := by decide +kernel
theorem dX7_sameStep_33 : decode cX7_sameStep 33 = .ok (.aaload, 1) := by decide +kernel
theorem dX7_sameStep_34 : decode cX7_sameStep 34 = .ok (.invokevirtual 33, 3) := by decide +kernel
theorem dX7_sameStep_37 : decode cX7_sameStep 37 = .ok (.ifCond .eq 25, 3) := by decide +kernel
theorem dX7_sameStep_40 : decode cX7_sameStep 40 = .ok (.aload_n 0, 1) := by decide +kernel
theorem dX7_sameStep_41 : decode cX7_sameStep 41 = .ok (.getfield 19, 3) := by decide +kernel
theorem dX7_sameStep_44 : decode cX7_sameStep 44 = .ok (.iload_n 1, 1) := by decide +kernel
theorem dX7_sameStep_45 : decode cX7_sameStep 45 = .ok (.aaload, 1) := by decide +kernel
theorem dX7_sameStep_46 : decode cX7_sameStep 46 = .ok (.aload_n 2, 1) := by decide +kernel
theorem dX7_sameStep_47 : decode cX7_sameStep 47 = .ok (.getfield 19, 3) := by decide +kernel
theorem dX7_sameStep_50 : decode cX7_sameStep 50 = .ok (.iload_n 3, 1) := by decide +kernel
theorem dX7_sameStep_51 : decode cX7_sameStep 51 = .ok (.aaload, 1) := by decide +kernel
theorem dX7_sameStep_52 : decode cX7_sameStep 52 = .ok (.invokevirtual 48, 3) := by decide +kernel
theorem dX7_sameStep_55 : decode cX7_sameStep 55 = .ok (.ifCond .eq 7, 3) := by decide +kernel
theorem dX7_sameStep_58 : decode cX7_sameStep 58 = .ok (.iconst 1, 1) := by decide +kernel
theorem dX7_sameStep_59 : decode cX7_sameStep 59 = .ok (.goto 4, 3) := by decide +kernel
theorem dX7_sameStep_62 : decode cX7_sameStep 62 = .ok (.iconst 0, 1) := by decide +kernel
theorem dX7_sameStep_63 : decode cX7_sameStep 63 = .ok (.ireturn, 1) := by decide +kernel
theorem dX8_init_0 : decode cX8_init 0 = .ok (.aload_n 0, 1) := by decide +kernel
theorem dX8_init_1 : decode cX8_init 1 = .ok (.invokespecial 3, 3) := by decide +kernel
theorem dX8_init_4 : decode cX8_init 4 = .ok (.return_, 1) := by decide +kernel
theorem dX8_readText_0 : decode cX8_readText 0 = .ok (.aload_n 0, 1) := by decide +kernel
theorem dX8_readText_1 : decode cX8_readText 1 = .ok (.iconst 0, 1) := by decide +kernel
theorem dX8_readText_2 : decode cX8_readText 2 = .ok (.putfield 9, 3) := by decide +kernel
theorem dX8_readText_5 : decode cX8_readText 5 = .ok (.aload_n 0, 1) := by decide +kernel
theorem dX8_readText_6 : decode cX8_readText 6 = .ok (.iconst (-1), 1) := by decide +kernel
theorem dX8_readText_7 : decode cX8_readText 7 = .ok (.putfield 15, 3) := by decide +kernel
theorem dX8_readText_10 : decode cX8_readText 10 = .ok (.aload_n 0, 1) := by decide +kernel
theorem dX8_readText_11 : decode cX8_readText 11 = .ok (.iconst 1, 1) := by decide +kernel
theorem dX8_readText_12 : decode cX8_readText 12 = .ok (.putfield 18, 3) := by decide +kernel
theorem dX8_readText_15 : decode cX8_readText 15 = .ok (.aload_n 2, 1) := by decide +kernel
theorem dX8_readText_16 : decode cX8_readText 16 = .ok (.iconst 0, 1) := by decide +kernel
theorem dX8_readText_17 : decode cX8_readText 17 = .ok (.putfield 22, 3) := by decide +kernel
theorem dX8_readText_20 : decode cX8_readText 20 = .ok (.iconst 0, 1) := by decide +kernel
theorem dX8_readText_21 : decode cX8_readText 21 = .ok (.istore_n 3, 1) := by decide +kernel
theorem dX8_readText_22 : decode cX8_readText 22 = .ok (.iload_n 3, 1) := by decide +kernel
theorem dX8_readText_23 : decode cX8_readText 23 = .ok (.aload_n 1, 1) := by decide +kernel
theorem dX8_readText_24 : decode cX8_readText 24 = .ok (.getfield 27, 3) := by decide +kernel
theorem dX8_readText_27 : decode cX8_readText 27 = .ok (.if_icmp .ge 39, 3) := by decide +kernel
theorem dX8_readText_30 : decode cX8_readText 30 = .ok (.aload_n 0, 1) := by decide +kernel
theorem dX8_readText_31 : decode cX8_readText 31 = .ok (.getfield 9, 3) := by decide +kernel
theorem dX8_readText_34 : decode cX8_readText 34 = .ok (.ifCond .ne 32, 3) := by decide +kernel
theorem dX8_readText_37 : decode cX8_readText 37 = .ok (.iload_n 3, 1) := by decide +kernel
theorem dX8_readText_38 : decode cX8_readText 38 = .ok (.aload_n 1, 1) := by decide +kernel
theorem dX8_readText_39 : decode cX8_readText 39 = .ok (.iload_n 3, 1) := by decide +kernel
theorem dX8_readText_40 : decode cX8_readText 40 = .ok (.invokevirtual 32, 3) := by decide +kernel
theorem dX8_readText_43 : decode cX8_readText 43 = .ok (.ifCond .eq 7, 3) := by decide +kernel
theorem dX8_readText_46 : decode cX8_readText 46 = .ok (.iconst 1, 1) := by decide +kernel
theorem dX8_readText_47 : decode cX8_readText 47 = .ok (.goto 14, 3) := by decide +kernel
theorem dX8_readText_50 : decode cX8_readText 50 = .ok (.iconst 1, 1) := by decide +kernel
theorem dX8_readText_51 : decode cX8_readText 51 = .ok (.aload_n 0, 1) := by decide +kernel
theorem dX8_readText_52 : decode cX8_readText 52 = .ok (.aload_n 1, 1) := by decide +kernel
theorem dX8_readText_53 : decode cX8_readText 53 = .ok (.iload_n 3, 1) := by decide +kernel
theorem dX8_readText_54 : decode cX8_readText 54 = .ok (.aload_n 2, 1) := by decide +kernel
theorem dX8_readText_55 : decode cX8_readText 55 = .ok (.invokevirtual 36, 3) := by decide +kernel
theorem dX8_readText_58 : decode cX8_readText 58 = .ok (.invokestatic 40, 3) := by decide +kernel
theorem dX8_readText_61 : decode cX8_readText 61 = .ok (.iadd, 1) := by decide +kernel
theorem dX8_readText_62 : decode cX8_readText 62 = .ok (.istore_n 3, 1) := by decide +kernel
theorem dX8_readText_63 : decode cX8_readText 63 = .ok (.goto (-41), 3) := by decide +kernel
theorem dX8_readText_66 : decode cX8_readText 66 = .ok (.aload_n 0, 1) := by decide +kernel
theorem dX8_readText_67 : decode cX8_readText 67 = .ok (.getfield 9, 3) := by decide +kernel
theorem dX8_readText_70 : decode cX8_readText 70 = .ok (.ifCond .ne 27, 3) := by decide +kernel
theorem dX8_readText_73 : decode cX8_readText 73 = .ok (.aload_n 0, 1) := by decide +kernel
theorem dX8_readText_74 : decode cX8_readText 74 = .ok (.getfield 18, 3) := by decide +kernel
theorem dX8_readText_77 : decode cX8_readText 77 = .ok (.ifCond .ne 11, 3) := by decide +kernel
theorem dX8_readText_80 : decode cX8_readText 80 = .ok (.aload_n 2, 1) := by decide +kernel
theorem dX8_readText_81 : decode cX8_readText 81 = .ok (.getfield 22, 3) := by decide +kernel
theorem dX8_readText_84 : decode cX8_readText 84 = .ok (.iconst 2, 1) := by decide +kernel
theorem dX8_readText_85 : decode cX8_readText 85 = .ok (.if_icmp .ge 12, 3) := by decide +kernel
theorem dX8_readText_88 : decode cX8_readText 88 = .ok (.aload_n 0, 1) := by decide +kernel
theorem dX8_readText_89 : decode cX8_readText 89 = .ok (.iconst 1, 1) := by decide +kernel
theorem dX8_readText_90 : decode cX8_readText 90 = .ok (.aload_n 1, 1) := by decide +kernel
theorem dX8_readText_91 : decode cX8_readText 91 = .ok (.getfield 27, 3) := by decide +kernel
theorem dX8_readText_94 : decode cX8_readText 94 = .ok (.invokevirtual 46, 3) := by decide +kernel
theorem dX8_readText_97 : decode cX8_readText 97 = .ok (.return_, 1) := by decide +kernel
theorem dX8_takeToken_0 : decode cX8_takeToken 0 = .ok (.aload_n 1, 1) := by decide +kernel
theorem dX8_takeToken_1 : decode cX8_takeToken 1 = .ok (.iload_n 2, 1) := by decide +kernel
theorem dX8_takeToken_2 : decode cX8_takeToken 2 = .ok (.invokevirtual 50, 3) := by decide +kernel
theorem dX8_takeToken_5 : decode cX8_takeToken 5 = .ok (.istore 4, 2) := by decide +kernel
theorem dX8_takeToken_7 : decode cX8_takeToken 7 = .ok (.iload 4, 2) := by decide +kernel
theorem dX8_takeToken_9 : decode cX8_takeToken 9 = .ok (.ifCond .le 15, 3) := by decide +kernel
theorem dX8_takeToken_12 : decode cX8_takeToken 12 = .ok (.aload_n 0, 1) := by decide +kernel
theorem dX8_takeToken_13 : decode cX8_takeToken 13 = .ok (.aload_n 1, 1) := by decide +kernel
theorem dX8_takeToken_14 : decode cX8_takeToken 14 = .ok (.iload_n 2, 1) := by decide +kernel
theorem dX8_takeToken_15 : decode cX8_takeToken 15 = .ok (.iload 4, 2) := by decide +kernel
theorem dX8_takeToken_17 : decode cX8_takeToken 17 = .ok (.aload_n 3, 1) := by decide +kernel
theorem dX8_takeToken_18 : decode cX8_takeToken 18 = .ok (.invokevirtual 54, 3) := by decide +kernel
theorem dX8_takeToken_21 : decode cX8_takeToken 21 = .ok (.iload 4, 2) := by decide +kernel
theorem dX8_takeToken_23 : decode cX8_takeToken 23 = .ok (.ireturn, 1) := by decide +kernel
theorem dX8_takeToken_24 : decode cX8_takeToken 24 = .ok (.aload_n 1, 1) := by decide +kernel
theorem dX8_takeToken_25 : decode cX8_takeToken 25 = .ok (.iload_n 2, 1) := by decide +kernel
theorem dX8_takeToken_26 : decode cX8_takeToken 26 = .ok (.invokevirtual 58, 3) := by decide +kernel
theorem dX8_takeToken_29 : decode cX8_takeToken 29 = .ok (.istore 5, 2) := by decide +kernel
theorem dX8_takeToken_31 : decode cX8_takeToken 31 = .ok (.iload 5, 2) := by decide +kernel
theorem dX8_takeToken_33 : decode cX8_takeToken 33 = .ok (.ifCond .le 15, 3) := by decide +kernel
theorem dX8_takeToken_36 : decode cX8_takeToken 36 = .ok (.aload_n 0, 1) := by decide +kernel
theorem dX8_takeToken_37 : decode cX8_takeToken 37 = .ok (.aload_n 1, 1) := by decide +kernel
theorem dX8_takeToken_38 : decode cX8_takeToken 38 = .ok (.iload_n 2, 1) := by decide +kernel
theorem dX8_takeToken_39 : decode cX8_takeToken 39 = .ok (.iload 5, 2) := by decide +kernel
theorem dX8_takeToken_41 : decode cX8_takeToken 41 = .ok (.aload_n 3, 1) := by decide +kernel
theorem dX8_takeToken_42 : decode cX8_takeToken 42 = .ok (.invokevirtual 61, 3) := by decide +kernel
theorem dX8_takeToken_45 : decode cX8_takeToken 45 = .ok (.iload 5, 2) := by decide +kernel
theorem dX8_takeToken_47 : decode cX8_takeToken 47 = .ok (.ireturn, 1) := by decide +kernel
theorem dX8_takeToken_48 : decode cX8_takeToken 48 = .ok (.aload_n 0, 1) := by decide +kernel
theorem dX8_takeToken_49 : decode cX8_takeToken 49 = .ok (.iconst 1, 1) := by decide +kernel
theorem dX8_takeToken_50 : decode cX8_takeToken 50 = .ok (.iload_n 2, 1) := by decide +kernel
theorem dX8_takeToken_51 : decode cX8_takeToken 51 = .ok (.invokevirtual 46, 3) := by decide +kernel
theorem dX8_takeToken_54 : decode cX8_takeToken 54 = .ok (.iconst 1, 1) := by decide +kernel
theorem dX8_takeToken_55 : decode cX8_takeToken 55 = .ok (.ireturn, 1) := by decide +kernel
theorem dX8_takeWord_0 : decode cX8_takeWord 0 = .ok (.aload 4, 2) := by decide +kernel
theorem dX8_takeWord_2 : decode cX8_takeWord 2 = .ok (.getfield 22, 3) := by decide +kernel
theorem dX8_takeWord_5 : decode cX8_takeWord 5 = .ok (.istore 5, 2) := by decide +kernel
theorem dX8_takeWord_7 : decode cX8_takeWord 7 = .ok (.aload_n 0, 1) := by decide +kernel
theorem dX8_takeWord_8 : decode cX8_takeWord 8 = .ok (.getfield 18, 3) := by decide +kernel
theorem dX8_takeWord_11 : decode cX8_takeWord 11 = .ok (.ifCond .eq 9, 3) := by decide +kernel
theorem dX8_takeWord_14 : decode cX8_takeWord 14 = .ok (.iload_n 3, 1) := by decide +kernel
theorem dX8_takeWord_15 : decode cX8_takeWord 15 = .ok (.bipush 8, 2) := by decide +kernel
theorem dX8_takeWord_17 : decode cX8_takeWord 17 = .ok (.if_icmp .le 10, 3) := by decide +kernel
theorem dX8_takeWord_20 : decode cX8_takeWord 20 = .ok (.aload_n 0, 1) := by decide +kernel
theorem dX8_takeWord_21 : decode cX8_takeWord 21 = .ok (.iconst 1, 1) := by decide +kernel
theorem dX8_takeWord_22 : decode cX8_takeWord 22 = .ok (.iload_n 2, 1) := by decide +kernel
theorem dX8_takeWord_23 : decode cX8_takeWord 23 = .ok (.invokevirtual 46, 3) := by decide +kernel
theorem dX8_takeWord_26 : decode cX8_takeWord 26 = .ok (.return_, 1) := by decide +kernel
theorem dX8_takeWord_27 : decode cX8_takeWord 27 = .ok (.iload 5, 2) := by decide +kernel
theorem dX8_takeWord_29 : decode cX8_takeWord 29 = .ok (.ifCond .lt 10, 3) := by decide +kernel
theorem dX8_takeWord_32 : decode cX8_takeWord 32 = .ok (.iload 5, 2) := by decide +kernel
theorem dX8_takeWord_34 : decode cX8_takeWord 34 = .ok (.bipush 10, 2) := by decide +kernel
theorem dX8_takeWord_36 : decode cX8_takeWord 36 = .ok (.if_icmp .lt 10, 3) := by decide +kernel
theorem dX8_takeWord_39 : decode cX8_takeWord 39 = .ok (.aload_n 0, 1) := by decide +kernel
theorem dX8_takeWord_40 : decode cX8_takeWord 40 = .ok (.iconst 2, 1) := by decide +kernel
theorem dX8_takeWord_41 : decode cX8_takeWord 41 = .ok (.iload_n 2, 1) := by decide +kernel
theorem dX8_takeWord_42 : decode cX8_takeWord 42 = .ok (.invokevirtual 46, 3) := by decide +kernel
theorem dX8_takeWord_45 : decode cX8_takeWord 45 = .ok (.return_, 1) := by decide +kernel
theorem dX8_takeWord_46 : decode cX8_takeWord 46 = .ok (.aload 4, 2) := by decide +kernel
theorem dX8_takeWord_48 : decode cX8_takeWord 48 = .ok (.getfield 64, 3) := by decide +kernel
theorem dX8_takeWord_51 : decode cX8_takeWord 51 = .ok (.iload 5, 2) := by decide +kernel
theorem dX8_takeWord_53 : decode cX8_takeWord 53 = .ok (.aaload, 1) := by decide +kernel
theorem dX8_takeWord_54 : decode cX8_takeWord 54 = .ok (.aload_n 1, 1) := by decide +kernel
theorem dX8_takeWord_55 : decode cX8_takeWord 55 = .ok (.iload_n 2, 1) := by decide +kernel
theorem dX8_takeWord_56 : decode cX8_takeWord 56 = .ok (.iload_n 3, 1) := by decide +kernel
theorem dX8_takeWord_57 : decode cX8_takeWord 57 = .ok (.invokevirtual 68, 3) := by decide +kernel
theorem dX8_takeWord_60 : decode cX8_takeWord 60 = .ok (.aload 4, 2) := by decide +kernel
theorem dX8_takeWord_62 : decode cX8_takeWord 62 = .ok (.iload 5, 2) := by decide +kernel
theorem dX8_takeWord_64 : decode cX8_takeWord 64 = .ok (.invokevirtual 74, 3) := by decide +kernel
theorem dX8_takeWord_67 : decode cX8_takeWord 67 = .ok (.ifCond .eq 10, 3) := by decide +kernel
theorem dX8_takeWord_70 : decode cX8_takeWord 70 = .ok (.aload_n 0, 1) := by decide +kernel
theorem dX8_takeWord_71 : decode cX8_takeWord 71 = .ok (.iconst 3, 1) := by decide +kernel
theorem dX8_takeWord_72 : decode cX8_takeWord 72 = .ok (.iload_n 2, 1) := by decide +kernel
theorem dX8_takeWord_73 : decode cX8_takeWord 73 = .ok (.invokevirtual 46, 3) := by decide +kernel
theorem dX8_takeWord_76 : decode cX8_takeWord 76 = .ok (.return_, 1) := by decide +kernel
theorem dX8_takeWord_77 : decode cX8_takeWord 77 = .ok (.aload 4, 2) := by decide +kernel
theorem dX8_takeWord_79 : decode cX8_takeWord 79 = .ok (.dup, 1) := by decide +kernel
theorem dX8_takeWord_80 : decode cX8_takeWord 80 = .ok (.getfield 22, 3) := by decide +kernel
theorem dX8_takeWord_83 : decode cX8_takeWord 83 = .ok (.iconst 1, 1) := by decide +kernel
theorem dX8_takeWord_84 : decode cX8_takeWord 84 = .ok (.iadd, 1) := by decide +kernel
theorem dX8_takeWord_85 : decode cX8_takeWord 85 = .ok (.putfield 22, 3) := by decide +kernel
theorem dX8_takeWord_88 : decode cX8_takeWord 88 = .ok (.aload_n 0, 1) := by decide +kernel
theorem dX8_takeWord_89 : decode cX8_takeWord 89 = .ok (.iconst 0, 1) := by decide +kernel
theorem dX8_takeWord_90 : decode cX8_takeWord 90 = .ok (.putfield 18, 3) := by decide +kernel
theorem dX8_takeWord_93 : decode cX8_takeWord 93 = .ok (.return_, 1) := by decide +kernel
theorem dX8_takeSigns_0 : decode cX8_takeSigns 0 = .ok (.aload 4, 2) := by decide +kernel
theorem dX8_takeSigns_2 : decode cX8_takeSigns 2 = .ok (.getfield 22, 3) := by decide +kernel
theorem dX8_takeSigns_5 : decode cX8_takeSigns 5 = .ok (.iconst 1, 1) := by decide +kernel
theorem dX8_takeSigns_6 : decode cX8_takeSigns 6 = .ok (.isub, 1) := by decide +kernel
theorem dX8_takeSigns_7 : decode cX8_takeSigns 7 = .ok (.istore 5, 2) := by decide +kernel
theorem dX8_takeSigns_9 : decode cX8_takeSigns 9 = .ok (.aload_n 0, 1) := by decide +kernel
theorem dX8_takeSigns_10 : decode cX8_takeSigns 10 = .ok (.getfield 18, 3) := by decide +kernel
theorem dX8_takeSigns_13 : decode cX8_takeSigns 13 = .ok (.ifCond .ne 19, 3) := by decide +kernel
theorem dX8_takeSigns_16 : decode cX8_takeSigns 16 = .ok (.iload 5, 2) := by decide +kernel
theorem dX8_takeSigns_18 : decode cX8_takeSigns 18 = .ok (.ifCond .lt 14, 3) := by decide +kernel
theorem dX8_takeSigns_21 : decode cX8_takeSigns 21 = .ok (.iload 5, 2) := by decide +kernel
theorem dX8_takeSigns_23 : decode cX8_takeSigns 23 = .ok (.bipush 10, 2) := by decide +kernel
theorem dX8_takeSigns_25 : decode cX8_takeSigns 25 = .ok (.if_icmp .ge 7, 3) := by decide +kernel
theorem dX8_takeSigns_28 : decode cX8_takeSigns 28 = .ok (.iconst 1, 1) := by decide +kernel
theorem dX8_takeSigns_29 : decode cX8_takeSigns 29 = .ok (.goto 4, 3) := by decide +kernel
theorem dX8_takeSigns_32 : decode cX8_takeSigns 32 = .ok (.iconst 0, 1) := by decide +kernel
theorem dX8_takeSigns_33 : decode cX8_takeSigns 33 = .ok (.istore 6, 2) := by decide +kernel
theorem dX8_takeSigns_35 : decode cX8_takeSigns 35 = .ok (.iload 6, 2) := by decide +kernel
theorem dX8_takeSigns_37 : decode cX8_takeSigns 37 = .ok (.ifCond .eq 20, 3) := by decide +kernel
theorem dX8_takeSigns_40 : decode cX8_takeSigns 40 = .ok (.aload 4, 2) := by decide +kernel
theorem dX8_takeSigns_42 : decode cX8_takeSigns 42 = .ok (.getfield 77, 3) := by decide +kernel
theorem dX8_takeSigns_45 : decode cX8_takeSigns 45 = .ok (.iload 5, 2) := by decide +kernel
theorem dX8_takeSigns_47 : decode cX8_takeSigns 47 = .ok (.aaload, 1) := by decide +kernel
theorem dX8_takeSigns_48 : decode cX8_takeSigns 48 = .ok (.aload_n 1, 1) := by decide +kernel
theorem dX8_takeSigns_49 : decode cX8_takeSigns 49 = .ok (.iload_n 2, 1) := by decide +kernel
theorem dX8_takeSigns_50 : decode cX8_takeSigns 50 = .ok (.iload_n 3, 1) := by decide +kernel
theorem dX8_takeSigns_51 : decode cX8_takeSigns 51 = .ok (.invokevirtual 81, 3) := by decide +kernel
theorem dX8_takeSigns_54 : decode cX8_takeSigns 54 = .ok (.ifCond .ne 10, 3) := by decide +kernel
theorem dX8_takeSigns_57 : decode cX8_takeSigns 57 = .ok (.aload_n 0, 1) := by decide +kernel
theorem dX8_takeSigns_58 : decode cX8_takeSigns 58 = .ok (.iconst 1, 1) := by decide +kernel
theorem dX8_takeSigns_59 : decode cX8_takeSigns 59 = .ok (.iload_n 2, 1) := by decide +kernel
theorem dX8_takeSigns_60 : decode cX8_takeSigns 60 = .ok (.invokevirtual 46, 3) := by decide +kernel
theorem dX8_takeSigns_63 : decode cX8_takeSigns 63 = .ok (.return_, 1) := by decide +kernel
theorem dX8_takeSigns_64 : decode cX8_takeSigns 64 = .ok (.aload_n 0, 1) := by decide +kernel
theorem dX8_takeSigns_65 : decode cX8_takeSigns 65 = .ok (.iconst 1, 1) := by decide +kernel
theorem dX8_takeSigns_66 : decode cX8_takeSigns 66 = .ok (.putfield 18, 3) := by decide +kernel
theorem dX8_takeSigns_69 : decode cX8_takeSigns 69 = .ok (.return_, 1) := by decide +kernel
theorem dX8_blame_0 : decode cX8_blame 0 = .ok (.aload_n 0, 1) := by decide +kernel
theorem dX8_blame_1 : decode cX8_blame 1 = .ok (.iload_n 1, 1) := by decide +kernel
theorem dX8_blame_2 : decode cX8_blame 2 = .ok (.putfield 9, 3) := by decide +kernel
theorem dX8_blame_5 : decode cX8_blame 5 = .ok (.aload_n 0, 1) := by decide +kernel
theorem dX8_blame_6 : decode cX8_blame 6 = .ok (.iload_n 2, 1) := by decide +kernel
theorem dX8_blame_7 : decode cX8_blame 7 = .ok (.putfield 15, 3) := by decide +kernel
theorem dX8_blame_10 : decode cX8_blame 10 = .ok (.return_, 1) := by decide +kernel
theorem dX9_init_0 : decode cX9_init 0 = .ok (.aload_n 0, 1) := by decide +kernel
theorem dX9_init_1 : decode cX9_init 1 = .ok (.invokespecial 3, 3) := by decide +kernel
theorem dX9_init_4 : decode cX9_init 4 = .ok (.aload_n 0, 1) := by decide +kernel
theorem dX9_init_5 : decode cX9_init 5 = .ok (.bipush 26, 2) := by decide +kernel
theorem dX9_init_7 : decode cX9_init 7 = .ok (.newarray .int, 2) := by decide +kernel
theorem dX9_init_9 : decode cX9_init 9 = .ok (.putfield 9, 3) := by decide +kernel
theorem dX9_init_12 : decode cX9_init 12 = .ok (.aload_n 0, 1) := by decide +kernel
theorem dX9_init_13 : decode cX9_init 13 = .ok (.bipush 9, 2) := by decide +kernel
theorem dX9_init_15 : decode cX9_init 15 = .ok (.newarray .int, 2) := by decide +kernel
theorem dX9_init_17 : decode cX9_init 17 = .ok (.putfield 15, 3) := by decide +kernel
theorem dX9_init_20 : decode cX9_init 20 = .ok (.iconst 0, 1) := by decide +kernel
theorem dX9_init_21 : decode cX9_init 21 = .ok (.istore_n 1, 1) := by decide +kernel
theorem dX9_init_22 : decode cX9_init 22 = .ok (.iload_n 1, 1) := by decide +kernel
theorem dX9_init_23 : decode cX9_init 23 = .ok (.bipush 26, 2) := by decide +kernel
theorem dX9_init_25 : decode cX9_init 25 = .ok (.if_icmp .ge 16, 3) := by decide +kernel
theorem dX9_init_28 : decode cX9_init 28 = .ok (.aload_n 0, 1) := by decide +kernel
theorem dX9_init_29 : decode cX9_init 29 = .ok (.getfield 9, 3) := by decide +kernel
theorem dX9_init_32 : decode cX9_init 32 = .ok (.iload_n 1, 1) := by decide +kernel
theorem dX9_init_33 : decode cX9_init 33 = .ok (.iload_n 1, 1) := by decide +kernel
theorem dX9_init_34 : decode cX9_init 34 = .ok (.iastore, 1) := by decide +kernel
theorem dX9_init_35 : decode cX9_init 35 = .ok (.iinc 1 1, 3) := by decide +kernel
theorem dX9_init_38 : decode cX9_init 38 = .ok (.goto (-16), 3) := by decide +kernel
theorem dX9_init_41 : decode cX9_init 41 = .ok (.return_, 1) := by decide +kernel
theorem dX9_alike_0 : decode cX9_alike 0 = .ok (.iload_n 1, 1) := by decide +kernel
theorem dX9_alike_1 : decode cX9_alike 1 = .ok (.ifCond .lt 23, 3) := by decide +kernel
theorem dX9_alike_4 : decode cX9_alike 4 = .ok (.iload_n 1, 1) := by decide +kernel
theorem dX9_alike_5 : decode cX9_alike 5 = .ok (.bipush 26, 2) := by decide +kernel
theorem dX9_alike_7 : decode cX9_alike 7 = .ok (.if_icmp .ge 17, 3) := by decide +kernel
theorem dX9_alike_10 : decode cX9_alike 10 = .ok (.iload_n 2, 1) := by decide +kernel
theorem dX9_alike_11 : decode cX9_alike 11 = .ok (.ifCond .lt 13, 3) := by decide +kernel
theorem dX9_alike_14 : decode cX9_alike 14 = .ok (.iload_n 2, 1) := by decide +kernel
theorem dX9_alike_15 : decode cX9_alike 15 = .ok (.bipush 26, 2) := by decide +kernel
theorem dX9_alike_17 : decode cX9_alike 17 = .ok (.if_icmp .ge 7, 3) := by decide +kernel
theorem dX9_alike_20 : decode cX9_alike 20 = .ok (.iconst 1, 1) := by decide +kernel
theorem dX9_alike_21 : decode cX9_alike 21 = .ok (.goto 4, 3) := by decide +kernel
theorem dX9_alike_24 : decode cX9_alike 24 = .ok (.iconst 0, 1) := by decide +kernel
theorem dX9_alike_25 : decode cX9_alike 25 = .ok (.istore_n 3, 1) := by decide +kernel
theorem dX9_alike_26 : decode cX9_alike 26 = .ok (.iload_n 3, 1) := by decide +kernel
theorem dX9_alike_27 : decode cX9_alike 27 = .ok (.ifCond .eq 22, 3) := by decide +kernel
theorem dX9_alike_30 : decode cX9_alike 30 = .ok (.aload_n 0, 1) := by decide +kernel
theorem dX9_alike_31 : decode cX9_alike 31 = .ok (.getfield 9, 3) := by decide +kernel
theorem dX9_alike_34 : decode cX9_alike 34 = .ok (.iload_n 1, 1) := by decide +kernel
theorem dX9_alike_35 : decode cX9_alike 35 = .ok (.iaload, 1) := by decide +kernel
theorem dX9_alike_36 : decode cX9_alike 36 = .ok (.aload_n 0, 1) := by decide +kernel
theorem dX9_alike_37 : decode cX9_alike 37 = .ok (.getfield 9, 3) := by decide +kernel
theorem dX9_alike_40 : decode cX9_alike 40 = .ok (.iload_n 2, 1) := by decide +kernel
theorem dX9_alike_41 : decode cX9_alike 41 = .ok (.iaload, 1) := by decide +kernel
theorem dX9_alike_42 : decode cX9_alike 42 = .ok (.if_icmp .ne 7, 3) := by decide +kernel
theorem dX9_alike_45 : decode cX9_alike 45 = .ok (.iconst 1, 1) := by decide +kernel
theorem dX9_alike_46 : decode cX9_alike 46 = .ok (.goto 4, 3) := by decide +kernel
theorem dX9_alike_49 : decode cX9_alike 49 = .ok (.iconst 0, 1) := by decide +kernel
theorem dX9_alike_50 : decode cX9_alike 50 = .ok (.ireturn, 1) := by decide +kernel
theorem dX9_join_0 : decode cX9_join 0 = .ok (.iload_n 1, 1) := by decide +kernel
theorem dX9_join_1 : decode cX9_join 1 = .ok (.ifCond .lt 19, 3) := by decide +kernel
theorem dX9_join_4 : decode cX9_join 4 = .ok (.iload_n 1, 1) := by decide +kernel
theorem dX9_join_5 : decode cX9_join 5 = .ok (.bipush 26, 2) := by decide +kernel
theorem dX9_join_7 : decode cX9_join 7 = .ok (.if_icmp .ge 13, 3) := by decide +kernel
theorem dX9_join_10 : decode cX9_join 10 = .ok (.iload_n 2, 1) := by decide +kernel
theorem dX9_join_11 : decode cX9_join 11 = .ok (.ifCond .lt 9, 3) := by decide +kernel
theorem dX9_join_14 : decode cX9_join 14 = .ok (.iload_n 2, 1) := by decide +kernel
theorem dX9_join_15 : decode cX9_join 15 = .ok (.bipush 26, 2) := by decide +kernel
theorem dX9_join_17 : decode cX9_join 17 = .ok (.if_icmp .lt 4, 3) := by decide +kernel
theorem dX9_join_20 : decode cX9_join 20 = .ok (.return_, 1) := by decide +kernel
theorem dX9_join_21 : decode cX9_join 21 = .ok (.aload_n 0, 1) := by decide +kernel
theorem dX9_join_22 : decode cX9_join 22 = .ok (.getfield 9, 3) := by decide +kernel
theorem dX9_join_25 : decode cX9_join 25 = .ok (.iload_n 2, 1) := by decide +kernel
theorem dX9_join_26 : decode cX9_join 26 = .ok (.iaload, 1) := by decide +kernel
theorem dX9_join_27 : decode cX9_join 27 = .ok (.istore_n 3, 1) := by decide +kernel
theorem dX9_join_28 : decode cX9_join 28 = .ok (.aload_n 0, 1) := by decide +kernel
theorem dX9_join_29 : decode cX9_join 29 = .ok (.getfield 9, 3) := by decide +kernel
theorem dX9_join_32 : decode cX9_join 32 = .ok (.iload_n 1, 1) := by decide +kernel
theorem dX9_join_33 : decode cX9_join 33 = .ok (.iaload, 1) := by decide +kernel
theorem dX9_join_34 : decode cX9_join 34 = .ok (.istore 4, 2) := by decide +kernel
theorem dX9_join_36 : decode cX9_join 36 = .ok (.iconst 0, 1) := by decide +kernel
theorem dX9_join_37 : decode cX9_join 37 = .ok (.istore 5, 2) := by decide +kernel
theorem dX9_join_39 : decode cX9_join 39 = .ok (.iload 5, 2) := by decide +kernel
theorem dX9_join_41 : decode cX9_join 41 = .ok (.bipush 26, 2) := by decide +kernel
theorem dX9_join_43 : decode cX9_join 43 = .ok (.if_icmp .ge 29, 3) := by decide +kernel
theorem dX9_join_46 : decode cX9_join 46 = .ok (.aload_n 0, 1) := by decide +kernel
theorem dX9_join_47 : decode cX9_join 47 = .ok (.getfield 9, 3) := by decide +kernel
theorem dX9_join_50 : decode cX9_join 50 = .ok (.iload 5, 2) := by decide +kernel
theorem dX9_join_52 : decode cX9_join 52 = .ok (.iaload, 1) := by decide +kernel
theorem dX9_join_53 : decode cX9_join 53 = .ok (.iload_n 3, 1) := by decide +kernel
theorem dX9_join_54 : decode cX9_join 54 = .ok (.if_icmp .ne 12, 3) := by decide +kernel
theorem dX9_join_57 : decode cX9_join 57 = .ok (.aload_n 0, 1) := by decide +kernel
theorem dX9_join_58 : decode cX9_join 58 = .ok (.getfield 9, 3) := by decide +kernel
theorem dX9_join_61 : decode cX9_join 61 = .ok (.iload 5, 2) := by decide +kernel
theorem dX9_join_63 : decode cX9_join 63 = .ok (.iload 4, 2) := by decide +kernel
theorem dX9_join_65 : decode cX9_join 65 = .ok (.iastore, 1) := by decide +kernel
theorem dX9_join_66 : decode cX9_join 66 = .ok (.iinc 5 1, 3) := by decide +kernel
theorem dX9_join_69 : decode cX9_join 69 = .ok (.goto (-30), 3) := by decide +kernel
theorem dX9_join_72 : decode cX9_join 72 = .ok (.return_, 1) := by decide +kernel
theorem dX9_distance_0 : decode cX9_distance 0 = .ok (.iconst 0, 1) := by decide +kernel
theorem dX9_distance_1 : decode cX9_distance 1 = .ok (.istore_n 3, 1) := by decide +kernel
theorem dX9_distance_2 : decode cX9_distance 2 = .ok (.iload_n 3, 1) := by decide +kernel
theorem dX9_distance_3 : decode cX9_distance 3 = .ok (.aload_n 2, 1) := by decide +kernel
theorem dX9_distance_4 : decode cX9_distance 4 = .ok (.getfield 18, 3) := by decide +kernel
theorem dX9_distance_7 : decode cX9_distance 7 = .ok (.if_icmp .gt 18, 3) := by decide +kernel
theorem dX9_distance_10 : decode cX9_distance 10 = .ok (.aload_n 0, 1) := by decide +kernel
theorem dX9_distance_11 : decode cX9_distance 11 = .ok (.getfield 15, 3) := by decide +kernel
theorem dX9_distance_14 : decode cX9_distance 14 = .ok (.iload_n 3, 1) := by decide +kernel
theorem dX9_distance_15 : decode cX9_distance 15 = .ok (.iconst 2, 1) := by decide +kernel
theorem dX9_distance_16 : decode cX9_distance 16 = .ok (.iload_n 3, 1) := by decide +kernel
theorem dX9_distance_17 : decode cX9_distance 17 = .ok (.imul, 1) := by decide +kernel
theorem dX9_distance_18 : decode cX9_distance 18 = .ok (.iastore, 1) := by decide +kernel
theorem dX9_distance_19 : decode cX9_distance 19 = .ok (.iinc 3 1, 3) := by decide +kernel
theorem dX9_distance_22 : decode cX9_distance 22 = .ok (.goto (-20), 3) := by decide +kernel
theorem dX9_distance_25 : decode cX9_distance 25 = .ok (.iconst 0, 1) := by decide +kernel
theorem dX9_distance_26 : decode cX9_distance 26 = .ok (.istore_n 3, 1) := by decide +kernel
theorem dX9_distance_27 : decode cX9_distance 27 = .ok (.iload_n 3, 1) := by decide +kernel
theorem dX9_distance_28 : decode cX9_distance 28 = .ok (.aload_n 1, 1) := by decide +kernel
theorem dX9_distance_29 : decode cX9_distance 29 = .ok (.getfield 18, 3) := by decide +kernel
theorem dX9_distance_32 : decode cX9_distance 32 = .ok (.if_icmp .ge 111, 3) := by decide +kernel
theorem dX9_distance_35 : decode cX9_distance 35 = .ok (.aload_n 0, 1) := by decide +kernel
theorem dX9_distance_36 : decode cX9_distance 36 = .ok (.getfield 15, 3) := by decide +kernel
theorem dX9_distance_39 : decode cX9_distance 39 = .ok (.iconst 0, 1) := by decide +kernel
theorem dX9_distance_40 : decode cX9_distance 40 = .ok (.iaload, 1) := by decide +kernel
theorem dX9_distance_41 : decode cX9_distance 41 = .ok (.istore 4, 2) := by decide +kernel
theorem dX9_distance_43 : decode cX9_distance 43 = .ok (.aload_n 0, 1) := by decide +kernel
theorem dX9_distance_44 : decode cX9_distance 44 = .ok (.getfield 15, 3) := by decide +kernel
theorem dX9_distance_47 : decode cX9_distance 47 = .ok (.iconst 0, 1) := by decide +kernel
theorem dX9_distance_48 : decode cX9_distance 48 = .ok (.dup2, 1) := by decide +kernel
theorem dX9_distance_49 : decode cX9_distance 49 = .ok (.iaload, 1) := by decide +kernel
theorem dX9_distance_50 : decode cX9_distance 50 = .ok (.iconst 2, 1) := by decide +kernel
theorem dX9_distance_51 : decode cX9_distance 51 = .ok (.iadd, 1) := by decide +kernel
theorem dX9_distance_52 : decode cX9_distance 52 = .ok (.iastore, 1) := by decide +kernel
theorem dX9_distance_53 : decode cX9_distance 53 = .ok (.iconst 1, 1) := by decide +kernel
theorem dX9_distance_54 : decode cX9_distance 54 = .ok (.istore 5, 2) := by decide +kernel
theorem dX9_distance_56 : decode cX9_distance 56 = .ok (.iload 5, 2) := by decide +kernel
theorem dX9_distance_58 : decode cX9_distance 58 = .ok (.aload_n 2, 1) := by decide +kernel
theorem dX9_distance_59 : decode cX9_distance 59 = .ok (.getfield 18, 3) := by decide +kernel
theorem dX9_distance_62 : decode cX9_distance 62 = .ok (.if_icmp .gt 75, 3) := by decide +kernel
theorem dX9_distance_65 : decode cX9_distance 65 = .ok (.iload 4, 2) := by decide +kernel
theorem dX9_distance_67 : decode cX9_distance 67 = .ok (.aload_n 0, 1) := by decide +kernel
theorem dX9_distance_68 : decode cX9_distance 68 = .ok (.aload_n 1, 1) := by decide +kernel
theorem dX9_distance_69 : decode cX9_distance 69 = .ok (.getfield 24, 3) := by decide +kernel
theorem dX9_distance_72 : decode cX9_distance 72 = .ok (.iload_n 3, 1) := by decide +kernel
theorem dX9_distance_73 : decode cX9_distance 73 = .ok (.iaload, 1) := by decide +kernel
theorem dX9_distance_74 : decode cX9_distance 74 = .ok (.aload_n 2, 1) := by decide +kernel
theorem dX9_distance_75 : decode cX9_distance 75 = .ok (.getfield 24, 3) := by decide +kernel
theorem dX9_distance_78 : decode cX9_distance 78 = .ok (.iload 5, 2) := by decide +kernel
theorem dX9_distance_80 : decode cX9_distance 80 = .ok (.iconst 1, 1) := by decide +kernel
theorem dX9_distance_81 : decode cX9_distance 81 = .ok (.isub, 1) := by decide +kernel
theorem dX9_distance_82 : decode cX9_distance 82 = .ok (.iaload, 1) := by decide +kernel
theorem dX9_distance_83 : decode cX9_distance 83 = .ok (.invokevirtual 27, 3) := by decide +kernel
theorem dX9_distance_86 : decode cX9_distance 86 = .ok (.iadd, 1) := by decide +kernel
theorem dX9_distance_87 : decode cX9_distance 87 = .ok (.istore 6, 2) := by decide +kernel
theorem dX9_distance_89 : decode cX9_distance 89 = .ok (.aload_n 0, 1) := by decide +kernel
theorem dX9_distance_90 : decode cX9_distance 90 = .ok (.getfield 15, 3) := by decide +kernel
theorem dX9_distance_93 : decode cX9_distance 93 = .ok (.iload 5, 2) := by decide +kernel
theorem dX9_distance_95 : decode cX9_distance 95 = .ok (.iaload, 1) := by decide +kernel
theorem dX9_distance_96 : decode cX9_distance 96 = .ok (.istore 4, 2) := by decide +kernel
theorem dX9_distance_98 : decode cX9_distance 98 = .ok (.aload_n 0, 1) := by decide +kernel
theorem dX9_distance_99 : decode cX9_distance 99 = .ok (.getfield 15, 3) := by decide +kernel
theorem dX9_distance_102 : decode cX9_distance 102 = .ok (.iload 5, 2) := by decide +kernel
theorem dX9_distance_104 : decode cX9_distance 104 = .ok (.iload 6, 2) := by decide +kernel
theorem dX9_distance_106 : decode cX9_distance 106 = .ok (.iconst 2, 1) := by decide +kernel
theorem dX9_distance_107 : decode cX9_distance 107 = .ok (.aload_n 0, 1) := by decide +kernel
theorem dX9_distance_108 : decode cX9_distance 108 = .ok (.getfield 15, 3) := by decide +kernel
theorem dX9_distance_111 : decode cX9_distance 111 = .ok (.iload 5, 2) := by decide +kernel
theorem dX9_distance_113 : decode cX9_distance 113 = .ok (.iaload, 1) := by decide +kernel
theorem dX9_distance_114 : decode cX9_distance 114 = .ok (.aload_n 0, 1) := by decide +kernel
theorem dX9_distance_115 : decode cX9_distance 115 = .ok (.getfield 15, 3) := by decide +kernel
theorem dX9_distance_118 : decode cX9_distance 118 = .ok (.iload 5, 2) := by decide +kernel
theorem dX9_distance_120 : decode cX9_distance 120 = .ok (.iconst 1, 1) := by decide +kernel
theorem dX9_distance_121 : decode cX9_distance 121 = .ok (.isub, 1) := by decide +kernel
theorem dX9_distance_122 : decode cX9_distance 122 = .ok (.iaload, 1) := by decide +kernel
theorem dX9_distance_123 : decode cX9_distance 123 = .ok (.invokestatic 31, 3) := by decide +kernel
theorem dX9_distance_126 : decode cX9_distance 126 = .ok (.iadd, 1) := by decide +kernel
theorem dX9_distance_127 : decode cX9_distance 127 = .ok (.invokestatic 31, 3) := by decide +kernel
theorem dX9_distance_130 : decode cX9_distance 130 = .ok (.iastore, 1) := by decide +kernel
theorem dX9_distance_131 : decode cX9_distance 131 = .ok (.iinc 5 1, 3) := by decide +kernel
theorem dX9_distance_134 : decode cX9_distance 134 = .ok (.goto (-78), 3) := by decide +kernel
theorem dX9_distance_137 : decode cX9_distance 137 = .ok (.iinc 3 1, 3) := by decide +kernel
theorem dX9_distance_140 : decode cX9_distance 140 = .ok (.goto (-113), 3) := by decide +kernel
theorem dX9_distance_143 : decode cX9_distance 143 = .ok (.aload_n 0, 1) := by decide +kernel
theorem dX9_distance_144 : decode cX9_distance 144 = .ok (.getfield 15, 3) := by decide +kernel
theorem dX9_distance_147 : decode cX9_distance 147 = .ok (.aload_n 2, 1) := by decide +kernel
theorem dX9_distance_148 : decode cX9_distance 148 = .ok (.getfield 18, 3) := by decide +kernel
theorem dX9_distance_151 : decode cX9_distance 151 = .ok (.iaload, 1) := by decide +kernel
theorem dX9_distance_152 : decode cX9_distance 152 = .ok (.ireturn, 1) := by decide +kernel
theorem dX9_swapCost_0 : decode cX9_swapCost 0 = .ok (.iload_n 1, 1) := by decide +kernel
theorem dX9_swapCost_1 : decode cX9_swapCost 1 = .ok (.iload_n 2, 1) := by decide +kernel
theorem dX9_swapCost_2 : decode cX9_swapCost 2 = .ok (.if_icmp .ne 5, 3) := by decide +kernel
theorem dX9_swapCost_5 : decode cX9_swapCost 5 = .ok (.iconst 0, 1) := by decide +kernel
theorem dX9_swapCost_6 : decode cX9_swapCost 6 = .ok (.ireturn, 1) := by decide +kernel
theorem dX9_swapCost_7 : decode cX9_swapCost 7 = .ok (.aload_n 0, 1) := by decide +kernel
theorem dX9_swapCost_8 : decode cX9_swapCost 8 = .ok (.iload_n 1, 1) := by decide +kernel
theorem dX9_swapCost_9 : decode cX9_swapCost 9 = .ok (.bipush 97, 2) := by decide +kernel
theorem dX9_swapCost_11 : decode cX9_swapCost 11 = .ok (.isub, 1) := by decide +kernel
theorem dX9_swapCost_12 : decode cX9_swapCost 12 = .ok (.iload_n 2, 1) := by decide +kernel
theorem dX9_swapCost_13 : decode cX9_swapCost 13 = .ok (.bipush 97, 2) := by decide +kernel
theorem dX9_swapCost_15 : decode cX9_swapCost 15 = .ok (.isub, 1) := by decide +kernel
theorem dX9_swapCost_16 : decode cX9_swapCost 16 = .ok (.invokevirtual 36, 3) := by decide +kernel
theorem dX9_swapCost_19 : decode cX9_swapCost 19 = .ok (.ifCond .eq 7, 3) := by decide +kernel
theorem dX9_swapCost_22 : decode cX9_swapCost 22 = .ok (.iconst 1, 1) := by decide +kernel
theorem dX9_swapCost_23 : decode cX9_swapCost 23 = .ok (.goto 4, 3) := by decide +kernel
theorem dX9_swapCost_26 : decode cX9_swapCost 26 = .ok (.iconst 3, 1) := by decide +kernel
theorem dX9_swapCost_27 : decode cX9_swapCost 27 = .ok (.ireturn, 1) := by decide +kernel
theorem dX10_init_0 : decode cX10_init 0 = .ok (.aload_n 0, 1) := by decide +kernel
theorem dX10_init_1 : decode cX10_init 1 = .ok (.invokespecial 3, 3) := by decide +kernel
theorem dX10_init_4 : decode cX10_init 4 = .ok (.aload_n 0, 1) := by decide +kernel
theorem dX10_init_5 : decode cX10_init 5 = .ok (.sipush 200, 3) := by decide +kernel
theorem dX10_init_8 : decode cX10_init 8 = .ok (.newarray .int, 2) := by decide +kernel
theorem dX10_init_10 : decode cX10_init 10 = .ok (.putfield 9, 3) := by decide +kernel
theorem dX10_init_13 : decode cX10_init 13 = .ok (.return_, 1) := by decide +kernel
theorem dX10_addFour_0 : decode cX10_addFour 0 = .ok (.bipush 24, 2) := by decide +kernel
theorem dX10_addFour_2 : decode cX10_addFour 2 = .ok (.istore_n 2, 1) := by decide +kernel
theorem dX10_addFour_3 : decode cX10_addFour 3 = .ok (.iload_n 2, 1) := by decide +kernel
theorem dX10_addFour_4 : decode cX10_addFour 4 = .ok (.ifCond .lt 54, 3) := by decide +kernel
theorem dX10_addFour_7 : decode cX10_addFour 7 = .ok (.aload_n 0, 1) := by decide +kernel
theorem dX10_addFour_8 : decode cX10_addFour 8 = .ok (.getfield 15, 3) := by decide +kernel
theorem dX10_addFour_11 : decode cX10_addFour 11 = .ok (.ifCond .lt 41, 3) := by decide +kernel
theorem dX10_addFour_14 : decode cX10_addFour 14 = .ok (.aload_n 0, 1) := by decide +kernel
theorem dX10_addFour_15 : decode cX10_addFour 15 = .ok (.getfield 15, 3) := by decide +kernel
theorem dX10_addFour_18 : decode cX10_addFour 18 = .ok (.aload_n 0, 1) := by decide +kernel
theorem dX10_addFour_19 : decode cX10_addFour 19 = .ok (.getfield 9, 3) := by decide +kernel
theorem dX10_addFour_22 : decode cX10_addFour 22 = .ok (.arraylength, 1) := by decide +kernel
theorem dX10_addFour_23 : decode cX10_addFour 23 = .ok (.if_icmp .ge 29, 3) := by decide +kernel
theorem dX10_addFour_26 : decode cX10_addFour 26 = .ok (.aload_n 0, 1) := by decide +kernel
theorem dX10_addFour_27 : decode cX10_addFour 27 = .ok (.getfield 9, 3) := by decide +kernel
theorem dX10_addFour_30 : decode cX10_addFour 30 = .ok (.aload_n 0, 1) := by decide +kernel
theorem dX10_addFour_31 : decode cX10_addFour 31 = .ok (.getfield 15, 3) := by decide +kernel
theorem dX10_addFour_34 : decode cX10_addFour 34 = .ok (.iload_n 1, 1) := by decide +kernel
theorem dX10_addFour_35 : decode cX10_addFour 35 = .ok (.iload_n 2, 1) := by decide +kernel
theorem dX10_addFour_36 : decode cX10_addFour 36 = .ok (.iushr, 1) := by decide +kernel
theorem dX10_addFour_37 : decode cX10_addFour 37 = .ok (.sipush 255, 3) := by decide +kernel
theorem dX10_addFour_40 : decode cX10_addFour 40 = .ok (.iand, 1) := by decide +kernel
theorem dX10_addFour_41 : decode cX10_addFour 41 = .ok (.iastore, 1) := by decide +kernel
theorem dX10_addFour_42 : decode cX10_addFour 42 = .ok (.aload_n 0, 1) := by decide +kernel
theorem dX10_addFour_43 : decode cX10_addFour 43 = .ok (.dup, 1) := by decide +kernel
theorem dX10_addFour_44 : decode cX10_addFour 44 = .ok (.getfield 15, 3) := by decide +kernel
theorem dX10_addFour_47 : decode cX10_addFour 47 = .ok (.iconst 1, 1) := by decide +kernel
theorem dX10_addFour_48 : decode cX10_addFour 48 = .ok (.iadd, 1) := by decide +kernel
theorem dX10_addFour_49 : decode cX10_addFour 49 = .ok (.putfield 15, 3) := by decide +kernel
theorem dX10_addFour_52 : decode cX10_addFour 52 = .ok (.iinc 2 (-8), 3) := by decide +kernel
theorem dX10_addFour_55 : decode cX10_addFour 55 = .ok (.goto (-52), 3) := by decide +kernel
theorem dX10_addFour_58 : decode cX10_addFour 58 = .ok (.return_, 1) := by decide +kernel
theorem dX10_isBlank_0 : decode cX10_isBlank 0 = .ok (.iload_n 1, 1) := by decide +kernel
theorem dX10_isBlank_1 : decode cX10_isBlank 1 = .ok (.ifCond .lt 37, 3) := by decide +kernel
theorem dX10_isBlank_4 : decode cX10_isBlank 4 = .ok (.iload_n 1, 1) := by decide +kernel
theorem dX10_isBlank_5 : decode cX10_isBlank 5 = .ok (.aload_n 0, 1) := by decide +kernel
theorem dX10_isBlank_6 : decode cX10_isBlank 6 = .ok (.getfield 15, 3) := by decide +kernel
theorem dX10_isBlank_9 : decode cX10_isBlank 9 = .ok (.if_icmp .ge 29, 3) := by decide +kernel
theorem dX10_isBlank_12 : decode cX10_isBlank 12 = .ok (.aload_n 0, 1) := by decide +kernel
theorem dX10_isBlank_13 : decode cX10_isBlank 13 = .ok (.getfield 9, 3) := by decide +kernel
theorem dX10_isBlank_16 : decode cX10_isBlank 16 = .ok (.iload_n 1, 1) := by decide +kernel
theorem dX10_isBlank_17 : decode cX10_isBlank 17 = .ok (.iaload, 1) := by decide +kernel
theorem dX10_isBlank_18 : decode cX10_isBlank 18 = .ok (.bipush 32, 2) := by decide +kernel
theorem dX10_isBlank_20 : decode cX10_isBlank 20 = .ok (.if_icmp .eq 14, 3) := by decide +kernel
theorem dX10_isBlank_23 : decode cX10_isBlank 23 = .ok (.aload_n 0, 1) := by decide +kernel
theorem dX10_isBlank_24 : decode cX10_isBlank 24 = .ok (.getfield 9, 3) := by decide +kernel
theorem dX10_isBlank_27 : decode cX10_isBlank 27 = .ok (.iload_n 1, 1) := by decide +kernel
theorem dX10_isBlank_28 : decode cX10_isBlank 28 = .ok (.iaload, 1) := by decide +kernel
theorem dX10_isBlank_29 : decode cX10_isBlank 29 = .ok (.bipush 10, 2) := by decide +kernel
theorem dX10_isBlank_31 : decode cX10_isBlank 31 = .ok (.if_icmp .ne 7, 3) := by decide +kernel
theorem dX10_isBlank_34 : decode cX10_isBlank 34 = .ok (.iconst 1, 1) := by decide +kernel
theorem dX10_isBlank_35 : decode cX10_isBlank 35 = .ok (.goto 4, 3) := by decide +kernel
theorem dX10_isBlank_38 : decode cX10_isBlank 38 = .ok (.iconst 0, 1) := by decide +kernel
theorem dX10_isBlank_39 : decode cX10_isBlank 39 = .ok (.ireturn, 1) := by decide +kernel
theorem dX10_isName_0 : decode cX10_isName 0 = .ok (.aload_n 0, 1) := by decide +kernel
theorem dX10_isName_1 : decode cX10_isName 1 = .ok (.getfield 15, 3) := by decide +kernel
theorem dX10_isName_4 : decode cX10_isName 4 = .ok (.iconst 1, 1) := by decide +kernel
theorem dX10_isName_5 : decode cX10_isName 5 = .ok (.if_icmp .lt 28, 3) := by decide +kernel
theorem dX10_isName_8 : decode cX10_isName 8 = .ok (.aload_n 0, 1) := by decide +kernel
theorem dX10_isName_9 : decode cX10_isName 9 = .ok (.getfield 15, 3) := by decide +kernel
theorem dX10_isName_12 : decode cX10_isName 12 = .ok (.bipush 8, 2) := by decide +kernel
theorem dX10_isName_14 : decode cX10_isName 14 = .ok (.if_icmp .gt 19, 3) := by decide +kernel
theorem dX10_isName_17 : decode cX10_isName 17 = .ok (.aload_n 0, 1) := by decide +kernel
theorem dX10_isName_18 : decode cX10_isName 18 = .ok (.iconst 0, 1) := by decide +kernel
theorem dX10_isName_19 : decode cX10_isName 19 = .ok (.invokevirtual 19, 3) := by decide +kernel
theorem dX10_isName_22 : decode cX10_isName 22 = .ok (.aload_n 0, 1) := by decide +kernel
theorem dX10_isName_23 : decode cX10_isName 23 = .ok (.getfield 15, 3) := by decide +kernel
theorem dX10_isName_26 : decode cX10_isName 26 = .ok (.if_icmp .ne 7, 3) := by decide +kernel
theorem dX10_isName_29 : decode cX10_isName 29 = .ok (.iconst 1, 1) := by decide +kernel
theorem dX10_isName_30 : decode cX10_isName 30 = .ok (.goto 4, 3) := by decide +kernel
theorem dX10_isName_33 : decode cX10_isName 33 = .ok (.iconst 0, 1) := by decide +kernel
theorem dX10_isName_34 : decode cX10_isName 34 = .ok (.ireturn, 1) := by decide +kernel
theorem dX10_lettersFrom_0 : decode cX10_lettersFrom 0 = .ok (.iload_n 1, 1) := by decide +kernel
theorem dX10_lettersFrom_1 : decode cX10_lettersFrom 1 = .ok (.istore_n 2, 1) := by decide +kernel
theorem dX10_lettersFrom_2 : decode cX10_lettersFrom 2 = .ok (.iload_n 2, 1) := by decide +kernel
theorem dX10_lettersFrom_3 : decode cX10_lettersFrom 3 = .ok (.ifCond .lt 39, 3) := by decide +kernel
theorem dX10_lettersFrom_6 : decode cX10_lettersFrom 6 = .ok (.iload_n 2, 1) := by decide +kernel
theorem dX10_lettersFrom_7 : decode cX10_lettersFrom 7 = .ok (.aload_n 0, 1) := by decide +kernel
theorem dX10_lettersFrom_8 : decode cX10_lettersFrom 8 = .ok (.getfield 15, 3) := by decide +kernel
theorem dX10_lettersFrom_11 : decode cX10_lettersFrom 11 = .ok (.if_icmp .ge 31, 3) := by decide +kernel
theorem dX10_lettersFrom_14 : decode cX10_lettersFrom 14 = .ok (.aload_n 0, 1) := by decide +kernel
theorem dX10_lettersFrom_15 : decode cX10_lettersFrom 15 = .ok (.getfield 9, 3) := by decide +kernel
theorem dX10_lettersFrom_18 : decode cX10_lettersFrom 18 = .ok (.iload_n 2, 1) := by decide +kernel
theorem dX10_lettersFrom_19 : decode cX10_lettersFrom 19 = .ok (.iaload, 1) := by decide +kernel
theorem dX10_lettersFrom_20 : decode cX10_lettersFrom 20 = .ok (.bipush 97, 2) := by decide +kernel
theorem dX10_lettersFrom_22 : decode cX10_lettersFrom 22 = .ok (.if_icmp .lt 20, 3) := by decide +kernel
theorem dX10_lettersFrom_25 : decode cX10_lettersFrom 25 = .ok (.aload_n 0, 1) := by decide +kernel
theorem dX10_lettersFrom_26 : decode cX10_lettersFrom 26 = .ok (.getfield 9, 3) := by decide +kernel
theorem dX10_lettersFrom_29 : decode cX10_lettersFrom 29 = .ok (.iload_n 2, 1) := by decide +kernel
theorem dX10_lettersFrom_30 : decode cX10_lettersFrom 30 = .ok (.iaload, 1) := by decide +kernel
theorem dX10_lettersFrom_31 : decode cX10_lettersFrom 31 = .ok (.bipush 122, 2) := by decide +kernel
theorem dX10_lettersFrom_33 : decode cX10_lettersFrom 33 = .ok (.if_icmp .gt 9, 3) := by decide +kernel
theorem dX10_lettersFrom_36 : decode cX10_lettersFrom 36 = .ok (.iinc 2 1, 3) := by decide +kernel
theorem dX10_lettersFrom_39 : decode cX10_lettersFrom 39 = .ok (.goto (-37), 3) := by decide +kernel
theorem dX10_lettersFrom_42 : decode cX10_lettersFrom 42 = .ok (.iload_n 2, 1) := by decide +kernel
theorem dX10_lettersFrom_43 : decode cX10_lettersFrom 43 = .ok (.iload_n 1, 1) := by decide +kernel
theorem dX10_lettersFrom_44 : decode cX10_lettersFrom 44 = .ok (.isub, 1) := by decide +kernel
theorem dX10_lettersFrom_45 : decode cX10_lettersFrom 45 = .ok (.ireturn, 1) := by decide +kernel
theorem dX10_signsFrom_0 : decode cX10_signsFrom 0 = .ok (.iload_n 1, 1) := by decide +kernel
theorem dX10_signsFrom_1 : decode cX10_signsFrom 1 = .ok (.istore_n 2, 1) := by decide +kernel
theorem dX10_signsFrom_2 : decode cX10_signsFrom 2 = .ok (.iload_n 2, 1) := by decide +kernel
theorem dX10_signsFrom_3 : decode cX10_signsFrom 3 = .ok (.ifCond .lt 29, 3) := by decide +kernel
theorem dX10_signsFrom_6 : decode cX10_signsFrom 6 = .ok (.iload_n 2, 1) := by decide +kernel
theorem dX10_signsFrom_7 : decode cX10_signsFrom 7 = .ok (.aload_n 0, 1) := by decide +kernel
theorem dX10_signsFrom_8 : decode cX10_signsFrom 8 = .ok (.getfield 15, 3) := by decide +kernel
theorem dX10_signsFrom_11 : decode cX10_signsFrom 11 = .ok (.if_icmp .ge 21, 3) := by decide +kernel
theorem dX10_signsFrom_14 : decode cX10_signsFrom 14 = .ok (.aload_n 0, 1) := by decide +kernel
theorem dX10_signsFrom_15 : decode cX10_signsFrom 15 = .ok (.getfield 9, 3) := by decide +kernel
theorem dX10_signsFrom_18 : decode cX10_signsFrom 18 = .ok (.iload_n 2, 1) := by decide +kernel
theorem dX10_signsFrom_19 : decode cX10_signsFrom 19 = .ok (.iaload, 1) := by decide +kernel
theorem dX10_signsFrom_20 : decode cX10_signsFrom 20 = .ok (.invokestatic 23, 3) := by decide +kernel
theorem dX10_signsFrom_23 : decode cX10_signsFrom 23 = .ok (.ifCond .eq 9, 3) := by decide +kernel
theorem dX10_signsFrom_26 : decode cX10_signsFrom 26 = .ok (.iinc 2 1, 3) := by decide +kernel
theorem dX10_signsFrom_29 : decode cX10_signsFrom 29 = .ok (.goto (-27), 3) := by decide +kernel
theorem dX10_signsFrom_32 : decode cX10_signsFrom 32 = .ok (.iload_n 2, 1) := by decide +kernel
theorem dX10_signsFrom_33 : decode cX10_signsFrom 33 = .ok (.iload_n 1, 1) := by decide +kernel
theorem dX10_signsFrom_34 : decode cX10_signsFrom 34 = .ok (.isub, 1) := by decide +kernel
theorem dX10_signsFrom_35 : decode cX10_signsFrom 35 = .ok (.ireturn, 1) := by decide +kernel
theorem dX10_signOf_0 : decode cX10_signOf 0 = .ok (.iload_n 0, 1) := by decide +kernel
theorem dX10_signOf_1 : decode cX10_signOf 1 = .ok (.lookupswitch 51 #[(73, 43), (76, 49), (86, 45), (88, 47)], 43) := by decide +kernel
theorem dX10_signOf_44 : decode cX10_signOf 44 = .ok (.iconst 1, 1) := by decide +kernel
theorem dX10_signOf_45 : decode cX10_signOf 45 = .ok (.ireturn, 1) := by decide +kernel
theorem dX10_signOf_46 : decode cX10_signOf 46 = .ok (.iconst 2, 1) := by decide +kernel
theorem dX10_signOf_47 : decode cX10_signOf 47 = .ok (.ireturn, 1) := by decide +kernel
theorem dX10_signOf_48 : decode cX10_signOf 48 = .ok (.iconst 3, 1) := by decide +kernel
theorem dX10_signOf_49 : decode cX10_signOf 49 = .ok (.ireturn, 1) := by decide +kernel
theorem dX10_signOf_50 : decode cX10_signOf 50 = .ok (.iconst 4, 1) := by decide +kernel
theorem dX10_signOf_51 : decode cX10_signOf 51 = .ok (.ireturn, 1) := by decide +kernel
theorem dX10_signOf_52 : decode cX10_signOf 52 = .ok (.iconst 0, 1) := by decide +kernel
theorem dX10_signOf_53 : decode cX10_signOf 53 = .ok (.ireturn, 1) := by decide +kernel
theorem dJ9_abs_0f7a4_0 : decode cJ9_abs_0f7a4 0 = .ok (.iload_n 0, 1) := by decide +kernel
theorem dJ9_abs_0f7a4_1 : decode cJ9_abs_0f7a4 1 = .ok (.ifCond .ge 8, 3) := by decide +kernel
theorem dJ9_abs_0f7a4_4 : decode cJ9_abs_0f7a4 4 = .ok (.iload_n 0, 1) := by decide +kernel
theorem dJ9_abs_0f7a4_5 : decode cJ9_abs_0f7a4 5 = .ok (.ineg, 1) := by decide +kernel
theorem dJ9_abs_0f7a4_6 : decode cJ9_abs_0f7a4 6 = .ok (.goto 4, 3) := by decide +kernel
theorem dJ9_abs_0f7a4_9 : decode cJ9_abs_0f7a4 9 = .ok (.iload_n 0, 1) := by decide +kernel
theorem dJ9_abs_0f7a4_10 : decode cJ9_abs_0f7a4 10 = .ok (.ireturn, 1) := by decide +kernel
theorem dJ9_max_7cf53_0 : decode cJ9_max_7cf53 0 = .ok (.iload_n 0, 1) := by decide +kernel
theorem dJ9_max_7cf53_1 : decode cJ9_max_7cf53 1 = .ok (.iload_n 1, 1) := by decide +kernel
theorem dJ9_max_7cf53_2 : decode cJ9_max_7cf53 2 = .ok (.if_icmp .lt 7, 3) := by decide +kernel
theorem dJ9_max_7cf53_5 : decode cJ9_max_7cf53 5 = .ok (.iload_n 0, 1) := by decide +kernel
theorem dJ9_max_7cf53_6 : decode cJ9_max_7cf53 6 = .ok (.goto 4, 3) := by decide +kernel
theorem dJ9_max_7cf53_9 : decode cJ9_max_7cf53 9 = .ok (.iload_n 1, 1) := by decide +kernel
theorem dJ9_max_7cf53_10 : decode cJ9_max_7cf53 10 = .ok (.ireturn, 1) := by decide +kernel
theorem dJ9_min_7cf53_0 : decode cJ9_min_7cf53 0 = .ok (.iload_n 0, 1) := by decide +kernel
theorem dJ9_min_7cf53_1 : decode cJ9_min_7cf53 1 = .ok (.iload_n 1, 1) := by decide +kernel
theorem dJ9_min_7cf53_2 : decode cJ9_min_7cf53 2 = .ok (.if_icmp .gt 7, 3) := by decide +kernel
theorem dJ9_min_7cf53_5 : decode cJ9_min_7cf53 5 = .ok (.iload_n 0, 1) := by decide +kernel
theorem dJ9_min_7cf53_6 : decode cJ9_min_7cf53 6 = .ok (.goto 4, 3) := by decide +kernel
theorem dJ9_min_7cf53_9 : decode cJ9_min_7cf53 9 = .ok (.iload_n 1, 1) := by decide +kernel
theorem dJ9_min_7cf53_10 : decode cJ9_min_7cf53 10 = .ok (.ireturn, 1) := by decide +kernel
end
section
theorem dX5_init_0 : decode cX5_init 0 = .ok (.aload_n 0, 1) := by decide +kernel
theorem dX5_init_1 : decode cX5_init 1 = .ok (.invokespecial 3, 3) := by decide +kernel
theorem dX5_init_4 : decode cX5_init 4 = .ok (.aload_n 0, 1) := by decide +kernel
theorem dX5_init_5 : decode cX5_init 5 = .ok (.bipush 10, 2) := by decide +kernel
theorem dX5_init_7 : decode cX5_init 7 = .ok (.sipush 601, 3) := by decide +kernel
theorem dX5_init_10 : decode cX5_init 10 = .ok (.multianewarray 9 2, 4) := by decide +kernel
theorem dX5_init_14 : decode cX5_init 14 = .ok (.putfield 11, 3) := by decide +kernel
theorem dX5_init_17 : decode cX5_init 17 = .ok (.aload_n 0, 1) := by decide +kernel
theorem dX5_init_18 : decode cX5_init 18 = .ok (.bipush 10, 2) := by decide +kernel
theorem dX5_init_20 : decode cX5_init 20 = .ok (.sipush 601, 3) := by decide +kernel
theorem dX5_init_23 : decode cX5_init 23 = .ok (.multianewarray 9 2, 4) := by decide +kernel
theorem dX5_init_27 : decode cX5_init 27 = .ok (.putfield 16, 3) := by decide +kernel
theorem dX5_init_30 : decode cX5_init 30 = .ok (.aload_n 0, 1) := by decide +kernel
theorem dX5_init_31 : decode cX5_init 31 = .ok (.sipush 601, 3) := by decide +kernel
theorem dX5_init_34 : decode cX5_init 34 = .ok (.newarray .int, 2) := by decide +kernel
theorem dX5_init_36 : decode cX5_init 36 = .ok (.putfield 19, 3) := by decide +kernel
theorem dX5_init_39 : decode cX5_init 39 = .ok (.aload_n 0, 1) := by decide +kernel
theorem dX5_init_40 : decode cX5_init 40 = .ok (.sipush 12621, 3) := by decide +kernel
theorem dX5_init_43 : decode cX5_init 43 = .ok (.newarray .long, 2) := by decide +kernel
theorem dX5_init_45 : decode cX5_init 45 = .ok (.putfield 23, 3) := by decide +kernel
theorem dX5_init_48 : decode cX5_init 48 = .ok (.aload_n 0, 1) := by decide +kernel
theorem dX5_init_49 : decode cX5_init 49 = .ok (.bipush 10, 2) := by decide +kernel
theorem dX5_init_51 : decode cX5_init 51 = .ok (.anewarray 27, 3) := by decide +kernel
theorem dX5_init_54 : decode cX5_init 54 = .ok (.putfield 29, 3) := by decide +kernel
theorem dX5_init_57 : decode cX5_init 57 = .ok (.aload_n 0, 1) := by decide +kernel
theorem dX5_init_58 : decode cX5_init 58 = .ok (.new 27, 3) := by decide +kernel
theorem dX5_init_61 : decode cX5_init 61 = .ok (.dup, 1) := by decide +kernel
theorem dX5_init_62 : decode cX5_init 62 = .ok (.invokespecial 33, 3) := by decide +kernel
theorem dX5_init_65 : decode cX5_init 65 = .ok (.putfield 34, 3) := by decide +kernel
theorem dX5_init_68 : decode cX5_init 68 = .ok (.aload_n 0, 1) := by decide +kernel
theorem dX5_init_69 : decode cX5_init 69 = .ok (.bipush 10, 2) := by decide +kernel
theorem dX5_init_71 : decode cX5_init 71 = .ok (.newarray .int, 2) := by decide +kernel
theorem dX5_init_73 : decode cX5_init 73 = .ok (.putfield 38, 3) := by decide +kernel
theorem dX5_init_76 : decode cX5_init 76 = .ok (.iconst 0, 1) := by decide +kernel
theorem dX5_init_77 : decode cX5_init 77 = .ok (.istore_n 1, 1) := by decide +kernel
theorem dX5_init_78 : decode cX5_init 78 = .ok (.iload_n 1, 1) := by decide +kernel
theorem dX5_init_79 : decode cX5_init 79 = .ok (.bipush 10, 2) := by decide +kernel
theorem dX5_init_81 : decode cX5_init 81 = .ok (.if_icmp .ge 22, 3) := by decide +kernel
theorem dX5_init_84 : decode cX5_init 84 = .ok (.aload_n 0, 1) := by decide +kernel
theorem dX5_init_85 : decode cX5_init 85 = .ok (.getfield 29, 3) := by decide +kernel
theorem dX5_init_88 : decode cX5_init 88 = .ok (.iload_n 1, 1) := by decide +kernel
theorem dX5_init_89 : decode cX5_init 89 = .ok (.new 27, 3) := by decide +kernel
theorem dX5_init_92 : decode cX5_init 92 = .ok (.dup, 1) := by decide +kernel
theorem dX5_init_93 : decode cX5_init 93 = .ok (.invokespecial 33, 3) := by decide +kernel
theorem dX5_init_96 : decode cX5_init 96 = .ok (.aastore, 1) := by decide +kernel
theorem dX5_init_97 : decode cX5_init 97 = .ok (.iinc 1 1, 3) := by decide +kernel
theorem dX5_init_100 : decode cX5_init 100 = .ok (.goto (-22), 3) := by decide +kernel
theorem dX5_init_103 : decode cX5_init 103 = .ok (.return_, 1) := by decide +kernel
theorem dX5_costOfValue_0 : decode cX5_costOfValue 0 = .ok (.aload_n 0, 1) := by decide +kernel
theorem dX5_costOfValue_1 : decode cX5_costOfValue 1 = .ok (.getfield 34, 3) := by decide +kernel
theorem dX5_costOfValue_4 : decode cX5_costOfValue 4 = .ok (.aload_n 1, 1) := by decide +kernel
theorem dX5_costOfValue_5 : decode cX5_costOfValue 5 = .ok (.aload_n 2, 1) := by decide +kernel
theorem dX5_costOfValue_6 : decode cX5_costOfValue 6 = .ok (.invokevirtual 41, 3) := by decide +kernel
theorem dX5_costOfValue_9 : decode cX5_costOfValue 9 = .ok (.aload_n 0, 1) := by decide +kernel
theorem dX5_costOfValue_10 : decode cX5_costOfValue 10 = .ok (.getfield 34, 3) := by decide +kernel
theorem dX5_costOfValue_13 : decode cX5_costOfValue 13 = .ok (.iload_n 3, 1) := by decide +kernel
theorem dX5_costOfValue_14 : decode cX5_costOfValue 14 = .ok (.invokevirtual 45, 3) := by decide +kernel
theorem dX5_costOfValue_17 : decode cX5_costOfValue 17 = .ok (.ireturn, 1) := by decide +kernel
theorem dX5_takeRoute_0 : decode cX5_takeRoute 0 = .ok (.aload_n 0, 1) := by decide +kernel
theorem dX5_takeRoute_1 : decode cX5_takeRoute 1 = .ok (.aload_n 1, 1) := by decide +kernel
theorem dX5_takeRoute_2 : decode cX5_takeRoute 2 = .ok (.getfield 49, 3) := by decide +kernel
theorem dX5_takeRoute_5 : decode cX5_takeRoute 5 = .ok (.bipush 10, 2) := by decide +kernel
theorem dX5_takeRoute_7 : decode cX5_takeRoute 7 = .ok (.invokestatic 55, 3) := by decide +kernel
theorem dX5_takeRoute_10 : decode cX5_takeRoute 10 = .ok (.putfield 61, 3) := by decide +kernel
theorem dX5_takeRoute_13 : decode cX5_takeRoute 13 = .ok (.aload_n 0, 1) := by decide +kernel
theorem dX5_takeRoute_14 : decode cX5_takeRoute 14 = .ok (.aload_n 1, 1) := by decide +kernel
theorem dX5_takeRoute_15 : decode cX5_takeRoute 15 = .ok (.getfield 62, 3) := by decide +kernel
theorem dX5_takeRoute_18 : decode cX5_takeRoute 18 = .ok (.putfield 65, 3) := by decide +kernel
theorem dX5_takeRoute_21 : decode cX5_takeRoute 21 = .ok (.iconst 0, 1) := by decide +kernel
theorem dX5_takeRoute_22 : decode cX5_takeRoute 22 = .ok (.istore_n 3, 1) := by decide +kernel
theorem dX5_takeRoute_23 : decode cX5_takeRoute 23 = .ok (.iload_n 3, 1) := by decide +kernel
theorem dX5_takeRoute_24 : decode cX5_takeRoute 24 = .ok (.aload_n 0, 1) := by decide +kernel
theorem dX5_takeRoute_25 : decode cX5_takeRoute 25 = .ok (.getfield 61, 3) := by decide +kernel
theorem dX5_takeRoute_28 : decode cX5_takeRoute 28 = .ok (.iconst 1, 1) := by decide +kernel
theorem dX5_takeRoute_29 : decode cX5_takeRoute 29 = .ok (.isub, 1) := by decide +kernel
theorem dX5_takeRoute_30 : decode cX5_takeRoute 30 = .ok (.if_icmp .ge 25, 3) := by decide +kernel
theorem dX5_takeRoute_33 : decode cX5_takeRoute 33 = .ok (.aload_n 0, 1) := by decide +kernel
theorem dX5_takeRoute_34 : decode cX5_takeRoute 34 = .ok (.getfield 29, 3) := by decide +kernel
theorem dX5_takeRoute_37 : decode cX5_takeRoute 37 = .ok (.iload_n 3, 1) := by decide +kernel
theorem dX5_takeRoute_38 : decode cX5_takeRoute 38 = .ok (.aaload, 1) := by decide +kernel
theorem dX5_takeRoute_39 : decode cX5_takeRoute 39 = .ok (.aload_n 1, 1) := by decide +kernel
theorem dX5_takeRoute_40 : decode cX5_takeRoute 40 = .ok (.getfield 66, 3) := by decide +kernel
theorem dX5_takeRoute_43 : decode cX5_takeRoute 43 = .ok (.iload_n 3, 1) := by decide +kernel
theorem dX5_takeRoute_44 : decode cX5_takeRoute 44 = .ok (.aaload, 1) := by decide +kernel
theorem dX5_takeRoute_45 : decode cX5_takeRoute 45 = .ok (.aload_n 2, 1) := by decide +kernel
theorem dX5_takeRoute_46 : decode cX5_takeRoute 46 = .ok (.invokevirtual 41, 3) := by decide +kernel
theorem dX5_takeRoute_49 : decode cX5_takeRoute 49 = .ok (.iinc 3 1, 3) := by decide +kernel
theorem dX5_takeRoute_52 : decode cX5_takeRoute 52 = .ok (.goto (-29), 3) := by decide +kernel
theorem dX5_takeRoute_55 : decode cX5_takeRoute 55 = .ok (.return_, 1) := by decide +kernel
theorem dX5_hasPlacing_0 : decode cX5_hasPlacing 0 = .ok (.aload_n 0, 1) := by decide +kernel
theorem dX5_hasPlacing_1 : decode cX5_hasPlacing 1 = .ok (.getfield 70, 3) := by decide +kernel
theorem dX5_hasPlacing_4 : decode cX5_hasPlacing 4 = .ok (.ldc 73, 2) := by decide +kernel
theorem dX5_hasPlacing_6 : decode cX5_hasPlacing 6 = .ok (.if_icmp .ge 7, 3) := by decide +kernel
theorem dX5_hasPlacing_9 : decode cX5_hasPlacing 9 = .ok (.iconst 1, 1) := by decide +kernel
theorem dX5_hasPlacing_10 : decode cX5_hasPlacing 10 = .ok (.goto 4, 3) := by decide +kernel
theorem dX5_hasPlacing_13 : decode cX5_hasPlacing 13 = .ok (.iconst 0, 1) := by decide +kernel
theorem dX5_hasPlacing_14 : decode cX5_hasPlacing 14 = .ok (.ireturn, 1) := by decide +kernel
theorem dX5_fillRest_0 : decode cX5_fillRest 0 = .ok (.aload_n 0, 1) := by decide +kernel
theorem dX5_fillRest_1 : decode cX5_fillRest 1 = .ok (.getfield 61, 3) := by decide +kernel
theorem dX5_fillRest_4 : decode cX5_fillRest 4 = .ok (.iconst 1, 1) := by decide +kernel
theorem dX5_fillRest_5 : decode cX5_fillRest 5 = .ok (.isub, 1) := by decide +kernel
theorem dX5_fillRest_6 : decode cX5_fillRest 6 = .ok (.istore_n 1, 1) := by decide +kernel
theorem dX5_fillRest_7 : decode cX5_fillRest 7 = .ok (.iload_n 1, 1) := by decide +kernel
theorem dX5_fillRest_8 : decode cX5_fillRest 8 = .ok (.ifCond .lt 74, 3) := by decide +kernel
theorem dX5_fillRest_11 : decode cX5_fillRest 11 = .ok (.iconst 0, 1) := by decide +kernel
theorem dX5_fillRest_12 : decode cX5_fillRest 12 = .ok (.istore_n 2, 1) := by decide +kernel
theorem dX5_fillRest_13 : decode cX5_fillRest 13 = .ok (.iload_n 2, 1) := by decide +kernel
theorem dX5_fillRest_14 : decode cX5_fillRest 14 = .ok (.sipush 601, 3) := by decide +kernel
theorem dX5_fillRest_17 : decode cX5_fillRest 17 = .ok (.if_icmp .ge 59, 3) := by decide +kernel
theorem dX5_fillRest_20 : decode cX5_fillRest 20 = .ok (.iload_n 1, 1) := by decide +kernel
theorem dX5_fillRest_21 : decode cX5_fillRest 21 = .ok (.aload_n 0, 1) := by decide +kernel
theorem dX5_fillRest_22 : decode cX5_fillRest 22 = .ok (.getfield 61, 3) := by decide +kernel
theorem dX5_fillRest_25 : decode cX5_fillRest 25 = .ok (.iconst 1, 1) := by decide +kernel
theorem dX5_fillRest_26 : decode cX5_fillRest 26 = .ok (.isub, 1) := by decide +kernel
theorem dX5_fillRest_27 : decode cX5_fillRest 27 = .ok (.if_icmp .ne 7, 3) := by decide +kernel
theorem dX5_fillRest_30 : decode cX5_fillRest 30 = .ok (.iconst 0, 1) := by decide +kernel
theorem dX5_fillRest_31 : decode cX5_fillRest 31 = .ok (.goto 9, 3) := by decide +kernel
theorem dX5_fillRest_34 : decode cX5_fillRest 34 = .ok (.aload_n 0, 1) := by decide +kernel
theorem dX5_fillRest_35 : decode cX5_fillRest 35 = .ok (.iload_n 1, 1) := by decide +kernel
theorem dX5_fillRest_36 : decode cX5_fillRest 36 = .ok (.iload_n 2, 1) := by decide +kernel
theorem dX5_fillRest_37 : decode cX5_fillRest 37 = .ok (.invokevirtual 74, 3) := by decide +kernel
theorem dX5_fillRest_40 : decode cX5_fillRest 40 = .ok (.istore_n 3, 1) := by decide +kernel
theorem dX5_fillRest_41 : decode cX5_fillRest 41 = .ok (.aload_n 0, 1) := by decide +kernel
theorem dX5_fillRest_42 : decode cX5_fillRest 42 = .ok (.getfield 16, 3) := by decide +kernel
theorem dX5_fillRest_45 : decode cX5_fillRest 45 = .ok (.iload_n 1, 1) := by decide +kernel
theorem dX5_fillRest_46 : decode cX5_fillRest 46 = .ok (.aaload, 1) := by decide +kernel
theorem dX5_fillRest_47 : decode cX5_fillRest 47 = .ok (.iload_n 2, 1) := by decide +kernel
theorem dX5_fillRest_48 : decode cX5_fillRest 48 = .ok (.iload_n 3, 1) := by decide +kernel
theorem dX5_fillRest_49 : decode cX5_fillRest 49 = .ok (.ldc 73, 2) := by decide +kernel
theorem dX5_fillRest_51 : decode cX5_fillRest 51 = .ok (.if_icmp .lt 8, 3) := by decide +kernel
theorem dX5_fillRest_54 : decode cX5_fillRest 54 = .ok (.ldc 73, 2) := by decide +kernel
theorem dX5_fillRest_56 : decode cX5_fillRest 56 = .ok (.goto 13, 3) := by decide +kernel
theorem dX5_fillRest_59 : decode cX5_fillRest 59 = .ok (.aload_n 0, 1) := by decide +kernel
theorem dX5_fillRest_60 : decode cX5_fillRest 60 = .ok (.getfield 11, 3) := by decide +kernel
theorem dX5_fillRest_63 : decode cX5_fillRest 63 = .ok (.iload_n 1, 1) := by decide +kernel
theorem dX5_fillRest_64 : decode cX5_fillRest 64 = .ok (.aaload, 1) := by decide +kernel
theorem dX5_fillRest_65 : decode cX5_fillRest 65 = .ok (.iload_n 2, 1) := by decide +kernel
theorem dX5_fillRest_66 : decode cX5_fillRest 66 = .ok (.iaload, 1) := by decide +kernel
theorem dX5_fillRest_67 : decode cX5_fillRest 67 = .ok (.iload_n 3, 1) := by decide +kernel
theorem dX5_fillRest_68 : decode cX5_fillRest 68 = .ok (.iadd, 1) := by decide +kernel
theorem dX5_fillRest_69 : decode cX5_fillRest 69 = .ok (.iastore, 1) := by decide +kernel
theorem dX5_fillRest_70 : decode cX5_fillRest 70 = .ok (.iinc 2 1, 3) := by decide +kernel
theorem dX5_fillRest_73 : decode cX5_fillRest 73 = .ok (.goto (-60), 3) := by decide +kernel
theorem dX5_fillRest_76 : decode cX5_fillRest 76 = .ok (.iinc 1 (-1), 3) := by decide +kernel
theorem dX5_fillRest_79 : decode cX5_fillRest 79 = .ok (.goto (-72), 3) := by decide +kernel
theorem dX5_fillRest_82 : decode cX5_fillRest 82 = .ok (.aload_n 0, 1) := by decide +kernel
theorem dX5_fillRest_83 : decode cX5_fillRest 83 = .ok (.ldc 73, 2) := by decide +kernel
theorem dX5_fillRest_85 : decode cX5_fillRest 85 = .ok (.putfield 70, 3) := by decide +kernel
theorem dX5_fillRest_88 : decode cX5_fillRest 88 = .ok (.iconst 0, 1) := by decide +kernel
theorem dX5_fillRest_89 : decode cX5_fillRest 89 = .ok (.istore_n 1, 1) := by decide +kernel
theorem dX5_fillRest_90 : decode cX5_fillRest 90 = .ok (.iload_n 1, 1) := by decide +kernel
theorem dX5_fillRest_91 : decode cX5_fillRest 91 = .ok (.sipush 601, 3) := by decide +kernel
theorem dX5_fillRest_94 : decode cX5_fillRest 94 = .ok (.if_icmp .ge 28, 3) := by decide +kernel
theorem dX5_fillRest_97 : decode cX5_fillRest 97 = .ok (.aload_n 0, 1) := by decide +kernel
theorem dX5_fillRest_98 : decode cX5_fillRest 98 = .ok (.aload_n 0, 1) := by decide +kernel
theorem dX5_fillRest_99 : decode cX5_fillRest 99 = .ok (.getfield 70, 3) := by decide +kernel
theorem dX5_fillRest_102 : decode cX5_fillRest 102 = .ok (.aload_n 0, 1) := by decide +kernel
theorem dX5_fillRest_103 : decode cX5_fillRest 103 = .ok (.getfield 16, 3) := by decide +kernel
theorem dX5_fillRest_106 : decode cX5_fillRest 106 = .ok (.iconst 0, 1) := by decide +kernel
theorem dX5_fillRest_107 : decode cX5_fillRest 107 = .ok (.aaload, 1) := by decide +kernel
theorem dX5_fillRest_108 : decode cX5_fillRest 108 = .ok (.iload_n 1, 1) := by decide +kernel
theorem dX5_fillRest_109 : decode cX5_fillRest 109 = .ok (.iaload, 1) := by decide +kernel
theorem dX5_fillRest_110 : decode cX5_fillRest 110 = .ok (.invokestatic 55, 3) := by decide +kernel
theorem dX5_fillRest_113 : decode cX5_fillRest 113 = .ok (.putfield 70, 3) := by decide +kernel
theorem dX5_fillRest_116 : decode cX5_fillRest 116 = .ok (.iinc 1 1, 3) := by decide +kernel
theorem dX5_fillRest_119 : decode cX5_fillRest 119 = .ok (.goto (-29), 3) := by decide +kernel
theorem dX5_fillRest_122 : decode cX5_fillRest 122 = .ok (.return_, 1) := by decide +kernel
theorem dX5_leastOnward_0 : decode cX5_leastOnward 0 = .ok (.ldc 73, 2) := by decide +kernel
theorem dX5_leastOnward_2 : decode cX5_leastOnward 2 = .ok (.istore_n 3, 1) := by decide +kernel
theorem dX5_leastOnward_3 : decode cX5_leastOnward 3 = .ok (.iconst 0, 1) := by decide +kernel
theorem dX5_leastOnward_4 : decode cX5_leastOnward 4 = .ok (.istore 4, 2) := by decide +kernel
theorem dX5_leastOnward_6 : decode cX5_leastOnward 6 = .ok (.iload 4, 2) := by decide +kernel
theorem dX5_leastOnward_8 : decode cX5_leastOnward 8 = .ok (.aload_n 0, 1) := by decide +kernel
theorem dX5_leastOnward_9 : decode cX5_leastOnward 9 = .ok (.getfield 29, 3) := by decide +kernel
theorem dX5_leastOnward_12 : decode cX5_leastOnward 12 = .ok (.iload_n 1, 1) := by decide +kernel
theorem dX5_leastOnward_13 : decode cX5_leastOnward 13 = .ok (.aaload, 1) := by decide +kernel
theorem dX5_leastOnward_14 : decode cX5_leastOnward 14 = .ok (.getfield 77, 3) := by decide +kernel
theorem dX5_leastOnward_17 : decode cX5_leastOnward 17 = .ok (.if_icmp .ge 54, 3) := by decide +kernel
theorem dX5_leastOnward_20 : decode cX5_leastOnward 20 = .ok (.aload_n 0, 1) := by decide +kernel
theorem dX5_leastOnward_21 : decode cX5_leastOnward 21 = .ok (.iload_n 1, 1) := by decide +kernel
theorem dX5_leastOnward_22 : decode cX5_leastOnward 22 = .ok (.iload_n 2, 1) := by decide +kernel
theorem dX5_leastOnward_23 : decode cX5_leastOnward 23 = .ok (.iload 4, 2) := by decide +kernel
theorem dX5_leastOnward_25 : decode cX5_leastOnward 25 = .ok (.invokevirtual 80, 3) := by decide +kernel
theorem dX5_leastOnward_28 : decode cX5_leastOnward 28 = .ok (.istore 5, 2) := by decide +kernel
theorem dX5_leastOnward_30 : decode cX5_leastOnward 30 = .ok (.iload 5, 2) := by decide +kernel
theorem dX5_leastOnward_32 : decode cX5_leastOnward 32 = .ok (.iconst (-1), 1) := by decide +kernel
theorem dX5_leastOnward_33 : decode cX5_leastOnward 33 = .ok (.if_icmp .eq 32, 3) := by decide +kernel
theorem dX5_leastOnward_36 : decode cX5_leastOnward 36 = .ok (.iload_n 3, 1) := by decide +kernel
theorem dX5_leastOnward_37 : decode cX5_leastOnward 37 = .ok (.aload_n 0, 1) := by decide +kernel
theorem dX5_leastOnward_38 : decode cX5_leastOnward 38 = .ok (.getfield 29, 3) := by decide +kernel
theorem dX5_leastOnward_41 : decode cX5_leastOnward 41 = .ok (.iload_n 1, 1) := by decide +kernel
theorem dX5_leastOnward_42 : decode cX5_leastOnward 42 = .ok (.aaload, 1) := by decide +kernel
theorem dX5_leastOnward_43 : decode cX5_leastOnward 43 = .ok (.getfield 84, 3) := by decide +kernel
theorem dX5_leastOnward_46 : decode cX5_leastOnward 46 = .ok (.iload 4, 2) := by decide +kernel
theorem dX5_leastOnward_48 : decode cX5_leastOnward 48 = .ok (.iaload, 1) := by decide +kernel
theorem dX5_leastOnward_49 : decode cX5_leastOnward 49 = .ok (.aload_n 0, 1) := by decide +kernel
theorem dX5_leastOnward_50 : decode cX5_leastOnward 50 = .ok (.getfield 16, 3) := by decide +kernel
theorem dX5_leastOnward_53 : decode cX5_leastOnward 53 = .ok (.iload_n 1, 1) := by decide +kernel
theorem dX5_leastOnward_54 : decode cX5_leastOnward 54 = .ok (.iconst 1, 1) := by decide +kernel
theorem dX5_leastOnward_55 : decode cX5_leastOnward 55 = .ok (.iadd, 1) := by decide +kernel
theorem dX5_leastOnward_56 : decode cX5_leastOnward 56 = .ok (.aaload, 1) := by decide +kernel
theorem dX5_leastOnward_57 : decode cX5_leastOnward 57 = .ok (.iload 5, 2) := by decide +kernel
theorem dX5_leastOnward_59 : decode cX5_leastOnward 59 = .ok (.iaload, 1) := by decide +kernel
theorem dX5_leastOnward_60 : decode cX5_leastOnward 60 = .ok (.iadd, 1) := by decide +kernel
theorem dX5_leastOnward_61 : decode cX5_leastOnward 61 = .ok (.invokestatic 55, 3) := by decide +kernel
theorem dX5_leastOnward_64 : decode cX5_leastOnward 64 = .ok (.istore_n 3, 1) := by decide +kernel
theorem dX5_leastOnward_65 : decode cX5_leastOnward 65 = .ok (.iinc 4 1, 3) := by decide +kernel
theorem dX5_leastOnward_68 : decode cX5_leastOnward 68 = .ok (.goto (-62), 3) := by decide +kernel
theorem dX5_leastOnward_71 : decode cX5_leastOnward 71 = .ok (.iload_n 3, 1) := by decide +kernel
theorem dX5_leastOnward_72 : decode cX5_leastOnward 72 = .ok (.ireturn, 1) := by decide +kernel
theorem dX5_placeBehind_0 : decode cX5_placeBehind 0 = .ok (.iload_n 2, 1) := by decide +kernel
theorem dX5_placeBehind_1 : decode cX5_placeBehind 1 = .ok (.aload_n 0, 1) := by decide +kernel
theorem dX5_placeBehind_2 : decode cX5_placeBehind 2 = .ok (.getfield 65, 3) := by decide +kernel
theorem dX5_placeBehind_5 : decode cX5_placeBehind 5 = .ok (.aload_n 0, 1) := by decide +kernel
theorem dX5_placeBehind_6 : decode cX5_placeBehind 6 = .ok (.getfield 29, 3) := by decide +kernel
theorem dX5_placeBehind_9 : decode cX5_placeBehind 9 = .ok (.iload_n 1, 1) := by decide +kernel
theorem dX5_placeBehind_10 : decode cX5_placeBehind 10 = .ok (.aaload, 1) := by decide +kernel
theorem dX5_placeBehind_11 : decode cX5_placeBehind 11 = .ok (.getfield 87, 3) := by decide +kernel
theorem dX5_placeBehind_14 : decode cX5_placeBehind 14 = .ok (.iload_n 3, 1) := by decide +kernel
theorem dX5_placeBehind_15 : decode cX5_placeBehind 15 = .ok (.iaload, 1) := by decide +kernel
theorem dX5_placeBehind_16 : decode cX5_placeBehind 16 = .ok (.imul, 1) := by decide +kernel
theorem dX5_placeBehind_17 : decode cX5_placeBehind 17 = .ok (.iadd, 1) := by decide +kernel
theorem dX5_placeBehind_18 : decode cX5_placeBehind 18 = .ok (.istore 4, 2) := by decide +kernel
theorem dX5_placeBehind_20 : decode cX5_placeBehind 20 = .ok (.iload 4, 2) := by decide +kernel
theorem dX5_placeBehind_22 : decode cX5_placeBehind 22 = .ok (.iload_n 2, 1) := by decide +kernel
theorem dX5_placeBehind_23 : decode cX5_placeBehind 23 = .ok (.if_icmp .le 16, 3) := by decide +kernel
theorem dX5_placeBehind_26 : decode cX5_placeBehind 26 = .ok (.iload 4, 2) := by decide +kernel
theorem dX5_placeBehind_28 : decode cX5_placeBehind 28 = .ok (.sipush 600, 3) := by decide +kernel
theorem dX5_placeBehind_31 : decode cX5_placeBehind 31 = .ok (.if_icmp .gt 8, 3) := by decide +kernel
theorem dX5_placeBehind_34 : decode cX5_placeBehind 34 = .ok (.iload 4, 2) := by decide +kernel
theorem dX5_placeBehind_36 : decode cX5_placeBehind 36 = .ok (.goto 4, 3) := by decide +kernel
theorem dX5_placeBehind_39 : decode cX5_placeBehind 39 = .ok (.iconst (-1), 1) := by decide +kernel
theorem dX5_placeBehind_40 : decode cX5_placeBehind 40 = .ok (.ireturn, 1) := by decide +kernel
theorem dX5_dearerBy_0 : decode cX5_dearerBy 0 = .ok (.aload_n 0, 1) := by decide +kernel
theorem dX5_dearerBy_1 : decode cX5_dearerBy 1 = .ok (.getfield 11, 3) := by decide +kernel
theorem dX5_dearerBy_4 : decode cX5_dearerBy 4 = .ok (.iload_n 1, 1) := by decide +kernel
theorem dX5_dearerBy_5 : decode cX5_dearerBy 5 = .ok (.aaload, 1) := by decide +kernel
theorem dX5_dearerBy_6 : decode cX5_dearerBy 6 = .ok (.iload_n 2, 1) := by decide +kernel
theorem dX5_dearerBy_7 : decode cX5_dearerBy 7 = .ok (.iaload, 1) := by decide +kernel
theorem dX5_dearerBy_8 : decode cX5_dearerBy 8 = .ok (.aload_n 0, 1) := by decide +kernel
theorem dX5_dearerBy_9 : decode cX5_dearerBy 9 = .ok (.getfield 29, 3) := by decide +kernel
theorem dX5_dearerBy_12 : decode cX5_dearerBy 12 = .ok (.iload_n 1, 1) := by decide +kernel
theorem dX5_dearerBy_13 : decode cX5_dearerBy 13 = .ok (.aaload, 1) := by decide +kernel
theorem dX5_dearerBy_14 : decode cX5_dearerBy 14 = .ok (.getfield 84, 3) := by decide +kernel
theorem dX5_dearerBy_17 : decode cX5_dearerBy 17 = .ok (.iload_n 3, 1) := by decide +kernel
theorem dX5_dearerBy_18 : decode cX5_dearerBy 18 = .ok (.iaload, 1) := by decide +kernel
theorem dX5_dearerBy_19 : decode cX5_dearerBy 19 = .ok (.iadd, 1) := by decide +kernel
theorem dX5_dearerBy_20 : decode cX5_dearerBy 20 = .ok (.aload_n 0, 1) := by decide +kernel
theorem dX5_dearerBy_21 : decode cX5_dearerBy 21 = .ok (.getfield 16, 3) := by decide +kernel
theorem dX5_dearerBy_24 : decode cX5_dearerBy 24 = .ok (.iload_n 1, 1) := by decide +kernel
theorem dX5_dearerBy_25 : decode cX5_dearerBy 25 = .ok (.iconst 1, 1) := by decide +kernel
theorem dX5_dearerBy_26 : decode cX5_dearerBy 26 = .ok (.iadd, 1) := by decide +kernel
theorem dX5_dearerBy_27 : decode cX5_dearerBy 27 = .ok (.aaload, 1) := by decide +kernel
theorem dX5_dearerBy_28 : decode cX5_dearerBy 28 = .ok (.iload 4, 2) := by decide +kernel
theorem dX5_dearerBy_30 : decode cX5_dearerBy 30 = .ok (.iaload, 1) := by decide +kernel
theorem dX5_dearerBy_31 : decode cX5_dearerBy 31 = .ok (.iadd, 1) := by decide +kernel
theorem dX5_dearerBy_32 : decode cX5_dearerBy 32 = .ok (.aload_n 0, 1) := by decide +kernel
theorem dX5_dearerBy_33 : decode cX5_dearerBy 33 = .ok (.getfield 16, 3) := by decide +kernel
theorem dX5_dearerBy_36 : decode cX5_dearerBy 36 = .ok (.iload_n 1, 1) := by decide +kernel
theorem dX5_dearerBy_37 : decode cX5_dearerBy 37 = .ok (.aaload, 1) := by decide +kernel
theorem dX5_dearerBy_38 : decode cX5_dearerBy 38 = .ok (.iload_n 2, 1) := by decide +kernel
theorem dX5_dearerBy_39 : decode cX5_dearerBy 39 = .ok (.iaload, 1) := by decide +kernel
theorem dX5_dearerBy_40 : decode cX5_dearerBy 40 = .ok (.isub, 1) := by decide +kernel
theorem dX5_dearerBy_41 : decode cX5_dearerBy 41 = .ok (.ireturn, 1) := by decide +kernel
theorem dX5_walkBest_0 : decode cX5_walkBest 0 = .ok (.iconst 0, 1) := by decide +kernel
theorem dX5_walkBest_1 : decode cX5_walkBest 1 = .ok (.istore_n 1, 1) := by decide +kernel
theorem dX5_walkBest_2 : decode cX5_walkBest 2 = .ok (.iload_n 1, 1) := by decide +kernel
theorem dX5_walkBest_3 : decode cX5_walkBest 3 = .ok (.sipush 600, 3) := by decide +kernel
theorem dX5_walkBest_6 : decode cX5_walkBest 6 = .ok (.if_icmp .ge 24, 3) := by decide +kernel
theorem dX5_walkBest_9 : decode cX5_walkBest 9 = .ok (.aload_n 0, 1) := by decide +kernel
theorem dX5_walkBest_10 : decode cX5_walkBest 10 = .ok (.getfield 16, 3) := by decide +kernel
theorem dX5_walkBest_13 : decode cX5_walkBest 13 = .ok (.iconst 0, 1) := by decide +kernel
theorem dX5_walkBest_14 : decode cX5_walkBest 14 = .ok (.aaload, 1) := by decide +kernel
theorem dX5_walkBest_15 : decode cX5_walkBest 15 = .ok (.iload_n 1, 1) := by decide +kernel
theorem dX5_walkBest_16 : decode cX5_walkBest 16 = .ok (.iaload, 1) := by decide +kernel
theorem dX5_walkBest_17 : decode cX5_walkBest 17 = .ok (.aload_n 0, 1) := by decide +kernel
theorem dX5_walkBest_18 : decode cX5_walkBest 18 = .ok (.getfield 70, 3) := by decide +kernel
theorem dX5_walkBest_21 : decode cX5_walkBest 21 = .ok (.if_icmp .eq 9, 3) := by decide +kernel
theorem dX5_walkBest_24 : decode cX5_walkBest 24 = .ok (.iinc 1 1, 3) := by decide +kernel
theorem dX5_walkBest_27 : decode cX5_walkBest 27 = .ok (.goto (-25), 3) := by decide +kernel
theorem dX5_walkBest_30 : decode cX5_walkBest 30 = .ok (.aload_n 0, 1) := by decide +kernel
theorem dX5_walkBest_31 : decode cX5_walkBest 31 = .ok (.getfield 38, 3) := by decide +kernel
theorem dX5_walkBest_34 : decode cX5_walkBest 34 = .ok (.iconst 0, 1) := by decide +kernel
theorem dX5_walkBest_35 : decode cX5_walkBest 35 = .ok (.iload_n 1, 1) := by decide +kernel
theorem dX5_walkBest_36 : decode cX5_walkBest 36 = .ok (.iastore, 1) := by decide +kernel
theorem dX5_walkBest_37 : decode cX5_walkBest 37 = .ok (.iconst 0, 1) := by decide +kernel
theorem dX5_walkBest_38 : decode cX5_walkBest 38 = .ok (.istore_n 2, 1) := by decide +kernel
theorem dX5_walkBest_39 : decode cX5_walkBest 39 = .ok (.iload_n 2, 1) := by decide +kernel
theorem dX5_walkBest_40 : decode cX5_walkBest 40 = .ok (.aload_n 0, 1) := by decide +kernel
theorem dX5_walkBest_41 : decode cX5_walkBest 41 = .ok (.getfield 61, 3) := by decide +kernel
theorem dX5_walkBest_44 : decode cX5_walkBest 44 = .ok (.iconst 1, 1) := by decide +kernel
theorem dX5_walkBest_45 : decode cX5_walkBest 45 = .ok (.isub, 1) := by decide +kernel
theorem dX5_walkBest_46 : decode cX5_walkBest 46 = .ok (.if_icmp .ge 25, 3) := by decide +kernel
theorem dX5_walkBest_49 : decode cX5_walkBest 49 = .ok (.aload_n 0, 1) := by decide +kernel
theorem dX5_walkBest_50 : decode cX5_walkBest 50 = .ok (.iload_n 2, 1) := by decide +kernel
theorem dX5_walkBest_51 : decode cX5_walkBest 51 = .ok (.iload_n 1, 1) := by decide +kernel
theorem dX5_walkBest_52 : decode cX5_walkBest 52 = .ok (.invokevirtual 90, 3) := by decide +kernel
theorem dX5_walkBest_55 : decode cX5_walkBest 55 = .ok (.istore_n 1, 1) := by decide +kernel
theorem dX5_walkBest_56 : decode cX5_walkBest 56 = .ok (.aload_n 0, 1) := by decide +kernel
theorem dX5_walkBest_57 : decode cX5_walkBest 57 = .ok (.getfield 38, 3) := by decide +kernel
theorem dX5_walkBest_60 : decode cX5_walkBest 60 = .ok (.iload_n 2, 1) := by decide +kernel
theorem dX5_walkBest_61 : decode cX5_walkBest 61 = .ok (.iconst 1, 1) := by decide +kernel
theorem dX5_walkBest_62 : decode cX5_walkBest 62 = .ok (.iadd, 1) := by decide +kernel
theorem dX5_walkBest_63 : decode cX5_walkBest 63 = .ok (.iload_n 1, 1) := by decide +kernel
theorem dX5_walkBest_64 : decode cX5_walkBest 64 = .ok (.iastore, 1) := by decide +kernel
theorem dX5_walkBest_65 : decode cX5_walkBest 65 = .ok (.iinc 2 1, 3) := by decide +kernel
theorem dX5_walkBest_68 : decode cX5_walkBest 68 = .ok (.goto (-29), 3) := by decide +kernel
theorem dX5_walkBest_71 : decode cX5_walkBest 71 = .ok (.return_, 1) := by decide +kernel
theorem dX5_nextOfBest_0 : decode cX5_nextOfBest 0 = .ok (.sipush 600, 3) := by decide +kernel
theorem dX5_nextOfBest_3 : decode cX5_nextOfBest 3 = .ok (.istore_n 3, 1) := by decide +kernel
theorem dX5_nextOfBest_4 : decode cX5_nextOfBest 4 = .ok (.iconst 0, 1) := by decide +kernel
theorem dX5_nextOfBest_5 : decode cX5_nextOfBest 5 = .ok (.istore 4, 2) := by decide +kernel
theorem dX5_nextOfBest_7 : decode cX5_nextOfBest 7 = .ok (.iload 4, 2) := by decide +kernel
theorem dX5_nextOfBest_9 : decode cX5_nextOfBest 9 = .ok (.aload_n 0, 1) := by decide +kernel
theorem dX5_nextOfBest_10 : decode cX5_nextOfBest 10 = .ok (.getfield 29, 3) := by decide +kernel
theorem dX5_nextOfBest_13 : decode cX5_nextOfBest 13 = .ok (.iload_n 1, 1) := by decide +kernel
theorem dX5_nextOfBest_14 : decode cX5_nextOfBest 14 = .ok (.aaload, 1) := by decide +kernel
theorem dX5_nextOfBest_15 : decode cX5_nextOfBest 15 = .ok (.getfield 77, 3) := by decide +kernel
theorem dX5_nextOfBest_18 : decode cX5_nextOfBest 18 = .ok (.if_icmp .ge 45, 3) := by decide +kernel
theorem dX5_nextOfBest_21 : decode cX5_nextOfBest 21 = .ok (.aload_n 0, 1) := by decide +kernel
theorem dX5_nextOfBest_22 : decode cX5_nextOfBest 22 = .ok (.iload_n 1, 1) := by decide +kernel
theorem dX5_nextOfBest_23 : decode cX5_nextOfBest 23 = .ok (.iload_n 2, 1) := by decide +kernel
theorem dX5_nextOfBest_24 : decode cX5_nextOfBest 24 = .ok (.iload 4, 2) := by decide +kernel
theorem dX5_nextOfBest_26 : decode cX5_nextOfBest 26 = .ok (.invokevirtual 80, 3) := by decide +kernel
theorem dX5_nextOfBest_29 : decode cX5_nextOfBest 29 = .ok (.istore 5, 2) := by decide +kernel
theorem dX5_nextOfBest_31 : decode cX5_nextOfBest 31 = .ok (.iload 5, 2) := by decide +kernel
theorem dX5_nextOfBest_33 : decode cX5_nextOfBest 33 = .ok (.iconst (-1), 1) := by decide +kernel
theorem dX5_nextOfBest_34 : decode cX5_nextOfBest 34 = .ok (.if_icmp .eq 23, 3) := by decide +kernel
theorem dX5_nextOfBest_37 : decode cX5_nextOfBest 37 = .ok (.aload_n 0, 1) := by decide +kernel
theorem dX5_nextOfBest_38 : decode cX5_nextOfBest 38 = .ok (.iload_n 1, 1) := by decide +kernel
theorem dX5_nextOfBest_39 : decode cX5_nextOfBest 39 = .ok (.iload_n 2, 1) := by decide +kernel
theorem dX5_nextOfBest_40 : decode cX5_nextOfBest 40 = .ok (.iload 4, 2) := by decide +kernel
theorem dX5_nextOfBest_42 : decode cX5_nextOfBest 42 = .ok (.iload 5, 2) := by decide +kernel
theorem dX5_nextOfBest_44 : decode cX5_nextOfBest 44 = .ok (.invokevirtual 93, 3) := by decide +kernel
theorem dX5_nextOfBest_47 : decode cX5_nextOfBest 47 = .ok (.ifCond .ne 10, 3) := by decide +kernel
theorem dX5_nextOfBest_50 : decode cX5_nextOfBest 50 = .ok (.iload_n 3, 1) := by decide +kernel
theorem dX5_nextOfBest_51 : decode cX5_nextOfBest 51 = .ok (.iload 5, 2) := by decide +kernel
theorem dX5_nextOfBest_53 : decode cX5_nextOfBest 53 = .ok (.invokestatic 55, 3) := by decide +kernel
theorem dX5_nextOfBest_56 : decode cX5_nextOfBest 56 = .ok (.istore_n 3, 1) := by decide +kernel
theorem dX5_nextOfBest_57 : decode cX5_nextOfBest 57 = .ok (.iinc 4 1, 3) := by decide +kernel
theorem dX5_nextOfBest_60 : decode cX5_nextOfBest 60 = .ok (.goto (-53), 3) := by decide +kernel
theorem dX5_nextOfBest_63 : decode cX5_nextOfBest 63 = .ok (.iload_n 3, 1) := by decide +kernel
theorem dX5_nextOfBest_64 : decode cX5_nextOfBest 64 = .ok (.ireturn, 1) := by decide +kernel
theorem dX5_fillBefore_0 : decode cX5_fillBefore 0 = .ok (.iconst 0, 1) := by decide +kernel
theorem dX5_fillBefore_1 : decode cX5_fillBefore 1 = .ok (.istore_n 2, 1) := by decide +kernel
theorem dX5_fillBefore_2 : decode cX5_fillBefore 2 = .ok (.iload_n 2, 1) := by decide +kernel
theorem dX5_fillBefore_3 : decode cX5_fillBefore 3 = .ok (.sipush 601, 3) := by decide +kernel
theorem dX5_fillBefore_6 : decode cX5_fillBefore 6 = .ok (.if_icmp .ge 16, 3) := by decide +kernel
theorem dX5_fillBefore_9 : decode cX5_fillBefore 9 = .ok (.aload_n 0, 1) := by decide +kernel
theorem dX5_fillBefore_10 : decode cX5_fillBefore 10 = .ok (.getfield 19, 3) := by decide +kernel
theorem dX5_fillBefore_13 : decode cX5_fillBefore 13 = .ok (.iload_n 2, 1) := by decide +kernel
theorem dX5_fillBefore_14 : decode cX5_fillBefore 14 = .ok (.iconst 0, 1) := by decide +kernel
theorem dX5_fillBefore_15 : decode cX5_fillBefore 15 = .ok (.iastore, 1) := by decide +kernel
theorem dX5_fillBefore_16 : decode cX5_fillBefore 16 = .ok (.iinc 2 1, 3) := by decide +kernel
theorem dX5_fillBefore_19 : decode cX5_fillBefore 19 = .ok (.goto (-17), 3) := by decide +kernel
theorem dX5_fillBefore_22 : decode cX5_fillBefore 22 = .ok (.iconst 0, 1) := by decide +kernel
theorem dX5_fillBefore_23 : decode cX5_fillBefore 23 = .ok (.istore_n 2, 1) := by decide +kernel
theorem dX5_fillBefore_24 : decode cX5_fillBefore 24 = .ok (.iload_n 2, 1) := by decide +kernel
theorem dX5_fillBefore_25 : decode cX5_fillBefore 25 = .ok (.iload_n 1, 1) := by decide +kernel
theorem dX5_fillBefore_26 : decode cX5_fillBefore 26 = .ok (.if_icmp .ge 39, 3) := by decide +kernel
theorem dX5_fillBefore_29 : decode cX5_fillBefore 29 = .ok (.iload_n 2, 1) := by decide +kernel
theorem dX5_fillBefore_30 : decode cX5_fillBefore 30 = .ok (.aload_n 0, 1) := by decide +kernel
theorem dX5_fillBefore_31 : decode cX5_fillBefore 31 = .ok (.getfield 61, 3) := by decide +kernel
theorem dX5_fillBefore_34 : decode cX5_fillBefore 34 = .ok (.iconst 1, 1) := by decide +kernel
theorem dX5_fillBefore_35 : decode cX5_fillBefore 35 = .ok (.isub, 1) := by decide +kernel
theorem dX5_fillBefore_36 : decode cX5_fillBefore 36 = .ok (.if_icmp .ge 29, 3) := by decide +kernel
theorem dX5_fillBefore_39 : decode cX5_fillBefore 39 = .ok (.sipush 600, 3) := by decide +kernel
theorem dX5_fillBefore_42 : decode cX5_fillBefore 42 = .ok (.istore_n 3, 1) := by decide +kernel
theorem dX5_fillBefore_43 : decode cX5_fillBefore 43 = .ok (.iload_n 3, 1) := by decide +kernel
theorem dX5_fillBefore_44 : decode cX5_fillBefore 44 = .ok (.ifCond .lt 15, 3) := by decide +kernel
theorem dX5_fillBefore_47 : decode cX5_fillBefore 47 = .ok (.aload_n 0, 1) := by decide +kernel
theorem dX5_fillBefore_48 : decode cX5_fillBefore 48 = .ok (.iload_n 2, 1) := by decide +kernel
theorem dX5_fillBefore_49 : decode cX5_fillBefore 49 = .ok (.iload_n 3, 1) := by decide +kernel
theorem dX5_fillBefore_50 : decode cX5_fillBefore 50 = .ok (.invokevirtual 97, 3) := by decide +kernel
theorem dX5_fillBefore_53 : decode cX5_fillBefore 53 = .ok (.iinc 3 (-1), 3) := by decide +kernel
theorem dX5_fillBefore_56 : decode cX5_fillBefore 56 = .ok (.goto (-13), 3) := by decide +kernel
theorem dX5_fillBefore_59 : decode cX5_fillBefore 59 = .ok (.iinc 2 1, 3) := by decide +kernel
theorem dX5_fillBefore_62 : decode cX5_fillBefore 62 = .ok (.goto (-38), 3) := by decide +kernel
theorem dX5_fillBefore_65 : decode cX5_fillBefore 65 = .ok (.return_, 1) := by decide +kernel
theorem dX5_stepBefore_0 : decode cX5_stepBefore 0 = .ok (.aload_n 0, 1) := by decide +kernel
theorem dX5_stepBefore_1 : decode cX5_stepBefore 1 = .ok (.getfield 19, 3) := by decide +kernel
theorem dX5_stepBefore_4 : decode cX5_stepBefore 4 = .ok (.iload_n 2, 1) := by decide +kernel
theorem dX5_stepBefore_5 : decode cX5_stepBefore 5 = .ok (.iaload, 1) := by decide +kernel
theorem dX5_stepBefore_6 : decode cX5_stepBefore 6 = .ok (.aload_n 0, 1) := by decide +kernel
theorem dX5_stepBefore_7 : decode cX5_stepBefore 7 = .ok (.getfield 11, 3) := by decide +kernel
theorem dX5_stepBefore_10 : decode cX5_stepBefore 10 = .ok (.iload_n 1, 1) := by decide +kernel
theorem dX5_stepBefore_11 : decode cX5_stepBefore 11 = .ok (.aaload, 1) := by decide +kernel
theorem dX5_stepBefore_12 : decode cX5_stepBefore 12 = .ok (.iload_n 2, 1) := by decide +kernel
theorem dX5_stepBefore_13 : decode cX5_stepBefore 13 = .ok (.iaload, 1) := by decide +kernel
theorem dX5_stepBefore_14 : decode cX5_stepBefore 14 = .ok (.iadd, 1) := by decide +kernel
theorem dX5_stepBefore_15 : decode cX5_stepBefore 15 = .ok (.istore_n 3, 1) := by decide +kernel
theorem dX5_stepBefore_16 : decode cX5_stepBefore 16 = .ok (.aload_n 0, 1) := by decide +kernel
theorem dX5_stepBefore_17 : decode cX5_stepBefore 17 = .ok (.getfield 19, 3) := by decide +kernel
theorem dX5_stepBefore_20 : decode cX5_stepBefore 20 = .ok (.iload_n 2, 1) := by decide +kernel
theorem dX5_stepBefore_21 : decode cX5_stepBefore 21 = .ok (.ldc 73, 2) := by decide +kernel
theorem dX5_stepBefore_23 : decode cX5_stepBefore 23 = .ok (.iastore, 1) := by decide +kernel
theorem dX5_stepBefore_24 : decode cX5_stepBefore 24 = .ok (.iload_n 3, 1) := by decide +kernel
theorem dX5_stepBefore_25 : decode cX5_stepBefore 25 = .ok (.ldc 73, 2) := by decide +kernel
theorem dX5_stepBefore_27 : decode cX5_stepBefore 27 = .ok (.if_icmp .lt 4, 3) := by decide +kernel
theorem dX5_stepBefore_30 : decode cX5_stepBefore 30 = .ok (.return_, 1) := by decide +kernel
theorem dX5_stepBefore_31 : decode cX5_stepBefore 31 = .ok (.iconst 0, 1) := by decide +kernel
theorem dX5_stepBefore_32 : decode cX5_stepBefore 32 = .ok (.istore 4, 2) := by decide +kernel
theorem dX5_stepBefore_34 : decode cX5_stepBefore 34 = .ok (.iload 4, 2) := by decide +kernel
theorem dX5_stepBefore_36 : decode cX5_stepBefore 36 = .ok (.aload_n 0, 1) := by decide +kernel
theorem dX5_stepBefore_37 : decode cX5_stepBefore 37 = .ok (.getfield 29, 3) := by decide +kernel
theorem dX5_stepBefore_40 : decode cX5_stepBefore 40 = .ok (.iload_n 1, 1) := by decide +kernel
theorem dX5_stepBefore_41 : decode cX5_stepBefore 41 = .ok (.aaload, 1) := by decide +kernel
theorem dX5_stepBefore_42 : decode cX5_stepBefore 42 = .ok (.getfield 77, 3) := by decide +kernel
theorem dX5_stepBefore_45 : decode cX5_stepBefore 45 = .ok (.if_icmp .ge 56, 3) := by decide +kernel
theorem dX5_stepBefore_48 : decode cX5_stepBefore 48 = .ok (.aload_n 0, 1) := by decide +kernel
theorem dX5_stepBefore_49 : decode cX5_stepBefore 49 = .ok (.iload_n 1, 1) := by decide +kernel
theorem dX5_stepBefore_50 : decode cX5_stepBefore 50 = .ok (.iload_n 2, 1) := by decide +kernel
theorem dX5_stepBefore_51 : decode cX5_stepBefore 51 = .ok (.iload 4, 2) := by decide +kernel
theorem dX5_stepBefore_53 : decode cX5_stepBefore 53 = .ok (.invokevirtual 80, 3) := by decide +kernel
theorem dX5_stepBefore_56 : decode cX5_stepBefore 56 = .ok (.istore 5, 2) := by decide +kernel
theorem dX5_stepBefore_58 : decode cX5_stepBefore 58 = .ok (.iload 5, 2) := by decide +kernel
theorem dX5_stepBefore_60 : decode cX5_stepBefore 60 = .ok (.iconst (-1), 1) := by decide +kernel
theorem dX5_stepBefore_61 : decode cX5_stepBefore 61 = .ok (.if_icmp .eq 34, 3) := by decide +kernel
theorem dX5_stepBefore_64 : decode cX5_stepBefore 64 = .ok (.aload_n 0, 1) := by decide +kernel
theorem dX5_stepBefore_65 : decode cX5_stepBefore 65 = .ok (.getfield 19, 3) := by decide +kernel
theorem dX5_stepBefore_68 : decode cX5_stepBefore 68 = .ok (.iload 5, 2) := by decide +kernel
theorem dX5_stepBefore_70 : decode cX5_stepBefore 70 = .ok (.aload_n 0, 1) := by decide +kernel
theorem dX5_stepBefore_71 : decode cX5_stepBefore 71 = .ok (.getfield 19, 3) := by decide +kernel
theorem dX5_stepBefore_74 : decode cX5_stepBefore 74 = .ok (.iload 5, 2) := by decide +kernel
theorem dX5_stepBefore_76 : decode cX5_stepBefore 76 = .ok (.iaload, 1) := by decide +kernel
theorem dX5_stepBefore_77 : decode cX5_stepBefore 77 = .ok (.iload_n 3, 1) := by decide +kernel
theorem dX5_stepBefore_78 : decode cX5_stepBefore 78 = .ok (.aload_n 0, 1) := by decide +kernel
theorem dX5_stepBefore_79 : decode cX5_stepBefore 79 = .ok (.getfield 29, 3) := by decide +kernel
theorem dX5_stepBefore_82 : decode cX5_stepBefore 82 = .ok (.iload_n 1, 1) := by decide +kernel
theorem dX5_stepBefore_83 : decode cX5_stepBefore 83 = .ok (.aaload, 1) := by decide +kernel
theorem dX5_stepBefore_84 : decode cX5_stepBefore 84 = .ok (.getfield 84, 3) := by decide +kernel
theorem dX5_stepBefore_87 : decode cX5_stepBefore 87 = .ok (.iload 4, 2) := by decide +kernel
theorem dX5_stepBefore_89 : decode cX5_stepBefore 89 = .ok (.iaload, 1) := by decide +kernel
theorem dX5_stepBefore_90 : decode cX5_stepBefore 90 = .ok (.iadd, 1) := by decide +kernel
theorem dX5_stepBefore_91 : decode cX5_stepBefore 91 = .ok (.invokestatic 55, 3) := by decide +kernel
theorem dX5_stepBefore_94 : decode cX5_stepBefore 94 = .ok (.iastore, 1) := by decide +kernel
theorem dX5_stepBefore_95 : decode cX5_stepBefore 95 = .ok (.iinc 4 1, 3) := by decide +kernel
theorem dX5_stepBefore_98 : decode cX5_stepBefore 98 = .ok (.goto (-64), 3) := by decide +kernel
theorem dX5_stepBefore_101 : decode cX5_stepBefore 101 = .ok (.return_, 1) := by decide +kernel
theorem dX5_leastPlace_0 : decode cX5_leastPlace 0 = .ok (.iconst 0, 1) := by decide +kernel
theorem dX5_leastPlace_1 : decode cX5_leastPlace 1 = .ok (.istore_n 3, 1) := by decide +kernel
theorem dX5_leastPlace_2 : decode cX5_leastPlace 2 = .ok (.iload_n 3, 1) := by decide +kernel
theorem dX5_leastPlace_3 : decode cX5_leastPlace 3 = .ok (.sipush 601, 3) := by decide +kernel
theorem dX5_leastPlace_6 : decode cX5_leastPlace 6 = .ok (.if_icmp .ge 21, 3) := by decide +kernel
theorem dX5_leastPlace_9 : decode cX5_leastPlace 9 = .ok (.aload_n 0, 1) := by decide +kernel
theorem dX5_leastPlace_10 : decode cX5_leastPlace 10 = .ok (.iload_n 1, 1) := by decide +kernel
theorem dX5_leastPlace_11 : decode cX5_leastPlace 11 = .ok (.iload_n 3, 1) := by decide +kernel
theorem dX5_leastPlace_12 : decode cX5_leastPlace 12 = .ok (.iload_n 2, 1) := by decide +kernel
theorem dX5_leastPlace_13 : decode cX5_leastPlace 13 = .ok (.invokevirtual 101, 3) := by decide +kernel
theorem dX5_leastPlace_16 : decode cX5_leastPlace 16 = .ok (.ifCond .eq 5, 3) := by decide +kernel
theorem dX5_leastPlace_19 : decode cX5_leastPlace 19 = .ok (.iload_n 3, 1) := by decide +kernel
theorem dX5_leastPlace_20 : decode cX5_leastPlace 20 = .ok (.ireturn, 1) := by decide +kernel
theorem dX5_leastPlace_21 : decode cX5_leastPlace 21 = .ok (.iinc 3 1, 3) := by decide +kernel
theorem dX5_leastPlace_24 : decode cX5_leastPlace 24 = .ok (.goto (-22), 3) := by decide +kernel
theorem dX5_leastPlace_27 : decode cX5_leastPlace 27 = .ok (.iconst (-1), 1) := by decide +kernel
theorem dX5_leastPlace_28 : decode cX5_leastPlace 28 = .ok (.ireturn, 1) := by decide +kernel
theorem dX5_greatestPlace_0 : decode cX5_greatestPlace 0 = .ok (.sipush 600, 3) := by decide +kernel
theorem dX5_greatestPlace_3 : decode cX5_greatestPlace 3 = .ok (.istore_n 3, 1) := by decide +kernel
theorem dX5_greatestPlace_4 : decode cX5_greatestPlace 4 = .ok (.iload_n 3, 1) := by decide +kernel
theorem dX5_greatestPlace_5 : decode cX5_greatestPlace 5 = .ok (.ifCond .lt 21, 3) := by decide +kernel
theorem dX5_greatestPlace_8 : decode cX5_greatestPlace 8 = .ok (.aload_n 0, 1) := by decide +kernel
theorem dX5_greatestPlace_9 : decode cX5_greatestPlace 9 = .ok (.iload_n 1, 1) := by decide +kernel
theorem dX5_greatestPlace_10 : decode cX5_greatestPlace 10 = .ok (.iload_n 3, 1) := by decide +kernel
theorem dX5_greatestPlace_11 : decode cX5_greatestPlace 11 = .ok (.iload_n 2, 1) := by decide +kernel
theorem dX5_greatestPlace_12 : decode cX5_greatestPlace 12 = .ok (.invokevirtual 101, 3) := by decide +kernel
theorem dX5_greatestPlace_15 : decode cX5_greatestPlace 15 = .ok (.ifCond .eq 5, 3) := by decide +kernel
theorem dX5_greatestPlace_18 : decode cX5_greatestPlace 18 = .ok (.iload_n 3, 1) := by decide +kernel
theorem dX5_greatestPlace_19 : decode cX5_greatestPlace 19 = .ok (.ireturn, 1) := by decide +kernel
theorem dX5_greatestPlace_20 : decode cX5_greatestPlace 20 = .ok (.iinc 3 (-1), 3) := by decide +kernel
theorem dX5_greatestPlace_23 : decode cX5_greatestPlace 23 = .ok (.goto (-19), 3) := by decide +kernel
theorem dX5_greatestPlace_26 : decode cX5_greatestPlace 26 = .ok (.iconst (-1), 1) := by decide +kernel
theorem dX5_greatestPlace_27 : decode cX5_greatestPlace 27 = .ok (.ireturn, 1) := by decide +kernel
theorem dX5_isRival_0 : decode cX5_isRival 0 = .ok (.aload_n 0, 1) := by decide +kernel
theorem dX5_isRival_1 : decode cX5_isRival 1 = .ok (.getfield 19, 3) := by decide +kernel
theorem dX5_isRival_4 : decode cX5_isRival 4 = .ok (.iload_n 2, 1) := by decide +kernel
theorem dX5_isRival_5 : decode cX5_isRival 5 = .ok (.iaload, 1) := by decide +kernel
theorem dX5_isRival_6 : decode cX5_isRival 6 = .ok (.aload_n 0, 1) := by decide +kernel
theorem dX5_isRival_7 : decode cX5_isRival 7 = .ok (.getfield 16, 3) := by decide +kernel
theorem dX5_isRival_10 : decode cX5_isRival 10 = .ok (.iload_n 1, 1) := by decide +kernel
theorem dX5_isRival_11 : decode cX5_isRival 11 = .ok (.aaload, 1) := by decide +kernel
theorem dX5_isRival_12 : decode cX5_isRival 12 = .ok (.iload_n 2, 1) := by decide +kernel
theorem dX5_isRival_13 : decode cX5_isRival 13 = .ok (.iaload, 1) := by decide +kernel
theorem dX5_isRival_14 : decode cX5_isRival 14 = .ok (.iadd, 1) := by decide +kernel
theorem dX5_isRival_15 : decode cX5_isRival 15 = .ok (.aload_n 0, 1) := by decide +kernel
theorem dX5_isRival_16 : decode cX5_isRival 16 = .ok (.getfield 70, 3) := by decide +kernel
theorem dX5_isRival_19 : decode cX5_isRival 19 = .ok (.iload_n 3, 1) := by decide +kernel
theorem dX5_isRival_20 : decode cX5_isRival 20 = .ok (.iadd, 1) := by decide +kernel
theorem dX5_isRival_21 : decode cX5_isRival 21 = .ok (.if_icmp .gt 7, 3) := by decide +kernel
theorem dX5_isRival_24 : decode cX5_isRival 24 = .ok (.iconst 1, 1) := by decide +kernel
theorem dX5_isRival_25 : decode cX5_isRival 25 = .ok (.goto 4, 3) := by decide +kernel
theorem dX5_isRival_28 : decode cX5_isRival 28 = .ok (.iconst 0, 1) := by decide +kernel
theorem dX5_isRival_29 : decode cX5_isRival 29 = .ok (.ireturn, 1) := by decide +kernel
theorem dX5_countWithin_0 : decode cX5_countWithin 0 = .ok (.aload_n 0, 1) := by decide +kernel
theorem dX5_countWithin_1 : decode cX5_countWithin 1 = .ok (.iload_n 1, 1) := by decide +kernel
theorem dX5_countWithin_2 : decode cX5_countWithin 2 = .ok (.invokevirtual 105, 3) := by decide +kernel
theorem dX5_countWithin_5 : decode cX5_countWithin 5 = .ok (.iconst 0, 1) := by decide +kernel
theorem dX5_countWithin_6 : decode cX5_countWithin 6 = .ok (.istore_n 2, 1) := by decide +kernel
theorem dX5_countWithin_7 : decode cX5_countWithin 7 = .ok (.iload_n 2, 1) := by decide +kernel
theorem dX5_countWithin_8 : decode cX5_countWithin 8 = .ok (.aload_n 0, 1) := by decide +kernel
theorem dX5_countWithin_9 : decode cX5_countWithin 9 = .ok (.getfield 61, 3) := by decide +kernel
theorem dX5_countWithin_12 : decode cX5_countWithin 12 = .ok (.iconst 1, 1) := by decide +kernel
theorem dX5_countWithin_13 : decode cX5_countWithin 13 = .ok (.isub, 1) := by decide +kernel
theorem dX5_countWithin_14 : decode cX5_countWithin 14 = .ok (.if_icmp .ge 39, 3) := by decide +kernel
theorem dX5_countWithin_17 : decode cX5_countWithin 17 = .ok (.sipush 600, 3) := by decide +kernel
theorem dX5_countWithin_20 : decode cX5_countWithin 20 = .ok (.istore_n 3, 1) := by decide +kernel
theorem dX5_countWithin_21 : decode cX5_countWithin 21 = .ok (.iload_n 3, 1) := by decide +kernel
theorem dX5_countWithin_22 : decode cX5_countWithin 22 = .ok (.ifCond .lt 25, 3) := by decide +kernel
theorem dX5_countWithin_25 : decode cX5_countWithin 25 = .ok (.aload_n 0, 1) := by decide +kernel
theorem dX5_countWithin_26 : decode cX5_countWithin 26 = .ok (.iload_n 3, 1) := by decide +kernel
theorem dX5_countWithin_27 : decode cX5_countWithin 27 = .ok (.iload_n 1, 1) := by decide +kernel
theorem dX5_countWithin_28 : decode cX5_countWithin 28 = .ok (.invokevirtual 109, 3) := by decide +kernel
theorem dX5_countWithin_31 : decode cX5_countWithin 31 = .ok (.ifCond .eq 10, 3) := by decide +kernel
theorem dX5_countWithin_34 : decode cX5_countWithin 34 = .ok (.aload_n 0, 1) := by decide +kernel
theorem dX5_countWithin_35 : decode cX5_countWithin 35 = .ok (.iload_n 2, 1) := by decide +kernel
theorem dX5_countWithin_36 : decode cX5_countWithin 36 = .ok (.iload_n 3, 1) := by decide +kernel
theorem dX5_countWithin_37 : decode cX5_countWithin 37 = .ok (.iload_n 1, 1) := by decide +kernel
theorem dX5_countWithin_38 : decode cX5_countWithin 38 = .ok (.invokevirtual 113, 3) := by decide +kernel
theorem dX5_countWithin_41 : decode cX5_countWithin 41 = .ok (.iinc 3 (-1), 3) := by decide +kernel
theorem dX5_countWithin_44 : decode cX5_countWithin 44 = .ok (.goto (-23), 3) := by decide +kernel
theorem dX5_countWithin_47 : decode cX5_countWithin 47 = .ok (.iinc 2 1, 3) := by decide +kernel
theorem dX5_countWithin_50 : decode cX5_countWithin 50 = .ok (.goto (-43), 3) := by decide +kernel
theorem dX5_countWithin_53 : decode cX5_countWithin 53 = .ok (.lconst 0, 1) := by decide +kernel
theorem dX5_countWithin_54 : decode cX5_countWithin 54 = .ok (.lstore_n 2, 1) := by decide +kernel
theorem dX5_countWithin_55 : decode cX5_countWithin 55 = .ok (.iconst 0, 1) := by decide +kernel
theorem dX5_countWithin_56 : decode cX5_countWithin 56 = .ok (.istore 4, 2) := by decide +kernel
theorem dX5_countWithin_58 : decode cX5_countWithin 58 = .ok (.iload 4, 2) := by decide +kernel
theorem dX5_countWithin_60 : decode cX5_countWithin 60 = .ok (.aload_n 0, 1) := by decide +kernel
theorem dX5_countWithin_61 : decode cX5_countWithin 61 = .ok (.getfield 23, 3) := by decide +kernel
theorem dX5_countWithin_64 : decode cX5_countWithin 64 = .ok (.arraylength, 1) := by decide +kernel
theorem dX5_countWithin_65 : decode cX5_countWithin 65 = .ok (.if_icmp .ge 19, 3) := by decide +kernel
theorem dX5_countWithin_68 : decode cX5_countWithin 68 = .ok (.lload_n 2, 1) := by decide +kernel
theorem dX5_countWithin_69 : decode cX5_countWithin 69 = .ok (.aload_n 0, 1) := by decide +kernel
theorem dX5_countWithin_70 : decode cX5_countWithin 70 = .ok (.getfield 23, 3) := by decide +kernel
theorem dX5_countWithin_73 : decode cX5_countWithin 73 = .ok (.iload 4, 2) := by decide +kernel
theorem dX5_countWithin_75 : decode cX5_countWithin 75 = .ok (.laload, 1) := by decide +kernel
theorem dX5_countWithin_76 : decode cX5_countWithin 76 = .ok (.ladd, 1) := by decide +kernel
theorem dX5_countWithin_77 : decode cX5_countWithin 77 = .ok (.lstore_n 2, 1) := by decide +kernel
theorem dX5_countWithin_78 : decode cX5_countWithin 78 = .ok (.iinc 4 1, 3) := by decide +kernel
theorem dX5_countWithin_81 : decode cX5_countWithin 81 = .ok (.goto (-23), 3) := by decide +kernel
theorem dX5_countWithin_84 : decode cX5_countWithin 84 = .ok (.lload_n 2, 1) := by decide +kernel
theorem dX5_countWithin_85 : decode cX5_countWithin 85 = .ok (.lreturn, 1) := by decide +kernel
theorem dX5_startWays_0 : decode cX5_startWays 0 = .ok (.iconst 0, 1) := by decide +kernel
theorem dX5_startWays_1 : decode cX5_startWays 1 = .ok (.istore_n 2, 1) := by decide +kernel
theorem dX5_startWays_2 : decode cX5_startWays 2 = .ok (.iload_n 2, 1) := by decide +kernel
theorem dX5_startWays_3 : decode cX5_startWays 3 = .ok (.aload_n 0, 1) := by decide +kernel
theorem dX5_startWays_4 : decode cX5_startWays 4 = .ok (.getfield 23, 3) := by decide +kernel
theorem dX5_startWays_7 : decode cX5_startWays 7 = .ok (.arraylength, 1) := by decide +kernel
theorem dX5_startWays_8 : decode cX5_startWays 8 = .ok (.if_icmp .ge 16, 3) := by decide +kernel
theorem dX5_startWays_11 : decode cX5_startWays 11 = .ok (.aload_n 0, 1) := by decide +kernel
theorem dX5_startWays_12 : decode cX5_startWays 12 = .ok (.getfield 23, 3) := by decide +kernel
theorem dX5_startWays_15 : decode cX5_startWays 15 = .ok (.iload_n 2, 1) := by decide +kernel
theorem dX5_startWays_16 : decode cX5_startWays 16 = .ok (.lconst 0, 1) := by decide +kernel
theorem dX5_startWays_17 : decode cX5_startWays 17 = .ok (.lastore, 1) := by decide +kernel
theorem dX5_startWays_18 : decode cX5_startWays 18 = .ok (.iinc 2 1, 3) := by decide +kernel
theorem dX5_startWays_21 : decode cX5_startWays 21 = .ok (.goto (-19), 3) := by decide +kernel
theorem dX5_startWays_24 : decode cX5_startWays 24 = .ok (.iconst 0, 1) := by decide +kernel
theorem dX5_startWays_25 : decode cX5_startWays 25 = .ok (.istore_n 2, 1) := by decide +kernel
theorem dX5_startWays_26 : decode cX5_startWays 26 = .ok (.iload_n 2, 1) := by decide +kernel
theorem dX5_startWays_27 : decode cX5_startWays 27 = .ok (.sipush 601, 3) := by decide +kernel
theorem dX5_startWays_30 : decode cX5_startWays 30 = .ok (.if_icmp .ge 50, 3) := by decide +kernel
theorem dX5_startWays_33 : decode cX5_startWays 33 = .ok (.aload_n 0, 1) := by decide +kernel
theorem dX5_startWays_34 : decode cX5_startWays 34 = .ok (.getfield 16, 3) := by decide +kernel
theorem dX5_startWays_37 : decode cX5_startWays 37 = .ok (.iconst 0, 1) := by decide +kernel
theorem dX5_startWays_38 : decode cX5_startWays 38 = .ok (.aaload, 1) := by decide +kernel
theorem dX5_startWays_39 : decode cX5_startWays 39 = .ok (.iload_n 2, 1) := by decide +kernel
theorem dX5_startWays_40 : decode cX5_startWays 40 = .ok (.iaload, 1) := by decide +kernel
theorem dX5_startWays_41 : decode cX5_startWays 41 = .ok (.aload_n 0, 1) := by decide +kernel
theorem dX5_startWays_42 : decode cX5_startWays 42 = .ok (.getfield 70, 3) := by decide +kernel
theorem dX5_startWays_45 : decode cX5_startWays 45 = .ok (.isub, 1) := by decide +kernel
theorem dX5_startWays_46 : decode cX5_startWays 46 = .ok (.istore_n 3, 1) := by decide +kernel
theorem dX5_startWays_47 : decode cX5_startWays 47 = .ok (.iload_n 3, 1) := by decide +kernel
theorem dX5_startWays_48 : decode cX5_startWays 48 = .ok (.ifCond .lt 26, 3) := by decide +kernel
theorem dX5_startWays_51 : decode cX5_startWays 51 = .ok (.iload_n 3, 1) := by decide +kernel
theorem dX5_startWays_52 : decode cX5_startWays 52 = .ok (.iload_n 1, 1) := by decide +kernel
theorem dX5_startWays_53 : decode cX5_startWays 53 = .ok (.if_icmp .gt 21, 3) := by decide +kernel
theorem dX5_startWays_56 : decode cX5_startWays 56 = .ok (.iload_n 3, 1) := by decide +kernel
theorem dX5_startWays_57 : decode cX5_startWays 57 = .ok (.bipush 21, 2) := by decide +kernel
theorem dX5_startWays_59 : decode cX5_startWays 59 = .ok (.if_icmp .ge 15, 3) := by decide +kernel
theorem dX5_startWays_62 : decode cX5_startWays 62 = .ok (.aload_n 0, 1) := by decide +kernel
theorem dX5_startWays_63 : decode cX5_startWays 63 = .ok (.getfield 23, 3) := by decide +kernel
theorem dX5_startWays_66 : decode cX5_startWays 66 = .ok (.iload_n 2, 1) := by decide +kernel
theorem dX5_startWays_67 : decode cX5_startWays 67 = .ok (.bipush 21, 2) := by decide +kernel
theorem dX5_startWays_69 : decode cX5_startWays 69 = .ok (.imul, 1) := by decide +kernel
theorem dX5_startWays_70 : decode cX5_startWays 70 = .ok (.iload_n 3, 1) := by decide +kernel
theorem dX5_startWays_71 : decode cX5_startWays 71 = .ok (.iadd, 1) := by decide +kernel
theorem dX5_startWays_72 : decode cX5_startWays 72 = .ok (.lconst 1, 1) := by decide +kernel
theorem dX5_startWays_73 : decode cX5_startWays 73 = .ok (.lastore, 1) := by decide +kernel
theorem dX5_startWays_74 : decode cX5_startWays 74 = .ok (.iinc 2 1, 3) := by decide +kernel
theorem dX5_startWays_77 : decode cX5_startWays 77 = .ok (.goto (-51), 3) := by decide +kernel
theorem dX5_startWays_80 : decode cX5_startWays 80 = .ok (.return_, 1) := by decide +kernel
theorem dX5_holdsWays_0 : decode cX5_holdsWays 0 = .ok (.iconst 0, 1) := by decide +kernel
theorem dX5_holdsWays_1 : decode cX5_holdsWays 1 = .ok (.istore_n 3, 1) := by decide +kernel
theorem dX5_holdsWays_2 : decode cX5_holdsWays 2 = .ok (.iload_n 3, 1) := by decide +kernel
theorem dX5_holdsWays_3 : decode cX5_holdsWays 3 = .ok (.iload_n 2, 1) := by decide +kernel
theorem dX5_holdsWays_4 : decode cX5_holdsWays 4 = .ok (.if_icmp .gt 33, 3) := by decide +kernel
theorem dX5_holdsWays_7 : decode cX5_holdsWays 7 = .ok (.iload_n 3, 1) := by decide +kernel
theorem dX5_holdsWays_8 : decode cX5_holdsWays 8 = .ok (.bipush 21, 2) := by decide +kernel
theorem dX5_holdsWays_10 : decode cX5_holdsWays 10 = .ok (.if_icmp .ge 27, 3) := by decide +kernel
theorem dX5_holdsWays_13 : decode cX5_holdsWays 13 = .ok (.aload_n 0, 1) := by decide +kernel
theorem dX5_holdsWays_14 : decode cX5_holdsWays 14 = .ok (.getfield 23, 3) := by decide +kernel
theorem dX5_holdsWays_17 : decode cX5_holdsWays 17 = .ok (.iload_n 1, 1) := by decide +kernel
theorem dX5_holdsWays_18 : decode cX5_holdsWays 18 = .ok (.bipush 21, 2) := by decide +kernel
theorem dX5_holdsWays_20 : decode cX5_holdsWays 20 = .ok (.imul, 1) := by decide +kernel
theorem dX5_holdsWays_21 : decode cX5_holdsWays 21 = .ok (.iload_n 3, 1) := by decide +kernel
theorem dX5_holdsWays_22 : decode cX5_holdsWays 22 = .ok (.iadd, 1) := by decide +kernel
theorem dX5_holdsWays_23 : decode cX5_holdsWays 23 = .ok (.laload, 1) := by decide +kernel
theorem dX5_holdsWays_24 : decode cX5_holdsWays 24 = .ok (.lconst 0, 1) := by decide +kernel
theorem dX5_holdsWays_25 : decode cX5_holdsWays 25 = .ok (.lcmp, 1) := by decide +kernel
theorem dX5_holdsWays_26 : decode cX5_holdsWays 26 = .ok (.ifCond .eq 5, 3) := by decide +kernel
theorem dX5_holdsWays_29 : decode cX5_holdsWays 29 = .ok (.iconst 1, 1) := by decide +kernel
theorem dX5_holdsWays_30 : decode cX5_holdsWays 30 = .ok (.ireturn, 1) := by decide +kernel
theorem dX5_holdsWays_31 : decode cX5_holdsWays 31 = .ok (.iinc 3 1, 3) := by decide +kernel
theorem dX5_holdsWays_34 : decode cX5_holdsWays 34 = .ok (.goto (-32), 3) := by decide +kernel
theorem dX5_holdsWays_37 : decode cX5_holdsWays 37 = .ok (.iconst 0, 1) := by decide +kernel
theorem dX5_holdsWays_38 : decode cX5_holdsWays 38 = .ok (.ireturn, 1) := by decide +kernel
theorem dX5_stepWays_0 : decode cX5_stepWays 0 = .ok (.iconst 0, 1) := by decide +kernel
theorem dX5_stepWays_1 : decode cX5_stepWays 1 = .ok (.istore 4, 2) := by decide +kernel
theorem dX5_stepWays_3 : decode cX5_stepWays 3 = .ok (.iload 4, 2) := by decide +kernel
theorem dX5_stepWays_5 : decode cX5_stepWays 5 = .ok (.aload_n 0, 1) := by decide +kernel
theorem dX5_stepWays_6 : decode cX5_stepWays 6 = .ok (.getfield 29, 3) := by decide +kernel
theorem dX5_stepWays_9 : decode cX5_stepWays 9 = .ok (.iload_n 1, 1) := by decide +kernel
theorem dX5_stepWays_10 : decode cX5_stepWays 10 = .ok (.aaload, 1) := by decide +kernel
theorem dX5_stepWays_11 : decode cX5_stepWays 11 = .ok (.getfield 77, 3) := by decide +kernel
theorem dX5_stepWays_14 : decode cX5_stepWays 14 = .ok (.if_icmp .ge 43, 3) := by decide +kernel
theorem dX5_stepWays_17 : decode cX5_stepWays 17 = .ok (.aload_n 0, 1) := by decide +kernel
theorem dX5_stepWays_18 : decode cX5_stepWays 18 = .ok (.iload_n 1, 1) := by decide +kernel
theorem dX5_stepWays_19 : decode cX5_stepWays 19 = .ok (.iload_n 2, 1) := by decide +kernel
theorem dX5_stepWays_20 : decode cX5_stepWays 20 = .ok (.iload 4, 2) := by decide +kernel
theorem dX5_stepWays_22 : decode cX5_stepWays 22 = .ok (.invokevirtual 80, 3) := by decide +kernel
theorem dX5_stepWays_25 : decode cX5_stepWays 25 = .ok (.istore 5, 2) := by decide +kernel
theorem dX5_stepWays_27 : decode cX5_stepWays 27 = .ok (.iload 5, 2) := by decide +kernel
theorem dX5_stepWays_29 : decode cX5_stepWays 29 = .ok (.iconst (-1), 1) := by decide +kernel
theorem dX5_stepWays_30 : decode cX5_stepWays 30 = .ok (.if_icmp .eq 21, 3) := by decide +kernel
theorem dX5_stepWays_33 : decode cX5_stepWays 33 = .ok (.aload_n 0, 1) := by decide +kernel
theorem dX5_stepWays_34 : decode cX5_stepWays 34 = .ok (.iload_n 2, 1) := by decide +kernel
theorem dX5_stepWays_35 : decode cX5_stepWays 35 = .ok (.iload 5, 2) := by decide +kernel
theorem dX5_stepWays_37 : decode cX5_stepWays 37 = .ok (.aload_n 0, 1) := by decide +kernel
theorem dX5_stepWays_38 : decode cX5_stepWays 38 = .ok (.iload_n 1, 1) := by decide +kernel
theorem dX5_stepWays_39 : decode cX5_stepWays 39 = .ok (.iload_n 2, 1) := by decide +kernel
theorem dX5_stepWays_40 : decode cX5_stepWays 40 = .ok (.iload 4, 2) := by decide +kernel
theorem dX5_stepWays_42 : decode cX5_stepWays 42 = .ok (.iload 5, 2) := by decide +kernel
theorem dX5_stepWays_44 : decode cX5_stepWays 44 = .ok (.invokevirtual 93, 3) := by decide +kernel
theorem dX5_stepWays_47 : decode cX5_stepWays 47 = .ok (.iload_n 3, 1) := by decide +kernel
theorem dX5_stepWays_48 : decode cX5_stepWays 48 = .ok (.invokevirtual 117, 3) := by decide +kernel
theorem dX5_stepWays_51 : decode cX5_stepWays 51 = .ok (.iinc 4 1, 3) := by decide +kernel
theorem dX5_stepWays_54 : decode cX5_stepWays 54 = .ok (.goto (-51), 3) := by decide +kernel
theorem dX5_stepWays_57 : decode cX5_stepWays 57 = .ok (.iconst 0, 1) := by decide +kernel
theorem dX5_stepWays_58 : decode cX5_stepWays 58 = .ok (.istore 4, 2) := by decide +kernel
theorem dX5_stepWays_60 : decode cX5_stepWays 60 = .ok (.iload 4, 2) := by decide +kernel
theorem dX5_stepWays_62 : decode cX5_stepWays 62 = .ok (.bipush 21, 2) := by decide +kernel
theorem dX5_stepWays_64 : decode cX5_stepWays 64 = .ok (.if_icmp .ge 22, 3) := by decide +kernel
theorem dX5_stepWays_67 : decode cX5_stepWays 67 = .ok (.aload_n 0, 1) := by decide +kernel
theorem dX5_stepWays_68 : decode cX5_stepWays 68 = .ok (.getfield 23, 3) := by decide +kernel
theorem dX5_stepWays_71 : decode cX5_stepWays 71 = .ok (.iload_n 2, 1) := by decide +kernel
theorem dX5_stepWays_72 : decode cX5_stepWays 72 = .ok (.bipush 21, 2) := by decide +kernel
theorem dX5_stepWays_74 : decode cX5_stepWays 74 = .ok (.imul, 1) := by decide +kernel
theorem dX5_stepWays_75 : decode cX5_stepWays 75 = .ok (.iload 4, 2) := by decide +kernel
theorem dX5_stepWays_77 : decode cX5_stepWays 77 = .ok (.iadd, 1) := by decide +kernel
theorem dX5_stepWays_78 : decode cX5_stepWays 78 = .ok (.lconst 0, 1) := by decide +kernel
theorem dX5_stepWays_79 : decode cX5_stepWays 79 = .ok (.lastore, 1) := by decide +kernel
theorem dX5_stepWays_80 : decode cX5_stepWays 80 = .ok (.iinc 4 1, 3) := by decide +kernel
theorem dX5_stepWays_83 : decode cX5_stepWays 83 = .ok (.goto (-23), 3) := by decide +kernel
theorem dX5_stepWays_86 : decode cX5_stepWays 86 = .ok (.return_, 1) := by decide +kernel
theorem dX5_moveWays_0 : decode cX5_moveWays 0 = .ok (.iload_n 3, 1) := by decide +kernel
theorem dX5_moveWays_1 : decode cX5_moveWays 1 = .ok (.ifCond .ge 4, 3) := by decide +kernel
theorem dX5_moveWays_4 : decode cX5_moveWays 4 = .ok (.return_, 1) := by decide +kernel
theorem dX5_moveWays_5 : decode cX5_moveWays 5 = .ok (.iconst 0, 1) := by decide +kernel
theorem dX5_moveWays_6 : decode cX5_moveWays 6 = .ok (.istore 5, 2) := by decide +kernel
theorem dX5_moveWays_8 : decode cX5_moveWays 8 = .ok (.iload 5, 2) := by decide +kernel
theorem dX5_moveWays_10 : decode cX5_moveWays 10 = .ok (.iload_n 3, 1) := by decide +kernel
theorem dX5_moveWays_11 : decode cX5_moveWays 11 = .ok (.iadd, 1) := by decide +kernel
theorem dX5_moveWays_12 : decode cX5_moveWays 12 = .ok (.iload 4, 2) := by decide +kernel
theorem dX5_moveWays_14 : decode cX5_moveWays 14 = .ok (.if_icmp .gt 47, 3) := by decide +kernel
theorem dX5_moveWays_17 : decode cX5_moveWays 17 = .ok (.iload 5, 2) := by decide +kernel
theorem dX5_moveWays_19 : decode cX5_moveWays 19 = .ok (.iload_n 3, 1) := by decide +kernel
theorem dX5_moveWays_20 : decode cX5_moveWays 20 = .ok (.iadd, 1) := by decide +kernel
theorem dX5_moveWays_21 : decode cX5_moveWays 21 = .ok (.bipush 21, 2) := by decide +kernel
theorem dX5_moveWays_23 : decode cX5_moveWays 23 = .ok (.if_icmp .ge 38, 3) := by decide +kernel
theorem dX5_moveWays_26 : decode cX5_moveWays 26 = .ok (.aload_n 0, 1) := by decide +kernel
theorem dX5_moveWays_27 : decode cX5_moveWays 27 = .ok (.getfield 23, 3) := by decide +kernel
theorem dX5_moveWays_30 : decode cX5_moveWays 30 = .ok (.iload_n 2, 1) := by decide +kernel
theorem dX5_moveWays_31 : decode cX5_moveWays 31 = .ok (.bipush 21, 2) := by decide +kernel
theorem dX5_moveWays_33 : decode cX5_moveWays 33 = .ok (.imul, 1) := by decide +kernel
theorem dX5_moveWays_34 : decode cX5_moveWays 34 = .ok (.iload 5, 2) := by decide +kernel
theorem dX5_moveWays_36 : decode cX5_moveWays 36 = .ok (.iadd, 1) := by decide +kernel
theorem dX5_moveWays_37 : decode cX5_moveWays 37 = .ok (.iload_n 3, 1) := by decide +kernel
theorem dX5_moveWays_38 : decode cX5_moveWays 38 = .ok (.iadd, 1) := by decide +kernel
theorem dX5_moveWays_39 : decode cX5_moveWays 39 = .ok (.dup2, 1) := by decide +kernel
theorem dX5_moveWays_40 : decode cX5_moveWays 40 = .ok (.laload, 1) := by decide +kernel
theorem dX5_moveWays_41 : decode cX5_moveWays 41 = .ok (.aload_n 0, 1) := by decide +kernel
theorem dX5_moveWays_42 : decode cX5_moveWays 42 = .ok (.getfield 23, 3) := by decide +kernel
theorem dX5_moveWays_45 : decode cX5_moveWays 45 = .ok (.iload_n 1, 1) := by decide +kernel
theorem dX5_moveWays_46 : decode cX5_moveWays 46 = .ok (.bipush 21, 2) := by decide +kernel
theorem dX5_moveWays_48 : decode cX5_moveWays 48 = .ok (.imul, 1) := by decide +kernel
theorem dX5_moveWays_49 : decode cX5_moveWays 49 = .ok (.iload 5, 2) := by decide +kernel
theorem dX5_moveWays_51 : decode cX5_moveWays 51 = .ok (.iadd, 1) := by decide +kernel
theorem dX5_moveWays_52 : decode cX5_moveWays 52 = .ok (.laload, 1) := by decide +kernel
theorem dX5_moveWays_53 : decode cX5_moveWays 53 = .ok (.ladd, 1) := by decide +kernel
theorem dX5_moveWays_54 : decode cX5_moveWays 54 = .ok (.lastore, 1) := by decide +kernel
theorem dX5_moveWays_55 : decode cX5_moveWays 55 = .ok (.iinc 5 1, 3) := by decide +kernel
theorem dX5_moveWays_58 : decode cX5_moveWays 58 = .ok (.goto (-50), 3) := by decide +kernel
theorem dX5_moveWays_61 : decode cX5_moveWays 61 = .ok (.return_, 1) := by decide +kernel
theorem dX11_init_0 : decode cX11_init 0 = .ok (.aload_n 0, 1) := by decide +kernel
theorem dX11_init_1 : decode cX11_init 1 = .ok (.invokespecial 3, 3) := by decide +kernel
theorem dX11_init_4 : decode cX11_init 4 = .ok (.aload_n 0, 1) := by decide +kernel
theorem dX11_init_5 : decode cX11_init 5 = .ok (.new 9, 3) := by decide +kernel
theorem dX11_init_8 : decode cX11_init 8 = .ok (.dup, 1) := by decide +kernel
theorem dX11_init_9 : decode cX11_init 9 = .ok (.invokespecial 11, 3) := by decide +kernel
theorem dX11_init_12 : decode cX11_init 12 = .ok (.putfield 12, 3) := by decide +kernel
theorem dX11_init_15 : decode cX11_init 15 = .ok (.aload_n 0, 1) := by decide +kernel
theorem dX11_init_16 : decode cX11_init 16 = .ok (.new 16, 3) := by decide +kernel
theorem dX11_init_19 : decode cX11_init 19 = .ok (.dup, 1) := by decide +kernel
theorem dX11_init_20 : decode cX11_init 20 = .ok (.invokespecial 18, 3) := by decide +kernel
theorem dX11_init_23 : decode cX11_init 23 = .ok (.putfield 19, 3) := by decide +kernel
theorem dX11_init_26 : decode cX11_init 26 = .ok (.aload_n 0, 1) := by decide +kernel
theorem dX11_init_27 : decode cX11_init 27 = .ok (.new 23, 3) := by decide +kernel
theorem dX11_init_30 : decode cX11_init 30 = .ok (.dup, 1) := by decide +kernel
theorem dX11_init_31 : decode cX11_init 31 = .ok (.invokespecial 25, 3) := by decide +kernel
theorem dX11_init_34 : decode cX11_init 34 = .ok (.putfield 26, 3) := by decide +kernel
theorem dX11_init_37 : decode cX11_init 37 = .ok (.aload_n 0, 1) := by decide +kernel
theorem dX11_init_38 : decode cX11_init 38 = .ok (.iconst 4, 1) := by decide +kernel
theorem dX11_init_39 : decode cX11_init 39 = .ok (.anewarray 30, 3) := by decide +kernel
theorem dX11_init_42 : decode cX11_init 42 = .ok (.putfield 32, 3) := by decide +kernel
theorem dX11_init_45 : decode cX11_init 45 = .ok (.iconst 0, 1) := by decide +kernel
theorem dX11_init_46 : decode cX11_init 46 = .ok (.istore_n 1, 1) := by decide +kernel
theorem dX11_init_47 : decode cX11_init 47 = .ok (.iload_n 1, 1) := by decide +kernel
theorem dX11_init_48 : decode cX11_init 48 = .ok (.iconst 4, 1) := by decide +kernel
theorem dX11_init_49 : decode cX11_init 49 = .ok (.if_icmp .ge 22, 3) := by decide +kernel
theorem dX11_init_52 : decode cX11_init 52 = .ok (.aload_n 0, 1) := by decide +kernel
theorem dX11_init_53 : decode cX11_init 53 = .ok (.getfield 32, 3) := by decide +kernel
theorem dX11_init_56 : decode cX11_init 56 = .ok (.iload_n 1, 1) := by decide +kernel
theorem dX11_init_57 : decode cX11_init 57 = .ok (.new 30, 3) := by decide +kernel
theorem dX11_init_60 : decode cX11_init 60 = .ok (.dup, 1) := by decide +kernel
theorem dX11_init_61 : decode cX11_init 61 = .ok (.invokespecial 36, 3) := by decide +kernel
theorem dX11_init_64 : decode cX11_init 64 = .ok (.aastore, 1) := by decide +kernel
theorem dX11_init_65 : decode cX11_init 65 = .ok (.iinc 1 1, 3) := by decide +kernel
theorem dX11_init_68 : decode cX11_init 68 = .ok (.goto (-21), 3) := by decide +kernel
theorem dX11_init_71 : decode cX11_init 71 = .ok (.aload_n 0, 1) := by decide +kernel
theorem dX11_init_72 : decode cX11_init 72 = .ok (.iconst 0, 1) := by decide +kernel
theorem dX11_init_73 : decode cX11_init 73 = .ok (.putfield 37, 3) := by decide +kernel
theorem dX11_init_76 : decode cX11_init 76 = .ok (.aload_n 0, 1) := by decide +kernel
theorem dX11_init_77 : decode cX11_init 77 = .ok (.iconst (-1), 1) := by decide +kernel
theorem dX11_init_78 : decode cX11_init 78 = .ok (.putfield 41, 3) := by decide +kernel
theorem dX11_init_81 : decode cX11_init 81 = .ok (.aload_n 0, 1) := by decide +kernel
theorem dX11_init_82 : decode cX11_init 82 = .ok (.new 44, 3) := by decide +kernel
theorem dX11_init_85 : decode cX11_init 85 = .ok (.dup, 1) := by decide +kernel
theorem dX11_init_86 : decode cX11_init 86 = .ok (.invokespecial 46, 3) := by decide +kernel
theorem dX11_init_89 : decode cX11_init 89 = .ok (.putfield 47, 3) := by decide +kernel
theorem dX11_init_92 : decode cX11_init 92 = .ok (.aload_n 0, 1) := by decide +kernel
theorem dX11_init_93 : decode cX11_init 93 = .ok (.new 51, 3) := by decide +kernel
theorem dX11_init_96 : decode cX11_init 96 = .ok (.dup, 1) := by decide +kernel
theorem dX11_init_97 : decode cX11_init 97 = .ok (.invokespecial 53, 3) := by decide +kernel
theorem dX11_init_100 : decode cX11_init 100 = .ok (.putfield 54, 3) := by decide +kernel
theorem dX11_init_103 : decode cX11_init 103 = .ok (.aload_n 0, 1) := by decide +kernel
theorem dX11_init_104 : decode cX11_init 104 = .ok (.new 58, 3) := by decide +kernel
theorem dX11_init_107 : decode cX11_init 107 = .ok (.dup, 1) := by decide +kernel
theorem dX11_init_108 : decode cX11_init 108 = .ok (.invokespecial 60, 3) := by decide +kernel
theorem dX11_init_111 : decode cX11_init 111 = .ok (.putfield 61, 3) := by decide +kernel
theorem dX11_init_114 : decode cX11_init 114 = .ok (.aload_n 0, 1) := by decide +kernel
theorem dX11_init_115 : decode cX11_init 115 = .ok (.new 65, 3) := by decide +kernel
theorem dX11_init_118 : decode cX11_init 118 = .ok (.dup, 1) := by decide +kernel
theorem dX11_init_119 : decode cX11_init 119 = .ok (.invokespecial 67, 3) := by decide +kernel
theorem dX11_init_122 : decode cX11_init 122 = .ok (.putfield 68, 3) := by decide +kernel
theorem dX11_init_125 : decode cX11_init 125 = .ok (.aload_n 0, 1) := by decide +kernel
theorem dX11_init_126 : decode cX11_init 126 = .ok (.iconst 0, 1) := by decide +kernel
theorem dX11_init_127 : decode cX11_init 127 = .ok (.putfield 72, 3) := by decide +kernel
theorem dX11_init_130 : decode cX11_init 130 = .ok (.return_, 1) := by decide +kernel
theorem dX11_feed_0 : decode cX11_feed 0 = .ok (.aload_n 0, 1) := by decide +kernel
theorem dX11_feed_1 : decode cX11_feed 1 = .ok (.getfield 12, 3) := by decide +kernel
theorem dX11_feed_4 : decode cX11_feed 4 = .ok (.getfield 75, 3) := by decide +kernel
theorem dX11_feed_7 : decode cX11_feed 7 = .ok (.bipush 20, 2) := by decide +kernel
theorem dX11_feed_9 : decode cX11_feed 9 = .ok (.iadd, 1) := by decide +kernel
theorem dX11_feed_10 : decode cX11_feed 10 = .ok (.sipush 200, 3) := by decide +kernel
theorem dX11_feed_13 : decode cX11_feed 13 = .ok (.if_icmp .le 5, 3) := by decide +kernel
theorem dX11_feed_16 : decode cX11_feed 16 = .ok (.iconst (-1), 1) := by decide +kernel
theorem dX11_feed_17 : decode cX11_feed 17 = .ok (.ireturn, 1) := by decide +kernel
theorem dX11_feed_18 : decode cX11_feed 18 = .ok (.aload_n 0, 1) := by decide +kernel
theorem dX11_feed_19 : decode cX11_feed 19 = .ok (.getfield 12, 3) := by decide +kernel
theorem dX11_feed_22 : decode cX11_feed 22 = .ok (.iload_n 1, 1) := by decide +kernel
theorem dX11_feed_23 : decode cX11_feed 23 = .ok (.invokevirtual 78, 3) := by decide +kernel
theorem dX11_feed_26 : decode cX11_feed 26 = .ok (.aload_n 0, 1) := by decide +kernel
theorem dX11_feed_27 : decode cX11_feed 27 = .ok (.getfield 12, 3) := by decide +kernel
theorem dX11_feed_30 : decode cX11_feed 30 = .ok (.iload_n 2, 1) := by decide +kernel
theorem dX11_feed_31 : decode cX11_feed 31 = .ok (.invokevirtual 78, 3) := by decide +kernel
theorem dX11_feed_34 : decode cX11_feed 34 = .ok (.aload_n 0, 1) := by decide +kernel
theorem dX11_feed_35 : decode cX11_feed 35 = .ok (.getfield 12, 3) := by decide +kernel
theorem dX11_feed_38 : decode cX11_feed 38 = .ok (.iload_n 3, 1) := by decide +kernel
theorem dX11_feed_39 : decode cX11_feed 39 = .ok (.invokevirtual 78, 3) := by decide +kernel
theorem dX11_feed_42 : decode cX11_feed 42 = .ok (.aload_n 0, 1) := by decide +kernel
theorem dX11_feed_43 : decode cX11_feed 43 = .ok (.getfield 12, 3) := by decide +kernel
theorem dX11_feed_46 : decode cX11_feed 46 = .ok (.iload 4, 2) := by decide +kernel
theorem dX11_feed_48 : decode cX11_feed 48 = .ok (.invokevirtual 78, 3) := by decide +kernel
theorem dX11_feed_51 : decode cX11_feed 51 = .ok (.aload_n 0, 1) := by decide +kernel
theorem dX11_feed_52 : decode cX11_feed 52 = .ok (.getfield 12, 3) := by decide +kernel
theorem dX11_feed_55 : decode cX11_feed 55 = .ok (.iload 5, 2) := by decide +kernel
theorem dX11_feed_57 : decode cX11_feed 57 = .ok (.invokevirtual 78, 3) := by decide +kernel
theorem dX11_feed_60 : decode cX11_feed 60 = .ok (.aload_n 0, 1) := by decide +kernel
theorem dX11_feed_61 : decode cX11_feed 61 = .ok (.getfield 12, 3) := by decide +kernel
theorem dX11_feed_64 : decode cX11_feed 64 = .ok (.getfield 75, 3) := by decide +kernel
theorem dX11_feed_67 : decode cX11_feed 67 = .ok (.ireturn, 1) := by decide +kernel
theorem dX11_end_0 : decode cX11_end 0 = .ok (.iload_n 1, 1) := by decide +kernel
theorem dX11_end_1 : decode cX11_end 1 = .ok (.ifCond .lt 14, 3) := by decide +kernel
theorem dX11_end_4 : decode cX11_end 4 = .ok (.iload_n 1, 1) := by decide +kernel
theorem dX11_end_5 : decode cX11_end 5 = .ok (.aload_n 0, 1) := by decide +kernel
theorem dX11_end_6 : decode cX11_end 6 = .ok (.getfield 12, 3) := by decide +kernel
theorem dX11_end_9 : decode cX11_end 9 = .ok (.getfield 75, 3) := by decide +kernel
theorem dX11_end_12 : decode cX11_end 12 = .ok (.if_icmp .le 5, 3) := by decide +kernel
theorem dX11_end_15 : decode cX11_end 15 = .ok (.iconst (-1), 1) := by decide +kernel
theorem dX11_end_16 : decode cX11_end 16 = .ok (.ireturn, 1) := by decide +kernel
theorem dX11_end_17 : decode cX11_end 17 = .ok (.aload_n 0, 1) := by decide +kernel
theorem dX11_end_18 : decode cX11_end 18 = .ok (.getfield 12, 3) := by decide +kernel
theorem dX11_end_21 : decode cX11_end 21 = .ok (.iload_n 1, 1) := by decide +kernel
theorem dX11_end_22 : decode cX11_end 22 = .ok (.putfield 75, 3) := by decide +kernel
theorem dX11_end_25 : decode cX11_end 25 = .ok (.iload_n 1, 1) := by decide +kernel
theorem dX11_end_26 : decode cX11_end 26 = .ok (.ireturn, 1) := by decide +kernel
theorem dX11_list_0 : decode cX11_list 0 = .ok (.iload_n 1, 1) := by decide +kernel
theorem dX11_list_1 : decode cX11_list 1 = .ok (.invokestatic 82, 3) := by decide +kernel
theorem dX11_list_4 : decode cX11_list 4 = .ok (.ifCond .eq 11, 3) := by decide +kernel
theorem dX11_list_7 : decode cX11_list 7 = .ok (.aload_n 0, 1) := by decide +kernel
theorem dX11_list_8 : decode cX11_list 8 = .ok (.getfield 37, 3) := by decide +kernel
theorem dX11_list_11 : decode cX11_list 11 = .ok (.iconst 4, 1) := by decide +kernel
theorem dX11_list_12 : decode cX11_list 12 = .ok (.if_icmp .lt 5, 3) := by decide +kernel
theorem dX11_list_15 : decode cX11_list 15 = .ok (.iconst (-1), 1) := by decide +kernel
theorem dX11_list_16 : decode cX11_list 16 = .ok (.ireturn, 1) := by decide +kernel
theorem dX11_list_17 : decode cX11_list 17 = .ok (.aload_n 0, 1) := by decide +kernel
theorem dX11_list_18 : decode cX11_list 18 = .ok (.getfield 32, 3) := by decide +kernel
theorem dX11_list_21 : decode cX11_list 21 = .ok (.aload_n 0, 1) := by decide +kernel
theorem dX11_list_22 : decode cX11_list 22 = .ok (.getfield 37, 3) := by decide +kernel
theorem dX11_list_25 : decode cX11_list 25 = .ok (.aaload, 1) := by decide +kernel
theorem dX11_list_26 : decode cX11_list 26 = .ok (.astore_n 2, 1) := by decide +kernel
theorem dX11_list_27 : decode cX11_list 27 = .ok (.aload_n 0, 1) := by decide +kernel
theorem dX11_list_28 : decode cX11_list 28 = .ok (.getfield 26, 3) := by decide +kernel
theorem dX11_list_31 : decode cX11_list 31 = .ok (.aload_n 0, 1) := by decide +kernel
theorem dX11_list_32 : decode cX11_list 32 = .ok (.getfield 12, 3) := by decide +kernel
theorem dX11_list_35 : decode cX11_list 35 = .ok (.aload_n 2, 1) := by decide +kernel
theorem dX11_list_36 : decode cX11_list 36 = .ok (.invokevirtual 86, 3) := by decide +kernel
theorem dX11_list_39 : decode cX11_list 39 = .ok (.aload_n 0, 1) := by decide +kernel
theorem dX11_list_40 : decode cX11_list 40 = .ok (.getfield 12, 3) := by decide +kernel
theorem dX11_list_43 : decode cX11_list 43 = .ok (.iconst 0, 1) := by decide +kernel
theorem dX11_list_44 : decode cX11_list 44 = .ok (.putfield 75, 3) := by decide +kernel
theorem dX11_list_47 : decode cX11_list 47 = .ok (.aload_n 0, 1) := by decide +kernel
theorem dX11_list_48 : decode cX11_list 48 = .ok (.aload_n 0, 1) := by decide +kernel
theorem dX11_list_49 : decode cX11_list 49 = .ok (.getfield 26, 3) := by decide +kernel
theorem dX11_list_52 : decode cX11_list 52 = .ok (.getfield 90, 3) := by decide +kernel
theorem dX11_list_55 : decode cX11_list 55 = .ok (.putfield 41, 3) := by decide +kernel
theorem dX11_list_58 : decode cX11_list 58 = .ok (.aload_n 0, 1) := by decide +kernel
theorem dX11_list_59 : decode cX11_list 59 = .ok (.getfield 26, 3) := by decide +kernel
theorem dX11_list_62 : decode cX11_list 62 = .ok (.getfield 91, 3) := by decide +kernel
theorem dX11_list_65 : decode cX11_list 65 = .ok (.ifCond .eq 14, 3) := by decide +kernel
theorem dX11_list_68 : decode cX11_list 68 = .ok (.aload_n 0, 1) := by decide +kernel
theorem dX11_list_69 : decode cX11_list 69 = .ok (.getfield 26, 3) := by decide +kernel
theorem dX11_list_72 : decode cX11_list 72 = .ok (.getfield 91, 3) := by decide +kernel
theorem dX11_list_75 : decode cX11_list 75 = .ok (.ineg, 1) := by decide +kernel
theorem dX11_list_76 : decode cX11_list 76 = .ok (.iconst 1, 1) := by decide +kernel
theorem dX11_list_77 : decode cX11_list 77 = .ok (.isub, 1) := by decide +kernel
theorem dX11_list_78 : decode cX11_list 78 = .ok (.ireturn, 1) := by decide +kernel
theorem dX11_list_79 : decode cX11_list 79 = .ok (.aload_n 2, 1) := by decide +kernel
theorem dX11_list_80 : decode cX11_list 80 = .ok (.iload_n 1, 1) := by decide +kernel
theorem dX11_list_81 : decode cX11_list 81 = .ok (.putfield 94, 3) := by decide +kernel
theorem dX11_list_84 : decode cX11_list 84 = .ok (.aload_n 0, 1) := by decide +kernel
theorem dX11_list_85 : decode cX11_list 85 = .ok (.dup, 1) := by decide +kernel
theorem dX11_list_86 : decode cX11_list 86 = .ok (.getfield 37, 3) := by decide +kernel
theorem dX11_list_89 : decode cX11_list 89 = .ok (.iconst 1, 1) := by decide +kernel
theorem dX11_list_90 : decode cX11_list 90 = .ok (.iadd, 1) := by decide +kernel
theorem dX11_list_91 : decode cX11_list 91 = .ok (.putfield 37, 3) := by decide +kernel
theorem dX11_list_94 : decode cX11_list 94 = .ok (.aload_n 0, 1) := by decide +kernel
theorem dX11_list_95 : decode cX11_list 95 = .ok (.getfield 37, 3) := by decide +kernel
theorem dX11_list_98 : decode cX11_list 98 = .ok (.iconst 1, 1) := by decide +kernel
theorem dX11_list_99 : decode cX11_list 99 = .ok (.isub, 1) := by decide +kernel
theorem dX11_list_100 : decode cX11_list 100 = .ok (.ireturn, 1) := by decide +kernel
theorem dX11_place_0 : decode cX11_place 0 = .ok (.aload_n 0, 1) := by decide +kernel
theorem dX11_place_1 : decode cX11_place 1 = .ok (.getfield 41, 3) := by decide +kernel
theorem dX11_place_4 : decode cX11_place 4 = .ok (.ireturn, 1) := by decide +kernel
theorem dX11_ruin_0 : decode cX11_ruin 0 = .ok (.aload_n 0, 1) := by decide +kernel
theorem dX11_ruin_1 : decode cX11_ruin 1 = .ok (.invokevirtual 97, 3) := by decide +kernel
theorem dX11_ruin_4 : decode cX11_ruin 4 = .ok (.istore_n 2, 1) := by decide +kernel
theorem dX11_ruin_5 : decode cX11_ruin 5 = .ok (.iload_n 2, 1) := by decide +kernel
theorem dX11_ruin_6 : decode cX11_ruin 6 = .ok (.ifCond .eq 21, 3) := by decide +kernel
theorem dX11_ruin_9 : decode cX11_ruin 9 = .ok (.iload_n 1, 1) := by decide +kernel
theorem dX11_ruin_10 : decode cX11_ruin 10 = .ok (.invokestatic 101, 3) := by decide +kernel
theorem dX11_ruin_13 : decode cX11_ruin 13 = .ok (.ifCond .eq 14, 3) := by decide +kernel
theorem dX11_ruin_16 : decode cX11_ruin 16 = .ok (.aload_n 0, 1) := by decide +kernel
theorem dX11_ruin_17 : decode cX11_ruin 17 = .ok (.getfield 47, 3) := by decide +kernel
theorem dX11_ruin_20 : decode cX11_ruin 20 = .ok (.iload_n 1, 1) := by decide +kernel
theorem dX11_ruin_21 : decode cX11_ruin 21 = .ok (.invokevirtual 104, 3) := by decide +kernel
theorem dX11_ruin_24 : decode cX11_ruin 24 = .ok (.ifCond .eq 5, 3) := by decide +kernel
theorem dX11_ruin_27 : decode cX11_ruin 27 = .ok (.iconst (-1), 1) := by decide +kernel
theorem dX11_ruin_28 : decode cX11_ruin 28 = .ok (.ireturn, 1) := by decide +kernel
theorem dX11_ruin_29 : decode cX11_ruin 29 = .ok (.aload_n 0, 1) := by decide +kernel
theorem dX11_ruin_30 : decode cX11_ruin 30 = .ok (.getfield 47, 3) := by decide +kernel
theorem dX11_ruin_33 : decode cX11_ruin 33 = .ok (.aload_n 0, 1) := by decide +kernel
theorem dX11_ruin_34 : decode cX11_ruin 34 = .ok (.getfield 19, 3) := by decide +kernel
theorem dX11_ruin_37 : decode cX11_ruin 37 = .ok (.iload_n 1, 1) := by decide +kernel
theorem dX11_ruin_38 : decode cX11_ruin 38 = .ok (.aload_n 0, 1) := by decide +kernel
theorem dX11_ruin_39 : decode cX11_ruin 39 = .ok (.getfield 72, 3) := by decide +kernel
theorem dX11_ruin_42 : decode cX11_ruin 42 = .ok (.invokevirtual 107, 3) := by decide +kernel
theorem dX11_ruin_45 : decode cX11_ruin 45 = .ok (.ireturn, 1) := by decide +kernel
theorem dX11_stone_0 : decode cX11_stone 0 = .ok (.aload_n 0, 1) := by decide +kernel
theorem dX11_stone_1 : decode cX11_stone 1 = .ok (.invokevirtual 97, 3) := by decide +kernel
theorem dX11_stone_4 : decode cX11_stone 4 = .ok (.istore 4, 2) := by decide +kernel
theorem dX11_stone_6 : decode cX11_stone 6 = .ok (.iload 4, 2) := by decide +kernel
theorem dX11_stone_8 : decode cX11_stone 8 = .ok (.ifCond .eq 29, 3) := by decide +kernel
theorem dX11_stone_11 : decode cX11_stone 11 = .ok (.iload_n 1, 1) := by decide +kernel
theorem dX11_stone_12 : decode cX11_stone 12 = .ok (.invokestatic 101, 3) := by decide +kernel
theorem dX11_stone_15 : decode cX11_stone 15 = .ok (.ifCond .eq 22, 3) := by decide +kernel
theorem dX11_stone_18 : decode cX11_stone 18 = .ok (.iload_n 3, 1) := by decide +kernel
theorem dX11_stone_19 : decode cX11_stone 19 = .ok (.invokestatic 82, 3) := by decide +kernel
theorem dX11_stone_22 : decode cX11_stone 22 = .ok (.ifCond .eq 15, 3) := by decide +kernel
theorem dX11_stone_25 : decode cX11_stone 25 = .ok (.iload_n 2, 1) := by decide +kernel
theorem dX11_stone_26 : decode cX11_stone 26 = .ok (.iconst 1, 1) := by decide +kernel
theorem dX11_stone_27 : decode cX11_stone 27 = .ok (.if_icmp .lt 10, 3) := by decide +kernel
theorem dX11_stone_30 : decode cX11_stone 30 = .ok (.iload_n 2, 1) := by decide +kernel
theorem dX11_stone_31 : decode cX11_stone 31 = .ok (.sipush 200, 3) := by decide +kernel
theorem dX11_stone_34 : decode cX11_stone 34 = .ok (.if_icmp .le 5, 3) := by decide +kernel
theorem dX11_stone_37 : decode cX11_stone 37 = .ok (.iconst (-1), 1) := by decide +kernel
theorem dX11_stone_38 : decode cX11_stone 38 = .ok (.ireturn, 1) := by decide +kernel
theorem dX11_stone_39 : decode cX11_stone 39 = .ok (.aload_n 0, 1) := by decide +kernel
theorem dX11_stone_40 : decode cX11_stone 40 = .ok (.getfield 47, 3) := by decide +kernel
theorem dX11_stone_43 : decode cX11_stone 43 = .ok (.aload_n 0, 1) := by decide +kernel
theorem dX11_stone_44 : decode cX11_stone 44 = .ok (.getfield 19, 3) := by decide +kernel
theorem dX11_stone_47 : decode cX11_stone 47 = .ok (.iload_n 1, 1) := by decide +kernel
theorem dX11_stone_48 : decode cX11_stone 48 = .ok (.iload_n 2, 1) := by decide +kernel
theorem dX11_stone_49 : decode cX11_stone 49 = .ok (.iload_n 3, 1) := by decide +kernel
theorem dX11_stone_50 : decode cX11_stone 50 = .ok (.imul, 1) := by decide +kernel
theorem dX11_stone_51 : decode cX11_stone 51 = .ok (.aload_n 0, 1) := by decide +kernel
theorem dX11_stone_52 : decode cX11_stone 52 = .ok (.getfield 72, 3) := by decide +kernel
theorem dX11_stone_55 : decode cX11_stone 55 = .ok (.invokevirtual 111, 3) := by decide +kernel
theorem dX11_stone_58 : decode cX11_stone 58 = .ok (.ireturn, 1) := by decide +kernel
theorem dX11_habit_0 : decode cX11_habit 0 = .ok (.iload_n 1, 1) := by decide +kernel
theorem dX11_habit_1 : decode cX11_habit 1 = .ok (.invokestatic 115, 3) := by decide +kernel
theorem dX11_habit_4 : decode cX11_habit 4 = .ok (.ifCond .eq 19, 3) := by decide +kernel
theorem dX11_habit_7 : decode cX11_habit 7 = .ok (.iload_n 2, 1) := by decide +kernel
theorem dX11_habit_8 : decode cX11_habit 8 = .ok (.invokestatic 115, 3) := by decide +kernel
theorem dX11_habit_11 : decode cX11_habit 11 = .ok (.ifCond .eq 12, 3) := by decide +kernel
theorem dX11_habit_14 : decode cX11_habit 14 = .ok (.iload_n 1, 1) := by decide +kernel
theorem dX11_habit_15 : decode cX11_habit 15 = .ok (.iload_n 2, 1) := by decide +kernel
theorem dX11_habit_16 : decode cX11_habit 16 = .ok (.if_icmp .eq 7, 3) := by decide +kernel
theorem dX11_habit_19 : decode cX11_habit 19 = .ok (.iconst 1, 1) := by decide +kernel
theorem dX11_habit_20 : decode cX11_habit 20 = .ok (.goto 4, 3) := by decide +kernel
theorem dX11_habit_23 : decode cX11_habit 23 = .ok (.iconst 0, 1) := by decide +kernel
theorem dX11_habit_24 : decode cX11_habit 24 = .ok (.istore 4, 2) := by decide +kernel
theorem dX11_habit_26 : decode cX11_habit 26 = .ok (.iload 4, 2) := by decide +kernel
theorem dX11_habit_28 : decode cX11_habit 28 = .ok (.ifCond .eq 14, 3) := by decide +kernel
theorem dX11_habit_31 : decode cX11_habit 31 = .ok (.iload_n 3, 1) := by decide +kernel
theorem dX11_habit_32 : decode cX11_habit 32 = .ok (.iconst 1, 1) := by decide +kernel
theorem dX11_habit_33 : decode cX11_habit 33 = .ok (.if_icmp .lt 9, 3) := by decide +kernel
theorem dX11_habit_36 : decode cX11_habit 36 = .ok (.iload_n 3, 1) := by decide +kernel
theorem dX11_habit_37 : decode cX11_habit 37 = .ok (.bipush 20, 2) := by decide +kernel
theorem dX11_habit_39 : decode cX11_habit 39 = .ok (.if_icmp .le 5, 3) := by decide +kernel
theorem dX11_habit_42 : decode cX11_habit 42 = .ok (.iconst (-1), 1) := by decide +kernel
theorem dX11_habit_43 : decode cX11_habit 43 = .ok (.ireturn, 1) := by decide +kernel
theorem dX11_habit_44 : decode cX11_habit 44 = .ok (.aload_n 0, 1) := by decide +kernel
theorem dX11_habit_45 : decode cX11_habit 45 = .ok (.getfield 54, 3) := by decide +kernel
theorem dX11_habit_48 : decode cX11_habit 48 = .ok (.iload_n 1, 1) := by decide +kernel
theorem dX11_habit_49 : decode cX11_habit 49 = .ok (.iload_n 2, 1) := by decide +kernel
theorem dX11_habit_50 : decode cX11_habit 50 = .ok (.iload_n 3, 1) := by decide +kernel
theorem dX11_habit_51 : decode cX11_habit 51 = .ok (.invokevirtual 118, 3) := by decide +kernel
theorem dX11_habit_54 : decode cX11_habit 54 = .ok (.ireturn, 1) := by decide +kernel
theorem dX11_sound_0 : decode cX11_sound 0 = .ok (.iload_n 1, 1) := by decide +kernel
theorem dX11_sound_1 : decode cX11_sound 1 = .ok (.ifCond .lt 31, 3) := by decide +kernel
theorem dX11_sound_4 : decode cX11_sound 4 = .ok (.iload_n 1, 1) := by decide +kernel
theorem dX11_sound_5 : decode cX11_sound 5 = .ok (.bipush 26, 2) := by decide +kernel
theorem dX11_sound_7 : decode cX11_sound 7 = .ok (.if_icmp .ge 25, 3) := by decide +kernel
theorem dX11_sound_10 : decode cX11_sound 10 = .ok (.iload_n 2, 1) := by decide +kernel
theorem dX11_sound_11 : decode cX11_sound 11 = .ok (.ifCond .lt 21, 3) := by decide +kernel
theorem dX11_sound_14 : decode cX11_sound 14 = .ok (.iload_n 2, 1) := by decide +kernel
theorem dX11_sound_15 : decode cX11_sound 15 = .ok (.bipush 26, 2) := by decide +kernel
theorem dX11_sound_17 : decode cX11_sound 17 = .ok (.if_icmp .ge 15, 3) := by decide +kernel
theorem dX11_sound_20 : decode cX11_sound 20 = .ok (.aload_n 0, 1) := by decide +kernel
theorem dX11_sound_21 : decode cX11_sound 21 = .ok (.getfield 61, 3) := by decide +kernel
theorem dX11_sound_24 : decode cX11_sound 24 = .ok (.iload_n 1, 1) := by decide +kernel
theorem dX11_sound_25 : decode cX11_sound 25 = .ok (.iload_n 2, 1) := by decide +kernel
theorem dX11_sound_26 : decode cX11_sound 26 = .ok (.invokevirtual 122, 3) := by decide +kernel
theorem dX11_sound_29 : decode cX11_sound 29 = .ok (.ifCond .eq 5, 3) := by decide +kernel
theorem dX11_sound_32 : decode cX11_sound 32 = .ok (.iconst 0, 1) := by decide +kernel
theorem dX11_sound_33 : decode cX11_sound 33 = .ok (.ireturn, 1) := by decide +kernel
theorem dX11_sound_34 : decode cX11_sound 34 = .ok (.aload_n 0, 1) := by decide +kernel
theorem dX11_sound_35 : decode cX11_sound 35 = .ok (.getfield 61, 3) := by decide +kernel
theorem dX11_sound_38 : decode cX11_sound 38 = .ok (.iload_n 1, 1) := by decide +kernel
theorem dX11_sound_39 : decode cX11_sound 39 = .ok (.iload_n 2, 1) := by decide +kernel
theorem dX11_sound_40 : decode cX11_sound 40 = .ok (.invokevirtual 126, 3) := by decide +kernel
theorem dX11_sound_43 : decode cX11_sound 43 = .ok (.iconst 1, 1) := by decide +kernel
theorem dX11_sound_44 : decode cX11_sound 44 = .ok (.ireturn, 1) := by decide +kernel
theorem dX11_costs_0 : decode cX11_costs 0 = .ok (.iload_n 1, 1) := by decide +kernel
theorem dX11_costs_1 : decode cX11_costs 1 = .ok (.ifCond .lt 19, 3) := by decide +kernel
theorem dX11_costs_4 : decode cX11_costs 4 = .ok (.iload_n 1, 1) := by decide +kernel
theorem dX11_costs_5 : decode cX11_costs 5 = .ok (.bipush 50, 2) := by decide +kernel
theorem dX11_costs_7 : decode cX11_costs 7 = .ok (.if_icmp .gt 13, 3) := by decide +kernel
theorem dX11_costs_10 : decode cX11_costs 10 = .ok (.iload_n 2, 1) := by decide +kernel
theorem dX11_costs_11 : decode cX11_costs 11 = .ok (.ifCond .lt 9, 3) := by decide +kernel
theorem dX11_costs_14 : decode cX11_costs 14 = .ok (.iload_n 2, 1) := by decide +kernel
theorem dX11_costs_15 : decode cX11_costs 15 = .ok (.bipush 50, 2) := by decide +kernel
theorem dX11_costs_17 : decode cX11_costs 17 = .ok (.if_icmp .le 5, 3) := by decide +kernel
theorem dX11_costs_20 : decode cX11_costs 20 = .ok (.iconst 0, 1) := by decide +kernel
theorem dX11_costs_21 : decode cX11_costs 21 = .ok (.ireturn, 1) := by decide +kernel
theorem dX11_costs_22 : decode cX11_costs 22 = .ok (.aload_n 0, 1) := by decide +kernel
theorem dX11_costs_23 : decode cX11_costs 23 = .ok (.getfield 47, 3) := by decide +kernel
theorem dX11_costs_26 : decode cX11_costs 26 = .ok (.iload_n 1, 1) := by decide +kernel
theorem dX11_costs_27 : decode cX11_costs 27 = .ok (.putfield 130, 3) := by decide +kernel
theorem dX11_costs_30 : decode cX11_costs 30 = .ok (.aload_n 0, 1) := by decide +kernel
theorem dX11_costs_31 : decode cX11_costs 31 = .ok (.getfield 47, 3) := by decide +kernel
theorem dX11_costs_34 : decode cX11_costs 34 = .ok (.iload_n 2, 1) := by decide +kernel
theorem dX11_costs_35 : decode cX11_costs 35 = .ok (.putfield 133, 3) := by decide +kernel
theorem dX11_costs_38 : decode cX11_costs 38 = .ok (.iconst 1, 1) := by decide +kernel
theorem dX11_costs_39 : decode cX11_costs 39 = .ok (.ireturn, 1) := by decide +kernel
theorem dX11_day_0 : decode cX11_day 0 = .ok (.iload_n 1, 1) := by decide +kernel
theorem dX11_day_1 : decode cX11_day 1 = .ok (.ifCond .lt 21, 3) := by decide +kernel
theorem dX11_day_4 : decode cX11_day 4 = .ok (.iload_n 1, 1) := by decide +kernel
theorem dX11_day_5 : decode cX11_day 5 = .ok (.sipush 1000, 3) := by decide +kernel
theorem dX11_day_8 : decode cX11_day 8 = .ok (.if_icmp .gt 14, 3) := by decide +kernel
theorem dX11_day_11 : decode cX11_day 11 = .ok (.aload_n 0, 1) := by decide +kernel
theorem dX11_day_12 : decode cX11_day 12 = .ok (.getfield 72, 3) := by decide +kernel
theorem dX11_day_15 : decode cX11_day 15 = .ok (.iload_n 1, 1) := by decide +kernel
theorem dX11_day_16 : decode cX11_day 16 = .ok (.iadd, 1) := by decide +kernel
theorem dX11_day_17 : decode cX11_day 17 = .ok (.ldc 136, 2) := by decide +kernel
theorem dX11_day_19 : decode cX11_day 19 = .ok (.if_icmp .le 5, 3) := by decide +kernel
theorem dX11_day_22 : decode cX11_day 22 = .ok (.iconst (-1), 1) := by decide +kernel
theorem dX11_day_23 : decode cX11_day 23 = .ok (.ireturn, 1) := by decide +kernel
theorem dX11_day_24 : decode cX11_day 24 = .ok (.aload_n 0, 1) := by decide +kernel
theorem dX11_day_25 : decode cX11_day 25 = .ok (.dup, 1) := by decide +kernel
theorem dX11_day_26 : decode cX11_day 26 = .ok (.getfield 72, 3) := by decide +kernel
theorem dX11_day_29 : decode cX11_day 29 = .ok (.iload_n 1, 1) := by decide +kernel
theorem dX11_day_30 : decode cX11_day 30 = .ok (.iadd, 1) := by decide +kernel
theorem dX11_day_31 : decode cX11_day 31 = .ok (.putfield 72, 3) := by decide +kernel
theorem dX11_day_34 : decode cX11_day 34 = .ok (.aload_n 0, 1) := by decide +kernel
theorem dX11_day_35 : decode cX11_day 35 = .ok (.getfield 72, 3) := by decide +kernel
theorem dX11_day_38 : decode cX11_day 38 = .ok (.ireturn, 1) := by decide +kernel
theorem dX11_apart_0 : decode cX11_apart 0 = .ok (.aload_n 0, 1) := by decide +kernel
theorem dX11_apart_1 : decode cX11_apart 1 = .ok (.invokevirtual 97, 3) := by decide +kernel
theorem dX11_apart_4 : decode cX11_apart 4 = .ok (.istore_n 3, 1) := by decide +kernel
theorem dX11_apart_5 : decode cX11_apart 5 = .ok (.iload_n 3, 1) := by decide +kernel
theorem dX11_apart_6 : decode cX11_apart 6 = .ok (.ifCond .eq 12, 3) := by decide +kernel
theorem dX11_apart_9 : decode cX11_apart 9 = .ok (.aload_n 0, 1) := by decide +kernel
theorem dX11_apart_10 : decode cX11_apart 10 = .ok (.iload_n 1, 1) := by decide +kernel
theorem dX11_apart_11 : decode cX11_apart 11 = .ok (.iload_n 2, 1) := by decide +kernel
theorem dX11_apart_12 : decode cX11_apart 12 = .ok (.invokevirtual 137, 3) := by decide +kernel
theorem dX11_apart_15 : decode cX11_apart 15 = .ok (.ifCond .ne 5, 3) := by decide +kernel
theorem dX11_apart_18 : decode cX11_apart 18 = .ok (.iconst (-1), 1) := by decide +kernel
theorem dX11_apart_19 : decode cX11_apart 19 = .ok (.ireturn, 1) := by decide +kernel
theorem dX11_apart_20 : decode cX11_apart 20 = .ok (.aload_n 0, 1) := by decide +kernel
theorem dX11_apart_21 : decode cX11_apart 21 = .ok (.getfield 61, 3) := by decide +kernel
theorem dX11_apart_24 : decode cX11_apart 24 = .ok (.aload_n 0, 1) := by decide +kernel
theorem dX11_apart_25 : decode cX11_apart 25 = .ok (.getfield 19, 3) := by decide +kernel
theorem dX11_apart_28 : decode cX11_apart 28 = .ok (.aload_n 0, 1) := by decide +kernel
theorem dX11_apart_29 : decode cX11_apart 29 = .ok (.getfield 32, 3) := by decide +kernel
theorem dX11_apart_32 : decode cX11_apart 32 = .ok (.iload_n 1, 1) := by decide +kernel
theorem dX11_apart_33 : decode cX11_apart 33 = .ok (.aaload, 1) := by decide +kernel
theorem dX11_apart_34 : decode cX11_apart 34 = .ok (.getfield 140, 3) := by decide +kernel
theorem dX11_apart_37 : decode cX11_apart 37 = .ok (.iload_n 2, 1) := by decide +kernel
theorem dX11_apart_38 : decode cX11_apart 38 = .ok (.aaload, 1) := by decide +kernel
theorem dX11_apart_39 : decode cX11_apart 39 = .ok (.invokevirtual 144, 3) := by decide +kernel
theorem dX11_apart_42 : decode cX11_apart 42 = .ok (.ireturn, 1) := by decide +kernel
theorem dX11_reading_0 : decode cX11_reading 0 = .ok (.aload_n 0, 1) := by decide +kernel
theorem dX11_reading_1 : decode cX11_reading 1 = .ok (.iload_n 1, 1) := by decide +kernel
theorem dX11_reading_2 : decode cX11_reading 2 = .ok (.iload_n 2, 1) := by decide +kernel
theorem dX11_reading_3 : decode cX11_reading 3 = .ok (.invokevirtual 148, 3) := by decide +kernel
theorem dX11_reading_6 : decode cX11_reading 6 = .ok (.ifCond .ne 5, 3) := by decide +kernel
theorem dX11_reading_9 : decode cX11_reading 9 = .ok (.iconst (-1), 1) := by decide +kernel
theorem dX11_reading_10 : decode cX11_reading 10 = .ok (.ireturn, 1) := by decide +kernel
theorem dX11_reading_11 : decode cX11_reading 11 = .ok (.aload_n 0, 1) := by decide +kernel
theorem dX11_reading_12 : decode cX11_reading 12 = .ok (.getfield 68, 3) := by decide +kernel
theorem dX11_reading_15 : decode cX11_reading 15 = .ok (.aload_n 0, 1) := by decide +kernel
theorem dX11_reading_16 : decode cX11_reading 16 = .ok (.getfield 32, 3) := by decide +kernel
theorem dX11_reading_19 : decode cX11_reading 19 = .ok (.iload_n 1, 1) := by decide +kernel
theorem dX11_reading_20 : decode cX11_reading 20 = .ok (.aaload, 1) := by decide +kernel
theorem dX11_reading_21 : decode cX11_reading 21 = .ok (.getfield 151, 3) := by decide +kernel
theorem dX11_reading_24 : decode cX11_reading 24 = .ok (.iload_n 2, 1) := by decide +kernel
theorem dX11_reading_25 : decode cX11_reading 25 = .ok (.aaload, 1) := by decide +kernel
theorem dX11_reading_26 : decode cX11_reading 26 = .ok (.aload_n 0, 1) := by decide +kernel
theorem dX11_reading_27 : decode cX11_reading 27 = .ok (.getfield 54, 3) := by decide +kernel
theorem dX11_reading_30 : decode cX11_reading 30 = .ok (.iload_n 3, 1) := by decide +kernel
theorem dX11_reading_31 : decode cX11_reading 31 = .ok (.invokevirtual 155, 3) := by decide +kernel
theorem dX11_reading_34 : decode cX11_reading 34 = .ok (.ireturn, 1) := by decide +kernel
theorem dX11_best_0 : decode cX11_best 0 = .ok (.aload_n 0, 1) := by decide +kernel
theorem dX11_best_1 : decode cX11_best 1 = .ok (.iload_n 1, 1) := by decide +kernel
theorem dX11_best_2 : decode cX11_best 2 = .ok (.invokevirtual 159, 3) := by decide +kernel
theorem dX11_best_5 : decode cX11_best 5 = .ok (.ifCond .eq 11, 3) := by decide +kernel
theorem dX11_best_8 : decode cX11_best 8 = .ok (.aload_n 0, 1) := by decide +kernel
theorem dX11_best_9 : decode cX11_best 9 = .ok (.iload_n 2, 1) := by decide +kernel
theorem dX11_best_10 : decode cX11_best 10 = .ok (.invokevirtual 162, 3) := by decide +kernel
theorem dX11_best_13 : decode cX11_best 13 = .ok (.ifCond .ne 5, 3) := by decide +kernel
theorem dX11_best_16 : decode cX11_best 16 = .ok (.iconst (-1), 1) := by decide +kernel
theorem dX11_best_17 : decode cX11_best 17 = .ok (.ireturn, 1) := by decide +kernel
theorem dX11_best_18 : decode cX11_best 18 = .ok (.aload_n 0, 1) := by decide +kernel
theorem dX11_best_19 : decode cX11_best 19 = .ok (.iload_n 1, 1) := by decide +kernel
theorem dX11_best_20 : decode cX11_best 20 = .ok (.iload_n 2, 1) := by decide +kernel
theorem dX11_best_21 : decode cX11_best 21 = .ok (.invokevirtual 165, 3) := by decide +kernel
theorem dX11_best_24 : decode cX11_best 24 = .ok (.ifCond .eq 13, 3) := by decide +kernel
theorem dX11_best_27 : decode cX11_best 27 = .ok (.aload_n 0, 1) := by decide +kernel
theorem dX11_best_28 : decode cX11_best 28 = .ok (.getfield 68, 3) := by decide +kernel
theorem dX11_best_31 : decode cX11_best 31 = .ok (.getfield 168, 3) := by decide +kernel
theorem dX11_best_34 : decode cX11_best 34 = .ok (.goto 5, 3) := by decide +kernel
theorem dX11_best_37 : decode cX11_best 37 = .ok (.bipush (-2), 2) := by decide +kernel
theorem dX11_best_39 : decode cX11_best 39 = .ok (.ireturn, 1) := by decide +kernel
theorem dX11_at_0 : decode cX11_at 0 = .ok (.aload_n 0, 1) := by decide +kernel
theorem dX11_at_1 : decode cX11_at 1 = .ok (.iload_n 1, 1) := by decide +kernel
theorem dX11_at_2 : decode cX11_at 2 = .ok (.iload_n 3, 1) := by decide +kernel
theorem dX11_at_3 : decode cX11_at 3 = .ok (.invokevirtual 137, 3) := by decide +kernel
theorem dX11_at_6 : decode cX11_at 6 = .ok (.ifCond .eq 20, 3) := by decide +kernel
theorem dX11_at_9 : decode cX11_at 9 = .ok (.aload_n 0, 1) := by decide +kernel
theorem dX11_at_10 : decode cX11_at 10 = .ok (.iload_n 2, 1) := by decide +kernel
theorem dX11_at_11 : decode cX11_at 11 = .ok (.invokevirtual 162, 3) := by decide +kernel
theorem dX11_at_14 : decode cX11_at 14 = .ok (.ifCond .eq 12, 3) := by decide +kernel
theorem dX11_at_17 : decode cX11_at 17 = .ok (.aload_n 0, 1) := by decide +kernel
theorem dX11_at_18 : decode cX11_at 18 = .ok (.iload_n 1, 1) := by decide +kernel
theorem dX11_at_19 : decode cX11_at 19 = .ok (.iload_n 2, 1) := by decide +kernel
theorem dX11_at_20 : decode cX11_at 20 = .ok (.invokevirtual 165, 3) := by decide +kernel
theorem dX11_at_23 : decode cX11_at 23 = .ok (.ifCond .ne 5, 3) := by decide +kernel
theorem dX11_at_26 : decode cX11_at 26 = .ok (.iconst (-1), 1) := by decide +kernel
theorem dX11_at_27 : decode cX11_at 27 = .ok (.ireturn, 1) := by decide +kernel
theorem dX11_at_28 : decode cX11_at 28 = .ok (.aload_n 0, 1) := by decide +kernel
theorem dX11_at_29 : decode cX11_at 29 = .ok (.getfield 68, 3) := by decide +kernel
theorem dX11_at_32 : decode cX11_at 32 = .ok (.invokevirtual 171, 3) := by decide +kernel
theorem dX11_at_35 : decode cX11_at 35 = .ok (.aload_n 0, 1) := by decide +kernel
theorem dX11_at_36 : decode cX11_at 36 = .ok (.getfield 68, 3) := by decide +kernel
theorem dX11_at_39 : decode cX11_at 39 = .ok (.getfield 174, 3) := by decide +kernel
theorem dX11_at_42 : decode cX11_at 42 = .ok (.iload_n 3, 1) := by decide +kernel
theorem dX11_at_43 : decode cX11_at 43 = .ok (.iaload, 1) := by decide +kernel
theorem dX11_at_44 : decode cX11_at 44 = .ok (.ireturn, 1) := by decide +kernel
theorem dX11_span_0 : decode cX11_span 0 = .ok (.iload_n 3, 1) := by decide +kernel
theorem dX11_span_1 : decode cX11_span 1 = .ok (.invokestatic 178, 3) := by decide +kernel
theorem dX11_span_4 : decode cX11_span 4 = .ok (.ifCond .eq 18, 3) := by decide +kernel
theorem dX11_span_7 : decode cX11_span 7 = .ok (.iload 5, 2) := by decide +kernel
theorem dX11_span_9 : decode cX11_span 9 = .ok (.ifCond .eq 9, 3) := by decide +kernel
theorem dX11_span_12 : decode cX11_span 12 = .ok (.iload 5, 2) := by decide +kernel
theorem dX11_span_14 : decode cX11_span 14 = .ok (.iconst 1, 1) := by decide +kernel
theorem dX11_span_15 : decode cX11_span 15 = .ok (.if_icmp .ne 7, 3) := by decide +kernel
theorem dX11_span_18 : decode cX11_span 18 = .ok (.iconst 1, 1) := by decide +kernel
theorem dX11_span_19 : decode cX11_span 19 = .ok (.goto 4, 3) := by decide +kernel
theorem dX11_span_22 : decode cX11_span 22 = .ok (.iconst 0, 1) := by decide +kernel
theorem dX11_span_23 : decode cX11_span 23 = .ok (.istore 6, 2) := by decide +kernel
theorem dX11_span_25 : decode cX11_span 25 = .ok (.iload 6, 2) := by decide +kernel
theorem dX11_span_27 : decode cX11_span 27 = .ok (.ifCond .eq 30, 3) := by decide +kernel
theorem dX11_span_30 : decode cX11_span 30 = .ok (.aload_n 0, 1) := by decide +kernel
theorem dX11_span_31 : decode cX11_span 31 = .ok (.iload_n 1, 1) := by decide +kernel
theorem dX11_span_32 : decode cX11_span 32 = .ok (.iload 4, 2) := by decide +kernel
theorem dX11_span_34 : decode cX11_span 34 = .ok (.invokevirtual 137, 3) := by decide +kernel
theorem dX11_span_37 : decode cX11_span 37 = .ok (.ifCond .eq 20, 3) := by decide +kernel
theorem dX11_span_40 : decode cX11_span 40 = .ok (.aload_n 0, 1) := by decide +kernel
theorem dX11_span_41 : decode cX11_span 41 = .ok (.iload_n 2, 1) := by decide +kernel
theorem dX11_span_42 : decode cX11_span 42 = .ok (.invokevirtual 162, 3) := by decide +kernel
theorem dX11_span_45 : decode cX11_span 45 = .ok (.ifCond .eq 12, 3) := by decide +kernel
theorem dX11_span_48 : decode cX11_span 48 = .ok (.aload_n 0, 1) := by decide +kernel
theorem dX11_span_49 : decode cX11_span 49 = .ok (.iload_n 1, 1) := by decide +kernel
theorem dX11_span_50 : decode cX11_span 50 = .ok (.iload_n 2, 1) := by decide +kernel
theorem dX11_span_51 : decode cX11_span 51 = .ok (.invokevirtual 165, 3) := by decide +kernel
theorem dX11_span_54 : decode cX11_span 54 = .ok (.ifCond .ne 5, 3) := by decide +kernel
theorem dX11_span_57 : decode cX11_span 57 = .ok (.iconst (-1), 1) := by decide +kernel
theorem dX11_span_58 : decode cX11_span 58 = .ok (.ireturn, 1) := by decide +kernel
theorem dX11_span_59 : decode cX11_span 59 = .ok (.aload_n 0, 1) := by decide +kernel
theorem dX11_span_60 : decode cX11_span 60 = .ok (.getfield 68, 3) := by decide +kernel
theorem dX11_span_63 : decode cX11_span 63 = .ok (.iload 4, 2) := by decide +kernel
theorem dX11_span_65 : decode cX11_span 65 = .ok (.invokevirtual 181, 3) := by decide +kernel
theorem dX11_span_68 : decode cX11_span 68 = .ok (.iload 5, 2) := by decide +kernel
theorem dX11_span_70 : decode cX11_span 70 = .ok (.ifCond .ne 16, 3) := by decide +kernel
theorem dX11_span_73 : decode cX11_span 73 = .ok (.aload_n 0, 1) := by decide +kernel
theorem dX11_span_74 : decode cX11_span 74 = .ok (.getfield 68, 3) := by decide +kernel
theorem dX11_span_77 : decode cX11_span 77 = .ok (.iload 4, 2) := by decide +kernel
theorem dX11_span_79 : decode cX11_span 79 = .ok (.iload_n 3, 1) := by decide +kernel
theorem dX11_span_80 : decode cX11_span 80 = .ok (.invokevirtual 184, 3) := by decide +kernel
theorem dX11_span_83 : decode cX11_span 83 = .ok (.goto 13, 3) := by decide +kernel
theorem dX11_span_86 : decode cX11_span 86 = .ok (.aload_n 0, 1) := by decide +kernel
theorem dX11_span_87 : decode cX11_span 87 = .ok (.getfield 68, 3) := by decide +kernel
theorem dX11_span_90 : decode cX11_span 90 = .ok (.iload 4, 2) := by decide +kernel
theorem dX11_span_92 : decode cX11_span 92 = .ok (.iload_n 3, 1) := by decide +kernel
theorem dX11_span_93 : decode cX11_span 93 = .ok (.invokevirtual 188, 3) := by decide +kernel
theorem dX11_span_96 : decode cX11_span 96 = .ok (.ireturn, 1) := by decide +kernel
theorem dX11_rivals_0 : decode cX11_rivals 0 = .ok (.iload_n 3, 1) := by decide +kernel
theorem dX11_rivals_1 : decode cX11_rivals 1 = .ok (.invokestatic 178, 3) := by decide +kernel
theorem dX11_rivals_4 : decode cX11_rivals 4 = .ok (.ifCond .eq 28, 3) := by decide +kernel
theorem dX11_rivals_7 : decode cX11_rivals 7 = .ok (.aload_n 0, 1) := by decide +kernel
theorem dX11_rivals_8 : decode cX11_rivals 8 = .ok (.iload_n 1, 1) := by decide +kernel
theorem dX11_rivals_9 : decode cX11_rivals 9 = .ok (.invokevirtual 159, 3) := by decide +kernel
theorem dX11_rivals_12 : decode cX11_rivals 12 = .ok (.ifCond .eq 20, 3) := by decide +kernel
theorem dX11_rivals_15 : decode cX11_rivals 15 = .ok (.aload_n 0, 1) := by decide +kernel
theorem dX11_rivals_16 : decode cX11_rivals 16 = .ok (.iload_n 2, 1) := by decide +kernel
theorem dX11_rivals_17 : decode cX11_rivals 17 = .ok (.invokevirtual 162, 3) := by decide +kernel
theorem dX11_rivals_20 : decode cX11_rivals 20 = .ok (.ifCond .eq 12, 3) := by decide +kernel
theorem dX11_rivals_23 : decode cX11_rivals 23 = .ok (.aload_n 0, 1) := by decide +kernel
theorem dX11_rivals_24 : decode cX11_rivals 24 = .ok (.iload_n 1, 1) := by decide +kernel
theorem dX11_rivals_25 : decode cX11_rivals 25 = .ok (.iload_n 2, 1) := by decide +kernel
theorem dX11_rivals_26 : decode cX11_rivals 26 = .ok (.invokevirtual 165, 3) := by decide +kernel
theorem dX11_rivals_29 : decode cX11_rivals 29 = .ok (.ifCond .ne 5, 3) := by decide +kernel
theorem dX11_rivals_32 : decode cX11_rivals 32 = .ok (.iconst (-1), 1) := by decide +kernel
theorem dX11_rivals_33 : decode cX11_rivals 33 = .ok (.ireturn, 1) := by decide +kernel
theorem dX11_rivals_34 : decode cX11_rivals 34 = .ok (.aload_n 0, 1) := by decide +kernel
theorem dX11_rivals_35 : decode cX11_rivals 35 = .ok (.getfield 68, 3) := by decide +kernel
theorem dX11_rivals_38 : decode cX11_rivals 38 = .ok (.iload_n 3, 1) := by decide +kernel
theorem dX11_rivals_39 : decode cX11_rivals 39 = .ok (.invokevirtual 191, 3) := by decide +kernel
theorem dX11_rivals_42 : decode cX11_rivals 42 = .ok (.lstore 4, 2) := by decide +kernel
theorem dX11_rivals_44 : decode cX11_rivals 44 = .ok (.lload 4, 2) := by decide +kernel
theorem dX11_rivals_46 : decode cX11_rivals 46 = .ok (.ldc2_w 195, 3) := by decide +kernel
theorem dX11_rivals_49 : decode cX11_rivals 49 = .ok (.lcmp, 1) := by decide +kernel
theorem dX11_rivals_50 : decode cX11_rivals 50 = .ok (.ifCond .le 8, 3) := by decide +kernel
theorem dX11_rivals_53 : decode cX11_rivals 53 = .ok (.ldc 197, 2) := by decide +kernel
theorem dX11_rivals_55 : decode cX11_rivals 55 = .ok (.goto 6, 3) := by decide +kernel
theorem dX11_rivals_58 : decode cX11_rivals 58 = .ok (.lload 4, 2) := by decide +kernel
theorem dX11_rivals_60 : decode cX11_rivals 60 = .ok (.l2i, 1) := by decide +kernel
theorem dX11_rivals_61 : decode cX11_rivals 61 = .ok (.ireturn, 1) := by decide +kernel
theorem dX11_shared_0 : decode cX11_shared 0 = .ok (.iload_n 1, 1) := by decide +kernel
theorem dX11_shared_1 : decode cX11_shared 1 = .ok (.iload_n 2, 1) := by decide +kernel
theorem dX11_shared_2 : decode cX11_shared 2 = .ok (.if_icmp .eq 27, 3) := by decide +kernel
theorem dX11_shared_5 : decode cX11_shared 5 = .ok (.aload_n 0, 1) := by decide +kernel
theorem dX11_shared_6 : decode cX11_shared 6 = .ok (.iload_n 1, 1) := by decide +kernel
theorem dX11_shared_7 : decode cX11_shared 7 = .ok (.invokevirtual 159, 3) := by decide +kernel
theorem dX11_shared_10 : decode cX11_shared 10 = .ok (.ifCond .eq 19, 3) := by decide +kernel
theorem dX11_shared_13 : decode cX11_shared 13 = .ok (.aload_n 0, 1) := by decide +kernel
theorem dX11_shared_14 : decode cX11_shared 14 = .ok (.iload_n 2, 1) := by decide +kernel
theorem dX11_shared_15 : decode cX11_shared 15 = .ok (.invokevirtual 159, 3) := by decide +kernel
theorem dX11_shared_18 : decode cX11_shared 18 = .ok (.ifCond .eq 11, 3) := by decide +kernel
theorem dX11_shared_21 : decode cX11_shared 21 = .ok (.aload_n 0, 1) := by decide +kernel
theorem dX11_shared_22 : decode cX11_shared 22 = .ok (.iload_n 3, 1) := by decide +kernel
theorem dX11_shared_23 : decode cX11_shared 23 = .ok (.invokevirtual 162, 3) := by decide +kernel
theorem dX11_shared_26 : decode cX11_shared 26 = .ok (.ifCond .ne 5, 3) := by decide +kernel
theorem dX11_shared_29 : decode cX11_shared 29 = .ok (.iconst (-1), 1) := by decide +kernel
theorem dX11_shared_30 : decode cX11_shared 30 = .ok (.ireturn, 1) := by decide +kernel
theorem dX11_shared_31 : decode cX11_shared 31 = .ok (.aload_n 0, 1) := by decide +kernel
theorem dX11_shared_32 : decode cX11_shared 32 = .ok (.iload_n 1, 1) := by decide +kernel
theorem dX11_shared_33 : decode cX11_shared 33 = .ok (.iload_n 3, 1) := by decide +kernel
theorem dX11_shared_34 : decode cX11_shared 34 = .ok (.invokevirtual 198, 3) := by decide +kernel
theorem dX11_shared_37 : decode cX11_shared 37 = .ok (.ifCond .eq 12, 3) := by decide +kernel
theorem dX11_shared_40 : decode cX11_shared 40 = .ok (.aload_n 0, 1) := by decide +kernel
theorem dX11_shared_41 : decode cX11_shared 41 = .ok (.iload_n 2, 1) := by decide +kernel
theorem dX11_shared_42 : decode cX11_shared 42 = .ok (.iload_n 3, 1) := by decide +kernel
theorem dX11_shared_43 : decode cX11_shared 43 = .ok (.invokevirtual 198, 3) := by decide +kernel
theorem dX11_shared_46 : decode cX11_shared 46 = .ok (.ifCond .ne 5, 3) := by decide +kernel
theorem dX11_shared_49 : decode cX11_shared 49 = .ok (.iconst 0, 1) := by decide +kernel
theorem dX11_shared_50 : decode cX11_shared 50 = .ok (.ireturn, 1) := by decide +kernel
theorem dX11_shared_51 : decode cX11_shared 51 = .ok (.aload_n 0, 1) := by decide +kernel
theorem dX11_shared_52 : decode cX11_shared 52 = .ok (.getfield 32, 3) := by decide +kernel
theorem dX11_shared_55 : decode cX11_shared 55 = .ok (.iload_n 1, 1) := by decide +kernel
theorem dX11_shared_56 : decode cX11_shared 56 = .ok (.aaload, 1) := by decide +kernel
theorem dX11_shared_57 : decode cX11_shared 57 = .ok (.aload_n 0, 1) := by decide +kernel
theorem dX11_shared_58 : decode cX11_shared 58 = .ok (.getfield 32, 3) := by decide +kernel
theorem dX11_shared_61 : decode cX11_shared 61 = .ok (.iload_n 2, 1) := by decide +kernel
theorem dX11_shared_62 : decode cX11_shared 62 = .ok (.aaload, 1) := by decide +kernel
theorem dX11_shared_63 : decode cX11_shared 63 = .ok (.invokevirtual 201, 3) := by decide +kernel
theorem dX11_shared_66 : decode cX11_shared 66 = .ok (.ireturn, 1) := by decide +kernel
theorem dX11_of_0 : decode cX11_of 0 = .ok (.aload_n 0, 1) := by decide +kernel
theorem dX11_of_1 : decode cX11_of 1 = .ok (.iload_n 1, 1) := by decide +kernel
theorem dX11_of_2 : decode cX11_of 2 = .ok (.invokevirtual 159, 3) := by decide +kernel
theorem dX11_of_5 : decode cX11_of 5 = .ok (.ifCond .ne 13, 3) := by decide +kernel
theorem dX11_of_8 : decode cX11_of 8 = .ok (.new 205, 3) := by decide +kernel
theorem dX11_of_11 : decode cX11_of 11 = .ok (.dup, 1) := by decide +kernel
theorem dX11_of_12 : decode cX11_of 12 = .ok (.ldc 207, 2) := by decide +kernel
theorem dX11_of_14 : decode cX11_of 14 = .ok (.invokespecial 209, 3) := by decide +kernel
theorem dX11_of_17 : decode cX11_of 17 = .ok (.athrow, 1) := by decide +kernel
theorem dX11_of_18 : decode cX11_of 18 = .ok (.aload_n 0, 1) := by decide +kernel
theorem dX11_of_19 : decode cX11_of 19 = .ok (.getfield 32, 3) := by decide +kernel
theorem dX11_of_22 : decode cX11_of 22 = .ok (.iload_n 1, 1) := by decide +kernel
theorem dX11_of_23 : decode cX11_of 23 = .ok (.aaload, 1) := by decide +kernel
theorem dX11_of_24 : decode cX11_of 24 = .ok (.astore_n 3, 1) := by decide +kernel
theorem dX11_of_25 : decode cX11_of 25 = .ok (.iload_n 2, 1) := by decide +kernel
theorem dX11_of_26 : decode cX11_of 26 = .ok (.ifCond .ne 8, 3) := by decide +kernel
theorem dX11_of_29 : decode cX11_of 29 = .ok (.aload_n 3, 1) := by decide +kernel
theorem dX11_of_30 : decode cX11_of 30 = .ok (.getfield 94, 3) := by decide +kernel
theorem dX11_of_33 : decode cX11_of 33 = .ok (.ireturn, 1) := by decide +kernel
theorem dX11_of_34 : decode cX11_of 34 = .ok (.iload_n 2, 1) := by decide +kernel
theorem dX11_of_35 : decode cX11_of 35 = .ok (.iconst 1, 1) := by decide +kernel
theorem dX11_of_36 : decode cX11_of 36 = .ok (.if_icmp .ne 8, 3) := by decide +kernel
theorem dX11_of_39 : decode cX11_of 39 = .ok (.aload_n 3, 1) := by decide +kernel
theorem dX11_of_40 : decode cX11_of 40 = .ok (.getfield 212, 3) := by decide +kernel
theorem dX11_of_43 : decode cX11_of 43 = .ok (.ireturn, 1) := by decide +kernel
theorem dX11_of_44 : decode cX11_of 44 = .ok (.iload_n 2, 1) := by decide +kernel
theorem dX11_of_45 : decode cX11_of 45 = .ok (.bipush 10, 2) := by decide +kernel
theorem dX11_of_47 : decode cX11_of 47 = .ok (.if_icmp .lt 27, 3) := by decide +kernel
theorem dX11_of_50 : decode cX11_of 50 = .ok (.aload_n 3, 1) := by decide +kernel
theorem dX11_of_51 : decode cX11_of 51 = .ok (.iload_n 2, 1) := by decide +kernel
theorem dX11_of_52 : decode cX11_of 52 = .ok (.bipush 10, 2) := by decide +kernel
theorem dX11_of_54 : decode cX11_of 54 = .ok (.isub, 1) := by decide +kernel
theorem dX11_of_55 : decode cX11_of 55 = .ok (.invokevirtual 215, 3) := by decide +kernel
theorem dX11_of_58 : decode cX11_of 58 = .ok (.ifCond .eq 16, 3) := by decide +kernel
theorem dX11_of_61 : decode cX11_of 61 = .ok (.aload_n 3, 1) := by decide +kernel
theorem dX11_of_62 : decode cX11_of 62 = .ok (.getfield 151, 3) := by decide +kernel
theorem dX11_of_65 : decode cX11_of 65 = .ok (.iload_n 2, 1) := by decide +kernel
theorem dX11_of_66 : decode cX11_of 66 = .ok (.bipush 10, 2) := by decide +kernel
theorem dX11_of_68 : decode cX11_of 68 = .ok (.isub, 1) := by decide +kernel
theorem dX11_of_69 : decode cX11_of 69 = .ok (.aaload, 1) := by decide +kernel
theorem dX11_of_70 : decode cX11_of 70 = .ok (.invokevirtual 217, 3) := by decide +kernel
theorem dX11_of_73 : decode cX11_of 73 = .ok (.ireturn, 1) := by decide +kernel
theorem dX11_of_74 : decode cX11_of 74 = .ok (.iload_n 2, 1) := by decide +kernel
theorem dX11_of_75 : decode cX11_of 75 = .ok (.bipush 20, 2) := by decide +kernel
theorem dX11_of_77 : decode cX11_of 77 = .ok (.if_icmp .lt 27, 3) := by decide +kernel
theorem dX11_of_80 : decode cX11_of 80 = .ok (.aload_n 3, 1) := by decide +kernel
theorem dX11_of_81 : decode cX11_of 81 = .ok (.iload_n 2, 1) := by decide +kernel
theorem dX11_of_82 : decode cX11_of 82 = .ok (.bipush 20, 2) := by decide +kernel
theorem dX11_of_84 : decode cX11_of 84 = .ok (.isub, 1) := by decide +kernel
theorem dX11_of_85 : decode cX11_of 85 = .ok (.invokevirtual 223, 3) := by decide +kernel
theorem dX11_of_88 : decode cX11_of 88 = .ok (.ifCond .eq 16, 3) := by decide +kernel
theorem dX11_of_91 : decode cX11_of 91 = .ok (.aload_n 3, 1) := by decide +kernel
theorem dX11_of_92 : decode cX11_of 92 = .ok (.getfield 140, 3) := by decide +kernel
theorem dX11_of_95 : decode cX11_of 95 = .ok (.iload_n 2, 1) := by decide +kernel
theorem dX11_of_96 : decode cX11_of 96 = .ok (.bipush 20, 2) := by decide +kernel
theorem dX11_of_98 : decode cX11_of 98 = .ok (.isub, 1) := by decide +kernel
theorem dX11_of_99 : decode cX11_of 99 = .ok (.aaload, 1) := by decide +kernel
theorem dX11_of_100 : decode cX11_of 100 = .ok (.getfield 225, 3) := by decide +kernel
theorem dX11_of_103 : decode cX11_of 103 = .ok (.ireturn, 1) := by decide +kernel
theorem dX11_of_104 : decode cX11_of 104 = .ok (.new 205, 3) := by decide +kernel
theorem dX11_of_107 : decode cX11_of 107 = .ok (.dup, 1) := by decide +kernel
theorem dX11_of_108 : decode cX11_of 108 = .ok (.ldc 226, 2) := by decide +kernel
theorem dX11_of_110 : decode cX11_of 110 = .ok (.invokespecial 209, 3) := by decide +kernel
theorem dX11_of_113 : decode cX11_of 113 = .ok (.athrow, 1) := by decide +kernel
theorem dX11_letter_0 : decode cX11_letter 0 = .ok (.aload_n 0, 1) := by decide +kernel
theorem dX11_letter_1 : decode cX11_letter 1 = .ok (.iload_n 1, 1) := by decide +kernel
theorem dX11_letter_2 : decode cX11_letter 2 = .ok (.iload_n 2, 1) := by decide +kernel
theorem dX11_letter_3 : decode cX11_letter 3 = .ok (.invokevirtual 137, 3) := by decide +kernel
theorem dX11_letter_6 : decode cX11_letter 6 = .ok (.ifCond .ne 5, 3) := by decide +kernel
theorem dX11_letter_9 : decode cX11_letter 9 = .ok (.iconst (-1), 1) := by decide +kernel
theorem dX11_letter_10 : decode cX11_letter 10 = .ok (.ireturn, 1) := by decide +kernel
theorem dX11_letter_11 : decode cX11_letter 11 = .ok (.aload_n 0, 1) := by decide +kernel
theorem dX11_letter_12 : decode cX11_letter 12 = .ok (.getfield 32, 3) := by decide +kernel
theorem dX11_letter_15 : decode cX11_letter 15 = .ok (.iload_n 1, 1) := by decide +kernel
theorem dX11_letter_16 : decode cX11_letter 16 = .ok (.aaload, 1) := by decide +kernel
theorem dX11_letter_17 : decode cX11_letter 17 = .ok (.getfield 140, 3) := by decide +kernel
theorem dX11_letter_20 : decode cX11_letter 20 = .ok (.iload_n 2, 1) := by decide +kernel
theorem dX11_letter_21 : decode cX11_letter 21 = .ok (.aaload, 1) := by decide +kernel
theorem dX11_letter_22 : decode cX11_letter 22 = .ok (.astore 4, 2) := by decide +kernel
theorem dX11_letter_24 : decode cX11_letter 24 = .ok (.iload_n 3, 1) := by decide +kernel
theorem dX11_letter_25 : decode cX11_letter 25 = .ok (.ifCond .lt 22, 3) := by decide +kernel
theorem dX11_letter_28 : decode cX11_letter 28 = .ok (.iload_n 3, 1) := by decide +kernel
theorem dX11_letter_29 : decode cX11_letter 29 = .ok (.aload 4, 2) := by decide +kernel
theorem dX11_letter_31 : decode cX11_letter 31 = .ok (.getfield 225, 3) := by decide +kernel
theorem dX11_letter_34 : decode cX11_letter 34 = .ok (.if_icmp .ge 13, 3) := by decide +kernel
theorem dX11_letter_37 : decode cX11_letter 37 = .ok (.aload 4, 2) := by decide +kernel
theorem dX11_letter_39 : decode cX11_letter 39 = .ok (.getfield 228, 3) := by decide +kernel
theorem dX11_letter_42 : decode cX11_letter 42 = .ok (.iload_n 3, 1) := by decide +kernel
theorem dX11_letter_43 : decode cX11_letter 43 = .ok (.iaload, 1) := by decide +kernel
theorem dX11_letter_44 : decode cX11_letter 44 = .ok (.goto 4, 3) := by decide +kernel
theorem dX11_letter_47 : decode cX11_letter 47 = .ok (.iconst (-1), 1) := by decide +kernel
theorem dX11_letter_48 : decode cX11_letter 48 = .ok (.ireturn, 1) := by decide +kernel
theorem dX11_count_0 : decode cX11_count 0 = .ok (.iload_n 1, 1) := by decide +kernel
theorem dX11_count_1 : decode cX11_count 1 = .ok (.tableswitch 105 0 7 #[47, 52, 60, 68, 76, 81, 89, 97], 47) := by decide +kernel
theorem dX11_count_48 : decode cX11_count 48 = .ok (.aload_n 0, 1) := by decide +kernel
theorem dX11_count_49 : decode cX11_count 49 = .ok (.getfield 37, 3) := by decide +kernel
theorem dX11_count_52 : decode cX11_count 52 = .ok (.ireturn, 1) := by decide +kernel
theorem dX11_count_53 : decode cX11_count 53 = .ok (.aload_n 0, 1) := by decide +kernel
theorem dX11_count_54 : decode cX11_count 54 = .ok (.getfield 47, 3) := by decide +kernel
theorem dX11_count_57 : decode cX11_count 57 = .ok (.getfield 231, 3) := by decide +kernel
theorem dX11_count_60 : decode cX11_count 60 = .ok (.ireturn, 1) := by decide +kernel
theorem dX11_count_61 : decode cX11_count 61 = .ok (.aload_n 0, 1) := by decide +kernel
theorem dX11_count_62 : decode cX11_count 62 = .ok (.getfield 47, 3) := by decide +kernel
theorem dX11_count_65 : decode cX11_count 65 = .ok (.getfield 234, 3) := by decide +kernel
theorem dX11_count_68 : decode cX11_count 68 = .ok (.ireturn, 1) := by decide +kernel
theorem dX11_count_69 : decode cX11_count 69 = .ok (.aload_n 0, 1) := by decide +kernel
theorem dX11_count_70 : decode cX11_count 70 = .ok (.getfield 54, 3) := by decide +kernel
theorem dX11_count_73 : decode cX11_count 73 = .ok (.getfield 237, 3) := by decide +kernel
theorem dX11_count_76 : decode cX11_count 76 = .ok (.ireturn, 1) := by decide +kernel
theorem dX11_count_77 : decode cX11_count 77 = .ok (.aload_n 0, 1) := by decide +kernel
theorem dX11_count_78 : decode cX11_count 78 = .ok (.getfield 72, 3) := by decide +kernel
theorem dX11_count_81 : decode cX11_count 81 = .ok (.ireturn, 1) := by decide +kernel
theorem dX11_count_82 : decode cX11_count 82 = .ok (.aload_n 0, 1) := by decide +kernel
theorem dX11_count_83 : decode cX11_count 83 = .ok (.getfield 12, 3) := by decide +kernel
theorem dX11_count_86 : decode cX11_count 86 = .ok (.getfield 75, 3) := by decide +kernel
theorem dX11_count_89 : decode cX11_count 89 = .ok (.ireturn, 1) := by decide +kernel
theorem dX11_count_90 : decode cX11_count 90 = .ok (.aload_n 0, 1) := by decide +kernel
theorem dX11_count_91 : decode cX11_count 91 = .ok (.getfield 47, 3) := by decide +kernel
theorem dX11_count_94 : decode cX11_count 94 = .ok (.getfield 130, 3) := by decide +kernel
theorem dX11_count_97 : decode cX11_count 97 = .ok (.ireturn, 1) := by decide +kernel
theorem dX11_count_98 : decode cX11_count 98 = .ok (.aload_n 0, 1) := by decide +kernel
theorem dX11_count_99 : decode cX11_count 99 = .ok (.getfield 47, 3) := by decide +kernel
theorem dX11_count_102 : decode cX11_count 102 = .ok (.getfield 133, 3) := by decide +kernel
theorem dX11_count_105 : decode cX11_count 105 = .ok (.ireturn, 1) := by decide +kernel
theorem dX11_count_106 : decode cX11_count 106 = .ok (.aload_n 0, 1) := by decide +kernel
theorem dX11_count_107 : decode cX11_count 107 = .ok (.iload_n 1, 1) := by decide +kernel
theorem dX11_count_108 : decode cX11_count 108 = .ok (.invokevirtual 238, 3) := by decide +kernel
theorem dX11_count_111 : decode cX11_count 111 = .ok (.ireturn, 1) := by decide +kernel
theorem dX11_countOfRuin_0 : decode cX11_countOfRuin 0 = .ok (.iload_n 1, 1) := by decide +kernel
theorem dX11_countOfRuin_1 : decode cX11_countOfRuin 1 = .ok (.bipush 10, 2) := by decide +kernel
theorem dX11_countOfRuin_3 : decode cX11_countOfRuin 3 = .ok (.if_icmp .lt 33, 3) := by decide +kernel
theorem dX11_countOfRuin_6 : decode cX11_countOfRuin 6 = .ok (.iload_n 1, 1) := by decide +kernel
theorem dX11_countOfRuin_7 : decode cX11_countOfRuin 7 = .ok (.bipush 10, 2) := by decide +kernel
theorem dX11_countOfRuin_9 : decode cX11_countOfRuin 9 = .ok (.isub, 1) := by decide +kernel
theorem dX11_countOfRuin_10 : decode cX11_countOfRuin 10 = .ok (.aload_n 0, 1) := by decide +kernel
theorem dX11_countOfRuin_11 : decode cX11_countOfRuin 11 = .ok (.getfield 47, 3) := by decide +kernel
theorem dX11_countOfRuin_14 : decode cX11_countOfRuin 14 = .ok (.getfield 231, 3) := by decide +kernel
theorem dX11_countOfRuin_17 : decode cX11_countOfRuin 17 = .ok (.if_icmp .ge 19, 3) := by decide +kernel
theorem dX11_countOfRuin_20 : decode cX11_countOfRuin 20 = .ok (.aload_n 0, 1) := by decide +kernel
theorem dX11_countOfRuin_21 : decode cX11_countOfRuin 21 = .ok (.getfield 47, 3) := by decide +kernel
theorem dX11_countOfRuin_24 : decode cX11_countOfRuin 24 = .ok (.getfield 242, 3) := by decide +kernel
theorem dX11_countOfRuin_27 : decode cX11_countOfRuin 27 = .ok (.iload_n 1, 1) := by decide +kernel
theorem dX11_countOfRuin_28 : decode cX11_countOfRuin 28 = .ok (.bipush 10, 2) := by decide +kernel
theorem dX11_countOfRuin_30 : decode cX11_countOfRuin 30 = .ok (.isub, 1) := by decide +kernel
theorem dX11_countOfRuin_31 : decode cX11_countOfRuin 31 = .ok (.aaload, 1) := by decide +kernel
theorem dX11_countOfRuin_32 : decode cX11_countOfRuin 32 = .ok (.getfield 246, 3) := by decide +kernel
theorem dX11_countOfRuin_35 : decode cX11_countOfRuin 35 = .ok (.ireturn, 1) := by decide +kernel
theorem dX11_countOfRuin_36 : decode cX11_countOfRuin 36 = .ok (.iload_n 1, 1) := by decide +kernel
theorem dX11_countOfRuin_37 : decode cX11_countOfRuin 37 = .ok (.bipush 30, 2) := by decide +kernel
theorem dX11_countOfRuin_39 : decode cX11_countOfRuin 39 = .ok (.if_icmp .lt 33, 3) := by decide +kernel
theorem dX11_countOfRuin_42 : decode cX11_countOfRuin 42 = .ok (.iload_n 1, 1) := by decide +kernel
theorem dX11_countOfRuin_43 : decode cX11_countOfRuin 43 = .ok (.bipush 30, 2) := by decide +kernel
theorem dX11_countOfRuin_45 : decode cX11_countOfRuin 45 = .ok (.isub, 1) := by decide +kernel
theorem dX11_countOfRuin_46 : decode cX11_countOfRuin 46 = .ok (.aload_n 0, 1) := by decide +kernel
theorem dX11_countOfRuin_47 : decode cX11_countOfRuin 47 = .ok (.getfield 47, 3) := by decide +kernel
theorem dX11_countOfRuin_50 : decode cX11_countOfRuin 50 = .ok (.getfield 231, 3) := by decide +kernel
theorem dX11_countOfRuin_53 : decode cX11_countOfRuin 53 = .ok (.if_icmp .ge 19, 3) := by decide +kernel
theorem dX11_countOfRuin_56 : decode cX11_countOfRuin 56 = .ok (.aload_n 0, 1) := by decide +kernel
theorem dX11_countOfRuin_57 : decode cX11_countOfRuin 57 = .ok (.getfield 47, 3) := by decide +kernel
theorem dX11_countOfRuin_60 : decode cX11_countOfRuin 60 = .ok (.getfield 242, 3) := by decide +kernel
theorem dX11_countOfRuin_63 : decode cX11_countOfRuin 63 = .ok (.iload_n 1, 1) := by decide +kernel
theorem dX11_countOfRuin_64 : decode cX11_countOfRuin 64 = .ok (.bipush 30, 2) := by decide +kernel
theorem dX11_countOfRuin_66 : decode cX11_countOfRuin 66 = .ok (.isub, 1) := by decide +kernel
theorem dX11_countOfRuin_67 : decode cX11_countOfRuin 67 = .ok (.aaload, 1) := by decide +kernel
theorem dX11_countOfRuin_68 : decode cX11_countOfRuin 68 = .ok (.getfield 251, 3) := by decide +kernel
theorem dX11_countOfRuin_71 : decode cX11_countOfRuin 71 = .ok (.ireturn, 1) := by decide +kernel
theorem dX11_countOfRuin_72 : decode cX11_countOfRuin 72 = .ok (.iconst (-1), 1) := by decide +kernel
theorem dX11_countOfRuin_73 : decode cX11_countOfRuin 73 = .ok (.ireturn, 1) := by decide +kernel
theorem dX11_takeName_0 : decode cX11_takeName 0 = .ok (.aload_n 0, 1) := by decide +kernel
theorem dX11_takeName_1 : decode cX11_takeName 1 = .ok (.getfield 12, 3) := by decide +kernel
theorem dX11_takeName_4 : decode cX11_takeName 4 = .ok (.invokevirtual 254, 3) := by decide +kernel
theorem dX11_takeName_7 : decode cX11_takeName 7 = .ok (.istore_n 1, 1) := by decide +kernel
theorem dX11_takeName_8 : decode cX11_takeName 8 = .ok (.iload_n 1, 1) := by decide +kernel
theorem dX11_takeName_9 : decode cX11_takeName 9 = .ok (.ifCond .eq 22, 3) := by decide +kernel
theorem dX11_takeName_12 : decode cX11_takeName 12 = .ok (.aload_n 0, 1) := by decide +kernel
theorem dX11_takeName_13 : decode cX11_takeName 13 = .ok (.getfield 19, 3) := by decide +kernel
theorem dX11_takeName_16 : decode cX11_takeName 16 = .ok (.aload_n 0, 1) := by decide +kernel
theorem dX11_takeName_17 : decode cX11_takeName 17 = .ok (.getfield 12, 3) := by decide +kernel
theorem dX11_takeName_20 : decode cX11_takeName 20 = .ok (.iconst 0, 1) := by decide +kernel
theorem dX11_takeName_21 : decode cX11_takeName 21 = .ok (.aload_n 0, 1) := by decide +kernel
theorem dX11_takeName_22 : decode cX11_takeName 22 = .ok (.getfield 12, 3) := by decide +kernel
theorem dX11_takeName_25 : decode cX11_takeName 25 = .ok (.getfield 75, 3) := by decide +kernel
theorem dX11_takeName_28 : decode cX11_takeName 28 = .ok (.invokevirtual 257, 3) := by decide +kernel
theorem dX11_takeName_31 : decode cX11_takeName 31 = .ok (.aload_n 0, 1) := by decide +kernel
theorem dX11_takeName_32 : decode cX11_takeName 32 = .ok (.getfield 12, 3) := by decide +kernel
theorem dX11_takeName_35 : decode cX11_takeName 35 = .ok (.iconst 0, 1) := by decide +kernel
theorem dX11_takeName_36 : decode cX11_takeName 36 = .ok (.putfield 75, 3) := by decide +kernel
theorem dX11_takeName_39 : decode cX11_takeName 39 = .ok (.iload_n 1, 1) := by decide +kernel
theorem dX11_takeName_40 : decode cX11_takeName 40 = .ok (.ireturn, 1) := by decide +kernel
theorem dX11_hasList_0 : decode cX11_hasList 0 = .ok (.iload_n 1, 1) := by decide +kernel
theorem dX11_hasList_1 : decode cX11_hasList 1 = .ok (.ifCond .lt 15, 3) := by decide +kernel
theorem dX11_hasList_4 : decode cX11_hasList 4 = .ok (.iload_n 1, 1) := by decide +kernel
theorem dX11_hasList_5 : decode cX11_hasList 5 = .ok (.aload_n 0, 1) := by decide +kernel
theorem dX11_hasList_6 : decode cX11_hasList 6 = .ok (.getfield 37, 3) := by decide +kernel
theorem dX11_hasList_9 : decode cX11_hasList 9 = .ok (.if_icmp .ge 7, 3) := by decide +kernel
theorem dX11_hasList_12 : decode cX11_hasList 12 = .ok (.iconst 1, 1) := by decide +kernel
theorem dX11_hasList_13 : decode cX11_hasList 13 = .ok (.goto 4, 3) := by decide +kernel
theorem dX11_hasList_16 : decode cX11_hasList 16 = .ok (.iconst 0, 1) := by decide +kernel
theorem dX11_hasList_17 : decode cX11_hasList 17 = .ok (.ireturn, 1) := by decide +kernel
theorem dX11_hasStation_0 : decode cX11_hasStation 0 = .ok (.aload_n 0, 1) := by decide +kernel
theorem dX11_hasStation_1 : decode cX11_hasStation 1 = .ok (.iload_n 1, 1) := by decide +kernel
theorem dX11_hasStation_2 : decode cX11_hasStation 2 = .ok (.invokevirtual 159, 3) := by decide +kernel
theorem dX11_hasStation_5 : decode cX11_hasStation 5 = .ok (.ifCond .eq 20, 3) := by decide +kernel
theorem dX11_hasStation_8 : decode cX11_hasStation 8 = .ok (.aload_n 0, 1) := by decide +kernel
theorem dX11_hasStation_9 : decode cX11_hasStation 9 = .ok (.getfield 32, 3) := by decide +kernel
theorem dX11_hasStation_12 : decode cX11_hasStation 12 = .ok (.iload_n 1, 1) := by decide +kernel
theorem dX11_hasStation_13 : decode cX11_hasStation 13 = .ok (.aaload, 1) := by decide +kernel
theorem dX11_hasStation_14 : decode cX11_hasStation 14 = .ok (.iload_n 2, 1) := by decide +kernel
theorem dX11_hasStation_15 : decode cX11_hasStation 15 = .ok (.invokevirtual 223, 3) := by decide +kernel
theorem dX11_hasStation_18 : decode cX11_hasStation 18 = .ok (.ifCond .eq 7, 3) := by decide +kernel
theorem dX11_hasStation_21 : decode cX11_hasStation 21 = .ok (.iconst 1, 1) := by decide +kernel
theorem dX11_hasStation_22 : decode cX11_hasStation 22 = .ok (.goto 4, 3) := by decide +kernel
theorem dX11_hasStation_25 : decode cX11_hasStation 25 = .ok (.iconst 0, 1) := by decide +kernel
theorem dX11_hasStation_26 : decode cX11_hasStation 26 = .ok (.ireturn, 1) := by decide +kernel
theorem dX11_hasNumeral_0 : decode cX11_hasNumeral 0 = .ok (.aload_n 0, 1) := by decide +kernel
theorem dX11_hasNumeral_1 : decode cX11_hasNumeral 1 = .ok (.iload_n 1, 1) := by decide +kernel
theorem dX11_hasNumeral_2 : decode cX11_hasNumeral 2 = .ok (.invokevirtual 159, 3) := by decide +kernel
theorem dX11_hasNumeral_5 : decode cX11_hasNumeral 5 = .ok (.ifCond .eq 20, 3) := by decide +kernel
theorem dX11_hasNumeral_8 : decode cX11_hasNumeral 8 = .ok (.aload_n 0, 1) := by decide +kernel
theorem dX11_hasNumeral_9 : decode cX11_hasNumeral 9 = .ok (.getfield 32, 3) := by decide +kernel
theorem dX11_hasNumeral_12 : decode cX11_hasNumeral 12 = .ok (.iload_n 1, 1) := by decide +kernel
theorem dX11_hasNumeral_13 : decode cX11_hasNumeral 13 = .ok (.aaload, 1) := by decide +kernel
theorem dX11_hasNumeral_14 : decode cX11_hasNumeral 14 = .ok (.iload_n 2, 1) := by decide +kernel
theorem dX11_hasNumeral_15 : decode cX11_hasNumeral 15 = .ok (.invokevirtual 215, 3) := by decide +kernel
theorem dX11_hasNumeral_18 : decode cX11_hasNumeral 18 = .ok (.ifCond .eq 7, 3) := by decide +kernel
theorem dX11_hasNumeral_21 : decode cX11_hasNumeral 21 = .ok (.iconst 1, 1) := by decide +kernel
theorem dX11_hasNumeral_22 : decode cX11_hasNumeral 22 = .ok (.goto 4, 3) := by decide +kernel
theorem dX11_hasNumeral_25 : decode cX11_hasNumeral 25 = .ok (.iconst 0, 1) := by decide +kernel
theorem dX11_hasNumeral_26 : decode cX11_hasNumeral 26 = .ok (.ireturn, 1) := by decide +kernel
theorem dX11_isKnownDay_0 : decode cX11_isKnownDay 0 = .ok (.iload_n 1, 1) := by decide +kernel
theorem dX11_isKnownDay_1 : decode cX11_isKnownDay 1 = .ok (.ifCond .lt 15, 3) := by decide +kernel
theorem dX11_isKnownDay_4 : decode cX11_isKnownDay 4 = .ok (.iload_n 1, 1) := by decide +kernel
theorem dX11_isKnownDay_5 : decode cX11_isKnownDay 5 = .ok (.aload_n 0, 1) := by decide +kernel
theorem dX11_isKnownDay_6 : decode cX11_isKnownDay 6 = .ok (.getfield 72, 3) := by decide +kernel
theorem dX11_isKnownDay_9 : decode cX11_isKnownDay 9 = .ok (.if_icmp .gt 7, 3) := by decide +kernel
theorem dX11_isKnownDay_12 : decode cX11_isKnownDay 12 = .ok (.iconst 1, 1) := by decide +kernel
theorem dX11_isKnownDay_13 : decode cX11_isKnownDay 13 = .ok (.goto 4, 3) := by decide +kernel
theorem dX11_isKnownDay_16 : decode cX11_isKnownDay 16 = .ok (.iconst 0, 1) := by decide +kernel
theorem dX11_isKnownDay_17 : decode cX11_isKnownDay 17 = .ok (.ireturn, 1) := by decide +kernel
theorem dX11_isPlace_0 : decode cX11_isPlace 0 = .ok (.iload_n 0, 1) := by decide +kernel
theorem dX11_isPlace_1 : decode cX11_isPlace 1 = .ok (.ifCond .lt 14, 3) := by decide +kernel
theorem dX11_isPlace_4 : decode cX11_isPlace 4 = .ok (.iload_n 0, 1) := by decide +kernel
theorem dX11_isPlace_5 : decode cX11_isPlace 5 = .ok (.sipush 600, 3) := by decide +kernel
theorem dX11_isPlace_8 : decode cX11_isPlace 8 = .ok (.if_icmp .gt 7, 3) := by decide +kernel
theorem dX11_isPlace_11 : decode cX11_isPlace 11 = .ok (.iconst 1, 1) := by decide +kernel
theorem dX11_isPlace_12 : decode cX11_isPlace 12 = .ok (.goto 4, 3) := by decide +kernel
theorem dX11_isPlace_15 : decode cX11_isPlace 15 = .ok (.iconst 0, 1) := by decide +kernel
theorem dX11_isPlace_16 : decode cX11_isPlace 16 = .ok (.ireturn, 1) := by decide +kernel
theorem dX11_isUnit_0 : decode cX11_isUnit 0 = .ok (.iload_n 0, 1) := by decide +kernel
theorem dX11_isUnit_1 : decode cX11_isUnit 1 = .ok (.iconst 2, 1) := by decide +kernel
theorem dX11_isUnit_2 : decode cX11_isUnit 2 = .ok (.if_icmp .eq 8, 3) := by decide +kernel
theorem dX11_isUnit_5 : decode cX11_isUnit 5 = .ok (.iload_n 0, 1) := by decide +kernel
theorem dX11_isUnit_6 : decode cX11_isUnit 6 = .ok (.iconst 3, 1) := by decide +kernel
theorem dX11_isUnit_7 : decode cX11_isUnit 7 = .ok (.if_icmp .ne 7, 3) := by decide +kernel
theorem dX11_isUnit_10 : decode cX11_isUnit 10 = .ok (.iconst 1, 1) := by decide +kernel
theorem dX11_isUnit_11 : decode cX11_isUnit 11 = .ok (.goto 4, 3) := by decide +kernel
theorem dX11_isUnit_14 : decode cX11_isUnit 14 = .ok (.iconst 0, 1) := by decide +kernel
theorem dX11_isUnit_15 : decode cX11_isUnit 15 = .ok (.ireturn, 1) := by decide +kernel
theorem dX11_isSignOrNone_0 : decode cX11_isSignOrNone 0 = .ok (.iload_n 0, 1) := by decide +kernel
theorem dX11_isSignOrNone_1 : decode cX11_isSignOrNone 1 = .ok (.ifCond .lt 15, 3) := by decide +kernel
theorem dX11_isSignOrNone_4 : decode cX11_isSignOrNone 4 = .ok (.iload_n 0, 1) := by decide +kernel
theorem dX11_isSignOrNone_5 : decode cX11_isSignOrNone 5 = .ok (.getstatic 261, 3) := by decide +kernel
theorem dX11_isSignOrNone_8 : decode cX11_isSignOrNone 8 = .ok (.arraylength, 1) := by decide +kernel
theorem dX11_isSignOrNone_9 : decode cX11_isSignOrNone 9 = .ok (.if_icmp .ge 7, 3) := by decide +kernel
theorem dX11_isSignOrNone_12 : decode cX11_isSignOrNone 12 = .ok (.iconst 1, 1) := by decide +kernel
theorem dX11_isSignOrNone_13 : decode cX11_isSignOrNone 13 = .ok (.goto 4, 3) := by decide +kernel
theorem dX11_isSignOrNone_16 : decode cX11_isSignOrNone 16 = .ok (.iconst 0, 1) := by decide +kernel
theorem dX11_isSignOrNone_17 : decode cX11_isSignOrNone 17 = .ok (.ireturn, 1) := by decide +kernel
theorem dX11_isWidth_0 : decode cX11_isWidth 0 = .ok (.iload_n 0, 1) := by decide +kernel
theorem dX11_isWidth_1 : decode cX11_isWidth 1 = .ok (.ifCond .lt 13, 3) := by decide +kernel
theorem dX11_isWidth_4 : decode cX11_isWidth 4 = .ok (.iload_n 0, 1) := by decide +kernel
theorem dX11_isWidth_5 : decode cX11_isWidth 5 = .ok (.bipush 20, 2) := by decide +kernel
theorem dX11_isWidth_7 : decode cX11_isWidth 7 = .ok (.if_icmp .gt 7, 3) := by decide +kernel
theorem dX11_isWidth_10 : decode cX11_isWidth 10 = .ok (.iconst 1, 1) := by decide +kernel
theorem dX11_isWidth_11 : decode cX11_isWidth 11 = .ok (.goto 4, 3) := by decide +kernel
theorem dX11_isWidth_14 : decode cX11_isWidth 14 = .ok (.iconst 0, 1) := by decide +kernel
theorem dX11_isWidth_15 : decode cX11_isWidth 15 = .ok (.ireturn, 1) := by decide +kernel
theorem dX11_lay_0 : decode cX11_lay 0 = .ok (.aload_n 0, 1) := by decide +kernel
theorem dX11_lay_1 : decode cX11_lay 1 = .ok (.getfield 32, 3) := by decide +kernel
theorem dX11_lay_4 : decode cX11_lay 4 = .ok (.iload_n 1, 1) := by decide +kernel
theorem dX11_lay_5 : decode cX11_lay 5 = .ok (.aaload, 1) := by decide +kernel
theorem dX11_lay_6 : decode cX11_lay 6 = .ok (.astore_n 3, 1) := by decide +kernel
theorem dX11_lay_7 : decode cX11_lay 7 = .ok (.aload_n 0, 1) := by decide +kernel
theorem dX11_lay_8 : decode cX11_lay 8 = .ok (.getfield 68, 3) := by decide +kernel
theorem dX11_lay_11 : decode cX11_lay 11 = .ok (.aload_n 3, 1) := by decide +kernel
theorem dX11_lay_12 : decode cX11_lay 12 = .ok (.aload_n 0, 1) := by decide +kernel
theorem dX11_lay_13 : decode cX11_lay 13 = .ok (.getfield 54, 3) := by decide +kernel
theorem dX11_lay_16 : decode cX11_lay 16 = .ok (.invokevirtual 264, 3) := by decide +kernel
theorem dX11_lay_19 : decode cX11_lay 19 = .ok (.iconst 0, 1) := by decide +kernel
theorem dX11_lay_20 : decode cX11_lay 20 = .ok (.istore 4, 2) := by decide +kernel
theorem dX11_lay_22 : decode cX11_lay 22 = .ok (.iload 4, 2) := by decide +kernel
theorem dX11_lay_24 : decode cX11_lay 24 = .ok (.aload_n 3, 1) := by decide +kernel
theorem dX11_lay_25 : decode cX11_lay 25 = .ok (.getfield 212, 3) := by decide +kernel
theorem dX11_lay_28 : decode cX11_lay 28 = .ok (.if_icmp .ge 38, 3) := by decide +kernel
theorem dX11_lay_31 : decode cX11_lay 31 = .ok (.aload_n 0, 1) := by decide +kernel
theorem dX11_lay_32 : decode cX11_lay 32 = .ok (.getfield 47, 3) := by decide +kernel
theorem dX11_lay_35 : decode cX11_lay 35 = .ok (.aload_n 0, 1) := by decide +kernel
theorem dX11_lay_36 : decode cX11_lay 36 = .ok (.getfield 68, 3) := by decide +kernel
theorem dX11_lay_39 : decode cX11_lay 39 = .ok (.getfield 268, 3) := by decide +kernel
theorem dX11_lay_42 : decode cX11_lay 42 = .ok (.iload 4, 2) := by decide +kernel
theorem dX11_lay_44 : decode cX11_lay 44 = .ok (.aaload, 1) := by decide +kernel
theorem dX11_lay_45 : decode cX11_lay 45 = .ok (.aload_n 3, 1) := by decide +kernel
theorem dX11_lay_46 : decode cX11_lay 46 = .ok (.getfield 140, 3) := by decide +kernel
theorem dX11_lay_49 : decode cX11_lay 49 = .ok (.iload 4, 2) := by decide +kernel
theorem dX11_lay_51 : decode cX11_lay 51 = .ok (.aaload, 1) := by decide +kernel
theorem dX11_lay_52 : decode cX11_lay 52 = .ok (.iload_n 2, 1) := by decide +kernel
theorem dX11_lay_53 : decode cX11_lay 53 = .ok (.aload_n 0, 1) := by decide +kernel
theorem dX11_lay_54 : decode cX11_lay 54 = .ok (.getfield 61, 3) := by decide +kernel
theorem dX11_lay_57 : decode cX11_lay 57 = .ok (.invokevirtual 272, 3) := by decide +kernel
theorem dX11_lay_60 : decode cX11_lay 60 = .ok (.iinc 4 1, 3) := by decide +kernel
theorem dX11_lay_63 : decode cX11_lay 63 = .ok (.goto (-41), 3) := by decide +kernel
theorem dX11_lay_66 : decode cX11_lay 66 = .ok (.aload_n 0, 1) := by decide +kernel
theorem dX11_lay_67 : decode cX11_lay 67 = .ok (.getfield 68, 3) := by decide +kernel
theorem dX11_lay_70 : decode cX11_lay 70 = .ok (.invokevirtual 276, 3) := by decide +kernel
theorem dX11_lay_73 : decode cX11_lay 73 = .ok (.aload_n 0, 1) := by decide +kernel
theorem dX11_lay_74 : decode cX11_lay 74 = .ok (.getfield 68, 3) := by decide +kernel
theorem dX11_lay_77 : decode cX11_lay 77 = .ok (.invokevirtual 279, 3) := by decide +kernel
theorem dX11_lay_80 : decode cX11_lay 80 = .ok (.ireturn, 1) := by decide +kernel
theorem dX11_markMisread_0 : decode cX11_markMisread 0 = .ok (.aload_n 0, 1) := by decide +kernel
theorem dX11_markMisread_1 : decode cX11_markMisread 1 = .ok (.iload_n 1, 1) := by decide +kernel
theorem dX11_markMisread_2 : decode cX11_markMisread 2 = .ok (.iload_n 2, 1) := by decide +kernel
theorem dX11_markMisread_3 : decode cX11_markMisread 3 = .ok (.invokevirtual 165, 3) := by decide +kernel
theorem dX11_markMisread_6 : decode cX11_markMisread 6 = .ok (.ifCond .ne 5, 3) := by decide +kernel
theorem dX11_markMisread_9 : decode cX11_markMisread 9 = .ok (.iconst 0, 1) := by decide +kernel
theorem dX11_markMisread_10 : decode cX11_markMisread 10 = .ok (.ireturn, 1) := by decide +kernel
theorem dX11_markMisread_11 : decode cX11_markMisread 11 = .ok (.aload_n 0, 1) := by decide +kernel
theorem dX11_markMisread_12 : decode cX11_markMisread 12 = .ok (.getfield 68, 3) := by decide +kernel
theorem dX11_markMisread_15 : decode cX11_markMisread 15 = .ok (.invokevirtual 171, 3) := by decide +kernel
theorem dX11_markMisread_18 : decode cX11_markMisread 18 = .ok (.aload_n 0, 1) := by decide +kernel
theorem dX11_markMisread_19 : decode cX11_markMisread 19 = .ok (.getfield 32, 3) := by decide +kernel
theorem dX11_markMisread_22 : decode cX11_markMisread 22 = .ok (.iload_n 1, 1) := by decide +kernel
theorem dX11_markMisread_23 : decode cX11_markMisread 23 = .ok (.aaload, 1) := by decide +kernel
theorem dX11_markMisread_24 : decode cX11_markMisread 24 = .ok (.aload_n 0, 1) := by decide +kernel
theorem dX11_markMisread_25 : decode cX11_markMisread 25 = .ok (.getfield 68, 3) := by decide +kernel
theorem dX11_markMisread_28 : decode cX11_markMisread 28 = .ok (.getfield 174, 3) := by decide +kernel
theorem dX11_markMisread_31 : decode cX11_markMisread 31 = .ok (.invokevirtual 282, 3) := by decide +kernel
theorem dX11_markMisread_34 : decode cX11_markMisread 34 = .ok (.iconst 1, 1) := by decide +kernel
theorem dX11_markMisread_35 : decode cX11_markMisread 35 = .ok (.ireturn, 1) := by decide +kernel
end
section
theorem dX12_init_0 : decode cX12_init 0 = .ok (.aload_n 0, 1) := by decide +kernel
theorem dX12_init_1 : decode cX12_init 1 = .ok (.invokespecial 1, 3) := by decide +kernel
theorem dX12_init_4 : decode cX12_init 4 = .ok (.aload_n 0, 1) := by decide +kernel
theorem dX12_init_5 : decode cX12_init 5 = .ok (.sipush 200, 3) := by decide +kernel
theorem dX12_init_8 : decode cX12_init 8 = .ok (.newarray .byte, 2) := by decide +kernel
theorem dX12_init_10 : decode cX12_init 10 = .ok (.putfield 7, 3) := by decide +kernel
theorem dX12_init_13 : decode cX12_init 13 = .ok (.aload_n 0, 1) := by decide +kernel
theorem dX12_init_14 : decode cX12_init 14 = .ok (.bipush 26, 2) := by decide +kernel
theorem dX12_init_16 : decode cX12_init 16 = .ok (.newarray .int, 2) := by decide +kernel
theorem dX12_init_18 : decode cX12_init 18 = .ok (.dup, 1) := by decide +kernel
theorem dX12_init_19 : decode cX12_init 19 = .ok (.iconst 0, 1) := by decide +kernel
theorem dX12_init_20 : decode cX12_init 20 = .ok (.iconst 0, 1) := by decide +kernel
theorem dX12_init_21 : decode cX12_init 21 = .ok (.iastore, 1) := by decide +kernel
theorem dX12_init_22 : decode cX12_init 22 = .ok (.dup, 1) := by decide +kernel
theorem dX12_init_23 : decode cX12_init 23 = .ok (.iconst 1, 1) := by decide +kernel
theorem dX12_init_24 : decode cX12_init 24 = .ok (.iconst 1, 1) := by decide +kernel
theorem dX12_init_25 : decode cX12_init 25 = .ok (.iastore, 1) := by decide +kernel
theorem dX12_init_26 : decode cX12_init 26 = .ok (.dup, 1) := by decide +kernel
theorem dX12_init_27 : decode cX12_init 27 = .ok (.iconst 2, 1) := by decide +kernel
theorem dX12_init_28 : decode cX12_init 28 = .ok (.iconst 2, 1) := by decide +kernel
theorem dX12_init_29 : decode cX12_init 29 = .ok (.iastore, 1) := by decide +kernel
theorem dX12_init_30 : decode cX12_init 30 = .ok (.dup, 1) := by decide +kernel
theorem dX12_init_31 : decode cX12_init 31 = .ok (.iconst 3, 1) := by decide +kernel
theorem dX12_init_32 : decode cX12_init 32 = .ok (.iconst 3, 1) := by decide +kernel
theorem dX12_init_33 : decode cX12_init 33 = .ok (.iastore, 1) := by decide +kernel
theorem dX12_init_34 : decode cX12_init 34 = .ok (.dup, 1) := by decide +kernel
theorem dX12_init_35 : decode cX12_init 35 = .ok (.iconst 4, 1) := by decide +kernel
theorem dX12_init_36 : decode cX12_init 36 = .ok (.iconst 4, 1) := by decide +kernel
theorem dX12_init_37 : decode cX12_init 37 = .ok (.iastore, 1) := by decide +kernel
theorem dX12_init_38 : decode cX12_init 38 = .ok (.dup, 1) := by decide +kernel
theorem dX12_init_39 : decode cX12_init 39 = .ok (.iconst 5, 1) := by decide +kernel
theorem dX12_init_40 : decode cX12_init 40 = .ok (.iconst 5, 1) := by decide +kernel
theorem dX12_init_41 : decode cX12_init 41 = .ok (.iastore, 1) := by decide +kernel
theorem dX12_init_42 : decode cX12_init 42 = .ok (.dup, 1) := by decide +kernel
theorem dX12_init_43 : decode cX12_init 43 = .ok (.bipush 6, 2) := by decide +kernel
theorem dX12_init_45 : decode cX12_init 45 = .ok (.bipush 6, 2) := by decide +kernel
theorem dX12_init_47 : decode cX12_init 47 = .ok (.iastore, 1) := by decide +kernel
theorem dX12_init_48 : decode cX12_init 48 = .ok (.dup, 1) := by decide +kernel
theorem dX12_init_49 : decode cX12_init 49 = .ok (.bipush 7, 2) := by decide +kernel
theorem dX12_init_51 : decode cX12_init 51 = .ok (.bipush 7, 2) := by decide +kernel
theorem dX12_init_53 : decode cX12_init 53 = .ok (.iastore, 1) := by decide +kernel
theorem dX12_init_54 : decode cX12_init 54 = .ok (.dup, 1) := by decide +kernel
theorem dX12_init_55 : decode cX12_init 55 = .ok (.bipush 8, 2) := by decide +kernel
theorem dX12_init_57 : decode cX12_init 57 = .ok (.bipush 8, 2) := by decide +kernel
theorem dX12_init_59 : decode cX12_init 59 = .ok (.iastore, 1) := by decide +kernel
theorem dX12_init_60 : decode cX12_init 60 = .ok (.dup, 1) := by decide +kernel
theorem dX12_init_61 : decode cX12_init 61 = .ok (.bipush 9, 2) := by decide +kernel
theorem dX12_init_63 : decode cX12_init 63 = .ok (.bipush 9, 2) := by decide +kernel
theorem dX12_init_65 : decode cX12_init 65 = .ok (.iastore, 1) := by decide +kernel
theorem dX12_init_66 : decode cX12_init 66 = .ok (.dup, 1) := by decide +kernel
theorem dX12_init_67 : decode cX12_init 67 = .ok (.bipush 10, 2) := by decide +kernel
theorem dX12_init_69 : decode cX12_init 69 = .ok (.bipush 10, 2) := by decide +kernel
theorem dX12_init_71 : decode cX12_init 71 = .ok (.iastore, 1) := by decide +kernel
theorem dX12_init_72 : decode cX12_init 72 = .ok (.dup, 1) := by decide +kernel
theorem dX12_init_73 : decode cX12_init 73 = .ok (.bipush 11, 2) := by decide +kernel
theorem dX12_init_75 : decode cX12_init 75 = .ok (.bipush 11, 2) := by decide +kernel
theorem dX12_init_77 : decode cX12_init 77 = .ok (.iastore, 1) := by decide +kernel
theorem dX12_init_78 : decode cX12_init 78 = .ok (.dup, 1) := by decide +kernel
theorem dX12_init_79 : decode cX12_init 79 = .ok (.bipush 12, 2) := by decide +kernel
theorem dX12_init_81 : decode cX12_init 81 = .ok (.bipush 12, 2) := by decide +kernel
theorem dX12_init_83 : decode cX12_init 83 = .ok (.iastore, 1) := by decide +kernel
theorem dX12_init_84 : decode cX12_init 84 = .ok (.dup, 1) := by decide +kernel
theorem dX12_init_85 : decode cX12_init 85 = .ok (.bipush 13, 2) := by decide +kernel
theorem dX12_init_87 : decode cX12_init 87 = .ok (.bipush 13, 2) := by decide +kernel
theorem dX12_init_89 : decode cX12_init 89 = .ok (.iastore, 1) := by decide +kernel
theorem dX12_init_90 : decode cX12_init 90 = .ok (.dup, 1) := by decide +kernel
theorem dX12_init_91 : decode cX12_init 91 = .ok (.bipush 14, 2) := by decide +kernel
theorem dX12_init_93 : decode cX12_init 93 = .ok (.bipush 14, 2) := by decide +kernel
theorem dX12_init_95 : decode cX12_init 95 = .ok (.iastore, 1) := by decide +kernel
theorem dX12_init_96 : decode cX12_init 96 = .ok (.dup, 1) := by decide +kernel
theorem dX12_init_97 : decode cX12_init 97 = .ok (.bipush 15, 2) := by decide +kernel
theorem dX12_init_99 : decode cX12_init 99 = .ok (.bipush 15, 2) := by decide +kernel
theorem dX12_init_101 : decode cX12_init 101 = .ok (.iastore, 1) := by decide +kernel
theorem dX12_init_102 : decode cX12_init 102 = .ok (.dup, 1) := by decide +kernel
theorem dX12_init_103 : decode cX12_init 103 = .ok (.bipush 16, 2) := by decide +kernel
theorem dX12_init_105 : decode cX12_init 105 = .ok (.bipush 16, 2) := by decide +kernel
theorem dX12_init_107 : decode cX12_init 107 = .ok (.iastore, 1) := by decide +kernel
theorem dX12_init_108 : decode cX12_init 108 = .ok (.dup, 1) := by decide +kernel
theorem dX12_init_109 : decode cX12_init 109 = .ok (.bipush 17, 2) := by decide +kernel
theorem dX12_init_111 : decode cX12_init 111 = .ok (.bipush 17, 2) := by decide +kernel
theorem dX12_init_113 : decode cX12_init 113 = .ok (.iastore, 1) := by decide +kernel
theorem dX12_init_114 : decode cX12_init 114 = .ok (.dup, 1) := by decide +kernel
theorem dX12_init_115 : decode cX12_init 115 = .ok (.bipush 18, 2) := by decide +kernel
theorem dX12_init_117 : decode cX12_init 117 = .ok (.bipush 18, 2) := by decide +kernel
theorem dX12_init_119 : decode cX12_init 119 = .ok (.iastore, 1) := by decide +kernel
theorem dX12_init_120 : decode cX12_init 120 = .ok (.dup, 1) := by decide +kernel
theorem dX12_init_121 : decode cX12_init 121 = .ok (.bipush 19, 2) := by decide +kernel
theorem dX12_init_123 : decode cX12_init 123 = .ok (.bipush 19, 2) := by decide +kernel
theorem dX12_init_125 : decode cX12_init 125 = .ok (.iastore, 1) := by decide +kernel
theorem dX12_init_126 : decode cX12_init 126 = .ok (.dup, 1) := by decide +kernel
theorem dX12_init_127 : decode cX12_init 127 = .ok (.bipush 20, 2) := by decide +kernel
theorem dX12_init_129 : decode cX12_init 129 = .ok (.bipush 20, 2) := by decide +kernel
theorem dX12_init_131 : decode cX12_init 131 = .ok (.iastore, 1) := by decide +kernel
theorem dX12_init_132 : decode cX12_init 132 = .ok (.dup, 1) := by decide +kernel
theorem dX12_init_133 : decode cX12_init 133 = .ok (.bipush 21, 2) := by decide +kernel
theorem dX12_init_135 : decode cX12_init 135 = .ok (.bipush 21, 2) := by decide +kernel
theorem dX12_init_137 : decode cX12_init 137 = .ok (.iastore, 1) := by decide +kernel
theorem dX12_init_138 : decode cX12_init 138 = .ok (.dup, 1) := by decide +kernel
theorem dX12_init_139 : decode cX12_init 139 = .ok (.bipush 22, 2) := by decide +kernel
theorem dX12_init_141 : decode cX12_init 141 = .ok (.bipush 22, 2) := by decide +kernel
theorem dX12_init_143 : decode cX12_init 143 = .ok (.iastore, 1) := by decide +kernel
theorem dX12_init_144 : decode cX12_init 144 = .ok (.dup, 1) := by decide +kernel
theorem dX12_init_145 : decode cX12_init 145 = .ok (.bipush 23, 2) := by decide +kernel
theorem dX12_init_147 : decode cX12_init 147 = .ok (.bipush 23, 2) := by decide +kernel
theorem dX12_init_149 : decode cX12_init 149 = .ok (.iastore, 1) := by decide +kernel
theorem dX12_init_150 : decode cX12_init 150 = .ok (.dup, 1) := by decide +kernel
theorem dX12_init_151 : decode cX12_init 151 = .ok (.bipush 24, 2) := by decide +kernel
theorem dX12_init_153 : decode cX12_init 153 = .ok (.bipush 24, 2) := by decide +kernel
theorem dX12_init_155 : decode cX12_init 155 = .ok (.iastore, 1) := by decide +kernel
theorem dX12_init_156 : decode cX12_init 156 = .ok (.dup, 1) := by decide +kernel
theorem dX12_init_157 : decode cX12_init 157 = .ok (.bipush 25, 2) := by decide +kernel
theorem dX12_init_159 : decode cX12_init 159 = .ok (.bipush 25, 2) := by decide +kernel
theorem dX12_init_161 : decode cX12_init 161 = .ok (.iastore, 1) := by decide +kernel
theorem dX12_init_162 : decode cX12_init 162 = .ok (.putfield 13, 3) := by decide +kernel
theorem dX12_init_165 : decode cX12_init 165 = .ok (.aload_n 0, 1) := by decide +kernel
theorem dX12_init_166 : decode cX12_init 166 = .ok (.bipush 81, 2) := by decide +kernel
theorem dX12_init_168 : decode cX12_init 168 = .ok (.newarray .int, 2) := by decide +kernel
theorem dX12_init_170 : decode cX12_init 170 = .ok (.putfield 17, 3) := by decide +kernel
theorem dX12_init_173 : decode cX12_init 173 = .ok (.aload_n 0, 1) := by decide +kernel
theorem dX12_init_174 : decode cX12_init 174 = .ok (.iconst 5, 1) := by decide +kernel
theorem dX12_init_175 : decode cX12_init 175 = .ok (.newarray .int, 2) := by decide +kernel
theorem dX12_init_177 : decode cX12_init 177 = .ok (.putfield 20, 3) := by decide +kernel
theorem dX12_init_180 : decode cX12_init 180 = .ok (.aload_n 0, 1) := by decide +kernel
theorem dX12_init_181 : decode cX12_init 181 = .ok (.iconst 5, 1) := by decide +kernel
theorem dX12_init_182 : decode cX12_init 182 = .ok (.newarray .int, 2) := by decide +kernel
theorem dX12_init_184 : decode cX12_init 184 = .ok (.putfield 23, 3) := by decide +kernel
theorem dX12_init_187 : decode cX12_init 187 = .ok (.aload_n 0, 1) := by decide +kernel
theorem dX12_init_188 : decode cX12_init 188 = .ok (.bipush 50, 2) := by decide +kernel
theorem dX12_init_190 : decode cX12_init 190 = .ok (.newarray .long, 2) := by decide +kernel
theorem dX12_init_192 : decode cX12_init 192 = .ok (.putfield 26, 3) := by decide +kernel
theorem dX12_init_195 : decode cX12_init 195 = .ok (.aload_n 0, 1) := by decide +kernel
theorem dX12_init_196 : decode cX12_init 196 = .ok (.sipush 450, 3) := by decide +kernel
theorem dX12_init_199 : decode cX12_init 199 = .ok (.newarray .int, 2) := by decide +kernel
theorem dX12_init_201 : decode cX12_init 201 = .ok (.putfield 30, 3) := by decide +kernel
theorem dX12_init_204 : decode cX12_init 204 = .ok (.aload_n 0, 1) := by decide +kernel
theorem dX12_init_205 : decode cX12_init 205 = .ok (.bipush 50, 2) := by decide +kernel
theorem dX12_init_207 : decode cX12_init 207 = .ok (.newarray .int, 2) := by decide +kernel
theorem dX12_init_209 : decode cX12_init 209 = .ok (.putfield 33, 3) := by decide +kernel
theorem dX12_init_212 : decode cX12_init 212 = .ok (.aload_n 0, 1) := by decide +kernel
theorem dX12_init_213 : decode cX12_init 213 = .ok (.iconst (-1), 1) := by decide +kernel
theorem dX12_init_214 : decode cX12_init 214 = .ok (.putfield 36, 3) := by decide +kernel
theorem dX12_init_217 : decode cX12_init 217 = .ok (.aload_n 0, 1) := by decide +kernel
theorem dX12_init_218 : decode cX12_init 218 = .ok (.bipush 12, 2) := by decide +kernel
theorem dX12_init_220 : decode cX12_init 220 = .ok (.newarray .int, 2) := by decide +kernel
theorem dX12_init_222 : decode cX12_init 222 = .ok (.putfield 40, 3) := by decide +kernel
theorem dX12_init_225 : decode cX12_init 225 = .ok (.aload_n 0, 1) := by decide +kernel
theorem dX12_init_226 : decode cX12_init 226 = .ok (.bipush 12, 2) := by decide +kernel
theorem dX12_init_228 : decode cX12_init 228 = .ok (.newarray .long, 2) := by decide +kernel
theorem dX12_init_230 : decode cX12_init 230 = .ok (.putfield 43, 3) := by decide +kernel
theorem dX12_init_233 : decode cX12_init 233 = .ok (.aload_n 0, 1) := by decide +kernel
theorem dX12_init_234 : decode cX12_init 234 = .ok (.bipush 12, 2) := by decide +kernel
theorem dX12_init_236 : decode cX12_init 236 = .ok (.newarray .int, 2) := by decide +kernel
theorem dX12_init_238 : decode cX12_init 238 = .ok (.putfield 46, 3) := by decide +kernel
theorem dX12_init_241 : decode cX12_init 241 = .ok (.aload_n 0, 1) := by decide +kernel
theorem dX12_init_242 : decode cX12_init 242 = .ok (.bipush 12, 2) := by decide +kernel
theorem dX12_init_244 : decode cX12_init 244 = .ok (.newarray .int, 2) := by decide +kernel
theorem dX12_init_246 : decode cX12_init 246 = .ok (.putfield 49, 3) := by decide +kernel
theorem dX12_init_249 : decode cX12_init 249 = .ok (.aload_n 0, 1) := by decide +kernel
theorem dX12_init_250 : decode cX12_init 250 = .ok (.bipush 12, 2) := by decide +kernel
theorem dX12_init_252 : decode cX12_init 252 = .ok (.newarray .long, 2) := by decide +kernel
theorem dX12_init_254 : decode cX12_init 254 = .ok (.putfield 52, 3) := by decide +kernel
theorem dX12_init_257 : decode cX12_init 257 = .ok (.aload_n 0, 1) := by decide +kernel
theorem dX12_init_258 : decode cX12_init 258 = .ok (.bipush 12, 2) := by decide +kernel
theorem dX12_init_260 : decode cX12_init 260 = .ok (.newarray .int, 2) := by decide +kernel
theorem dX12_init_262 : decode cX12_init 262 = .ok (.putfield 55, 3) := by decide +kernel
theorem dX12_init_265 : decode cX12_init 265 = .ok (.aload_n 0, 1) := by decide +kernel
theorem dX12_init_266 : decode cX12_init 266 = .ok (.bipush 12, 2) := by decide +kernel
theorem dX12_init_268 : decode cX12_init 268 = .ok (.newarray .int, 2) := by decide +kernel
theorem dX12_init_270 : decode cX12_init 270 = .ok (.putfield 58, 3) := by decide +kernel
theorem dX12_init_273 : decode cX12_init 273 = .ok (.aload_n 0, 1) := by decide +kernel
theorem dX12_init_274 : decode cX12_init 274 = .ok (.bipush 20, 2) := by decide +kernel
theorem dX12_init_276 : decode cX12_init 276 = .ok (.newarray .int, 2) := by decide +kernel
theorem dX12_init_278 : decode cX12_init 278 = .ok (.putfield 61, 3) := by decide +kernel
theorem dX12_init_281 : decode cX12_init 281 = .ok (.aload_n 0, 1) := by decide +kernel
theorem dX12_init_282 : decode cX12_init 282 = .ok (.bipush 20, 2) := by decide +kernel
theorem dX12_init_284 : decode cX12_init 284 = .ok (.newarray .int, 2) := by decide +kernel
theorem dX12_init_286 : decode cX12_init 286 = .ok (.putfield 64, 3) := by decide +kernel
theorem dX12_init_289 : decode cX12_init 289 = .ok (.aload_n 0, 1) := by decide +kernel
theorem dX12_init_290 : decode cX12_init 290 = .ok (.bipush 20, 2) := by decide +kernel
theorem dX12_init_292 : decode cX12_init 292 = .ok (.newarray .int, 2) := by decide +kernel
theorem dX12_init_294 : decode cX12_init 294 = .ok (.putfield 67, 3) := by decide +kernel
theorem dX12_init_297 : decode cX12_init 297 = .ok (.aload_n 0, 1) := by decide +kernel
theorem dX12_init_298 : decode cX12_init 298 = .ok (.bipush 10, 2) := by decide +kernel
theorem dX12_init_300 : decode cX12_init 300 = .ok (.putfield 70, 3) := by decide +kernel
theorem dX12_init_303 : decode cX12_init 303 = .ok (.aload_n 0, 1) := by decide +kernel
theorem dX12_init_304 : decode cX12_init 304 = .ok (.bipush 6, 2) := by decide +kernel
theorem dX12_init_306 : decode cX12_init 306 = .ok (.putfield 73, 3) := by decide +kernel
theorem dX12_init_309 : decode cX12_init 309 = .ok (.aload_n 0, 1) := by decide +kernel
theorem dX12_init_310 : decode cX12_init 310 = .ok (.sipush 210, 3) := by decide +kernel
theorem dX12_init_313 : decode cX12_init 313 = .ok (.newarray .int, 2) := by decide +kernel
theorem dX12_init_315 : decode cX12_init 315 = .ok (.putfield 76, 3) := by decide +kernel
theorem dX12_init_318 : decode cX12_init 318 = .ok (.aload_n 0, 1) := by decide +kernel
theorem dX12_init_319 : decode cX12_init 319 = .ok (.sipush 210, 3) := by decide +kernel
theorem dX12_init_322 : decode cX12_init 322 = .ok (.newarray .int, 2) := by decide +kernel
theorem dX12_init_324 : decode cX12_init 324 = .ok (.putfield 79, 3) := by decide +kernel
theorem dX12_init_327 : decode cX12_init 327 = .ok (.aload_n 0, 1) := by decide +kernel
theorem dX12_init_328 : decode cX12_init 328 = .ok (.bipush 10, 2) := by decide +kernel
theorem dX12_init_330 : decode cX12_init 330 = .ok (.newarray .int, 2) := by decide +kernel
theorem dX12_init_332 : decode cX12_init 332 = .ok (.putfield 82, 3) := by decide +kernel
theorem dX12_init_335 : decode cX12_init 335 = .ok (.aload_n 0, 1) := by decide +kernel
theorem dX12_init_336 : decode cX12_init 336 = .ok (.sipush 6010, 3) := by decide +kernel
theorem dX12_init_339 : decode cX12_init 339 = .ok (.newarray .int, 2) := by decide +kernel
theorem dX12_init_341 : decode cX12_init 341 = .ok (.putfield 85, 3) := by decide +kernel
theorem dX12_init_344 : decode cX12_init 344 = .ok (.aload_n 0, 1) := by decide +kernel
theorem dX12_init_345 : decode cX12_init 345 = .ok (.sipush 6010, 3) := by decide +kernel
theorem dX12_init_348 : decode cX12_init 348 = .ok (.newarray .int, 2) := by decide +kernel
theorem dX12_init_350 : decode cX12_init 350 = .ok (.putfield 88, 3) := by decide +kernel
theorem dX12_init_353 : decode cX12_init 353 = .ok (.aload_n 0, 1) := by decide +kernel
theorem dX12_init_354 : decode cX12_init 354 = .ok (.sipush 6010, 3) := by decide +kernel
theorem dX12_init_357 : decode cX12_init 357 = .ok (.newarray .int, 2) := by decide +kernel
theorem dX12_init_359 : decode cX12_init 359 = .ok (.putfield 91, 3) := by decide +kernel
theorem dX12_init_362 : decode cX12_init 362 = .ok (.aload_n 0, 1) := by decide +kernel
theorem dX12_init_363 : decode cX12_init 363 = .ok (.bipush 10, 2) := by decide +kernel
theorem dX12_init_365 : decode cX12_init 365 = .ok (.newarray .int, 2) := by decide +kernel
theorem dX12_init_367 : decode cX12_init 367 = .ok (.putfield 94, 3) := by decide +kernel
theorem dX12_init_370 : decode cX12_init 370 = .ok (.aload_n 0, 1) := by decide +kernel
theorem dX12_init_371 : decode cX12_init 371 = .ok (.bipush 10, 2) := by decide +kernel
theorem dX12_init_373 : decode cX12_init 373 = .ok (.newarray .int, 2) := by decide +kernel
theorem dX12_init_375 : decode cX12_init 375 = .ok (.putfield 97, 3) := by decide +kernel
theorem dX12_init_378 : decode cX12_init 378 = .ok (.aload_n 0, 1) := by decide +kernel
theorem dX12_init_379 : decode cX12_init 379 = .ok (.sipush 25242, 3) := by decide +kernel
theorem dX12_init_382 : decode cX12_init 382 = .ok (.newarray .int, 2) := by decide +kernel
theorem dX12_init_384 : decode cX12_init 384 = .ok (.putfield 100, 3) := by decide +kernel
theorem dX12_init_387 : decode cX12_init 387 = .ok (.aload_n 0, 1) := by decide +kernel
theorem dX12_init_388 : decode cX12_init 388 = .ok (.bipush 10, 2) := by decide +kernel
theorem dX12_init_390 : decode cX12_init 390 = .ok (.newarray .int, 2) := by decide +kernel
theorem dX12_init_392 : decode cX12_init 392 = .ok (.putfield 103, 3) := by decide +kernel
theorem dX12_init_395 : decode cX12_init 395 = .ok (.return_, 1) := by decide +kernel
theorem dX12_thrown_0 : decode cX12_thrown 0 = .ok (.aload_n 0, 1) := by decide +kernel
theorem dX12_thrown_1 : decode cX12_thrown 1 = .ok (.getfield 106, 3) := by decide +kernel
theorem dX12_thrown_4 : decode cX12_thrown 4 = .ok (.ireturn, 1) := by decide +kernel
theorem dX12_within_0 : decode cX12_within 0 = .ok (.iload_n 0, 1) := by decide +kernel
theorem dX12_within_1 : decode cX12_within 1 = .ok (.iload_n 1, 1) := by decide +kernel
theorem dX12_within_2 : decode cX12_within 2 = .ok (.if_icmp .lt 12, 3) := by decide +kernel
theorem dX12_within_5 : decode cX12_within 5 = .ok (.iload_n 0, 1) := by decide +kernel
theorem dX12_within_6 : decode cX12_within 6 = .ok (.iload_n 2, 1) := by decide +kernel
theorem dX12_within_7 : decode cX12_within 7 = .ok (.if_icmp .gt 7, 3) := by decide +kernel
theorem dX12_within_10 : decode cX12_within 10 = .ok (.iconst 1, 1) := by decide +kernel
theorem dX12_within_11 : decode cX12_within 11 = .ok (.goto 4, 3) := by decide +kernel
theorem dX12_within_14 : decode cX12_within 14 = .ok (.iconst 0, 1) := by decide +kernel
theorem dX12_within_15 : decode cX12_within 15 = .ok (.ireturn, 1) := by decide +kernel
theorem dX12_feed_0 : decode cX12_feed 0 = .ok (.aload_n 0, 1) := by decide +kernel
theorem dX12_feed_1 : decode cX12_feed 1 = .ok (.iconst 0, 1) := by decide +kernel
theorem dX12_feed_2 : decode cX12_feed 2 = .ok (.putfield 106, 3) := by decide +kernel
theorem dX12_feed_5 : decode cX12_feed 5 = .ok (.aload_n 0, 1) := by decide +kernel
theorem dX12_feed_6 : decode cX12_feed 6 = .ok (.getfield 109, 3) := by decide +kernel
theorem dX12_feed_9 : decode cX12_feed 9 = .ok (.sipush 180, 3) := by decide +kernel
theorem dX12_feed_12 : decode cX12_feed 12 = .ok (.if_icmp .le 5, 3) := by decide +kernel
theorem dX12_feed_15 : decode cX12_feed 15 = .ok (.iconst (-1), 1) := by decide +kernel
theorem dX12_feed_16 : decode cX12_feed 16 = .ok (.ireturn, 1) := by decide +kernel
theorem dX12_feed_17 : decode cX12_feed 17 = .ok (.iconst 0, 1) := by decide +kernel
theorem dX12_feed_18 : decode cX12_feed 18 = .ok (.istore 6, 2) := by decide +kernel
theorem dX12_feed_20 : decode cX12_feed 20 = .ok (.iload 6, 2) := by decide +kernel
theorem dX12_feed_22 : decode cX12_feed 22 = .ok (.bipush 20, 2) := by decide +kernel
theorem dX12_feed_24 : decode cX12_feed 24 = .ok (.if_icmp .ge 90, 3) := by decide +kernel
theorem dX12_feed_27 : decode cX12_feed 27 = .ok (.iload 6, 2) := by decide +kernel
theorem dX12_feed_29 : decode cX12_feed 29 = .ok (.iconst 4, 1) := by decide +kernel
theorem dX12_feed_30 : decode cX12_feed 30 = .ok (.if_icmp .ge 7, 3) := by decide +kernel
theorem dX12_feed_33 : decode cX12_feed 33 = .ok (.iload_n 1, 1) := by decide +kernel
theorem dX12_feed_34 : decode cX12_feed 34 = .ok (.goto 39, 3) := by decide +kernel
theorem dX12_feed_37 : decode cX12_feed 37 = .ok (.iload 6, 2) := by decide +kernel
theorem dX12_feed_39 : decode cX12_feed 39 = .ok (.bipush 8, 2) := by decide +kernel
theorem dX12_feed_41 : decode cX12_feed 41 = .ok (.if_icmp .ge 7, 3) := by decide +kernel
theorem dX12_feed_44 : decode cX12_feed 44 = .ok (.iload_n 2, 1) := by decide +kernel
theorem dX12_feed_45 : decode cX12_feed 45 = .ok (.goto 28, 3) := by decide +kernel
theorem dX12_feed_48 : decode cX12_feed 48 = .ok (.iload 6, 2) := by decide +kernel
theorem dX12_feed_50 : decode cX12_feed 50 = .ok (.bipush 12, 2) := by decide +kernel
theorem dX12_feed_52 : decode cX12_feed 52 = .ok (.if_icmp .ge 7, 3) := by decide +kernel
theorem dX12_feed_55 : decode cX12_feed 55 = .ok (.iload_n 3, 1) := by decide +kernel
theorem dX12_feed_56 : decode cX12_feed 56 = .ok (.goto 17, 3) := by decide +kernel
theorem dX12_feed_59 : decode cX12_feed 59 = .ok (.iload 6, 2) := by decide +kernel
theorem dX12_feed_61 : decode cX12_feed 61 = .ok (.bipush 16, 2) := by decide +kernel
theorem dX12_feed_63 : decode cX12_feed 63 = .ok (.if_icmp .ge 8, 3) := by decide +kernel
theorem dX12_feed_66 : decode cX12_feed 66 = .ok (.iload 4, 2) := by decide +kernel
theorem dX12_feed_68 : decode cX12_feed 68 = .ok (.goto 5, 3) := by decide +kernel
theorem dX12_feed_71 : decode cX12_feed 71 = .ok (.iload 5, 2) := by decide +kernel
theorem dX12_feed_73 : decode cX12_feed 73 = .ok (.istore 7, 2) := by decide +kernel
theorem dX12_feed_75 : decode cX12_feed 75 = .ok (.aload_n 0, 1) := by decide +kernel
theorem dX12_feed_76 : decode cX12_feed 76 = .ok (.getfield 7, 3) := by decide +kernel
theorem dX12_feed_79 : decode cX12_feed 79 = .ok (.aload_n 0, 1) := by decide +kernel
theorem dX12_feed_80 : decode cX12_feed 80 = .ok (.getfield 109, 3) := by decide +kernel
theorem dX12_feed_83 : decode cX12_feed 83 = .ok (.iload 7, 2) := by decide +kernel
theorem dX12_feed_85 : decode cX12_feed 85 = .ok (.bipush 24, 2) := by decide +kernel
theorem dX12_feed_87 : decode cX12_feed 87 = .ok (.bipush 8, 2) := by decide +kernel
theorem dX12_feed_89 : decode cX12_feed 89 = .ok (.iload 6, 2) := by decide +kernel
theorem dX12_feed_91 : decode cX12_feed 91 = .ok (.iconst 4, 1) := by decide +kernel
theorem dX12_feed_92 : decode cX12_feed 92 = .ok (.irem, 1) := by decide +kernel
theorem dX12_feed_93 : decode cX12_feed 93 = .ok (.imul, 1) := by decide +kernel
theorem dX12_feed_94 : decode cX12_feed 94 = .ok (.isub, 1) := by decide +kernel
theorem dX12_feed_95 : decode cX12_feed 95 = .ok (.ishr, 1) := by decide +kernel
theorem dX12_feed_96 : decode cX12_feed 96 = .ok (.i2b, 1) := by decide +kernel
theorem dX12_feed_97 : decode cX12_feed 97 = .ok (.bastore, 1) := by decide +kernel
theorem dX12_feed_98 : decode cX12_feed 98 = .ok (.aload_n 0, 1) := by decide +kernel
theorem dX12_feed_99 : decode cX12_feed 99 = .ok (.dup, 1) := by decide +kernel
theorem dX12_feed_100 : decode cX12_feed 100 = .ok (.getfield 109, 3) := by decide +kernel
theorem dX12_feed_103 : decode cX12_feed 103 = .ok (.iconst 1, 1) := by decide +kernel
theorem dX12_feed_104 : decode cX12_feed 104 = .ok (.iadd, 1) := by decide +kernel
theorem dX12_feed_105 : decode cX12_feed 105 = .ok (.putfield 109, 3) := by decide +kernel
theorem dX12_feed_108 : decode cX12_feed 108 = .ok (.iinc 6 1, 3) := by decide +kernel
theorem dX12_feed_111 : decode cX12_feed 111 = .ok (.goto (-91), 3) := by decide +kernel
theorem dX12_feed_114 : decode cX12_feed 114 = .ok (.aload_n 0, 1) := by decide +kernel
theorem dX12_feed_115 : decode cX12_feed 115 = .ok (.getfield 109, 3) := by decide +kernel
theorem dX12_feed_118 : decode cX12_feed 118 = .ok (.ireturn, 1) := by decide +kernel
theorem dX12_end_0 : decode cX12_end 0 = .ok (.aload_n 0, 1) := by decide +kernel
theorem dX12_end_1 : decode cX12_end 1 = .ok (.iconst 0, 1) := by decide +kernel
theorem dX12_end_2 : decode cX12_end 2 = .ok (.putfield 106, 3) := by decide +kernel
theorem dX12_end_5 : decode cX12_end 5 = .ok (.iload_n 1, 1) := by decide +kernel
theorem dX12_end_6 : decode cX12_end 6 = .ok (.iconst 0, 1) := by decide +kernel
theorem dX12_end_7 : decode cX12_end 7 = .ok (.aload_n 0, 1) := by decide +kernel
theorem dX12_end_8 : decode cX12_end 8 = .ok (.getfield 109, 3) := by decide +kernel
theorem dX12_end_11 : decode cX12_end 11 = .ok (.invokestatic 112, 3) := by decide +kernel
theorem dX12_end_14 : decode cX12_end 14 = .ok (.ifCond .ne 5, 3) := by decide +kernel
theorem dX12_end_17 : decode cX12_end 17 = .ok (.iconst (-1), 1) := by decide +kernel
theorem dX12_end_18 : decode cX12_end 18 = .ok (.ireturn, 1) := by decide +kernel
theorem dX12_end_19 : decode cX12_end 19 = .ok (.aload_n 0, 1) := by decide +kernel
theorem dX12_end_20 : decode cX12_end 20 = .ok (.iload_n 1, 1) := by decide +kernel
theorem dX12_end_21 : decode cX12_end 21 = .ok (.putfield 109, 3) := by decide +kernel
theorem dX12_end_24 : decode cX12_end 24 = .ok (.iload_n 1, 1) := by decide +kernel
theorem dX12_end_25 : decode cX12_end 25 = .ok (.ireturn, 1) := by decide +kernel
theorem dX12_byteAt_0 : decode cX12_byteAt 0 = .ok (.iload_n 1, 1) := by decide +kernel
theorem dX12_byteAt_1 : decode cX12_byteAt 1 = .ok (.aload_n 0, 1) := by decide +kernel
theorem dX12_byteAt_2 : decode cX12_byteAt 2 = .ok (.getfield 109, 3) := by decide +kernel
theorem dX12_byteAt_5 : decode cX12_byteAt 5 = .ok (.if_icmp .ge 16, 3) := by decide +kernel
theorem dX12_byteAt_8 : decode cX12_byteAt 8 = .ok (.aload_n 0, 1) := by decide +kernel
theorem dX12_byteAt_9 : decode cX12_byteAt 9 = .ok (.getfield 7, 3) := by decide +kernel
theorem dX12_byteAt_12 : decode cX12_byteAt 12 = .ok (.iload_n 1, 1) := by decide +kernel
theorem dX12_byteAt_13 : decode cX12_byteAt 13 = .ok (.baload, 1) := by decide +kernel
theorem dX12_byteAt_14 : decode cX12_byteAt 14 = .ok (.sipush 255, 3) := by decide +kernel
theorem dX12_byteAt_17 : decode cX12_byteAt 17 = .ok (.iand, 1) := by decide +kernel
theorem dX12_byteAt_18 : decode cX12_byteAt 18 = .ok (.goto 4, 3) := by decide +kernel
theorem dX12_byteAt_21 : decode cX12_byteAt 21 = .ok (.iconst 0, 1) := by decide +kernel
theorem dX12_byteAt_22 : decode cX12_byteAt 22 = .ok (.ireturn, 1) := by decide +kernel
theorem dX12_nameOf_0 : decode cX12_nameOf 0 = .ok (.lconst 0, 1) := by decide +kernel
theorem dX12_nameOf_1 : decode cX12_nameOf 1 = .ok (.lstore_n 3, 1) := by decide +kernel
theorem dX12_nameOf_2 : decode cX12_nameOf 2 = .ok (.iload_n 2, 1) := by decide +kernel
theorem dX12_nameOf_3 : decode cX12_nameOf 3 = .ok (.iload_n 1, 1) := by decide +kernel
theorem dX12_nameOf_4 : decode cX12_nameOf 4 = .ok (.if_icmp .le 15, 3) := by decide +kernel
theorem dX12_nameOf_7 : decode cX12_nameOf 7 = .ok (.iload_n 2, 1) := by decide +kernel
theorem dX12_nameOf_8 : decode cX12_nameOf 8 = .ok (.iload_n 1, 1) := by decide +kernel
theorem dX12_nameOf_9 : decode cX12_nameOf 9 = .ok (.isub, 1) := by decide +kernel
theorem dX12_nameOf_10 : decode cX12_nameOf 10 = .ok (.bipush 8, 2) := by decide +kernel
theorem dX12_nameOf_12 : decode cX12_nameOf 12 = .ok (.if_icmp .gt 7, 3) := by decide +kernel
theorem dX12_nameOf_15 : decode cX12_nameOf 15 = .ok (.iconst 1, 1) := by decide +kernel
theorem dX12_nameOf_16 : decode cX12_nameOf 16 = .ok (.goto 4, 3) := by decide +kernel
theorem dX12_nameOf_19 : decode cX12_nameOf 19 = .ok (.iconst 0, 1) := by decide +kernel
theorem dX12_nameOf_20 : decode cX12_nameOf 20 = .ok (.istore 5, 2) := by decide +kernel
theorem dX12_nameOf_22 : decode cX12_nameOf 22 = .ok (.iload_n 1, 1) := by decide +kernel
theorem dX12_nameOf_23 : decode cX12_nameOf 23 = .ok (.istore 6, 2) := by decide +kernel
theorem dX12_nameOf_25 : decode cX12_nameOf 25 = .ok (.iload 6, 2) := by decide +kernel
theorem dX12_nameOf_27 : decode cX12_nameOf 27 = .ok (.iload_n 2, 1) := by decide +kernel
theorem dX12_nameOf_28 : decode cX12_nameOf 28 = .ok (.if_icmp .ge 42, 3) := by decide +kernel
theorem dX12_nameOf_31 : decode cX12_nameOf 31 = .ok (.iload 5, 2) := by decide +kernel
theorem dX12_nameOf_33 : decode cX12_nameOf 33 = .ok (.ifCond .eq 37, 3) := by decide +kernel
theorem dX12_nameOf_36 : decode cX12_nameOf 36 = .ok (.aload_n 0, 1) := by decide +kernel
theorem dX12_nameOf_37 : decode cX12_nameOf 37 = .ok (.iload 6, 2) := by decide +kernel
theorem dX12_nameOf_39 : decode cX12_nameOf 39 = .ok (.invokevirtual 116, 3) := by decide +kernel
theorem dX12_nameOf_42 : decode cX12_nameOf 42 = .ok (.bipush 97, 2) := by decide +kernel
theorem dX12_nameOf_44 : decode cX12_nameOf 44 = .ok (.bipush 122, 2) := by decide +kernel
theorem dX12_nameOf_46 : decode cX12_nameOf 46 = .ok (.invokestatic 112, 3) := by decide +kernel
theorem dX12_nameOf_49 : decode cX12_nameOf 49 = .ok (.istore 5, 2) := by decide +kernel
theorem dX12_nameOf_51 : decode cX12_nameOf 51 = .ok (.lload_n 3, 1) := by decide +kernel
theorem dX12_nameOf_52 : decode cX12_nameOf 52 = .ok (.bipush 8, 2) := by decide +kernel
theorem dX12_nameOf_54 : decode cX12_nameOf 54 = .ok (.lshl, 1) := by decide +kernel
theorem dX12_nameOf_55 : decode cX12_nameOf 55 = .ok (.aload_n 0, 1) := by decide +kernel
theorem dX12_nameOf_56 : decode cX12_nameOf 56 = .ok (.iload 6, 2) := by decide +kernel
theorem dX12_nameOf_58 : decode cX12_nameOf 58 = .ok (.invokevirtual 116, 3) := by decide +kernel
theorem dX12_nameOf_61 : decode cX12_nameOf 61 = .ok (.i2l, 1) := by decide +kernel
theorem dX12_nameOf_62 : decode cX12_nameOf 62 = .ok (.lor, 1) := by decide +kernel
theorem dX12_nameOf_63 : decode cX12_nameOf 63 = .ok (.lstore_n 3, 1) := by decide +kernel
theorem dX12_nameOf_64 : decode cX12_nameOf 64 = .ok (.iinc 6 1, 3) := by decide +kernel
theorem dX12_nameOf_67 : decode cX12_nameOf 67 = .ok (.goto (-42), 3) := by decide +kernel
theorem dX12_nameOf_70 : decode cX12_nameOf 70 = .ok (.iload 5, 2) := by decide +kernel
theorem dX12_nameOf_72 : decode cX12_nameOf 72 = .ok (.ifCond .eq 7, 3) := by decide +kernel
theorem dX12_nameOf_75 : decode cX12_nameOf 75 = .ok (.lload_n 3, 1) := by decide +kernel
theorem dX12_nameOf_76 : decode cX12_nameOf 76 = .ok (.goto 4, 3) := by decide +kernel
theorem dX12_nameOf_79 : decode cX12_nameOf 79 = .ok (.lconst 0, 1) := by decide +kernel
theorem dX12_nameOf_80 : decode cX12_nameOf 80 = .ok (.lreturn, 1) := by decide +kernel
theorem dX12_tapeName_0 : decode cX12_tapeName 0 = .ok (.aload_n 0, 1) := by decide +kernel
theorem dX12_tapeName_1 : decode cX12_tapeName 1 = .ok (.iconst 0, 1) := by decide +kernel
theorem dX12_tapeName_2 : decode cX12_tapeName 2 = .ok (.aload_n 0, 1) := by decide +kernel
theorem dX12_tapeName_3 : decode cX12_tapeName 3 = .ok (.getfield 109, 3) := by decide +kernel
theorem dX12_tapeName_6 : decode cX12_tapeName 6 = .ok (.invokevirtual 120, 3) := by decide +kernel
theorem dX12_tapeName_9 : decode cX12_tapeName 9 = .ok (.lstore_n 1, 1) := by decide +kernel
theorem dX12_tapeName_10 : decode cX12_tapeName 10 = .ok (.aload_n 0, 1) := by decide +kernel
theorem dX12_tapeName_11 : decode cX12_tapeName 11 = .ok (.iconst 0, 1) := by decide +kernel
theorem dX12_tapeName_12 : decode cX12_tapeName 12 = .ok (.putfield 109, 3) := by decide +kernel
theorem dX12_tapeName_15 : decode cX12_tapeName 15 = .ok (.lload_n 1, 1) := by decide +kernel
theorem dX12_tapeName_16 : decode cX12_tapeName 16 = .ok (.lreturn, 1) := by decide +kernel
theorem dX12_letters_0 : decode cX12_letters 0 = .ok (.iconst 0, 1) := by decide +kernel
theorem dX12_letters_1 : decode cX12_letters 1 = .ok (.istore_n 2, 1) := by decide +kernel
theorem dX12_letters_2 : decode cX12_letters 2 = .ok (.lload_n 0, 1) := by decide +kernel
theorem dX12_letters_3 : decode cX12_letters 3 = .ok (.lstore_n 3, 1) := by decide +kernel
theorem dX12_letters_4 : decode cX12_letters 4 = .ok (.lload_n 3, 1) := by decide +kernel
theorem dX12_letters_5 : decode cX12_letters 5 = .ok (.lconst 0, 1) := by decide +kernel
theorem dX12_letters_6 : decode cX12_letters 6 = .ok (.lcmp, 1) := by decide +kernel
theorem dX12_letters_7 : decode cX12_letters 7 = .ok (.ifCond .eq 14, 3) := by decide +kernel
theorem dX12_letters_10 : decode cX12_letters 10 = .ok (.iinc 2 1, 3) := by decide +kernel
theorem dX12_letters_13 : decode cX12_letters 13 = .ok (.lload_n 3, 1) := by decide +kernel
theorem dX12_letters_14 : decode cX12_letters 14 = .ok (.bipush 8, 2) := by decide +kernel
theorem dX12_letters_16 : decode cX12_letters 16 = .ok (.lushr, 1) := by decide +kernel
theorem dX12_letters_17 : decode cX12_letters 17 = .ok (.lstore_n 3, 1) := by decide +kernel
theorem dX12_letters_18 : decode cX12_letters 18 = .ok (.goto (-14), 3) := by decide +kernel
theorem dX12_letters_21 : decode cX12_letters 21 = .ok (.iload_n 2, 1) := by decide +kernel
theorem dX12_letters_22 : decode cX12_letters 22 = .ok (.ireturn, 1) := by decide +kernel
theorem dX12_letterOf_0 : decode cX12_letterOf 0 = .ok (.lload_n 0, 1) := by decide +kernel
theorem dX12_letterOf_1 : decode cX12_letterOf 1 = .ok (.bipush 8, 2) := by decide +kernel
theorem dX12_letterOf_3 : decode cX12_letterOf 3 = .ok (.lload_n 0, 1) := by decide +kernel
theorem dX12_letterOf_4 : decode cX12_letterOf 4 = .ok (.invokestatic 124, 3) := by decide +kernel
theorem dX12_letterOf_7 : decode cX12_letterOf 7 = .ok (.iconst 1, 1) := by decide +kernel
theorem dX12_letterOf_8 : decode cX12_letterOf 8 = .ok (.isub, 1) := by decide +kernel
theorem dX12_letterOf_9 : decode cX12_letterOf 9 = .ok (.iload_n 2, 1) := by decide +kernel
theorem dX12_letterOf_10 : decode cX12_letterOf 10 = .ok (.isub, 1) := by decide +kernel
theorem dX12_letterOf_11 : decode cX12_letterOf 11 = .ok (.imul, 1) := by decide +kernel
theorem dX12_letterOf_12 : decode cX12_letterOf 12 = .ok (.lushr, 1) := by decide +kernel
theorem dX12_letterOf_13 : decode cX12_letterOf 13 = .ok (.ldc2_w 128, 3) := by decide +kernel
theorem dX12_letterOf_16 : decode cX12_letterOf 16 = .ok (.land, 1) := by decide +kernel
theorem dX12_letterOf_17 : decode cX12_letterOf 17 = .ok (.l2i, 1) := by decide +kernel
theorem dX12_letterOf_18 : decode cX12_letterOf 18 = .ok (.ireturn, 1) := by decide +kernel
theorem dX12_sound_0 : decode cX12_sound 0 = .ok (.aload_n 0, 1) := by decide +kernel
theorem dX12_sound_1 : decode cX12_sound 1 = .ok (.iconst 0, 1) := by decide +kernel
theorem dX12_sound_2 : decode cX12_sound 2 = .ok (.putfield 106, 3) := by decide +kernel
theorem dX12_sound_5 : decode cX12_sound 5 = .ok (.iload_n 1, 1) := by decide +kernel
theorem dX12_sound_6 : decode cX12_sound 6 = .ok (.iconst 0, 1) := by decide +kernel
theorem dX12_sound_7 : decode cX12_sound 7 = .ok (.bipush 25, 2) := by decide +kernel
theorem dX12_sound_9 : decode cX12_sound 9 = .ok (.invokestatic 112, 3) := by decide +kernel
theorem dX12_sound_12 : decode cX12_sound 12 = .ok (.ifCond .eq 28, 3) := by decide +kernel
theorem dX12_sound_15 : decode cX12_sound 15 = .ok (.iload_n 2, 1) := by decide +kernel
theorem dX12_sound_16 : decode cX12_sound 16 = .ok (.iconst 0, 1) := by decide +kernel
theorem dX12_sound_17 : decode cX12_sound 17 = .ok (.bipush 25, 2) := by decide +kernel
theorem dX12_sound_19 : decode cX12_sound 19 = .ok (.invokestatic 112, 3) := by decide +kernel
theorem dX12_sound_22 : decode cX12_sound 22 = .ok (.ifCond .eq 18, 3) := by decide +kernel
theorem dX12_sound_25 : decode cX12_sound 25 = .ok (.aload_n 0, 1) := by decide +kernel
theorem dX12_sound_26 : decode cX12_sound 26 = .ok (.getfield 13, 3) := by decide +kernel
theorem dX12_sound_29 : decode cX12_sound 29 = .ok (.iload_n 1, 1) := by decide +kernel
theorem dX12_sound_30 : decode cX12_sound 30 = .ok (.iaload, 1) := by decide +kernel
theorem dX12_sound_31 : decode cX12_sound 31 = .ok (.aload_n 0, 1) := by decide +kernel
theorem dX12_sound_32 : decode cX12_sound 32 = .ok (.getfield 13, 3) := by decide +kernel
theorem dX12_sound_35 : decode cX12_sound 35 = .ok (.iload_n 2, 1) := by decide +kernel
theorem dX12_sound_36 : decode cX12_sound 36 = .ok (.iaload, 1) := by decide +kernel
theorem dX12_sound_37 : decode cX12_sound 37 = .ok (.if_icmp .ne 5, 3) := by decide +kernel
theorem dX12_sound_40 : decode cX12_sound 40 = .ok (.iconst 0, 1) := by decide +kernel
theorem dX12_sound_41 : decode cX12_sound 41 = .ok (.ireturn, 1) := by decide +kernel
theorem dX12_sound_42 : decode cX12_sound 42 = .ok (.aload_n 0, 1) := by decide +kernel
theorem dX12_sound_43 : decode cX12_sound 43 = .ok (.getfield 13, 3) := by decide +kernel
theorem dX12_sound_46 : decode cX12_sound 46 = .ok (.iload_n 2, 1) := by decide +kernel
theorem dX12_sound_47 : decode cX12_sound 47 = .ok (.iaload, 1) := by decide +kernel
theorem dX12_sound_48 : decode cX12_sound 48 = .ok (.istore_n 3, 1) := by decide +kernel
theorem dX12_sound_49 : decode cX12_sound 49 = .ok (.iconst 0, 1) := by decide +kernel
theorem dX12_sound_50 : decode cX12_sound 50 = .ok (.istore 4, 2) := by decide +kernel
theorem dX12_sound_52 : decode cX12_sound 52 = .ok (.iload 4, 2) := by decide +kernel
theorem dX12_sound_54 : decode cX12_sound 54 = .ok (.bipush 26, 2) := by decide +kernel
theorem dX12_sound_56 : decode cX12_sound 56 = .ok (.if_icmp .ge 33, 3) := by decide +kernel
theorem dX12_sound_59 : decode cX12_sound 59 = .ok (.aload_n 0, 1) := by decide +kernel
theorem dX12_sound_60 : decode cX12_sound 60 = .ok (.getfield 13, 3) := by decide +kernel
theorem dX12_sound_63 : decode cX12_sound 63 = .ok (.iload 4, 2) := by decide +kernel
theorem dX12_sound_65 : decode cX12_sound 65 = .ok (.iaload, 1) := by decide +kernel
theorem dX12_sound_66 : decode cX12_sound 66 = .ok (.iload_n 3, 1) := by decide +kernel
theorem dX12_sound_67 : decode cX12_sound 67 = .ok (.if_icmp .ne 16, 3) := by decide +kernel
theorem dX12_sound_70 : decode cX12_sound 70 = .ok (.aload_n 0, 1) := by decide +kernel
theorem dX12_sound_71 : decode cX12_sound 71 = .ok (.getfield 13, 3) := by decide +kernel
theorem dX12_sound_74 : decode cX12_sound 74 = .ok (.iload 4, 2) := by decide +kernel
theorem dX12_sound_76 : decode cX12_sound 76 = .ok (.aload_n 0, 1) := by decide +kernel
theorem dX12_sound_77 : decode cX12_sound 77 = .ok (.getfield 13, 3) := by decide +kernel
theorem dX12_sound_80 : decode cX12_sound 80 = .ok (.iload_n 1, 1) := by decide +kernel
theorem dX12_sound_81 : decode cX12_sound 81 = .ok (.iaload, 1) := by decide +kernel
theorem dX12_sound_82 : decode cX12_sound 82 = .ok (.iastore, 1) := by decide +kernel
theorem dX12_sound_83 : decode cX12_sound 83 = .ok (.iinc 4 1, 3) := by decide +kernel
theorem dX12_sound_86 : decode cX12_sound 86 = .ok (.goto (-34), 3) := by decide +kernel
theorem dX12_sound_89 : decode cX12_sound 89 = .ok (.iconst 1, 1) := by decide +kernel
theorem dX12_sound_90 : decode cX12_sound 90 = .ok (.ireturn, 1) := by decide +kernel
theorem dX12_apart_0 : decode cX12_apart 0 = .ok (.lload_n 1, 1) := by decide +kernel
theorem dX12_apart_1 : decode cX12_apart 1 = .ok (.invokestatic 124, 3) := by decide +kernel
theorem dX12_apart_4 : decode cX12_apart 4 = .ok (.istore 5, 2) := by decide +kernel
theorem dX12_apart_6 : decode cX12_apart 6 = .ok (.lload_n 3, 1) := by decide +kernel
theorem dX12_apart_7 : decode cX12_apart 7 = .ok (.invokestatic 124, 3) := by decide +kernel
theorem dX12_apart_10 : decode cX12_apart 10 = .ok (.istore 6, 2) := by decide +kernel
theorem dX12_apart_12 : decode cX12_apart 12 = .ok (.iload 5, 2) := by decide +kernel
theorem dX12_apart_14 : decode cX12_apart 14 = .ok (.istore 7, 2) := by decide +kernel
theorem dX12_apart_16 : decode cX12_apart 16 = .ok (.iload 7, 2) := by decide +kernel
theorem dX12_apart_18 : decode cX12_apart 18 = .ok (.ifCond .lt 171, 3) := by decide +kernel
theorem dX12_apart_21 : decode cX12_apart 21 = .ok (.iload 6, 2) := by decide +kernel
theorem dX12_apart_23 : decode cX12_apart 23 = .ok (.istore 8, 2) := by decide +kernel
theorem dX12_apart_25 : decode cX12_apart 25 = .ok (.iload 8, 2) := by decide +kernel
theorem dX12_apart_27 : decode cX12_apart 27 = .ok (.ifCond .lt 156, 3) := by decide +kernel
theorem dX12_apart_30 : decode cX12_apart 30 = .ok (.iconst 2, 1) := by decide +kernel
theorem dX12_apart_31 : decode cX12_apart 31 = .ok (.iload 5, 2) := by decide +kernel
theorem dX12_apart_33 : decode cX12_apart 33 = .ok (.iload 7, 2) := by decide +kernel
theorem dX12_apart_35 : decode cX12_apart 35 = .ok (.isub, 1) := by decide +kernel
theorem dX12_apart_36 : decode cX12_apart 36 = .ok (.iload 6, 2) := by decide +kernel
theorem dX12_apart_38 : decode cX12_apart 38 = .ok (.iadd, 1) := by decide +kernel
theorem dX12_apart_39 : decode cX12_apart 39 = .ok (.iload 8, 2) := by decide +kernel
theorem dX12_apart_41 : decode cX12_apart 41 = .ok (.isub, 1) := by decide +kernel
theorem dX12_apart_42 : decode cX12_apart 42 = .ok (.imul, 1) := by decide +kernel
theorem dX12_apart_43 : decode cX12_apart 43 = .ok (.istore 9, 2) := by decide +kernel
theorem dX12_apart_45 : decode cX12_apart 45 = .ok (.iload 7, 2) := by decide +kernel
theorem dX12_apart_47 : decode cX12_apart 47 = .ok (.iload 5, 2) := by decide +kernel
theorem dX12_apart_49 : decode cX12_apart 49 = .ok (.if_icmp .ge 27, 3) := by decide +kernel
theorem dX12_apart_52 : decode cX12_apart 52 = .ok (.iload 9, 2) := by decide +kernel
theorem dX12_apart_54 : decode cX12_apart 54 = .ok (.aload_n 0, 1) := by decide +kernel
theorem dX12_apart_55 : decode cX12_apart 55 = .ok (.getfield 17, 3) := by decide +kernel
theorem dX12_apart_58 : decode cX12_apart 58 = .ok (.bipush 9, 2) := by decide +kernel
theorem dX12_apart_60 : decode cX12_apart 60 = .ok (.iload 7, 2) := by decide +kernel
theorem dX12_apart_62 : decode cX12_apart 62 = .ok (.iconst 1, 1) := by decide +kernel
theorem dX12_apart_63 : decode cX12_apart 63 = .ok (.iadd, 1) := by decide +kernel
theorem dX12_apart_64 : decode cX12_apart 64 = .ok (.imul, 1) := by decide +kernel
theorem dX12_apart_65 : decode cX12_apart 65 = .ok (.iload 8, 2) := by decide +kernel
theorem dX12_apart_67 : decode cX12_apart 67 = .ok (.iadd, 1) := by decide +kernel
theorem dX12_apart_68 : decode cX12_apart 68 = .ok (.iaload, 1) := by decide +kernel
theorem dX12_apart_69 : decode cX12_apart 69 = .ok (.iconst 2, 1) := by decide +kernel
theorem dX12_apart_70 : decode cX12_apart 70 = .ok (.iadd, 1) := by decide +kernel
theorem dX12_apart_71 : decode cX12_apart 71 = .ok (.invokestatic 130, 3) := by decide +kernel
theorem dX12_apart_74 : decode cX12_apart 74 = .ok (.istore 9, 2) := by decide +kernel
theorem dX12_apart_76 : decode cX12_apart 76 = .ok (.iload 8, 2) := by decide +kernel
theorem dX12_apart_78 : decode cX12_apart 78 = .ok (.iload 6, 2) := by decide +kernel
theorem dX12_apart_80 : decode cX12_apart 80 = .ok (.if_icmp .ge 27, 3) := by decide +kernel
theorem dX12_apart_83 : decode cX12_apart 83 = .ok (.iload 9, 2) := by decide +kernel
theorem dX12_apart_85 : decode cX12_apart 85 = .ok (.aload_n 0, 1) := by decide +kernel
theorem dX12_apart_86 : decode cX12_apart 86 = .ok (.getfield 17, 3) := by decide +kernel
theorem dX12_apart_89 : decode cX12_apart 89 = .ok (.bipush 9, 2) := by decide +kernel
theorem dX12_apart_91 : decode cX12_apart 91 = .ok (.iload 7, 2) := by decide +kernel
theorem dX12_apart_93 : decode cX12_apart 93 = .ok (.imul, 1) := by decide +kernel
theorem dX12_apart_94 : decode cX12_apart 94 = .ok (.iload 8, 2) := by decide +kernel
theorem dX12_apart_96 : decode cX12_apart 96 = .ok (.iadd, 1) := by decide +kernel
theorem dX12_apart_97 : decode cX12_apart 97 = .ok (.iconst 1, 1) := by decide +kernel
theorem dX12_apart_98 : decode cX12_apart 98 = .ok (.iadd, 1) := by decide +kernel
theorem dX12_apart_99 : decode cX12_apart 99 = .ok (.iaload, 1) := by decide +kernel
theorem dX12_apart_100 : decode cX12_apart 100 = .ok (.iconst 2, 1) := by decide +kernel
theorem dX12_apart_101 : decode cX12_apart 101 = .ok (.iadd, 1) := by decide +kernel
theorem dX12_apart_102 : decode cX12_apart 102 = .ok (.invokestatic 130, 3) := by decide +kernel
theorem dX12_apart_105 : decode cX12_apart 105 = .ok (.istore 9, 2) := by decide +kernel
theorem dX12_apart_107 : decode cX12_apart 107 = .ok (.iload 7, 2) := by decide +kernel
theorem dX12_apart_109 : decode cX12_apart 109 = .ok (.iload 5, 2) := by decide +kernel
theorem dX12_apart_111 : decode cX12_apart 111 = .ok (.if_icmp .ge 51, 3) := by decide +kernel
theorem dX12_apart_114 : decode cX12_apart 114 = .ok (.iload 8, 2) := by decide +kernel
theorem dX12_apart_116 : decode cX12_apart 116 = .ok (.iload 6, 2) := by decide +kernel
theorem dX12_apart_118 : decode cX12_apart 118 = .ok (.if_icmp .ge 44, 3) := by decide +kernel
theorem dX12_apart_121 : decode cX12_apart 121 = .ok (.iload 9, 2) := by decide +kernel
theorem dX12_apart_123 : decode cX12_apart 123 = .ok (.aload_n 0, 1) := by decide +kernel
theorem dX12_apart_124 : decode cX12_apart 124 = .ok (.getfield 17, 3) := by decide +kernel
theorem dX12_apart_127 : decode cX12_apart 127 = .ok (.bipush 9, 2) := by decide +kernel
theorem dX12_apart_129 : decode cX12_apart 129 = .ok (.iload 7, 2) := by decide +kernel
theorem dX12_apart_131 : decode cX12_apart 131 = .ok (.iconst 1, 1) := by decide +kernel
theorem dX12_apart_132 : decode cX12_apart 132 = .ok (.iadd, 1) := by decide +kernel
theorem dX12_apart_133 : decode cX12_apart 133 = .ok (.imul, 1) := by decide +kernel
theorem dX12_apart_134 : decode cX12_apart 134 = .ok (.iload 8, 2) := by decide +kernel
theorem dX12_apart_136 : decode cX12_apart 136 = .ok (.iadd, 1) := by decide +kernel
theorem dX12_apart_137 : decode cX12_apart 137 = .ok (.iconst 1, 1) := by decide +kernel
theorem dX12_apart_138 : decode cX12_apart 138 = .ok (.iadd, 1) := by decide +kernel
theorem dX12_apart_139 : decode cX12_apart 139 = .ok (.iaload, 1) := by decide +kernel
theorem dX12_apart_140 : decode cX12_apart 140 = .ok (.aload_n 0, 1) := by decide +kernel
theorem dX12_apart_141 : decode cX12_apart 141 = .ok (.lload_n 1, 1) := by decide +kernel
theorem dX12_apart_142 : decode cX12_apart 142 = .ok (.iload 7, 2) := by decide +kernel
theorem dX12_apart_144 : decode cX12_apart 144 = .ok (.invokestatic 134, 3) := by decide +kernel
theorem dX12_apart_147 : decode cX12_apart 147 = .ok (.lload_n 3, 1) := by decide +kernel
theorem dX12_apart_148 : decode cX12_apart 148 = .ok (.iload 8, 2) := by decide +kernel
theorem dX12_apart_150 : decode cX12_apart 150 = .ok (.invokestatic 134, 3) := by decide +kernel
theorem dX12_apart_153 : decode cX12_apart 153 = .ok (.invokevirtual 138, 3) := by decide +kernel
theorem dX12_apart_156 : decode cX12_apart 156 = .ok (.iadd, 1) := by decide +kernel
theorem dX12_apart_157 : decode cX12_apart 157 = .ok (.invokestatic 130, 3) := by decide +kernel
theorem dX12_apart_160 : decode cX12_apart 160 = .ok (.istore 9, 2) := by decide +kernel
theorem dX12_apart_162 : decode cX12_apart 162 = .ok (.aload_n 0, 1) := by decide +kernel
theorem dX12_apart_163 : decode cX12_apart 163 = .ok (.getfield 17, 3) := by decide +kernel
theorem dX12_apart_166 : decode cX12_apart 166 = .ok (.bipush 9, 2) := by decide +kernel
theorem dX12_apart_168 : decode cX12_apart 168 = .ok (.iload 7, 2) := by decide +kernel
theorem dX12_apart_170 : decode cX12_apart 170 = .ok (.imul, 1) := by decide +kernel
theorem dX12_apart_171 : decode cX12_apart 171 = .ok (.iload 8, 2) := by decide +kernel
theorem dX12_apart_173 : decode cX12_apart 173 = .ok (.iadd, 1) := by decide +kernel
theorem dX12_apart_174 : decode cX12_apart 174 = .ok (.iload 9, 2) := by decide +kernel
theorem dX12_apart_176 : decode cX12_apart 176 = .ok (.iastore, 1) := by decide +kernel
theorem dX12_apart_177 : decode cX12_apart 177 = .ok (.iinc 8 (-1), 3) := by decide +kernel
theorem dX12_apart_180 : decode cX12_apart 180 = .ok (.goto (-155), 3) := by decide +kernel
theorem dX12_apart_183 : decode cX12_apart 183 = .ok (.iinc 7 (-1), 3) := by decide +kernel
theorem dX12_apart_186 : decode cX12_apart 186 = .ok (.goto (-170), 3) := by decide +kernel
theorem dX12_apart_189 : decode cX12_apart 189 = .ok (.aload_n 0, 1) := by decide +kernel
theorem dX12_apart_190 : decode cX12_apart 190 = .ok (.getfield 17, 3) := by decide +kernel
theorem dX12_apart_193 : decode cX12_apart 193 = .ok (.iconst 0, 1) := by decide +kernel
theorem dX12_apart_194 : decode cX12_apart 194 = .ok (.iaload, 1) := by decide +kernel
theorem dX12_apart_195 : decode cX12_apart 195 = .ok (.ireturn, 1) := by decide +kernel
theorem dX12_less_0 : decode cX12_less 0 = .ok (.iload_n 0, 1) := by decide +kernel
theorem dX12_less_1 : decode cX12_less 1 = .ok (.iload_n 1, 1) := by decide +kernel
theorem dX12_less_2 : decode cX12_less 2 = .ok (.if_icmp .ge 7, 3) := by decide +kernel
theorem dX12_less_5 : decode cX12_less 5 = .ok (.iload_n 0, 1) := by decide +kernel
theorem dX12_less_6 : decode cX12_less 6 = .ok (.goto 4, 3) := by decide +kernel
theorem dX12_less_9 : decode cX12_less 9 = .ok (.iload_n 1, 1) := by decide +kernel
theorem dX12_less_10 : decode cX12_less 10 = .ok (.ireturn, 1) := by decide +kernel
theorem dX12_swap_0 : decode cX12_swap 0 = .ok (.iload_n 1, 1) := by decide +kernel
theorem dX12_swap_1 : decode cX12_swap 1 = .ok (.iload_n 2, 1) := by decide +kernel
theorem dX12_swap_2 : decode cX12_swap 2 = .ok (.if_icmp .ne 7, 3) := by decide +kernel
theorem dX12_swap_5 : decode cX12_swap 5 = .ok (.iconst 0, 1) := by decide +kernel
theorem dX12_swap_6 : decode cX12_swap 6 = .ok (.goto 29, 3) := by decide +kernel
theorem dX12_swap_9 : decode cX12_swap 9 = .ok (.aload_n 0, 1) := by decide +kernel
theorem dX12_swap_10 : decode cX12_swap 10 = .ok (.getfield 13, 3) := by decide +kernel
theorem dX12_swap_13 : decode cX12_swap 13 = .ok (.iload_n 1, 1) := by decide +kernel
theorem dX12_swap_14 : decode cX12_swap 14 = .ok (.bipush 97, 2) := by decide +kernel
theorem dX12_swap_16 : decode cX12_swap 16 = .ok (.isub, 1) := by decide +kernel
theorem dX12_swap_17 : decode cX12_swap 17 = .ok (.iaload, 1) := by decide +kernel
theorem dX12_swap_18 : decode cX12_swap 18 = .ok (.aload_n 0, 1) := by decide +kernel
theorem dX12_swap_19 : decode cX12_swap 19 = .ok (.getfield 13, 3) := by decide +kernel
theorem dX12_swap_22 : decode cX12_swap 22 = .ok (.iload_n 2, 1) := by decide +kernel
theorem dX12_swap_23 : decode cX12_swap 23 = .ok (.bipush 97, 2) := by decide +kernel
theorem dX12_swap_25 : decode cX12_swap 25 = .ok (.isub, 1) := by decide +kernel
theorem dX12_swap_26 : decode cX12_swap 26 = .ok (.iaload, 1) := by decide +kernel
theorem dX12_swap_27 : decode cX12_swap 27 = .ok (.if_icmp .ne 7, 3) := by decide +kernel
theorem dX12_swap_30 : decode cX12_swap 30 = .ok (.iconst 1, 1) := by decide +kernel
theorem dX12_swap_31 : decode cX12_swap 31 = .ok (.goto 4, 3) := by decide +kernel
theorem dX12_swap_34 : decode cX12_swap 34 = .ok (.iconst 3, 1) := by decide +kernel
theorem dX12_swap_35 : decode cX12_swap 35 = .ok (.ireturn, 1) := by decide +kernel
theorem dX12_signOf_0 : decode cX12_signOf 0 = .ok (.iload_n 0, 1) := by decide +kernel
theorem dX12_signOf_1 : decode cX12_signOf 1 = .ok (.bipush 73, 2) := by decide +kernel
theorem dX12_signOf_3 : decode cX12_signOf 3 = .ok (.if_icmp .ne 7, 3) := by decide +kernel
theorem dX12_signOf_6 : decode cX12_signOf 6 = .ok (.iconst 1, 1) := by decide +kernel
theorem dX12_signOf_7 : decode cX12_signOf 7 = .ok (.goto 34, 3) := by decide +kernel
theorem dX12_signOf_10 : decode cX12_signOf 10 = .ok (.iload_n 0, 1) := by decide +kernel
theorem dX12_signOf_11 : decode cX12_signOf 11 = .ok (.bipush 86, 2) := by decide +kernel
theorem dX12_signOf_13 : decode cX12_signOf 13 = .ok (.if_icmp .ne 7, 3) := by decide +kernel
theorem dX12_signOf_16 : decode cX12_signOf 16 = .ok (.iconst 2, 1) := by decide +kernel
theorem dX12_signOf_17 : decode cX12_signOf 17 = .ok (.goto 24, 3) := by decide +kernel
theorem dX12_signOf_20 : decode cX12_signOf 20 = .ok (.iload_n 0, 1) := by decide +kernel
theorem dX12_signOf_21 : decode cX12_signOf 21 = .ok (.bipush 88, 2) := by decide +kernel
theorem dX12_signOf_23 : decode cX12_signOf 23 = .ok (.if_icmp .ne 7, 3) := by decide +kernel
theorem dX12_signOf_26 : decode cX12_signOf 26 = .ok (.iconst 3, 1) := by decide +kernel
theorem dX12_signOf_27 : decode cX12_signOf 27 = .ok (.goto 14, 3) := by decide +kernel
theorem dX12_signOf_30 : decode cX12_signOf 30 = .ok (.iload_n 0, 1) := by decide +kernel
theorem dX12_signOf_31 : decode cX12_signOf 31 = .ok (.bipush 76, 2) := by decide +kernel
theorem dX12_signOf_33 : decode cX12_signOf 33 = .ok (.if_icmp .ne 7, 3) := by decide +kernel
theorem dX12_signOf_36 : decode cX12_signOf 36 = .ok (.iconst 4, 1) := by decide +kernel
theorem dX12_signOf_37 : decode cX12_signOf 37 = .ok (.goto 4, 3) := by decide +kernel
theorem dX12_signOf_40 : decode cX12_signOf 40 = .ok (.iconst 0, 1) := by decide +kernel
theorem dX12_signOf_41 : decode cX12_signOf 41 = .ok (.ireturn, 1) := by decide +kernel
theorem dX12_worth_0 : decode cX12_worth 0 = .ok (.iload_n 0, 1) := by decide +kernel
theorem dX12_worth_1 : decode cX12_worth 1 = .ok (.iconst 1, 1) := by decide +kernel
theorem dX12_worth_2 : decode cX12_worth 2 = .ok (.if_icmp .ne 7, 3) := by decide +kernel
theorem dX12_worth_5 : decode cX12_worth 5 = .ok (.iconst 1, 1) := by decide +kernel
theorem dX12_worth_6 : decode cX12_worth 6 = .ok (.goto 33, 3) := by decide +kernel
theorem dX12_worth_9 : decode cX12_worth 9 = .ok (.iload_n 0, 1) := by decide +kernel
theorem dX12_worth_10 : decode cX12_worth 10 = .ok (.iconst 2, 1) := by decide +kernel
theorem dX12_worth_11 : decode cX12_worth 11 = .ok (.if_icmp .ne 7, 3) := by decide +kernel
theorem dX12_worth_14 : decode cX12_worth 14 = .ok (.iconst 5, 1) := by decide +kernel
theorem dX12_worth_15 : decode cX12_worth 15 = .ok (.goto 24, 3) := by decide +kernel
theorem dX12_worth_18 : decode cX12_worth 18 = .ok (.iload_n 0, 1) := by decide +kernel
theorem dX12_worth_19 : decode cX12_worth 19 = .ok (.iconst 3, 1) := by decide +kernel
theorem dX12_worth_20 : decode cX12_worth 20 = .ok (.if_icmp .ne 8, 3) := by decide +kernel
theorem dX12_worth_23 : decode cX12_worth 23 = .ok (.bipush 10, 2) := by decide +kernel
theorem dX12_worth_25 : decode cX12_worth 25 = .ok (.goto 14, 3) := by decide +kernel
theorem dX12_worth_28 : decode cX12_worth 28 = .ok (.iload_n 0, 1) := by decide +kernel
theorem dX12_worth_29 : decode cX12_worth 29 = .ok (.iconst 4, 1) := by decide +kernel
theorem dX12_worth_30 : decode cX12_worth 30 = .ok (.if_icmp .ne 8, 3) := by decide +kernel
theorem dX12_worth_33 : decode cX12_worth 33 = .ok (.bipush 50, 2) := by decide +kernel
theorem dX12_worth_35 : decode cX12_worth 35 = .ok (.goto 4, 3) := by decide +kernel
theorem dX12_worth_38 : decode cX12_worth 38 = .ok (.iconst 0, 1) := by decide +kernel
theorem dX12_worth_39 : decode cX12_worth 39 = .ok (.ireturn, 1) := by decide +kernel
theorem dX12_wrong_0 : decode cX12_wrong 0 = .ok (.aload_n 0, 1) := by decide +kernel
theorem dX12_wrong_1 : decode cX12_wrong 1 = .ok (.iload_n 1, 1) := by decide +kernel
theorem dX12_wrong_2 : decode cX12_wrong 2 = .ok (.putfield 141, 3) := by decide +kernel
theorem dX12_wrong_5 : decode cX12_wrong 5 = .ok (.aload_n 0, 1) := by decide +kernel
theorem dX12_wrong_6 : decode cX12_wrong 6 = .ok (.iload_n 2, 1) := by decide +kernel
theorem dX12_wrong_7 : decode cX12_wrong 7 = .ok (.putfield 36, 3) := by decide +kernel
theorem dX12_wrong_10 : decode cX12_wrong 10 = .ok (.iconst 0, 1) := by decide +kernel
theorem dX12_wrong_11 : decode cX12_wrong 11 = .ok (.ireturn, 1) := by decide +kernel
theorem dX12_blanks_0 : decode cX12_blanks 0 = .ok (.aload_n 0, 1) := by decide +kernel
theorem dX12_blanks_1 : decode cX12_blanks 1 = .ok (.getfield 144, 3) := by decide +kernel
theorem dX12_blanks_4 : decode cX12_blanks 4 = .ok (.aload_n 0, 1) := by decide +kernel
theorem dX12_blanks_5 : decode cX12_blanks 5 = .ok (.getfield 109, 3) := by decide +kernel
theorem dX12_blanks_8 : decode cX12_blanks 8 = .ok (.if_icmp .ge 42, 3) := by decide +kernel
theorem dX12_blanks_11 : decode cX12_blanks 11 = .ok (.aload_n 0, 1) := by decide +kernel
theorem dX12_blanks_12 : decode cX12_blanks 12 = .ok (.aload_n 0, 1) := by decide +kernel
theorem dX12_blanks_13 : decode cX12_blanks 13 = .ok (.getfield 144, 3) := by decide +kernel
theorem dX12_blanks_16 : decode cX12_blanks 16 = .ok (.invokevirtual 116, 3) := by decide +kernel
theorem dX12_blanks_19 : decode cX12_blanks 19 = .ok (.bipush 32, 2) := by decide +kernel
theorem dX12_blanks_21 : decode cX12_blanks 21 = .ok (.if_icmp .eq 16, 3) := by decide +kernel
theorem dX12_blanks_24 : decode cX12_blanks 24 = .ok (.aload_n 0, 1) := by decide +kernel
theorem dX12_blanks_25 : decode cX12_blanks 25 = .ok (.aload_n 0, 1) := by decide +kernel
theorem dX12_blanks_26 : decode cX12_blanks 26 = .ok (.getfield 144, 3) := by decide +kernel
theorem dX12_blanks_29 : decode cX12_blanks 29 = .ok (.invokevirtual 116, 3) := by decide +kernel
theorem dX12_blanks_32 : decode cX12_blanks 32 = .ok (.bipush 10, 2) := by decide +kernel
theorem dX12_blanks_34 : decode cX12_blanks 34 = .ok (.if_icmp .ne 16, 3) := by decide +kernel
theorem dX12_blanks_37 : decode cX12_blanks 37 = .ok (.aload_n 0, 1) := by decide +kernel
theorem dX12_blanks_38 : decode cX12_blanks 38 = .ok (.dup, 1) := by decide +kernel
theorem dX12_blanks_39 : decode cX12_blanks 39 = .ok (.getfield 144, 3) := by decide +kernel
theorem dX12_blanks_42 : decode cX12_blanks 42 = .ok (.iconst 1, 1) := by decide +kernel
theorem dX12_blanks_43 : decode cX12_blanks 43 = .ok (.iadd, 1) := by decide +kernel
theorem dX12_blanks_44 : decode cX12_blanks 44 = .ok (.putfield 144, 3) := by decide +kernel
theorem dX12_blanks_47 : decode cX12_blanks 47 = .ok (.goto (-47), 3) := by decide +kernel
theorem dX12_blanks_50 : decode cX12_blanks 50 = .ok (.return_, 1) := by decide +kernel
theorem dX12_station_0 : decode cX12_station 0 = .ok (.aload_n 0, 1) := by decide +kernel
theorem dX12_station_1 : decode cX12_station 1 = .ok (.invokevirtual 147, 3) := by decide +kernel
theorem dX12_station_4 : decode cX12_station 4 = .ok (.aload_n 0, 1) := by decide +kernel
theorem dX12_station_5 : decode cX12_station 5 = .ok (.getfield 144, 3) := by decide +kernel
theorem dX12_station_8 : decode cX12_station 8 = .ok (.istore_n 1, 1) := by decide +kernel
theorem dX12_station_9 : decode cX12_station 9 = .ok (.aload_n 0, 1) := by decide +kernel
theorem dX12_station_10 : decode cX12_station 10 = .ok (.iload_n 1, 1) := by decide +kernel
theorem dX12_station_11 : decode cX12_station 11 = .ok (.invokevirtual 116, 3) := by decide +kernel
theorem dX12_station_14 : decode cX12_station 14 = .ok (.bipush 97, 2) := by decide +kernel
theorem dX12_station_16 : decode cX12_station 16 = .ok (.bipush 122, 2) := by decide +kernel
theorem dX12_station_18 : decode cX12_station 18 = .ok (.invokestatic 112, 3) := by decide +kernel
theorem dX12_station_21 : decode cX12_station 21 = .ok (.ifCond .eq 9, 3) := by decide +kernel
theorem dX12_station_24 : decode cX12_station 24 = .ok (.iinc 1 1, 3) := by decide +kernel
theorem dX12_station_27 : decode cX12_station 27 = .ok (.goto (-18), 3) := by decide +kernel
theorem dX12_station_30 : decode cX12_station 30 = .ok (.aload_n 0, 1) := by decide +kernel
theorem dX12_station_31 : decode cX12_station 31 = .ok (.aload_n 0, 1) := by decide +kernel
theorem dX12_station_32 : decode cX12_station 32 = .ok (.getfield 144, 3) := by decide +kernel
theorem dX12_station_35 : decode cX12_station 35 = .ok (.iload_n 1, 1) := by decide +kernel
theorem dX12_station_36 : decode cX12_station 36 = .ok (.invokevirtual 120, 3) := by decide +kernel
theorem dX12_station_39 : decode cX12_station 39 = .ok (.lstore_n 2, 1) := by decide +kernel
theorem dX12_station_40 : decode cX12_station 40 = .ok (.lload_n 2, 1) := by decide +kernel
theorem dX12_station_41 : decode cX12_station 41 = .ok (.lconst 0, 1) := by decide +kernel
theorem dX12_station_42 : decode cX12_station 42 = .ok (.lcmp, 1) := by decide +kernel
theorem dX12_station_43 : decode cX12_station 43 = .ok (.ifCond .ne 13, 3) := by decide +kernel
theorem dX12_station_46 : decode cX12_station 46 = .ok (.aload_n 0, 1) := by decide +kernel
theorem dX12_station_47 : decode cX12_station 47 = .ok (.iconst 1, 1) := by decide +kernel
theorem dX12_station_48 : decode cX12_station 48 = .ok (.aload_n 0, 1) := by decide +kernel
theorem dX12_station_49 : decode cX12_station 49 = .ok (.getfield 144, 3) := by decide +kernel
theorem dX12_station_52 : decode cX12_station 52 = .ok (.invokevirtual 150, 3) := by decide +kernel
theorem dX12_station_55 : decode cX12_station 55 = .ok (.ireturn, 1) := by decide +kernel
theorem dX12_station_56 : decode cX12_station 56 = .ok (.aload_n 0, 1) := by decide +kernel
theorem dX12_station_57 : decode cX12_station 57 = .ok (.getfield 23, 3) := by decide +kernel
theorem dX12_station_60 : decode cX12_station 60 = .ok (.iconst 4, 1) := by decide +kernel
theorem dX12_station_61 : decode cX12_station 61 = .ok (.iaload, 1) := by decide +kernel
theorem dX12_station_62 : decode cX12_station 62 = .ok (.bipush 10, 2) := by decide +kernel
theorem dX12_station_64 : decode cX12_station 64 = .ok (.if_icmp .ne 13, 3) := by decide +kernel
theorem dX12_station_67 : decode cX12_station 67 = .ok (.aload_n 0, 1) := by decide +kernel
theorem dX12_station_68 : decode cX12_station 68 = .ok (.iconst 2, 1) := by decide +kernel
theorem dX12_station_69 : decode cX12_station 69 = .ok (.aload_n 0, 1) := by decide +kernel
theorem dX12_station_70 : decode cX12_station 70 = .ok (.getfield 144, 3) := by decide +kernel
theorem dX12_station_73 : decode cX12_station 73 = .ok (.invokevirtual 150, 3) := by decide +kernel
theorem dX12_station_76 : decode cX12_station 76 = .ok (.ireturn, 1) := by decide +kernel
theorem dX12_station_77 : decode cX12_station 77 = .ok (.iconst 0, 1) := by decide +kernel
theorem dX12_station_78 : decode cX12_station 78 = .ok (.istore 4, 2) := by decide +kernel
theorem dX12_station_80 : decode cX12_station 80 = .ok (.iload 4, 2) := by decide +kernel
theorem dX12_station_82 : decode cX12_station 82 = .ok (.aload_n 0, 1) := by decide +kernel
theorem dX12_station_83 : decode cX12_station 83 = .ok (.getfield 23, 3) := by decide +kernel
theorem dX12_station_86 : decode cX12_station 86 = .ok (.iconst 4, 1) := by decide +kernel
theorem dX12_station_87 : decode cX12_station 87 = .ok (.iaload, 1) := by decide +kernel
theorem dX12_station_88 : decode cX12_station 88 = .ok (.if_icmp .ge 34, 3) := by decide +kernel
theorem dX12_station_91 : decode cX12_station 91 = .ok (.aload_n 0, 1) := by decide +kernel
theorem dX12_station_92 : decode cX12_station 92 = .ok (.getfield 26, 3) := by decide +kernel
theorem dX12_station_95 : decode cX12_station 95 = .ok (.bipush 40, 2) := by decide +kernel
theorem dX12_station_97 : decode cX12_station 97 = .ok (.iload 4, 2) := by decide +kernel
theorem dX12_station_99 : decode cX12_station 99 = .ok (.iadd, 1) := by decide +kernel
theorem dX12_station_100 : decode cX12_station 100 = .ok (.laload, 1) := by decide +kernel
theorem dX12_station_101 : decode cX12_station 101 = .ok (.lload_n 2, 1) := by decide +kernel
theorem dX12_station_102 : decode cX12_station 102 = .ok (.lcmp, 1) := by decide +kernel
theorem dX12_station_103 : decode cX12_station 103 = .ok (.ifCond .ne 13, 3) := by decide +kernel
theorem dX12_station_106 : decode cX12_station 106 = .ok (.aload_n 0, 1) := by decide +kernel
theorem dX12_station_107 : decode cX12_station 107 = .ok (.iconst 3, 1) := by decide +kernel
theorem dX12_station_108 : decode cX12_station 108 = .ok (.aload_n 0, 1) := by decide +kernel
theorem dX12_station_109 : decode cX12_station 109 = .ok (.getfield 144, 3) := by decide +kernel
theorem dX12_station_112 : decode cX12_station 112 = .ok (.invokevirtual 150, 3) := by decide +kernel
theorem dX12_station_115 : decode cX12_station 115 = .ok (.ireturn, 1) := by decide +kernel
theorem dX12_station_116 : decode cX12_station 116 = .ok (.iinc 4 1, 3) := by decide +kernel
theorem dX12_station_119 : decode cX12_station 119 = .ok (.goto (-39), 3) := by decide +kernel
theorem dX12_station_122 : decode cX12_station 122 = .ok (.aload_n 0, 1) := by decide +kernel
theorem dX12_station_123 : decode cX12_station 123 = .ok (.getfield 26, 3) := by decide +kernel
theorem dX12_station_126 : decode cX12_station 126 = .ok (.bipush 40, 2) := by decide +kernel
theorem dX12_station_128 : decode cX12_station 128 = .ok (.aload_n 0, 1) := by decide +kernel
theorem dX12_station_129 : decode cX12_station 129 = .ok (.getfield 23, 3) := by decide +kernel
theorem dX12_station_132 : decode cX12_station 132 = .ok (.iconst 4, 1) := by decide +kernel
theorem dX12_station_133 : decode cX12_station 133 = .ok (.iaload, 1) := by decide +kernel
theorem dX12_station_134 : decode cX12_station 134 = .ok (.iadd, 1) := by decide +kernel
theorem dX12_station_135 : decode cX12_station 135 = .ok (.lload_n 2, 1) := by decide +kernel
theorem dX12_station_136 : decode cX12_station 136 = .ok (.lastore, 1) := by decide +kernel
theorem dX12_station_137 : decode cX12_station 137 = .ok (.aload_n 0, 1) := by decide +kernel
theorem dX12_station_138 : decode cX12_station 138 = .ok (.getfield 23, 3) := by decide +kernel
theorem dX12_station_141 : decode cX12_station 141 = .ok (.iconst 4, 1) := by decide +kernel
theorem dX12_station_142 : decode cX12_station 142 = .ok (.dup2, 1) := by decide +kernel
theorem dX12_station_143 : decode cX12_station 143 = .ok (.iaload, 1) := by decide +kernel
theorem dX12_station_144 : decode cX12_station 144 = .ok (.iconst 1, 1) := by decide +kernel
theorem dX12_station_145 : decode cX12_station 145 = .ok (.iadd, 1) := by decide +kernel
theorem dX12_station_146 : decode cX12_station 146 = .ok (.iastore, 1) := by decide +kernel
theorem dX12_station_147 : decode cX12_station 147 = .ok (.aload_n 0, 1) := by decide +kernel
theorem dX12_station_148 : decode cX12_station 148 = .ok (.iload_n 1, 1) := by decide +kernel
theorem dX12_station_149 : decode cX12_station 149 = .ok (.putfield 144, 3) := by decide +kernel
theorem dX12_station_152 : decode cX12_station 152 = .ok (.iconst 1, 1) := by decide +kernel
theorem dX12_station_153 : decode cX12_station 153 = .ok (.ireturn, 1) := by decide +kernel
theorem dX12_numeral_0 : decode cX12_numeral 0 = .ok (.aload_n 0, 1) := by decide +kernel
theorem dX12_numeral_1 : decode cX12_numeral 1 = .ok (.invokevirtual 147, 3) := by decide +kernel
theorem dX12_numeral_4 : decode cX12_numeral 4 = .ok (.bipush 40, 2) := by decide +kernel
theorem dX12_numeral_6 : decode cX12_numeral 6 = .ok (.aload_n 0, 1) := by decide +kernel
theorem dX12_numeral_7 : decode cX12_numeral 7 = .ok (.getfield 23, 3) := by decide +kernel
theorem dX12_numeral_10 : decode cX12_numeral 10 = .ok (.iconst 4, 1) := by decide +kernel
theorem dX12_numeral_11 : decode cX12_numeral 11 = .ok (.iaload, 1) := by decide +kernel
theorem dX12_numeral_12 : decode cX12_numeral 12 = .ok (.iadd, 1) := by decide +kernel
theorem dX12_numeral_13 : decode cX12_numeral 13 = .ok (.iconst 1, 1) := by decide +kernel
theorem dX12_numeral_14 : decode cX12_numeral 14 = .ok (.isub, 1) := by decide +kernel
theorem dX12_numeral_15 : decode cX12_numeral 15 = .ok (.istore_n 1, 1) := by decide +kernel
theorem dX12_numeral_16 : decode cX12_numeral 16 = .ok (.aload_n 0, 1) := by decide +kernel
theorem dX12_numeral_17 : decode cX12_numeral 17 = .ok (.getfield 144, 3) := by decide +kernel
theorem dX12_numeral_20 : decode cX12_numeral 20 = .ok (.istore_n 2, 1) := by decide +kernel
theorem dX12_numeral_21 : decode cX12_numeral 21 = .ok (.aload_n 0, 1) := by decide +kernel
theorem dX12_numeral_22 : decode cX12_numeral 22 = .ok (.getfield 33, 3) := by decide +kernel
theorem dX12_numeral_25 : decode cX12_numeral 25 = .ok (.iload_n 1, 1) := by decide +kernel
theorem dX12_numeral_26 : decode cX12_numeral 26 = .ok (.iconst 0, 1) := by decide +kernel
theorem dX12_numeral_27 : decode cX12_numeral 27 = .ok (.iastore, 1) := by decide +kernel
theorem dX12_numeral_28 : decode cX12_numeral 28 = .ok (.iconst 1, 1) := by decide +kernel
theorem dX12_numeral_29 : decode cX12_numeral 29 = .ok (.istore_n 3, 1) := by decide +kernel
theorem dX12_numeral_30 : decode cX12_numeral 30 = .ok (.aload_n 0, 1) := by decide +kernel
theorem dX12_numeral_31 : decode cX12_numeral 31 = .ok (.aload_n 0, 1) := by decide +kernel
theorem dX12_numeral_32 : decode cX12_numeral 32 = .ok (.getfield 144, 3) := by decide +kernel
theorem dX12_numeral_35 : decode cX12_numeral 35 = .ok (.invokevirtual 116, 3) := by decide +kernel
theorem dX12_numeral_38 : decode cX12_numeral 38 = .ok (.invokestatic 154, 3) := by decide +kernel
theorem dX12_numeral_41 : decode cX12_numeral 41 = .ok (.ifCond .le 110, 3) := by decide +kernel
theorem dX12_numeral_44 : decode cX12_numeral 44 = .ok (.aload_n 0, 1) := by decide +kernel
theorem dX12_numeral_45 : decode cX12_numeral 45 = .ok (.aload_n 0, 1) := by decide +kernel
theorem dX12_numeral_46 : decode cX12_numeral 46 = .ok (.getfield 144, 3) := by decide +kernel
theorem dX12_numeral_49 : decode cX12_numeral 49 = .ok (.invokevirtual 116, 3) := by decide +kernel
theorem dX12_numeral_52 : decode cX12_numeral 52 = .ok (.invokestatic 154, 3) := by decide +kernel
theorem dX12_numeral_55 : decode cX12_numeral 55 = .ok (.istore 4, 2) := by decide +kernel
theorem dX12_numeral_57 : decode cX12_numeral 57 = .ok (.aload_n 0, 1) := by decide +kernel
theorem dX12_numeral_58 : decode cX12_numeral 58 = .ok (.getfield 33, 3) := by decide +kernel
theorem dX12_numeral_61 : decode cX12_numeral 61 = .ok (.iload_n 1, 1) := by decide +kernel
theorem dX12_numeral_62 : decode cX12_numeral 62 = .ok (.iaload, 1) := by decide +kernel
theorem dX12_numeral_63 : decode cX12_numeral 63 = .ok (.bipush 8, 2) := by decide +kernel
theorem dX12_numeral_65 : decode cX12_numeral 65 = .ok (.if_icmp .ge 63, 3) := by decide +kernel
theorem dX12_numeral_68 : decode cX12_numeral 68 = .ok (.iload_n 3, 1) := by decide +kernel
theorem dX12_numeral_69 : decode cX12_numeral 69 = .ok (.ifCond .eq 39, 3) := by decide +kernel
theorem dX12_numeral_72 : decode cX12_numeral 72 = .ok (.aload_n 0, 1) := by decide +kernel
theorem dX12_numeral_73 : decode cX12_numeral 73 = .ok (.getfield 33, 3) := by decide +kernel
theorem dX12_numeral_76 : decode cX12_numeral 76 = .ok (.iload_n 1, 1) := by decide +kernel
theorem dX12_numeral_77 : decode cX12_numeral 77 = .ok (.iaload, 1) := by decide +kernel
theorem dX12_numeral_78 : decode cX12_numeral 78 = .ok (.ifCond .eq 26, 3) := by decide +kernel
theorem dX12_numeral_81 : decode cX12_numeral 81 = .ok (.iload 4, 2) := by decide +kernel
theorem dX12_numeral_83 : decode cX12_numeral 83 = .ok (.aload_n 0, 1) := by decide +kernel
theorem dX12_numeral_84 : decode cX12_numeral 84 = .ok (.getfield 30, 3) := by decide +kernel
theorem dX12_numeral_87 : decode cX12_numeral 87 = .ok (.bipush 9, 2) := by decide +kernel
theorem dX12_numeral_89 : decode cX12_numeral 89 = .ok (.iload_n 1, 1) := by decide +kernel
theorem dX12_numeral_90 : decode cX12_numeral 90 = .ok (.imul, 1) := by decide +kernel
theorem dX12_numeral_91 : decode cX12_numeral 91 = .ok (.aload_n 0, 1) := by decide +kernel
theorem dX12_numeral_92 : decode cX12_numeral 92 = .ok (.getfield 33, 3) := by decide +kernel
theorem dX12_numeral_95 : decode cX12_numeral 95 = .ok (.iload_n 1, 1) := by decide +kernel
theorem dX12_numeral_96 : decode cX12_numeral 96 = .ok (.iaload, 1) := by decide +kernel
theorem dX12_numeral_97 : decode cX12_numeral 97 = .ok (.iadd, 1) := by decide +kernel
theorem dX12_numeral_98 : decode cX12_numeral 98 = .ok (.iconst 1, 1) := by decide +kernel
theorem dX12_numeral_99 : decode cX12_numeral 99 = .ok (.isub, 1) := by decide +kernel
theorem dX12_numeral_100 : decode cX12_numeral 100 = .ok (.iaload, 1) := by decide +kernel
theorem dX12_numeral_101 : decode cX12_numeral 101 = .ok (.if_icmp .gt 7, 3) := by decide +kernel
theorem dX12_numeral_104 : decode cX12_numeral 104 = .ok (.iconst 1, 1) := by decide +kernel
theorem dX12_numeral_105 : decode cX12_numeral 105 = .ok (.goto 4, 3) := by decide +kernel
theorem dX12_numeral_108 : decode cX12_numeral 108 = .ok (.iconst 0, 1) := by decide +kernel
theorem dX12_numeral_109 : decode cX12_numeral 109 = .ok (.istore_n 3, 1) := by decide +kernel
theorem dX12_numeral_110 : decode cX12_numeral 110 = .ok (.aload_n 0, 1) := by decide +kernel
theorem dX12_numeral_111 : decode cX12_numeral 111 = .ok (.getfield 30, 3) := by decide +kernel
theorem dX12_numeral_114 : decode cX12_numeral 114 = .ok (.bipush 9, 2) := by decide +kernel
theorem dX12_numeral_116 : decode cX12_numeral 116 = .ok (.iload_n 1, 1) := by decide +kernel
theorem dX12_numeral_117 : decode cX12_numeral 117 = .ok (.imul, 1) := by decide +kernel
theorem dX12_numeral_118 : decode cX12_numeral 118 = .ok (.aload_n 0, 1) := by decide +kernel
theorem dX12_numeral_119 : decode cX12_numeral 119 = .ok (.getfield 33, 3) := by decide +kernel
theorem dX12_numeral_122 : decode cX12_numeral 122 = .ok (.iload_n 1, 1) := by decide +kernel
theorem dX12_numeral_123 : decode cX12_numeral 123 = .ok (.iaload, 1) := by decide +kernel
theorem dX12_numeral_124 : decode cX12_numeral 124 = .ok (.iadd, 1) := by decide +kernel
theorem dX12_numeral_125 : decode cX12_numeral 125 = .ok (.iload 4, 2) := by decide +kernel
theorem dX12_numeral_127 : decode cX12_numeral 127 = .ok (.iastore, 1) := by decide +kernel
theorem dX12_numeral_128 : decode cX12_numeral 128 = .ok (.aload_n 0, 1) := by decide +kernel
theorem dX12_numeral_129 : decode cX12_numeral 129 = .ok (.getfield 33, 3) := by decide +kernel
theorem dX12_numeral_132 : decode cX12_numeral 132 = .ok (.iload_n 1, 1) := by decide +kernel
theorem dX12_numeral_133 : decode cX12_numeral 133 = .ok (.dup2, 1) := by decide +kernel
theorem dX12_numeral_134 : decode cX12_numeral 134 = .ok (.iaload, 1) := by decide +kernel
theorem dX12_numeral_135 : decode cX12_numeral 135 = .ok (.iconst 1, 1) := by decide +kernel
theorem dX12_numeral_136 : decode cX12_numeral 136 = .ok (.iadd, 1) := by decide +kernel
theorem dX12_numeral_137 : decode cX12_numeral 137 = .ok (.iastore, 1) := by decide +kernel
theorem dX12_numeral_138 : decode cX12_numeral 138 = .ok (.aload_n 0, 1) := by decide +kernel
theorem dX12_numeral_139 : decode cX12_numeral 139 = .ok (.dup, 1) := by decide +kernel
theorem dX12_numeral_140 : decode cX12_numeral 140 = .ok (.getfield 144, 3) := by decide +kernel
theorem dX12_numeral_143 : decode cX12_numeral 143 = .ok (.iconst 1, 1) := by decide +kernel
theorem dX12_numeral_144 : decode cX12_numeral 144 = .ok (.iadd, 1) := by decide +kernel
theorem dX12_numeral_145 : decode cX12_numeral 145 = .ok (.putfield 144, 3) := by decide +kernel
theorem dX12_numeral_148 : decode cX12_numeral 148 = .ok (.goto (-118), 3) := by decide +kernel
theorem dX12_numeral_151 : decode cX12_numeral 151 = .ok (.aload_n 0, 1) := by decide +kernel
theorem dX12_numeral_152 : decode cX12_numeral 152 = .ok (.getfield 33, 3) := by decide +kernel
theorem dX12_numeral_155 : decode cX12_numeral 155 = .ok (.iload_n 1, 1) := by decide +kernel
theorem dX12_numeral_156 : decode cX12_numeral 156 = .ok (.iaload, 1) := by decide +kernel
theorem dX12_numeral_157 : decode cX12_numeral 157 = .ok (.ifCond .le 18, 3) := by decide +kernel
theorem dX12_numeral_160 : decode cX12_numeral 160 = .ok (.aload_n 0, 1) := by decide +kernel
theorem dX12_numeral_161 : decode cX12_numeral 161 = .ok (.getfield 33, 3) := by decide +kernel
theorem dX12_numeral_164 : decode cX12_numeral 164 = .ok (.iload_n 1, 1) := by decide +kernel
theorem dX12_numeral_165 : decode cX12_numeral 165 = .ok (.iaload, 1) := by decide +kernel
theorem dX12_numeral_166 : decode cX12_numeral 166 = .ok (.bipush 9, 2) := by decide +kernel
theorem dX12_numeral_168 : decode cX12_numeral 168 = .ok (.if_icmp .ge 7, 3) := by decide +kernel
theorem dX12_numeral_171 : decode cX12_numeral 171 = .ok (.iload_n 3, 1) := by decide +kernel
theorem dX12_numeral_172 : decode cX12_numeral 172 = .ok (.ifCond .ne 12, 3) := by decide +kernel
theorem dX12_numeral_175 : decode cX12_numeral 175 = .ok (.aload_n 0, 1) := by decide +kernel
theorem dX12_numeral_176 : decode cX12_numeral 176 = .ok (.iconst 1, 1) := by decide +kernel
theorem dX12_numeral_177 : decode cX12_numeral 177 = .ok (.iload_n 2, 1) := by decide +kernel
theorem dX12_numeral_178 : decode cX12_numeral 178 = .ok (.invokevirtual 150, 3) := by decide +kernel
theorem dX12_numeral_181 : decode cX12_numeral 181 = .ok (.ifCond .eq 7, 3) := by decide +kernel
theorem dX12_numeral_184 : decode cX12_numeral 184 = .ok (.iconst 1, 1) := by decide +kernel
theorem dX12_numeral_185 : decode cX12_numeral 185 = .ok (.goto 4, 3) := by decide +kernel
theorem dX12_numeral_188 : decode cX12_numeral 188 = .ok (.iconst 0, 1) := by decide +kernel
theorem dX12_numeral_189 : decode cX12_numeral 189 = .ok (.ireturn, 1) := by decide +kernel
theorem dX12_list_0 : decode cX12_list 0 = .ok (.aload_n 0, 1) := by decide +kernel
theorem dX12_list_1 : decode cX12_list 1 = .ok (.iconst 0, 1) := by decide +kernel
theorem dX12_list_2 : decode cX12_list 2 = .ok (.putfield 106, 3) := by decide +kernel
theorem dX12_list_5 : decode cX12_list 5 = .ok (.iload_n 1, 1) := by decide +kernel
theorem dX12_list_6 : decode cX12_list 6 = .ok (.iconst 2, 1) := by decide +kernel
theorem dX12_list_7 : decode cX12_list 7 = .ok (.iconst 3, 1) := by decide +kernel
theorem dX12_list_8 : decode cX12_list 8 = .ok (.invokestatic 112, 3) := by decide +kernel
theorem dX12_list_11 : decode cX12_list 11 = .ok (.ifCond .eq 11, 3) := by decide +kernel
theorem dX12_list_14 : decode cX12_list 14 = .ok (.aload_n 0, 1) := by decide +kernel
theorem dX12_list_15 : decode cX12_list 15 = .ok (.getfield 157, 3) := by decide +kernel
theorem dX12_list_18 : decode cX12_list 18 = .ok (.iconst 4, 1) := by decide +kernel
theorem dX12_list_19 : decode cX12_list 19 = .ok (.if_icmp .ne 5, 3) := by decide +kernel
theorem dX12_list_22 : decode cX12_list 22 = .ok (.iconst (-1), 1) := by decide +kernel
theorem dX12_list_23 : decode cX12_list 23 = .ok (.ireturn, 1) := by decide +kernel
theorem dX12_list_24 : decode cX12_list 24 = .ok (.aload_n 0, 1) := by decide +kernel
theorem dX12_list_25 : decode cX12_list 25 = .ok (.iconst 0, 1) := by decide +kernel
theorem dX12_list_26 : decode cX12_list 26 = .ok (.putfield 141, 3) := by decide +kernel
theorem dX12_list_29 : decode cX12_list 29 = .ok (.aload_n 0, 1) := by decide +kernel
theorem dX12_list_30 : decode cX12_list 30 = .ok (.iconst (-1), 1) := by decide +kernel
theorem dX12_list_31 : decode cX12_list 31 = .ok (.putfield 36, 3) := by decide +kernel
theorem dX12_list_34 : decode cX12_list 34 = .ok (.aload_n 0, 1) := by decide +kernel
theorem dX12_list_35 : decode cX12_list 35 = .ok (.getfield 23, 3) := by decide +kernel
theorem dX12_list_38 : decode cX12_list 38 = .ok (.iconst 4, 1) := by decide +kernel
theorem dX12_list_39 : decode cX12_list 39 = .ok (.iconst 0, 1) := by decide +kernel
theorem dX12_list_40 : decode cX12_list 40 = .ok (.iastore, 1) := by decide +kernel
theorem dX12_list_41 : decode cX12_list 41 = .ok (.aload_n 0, 1) := by decide +kernel
theorem dX12_list_42 : decode cX12_list 42 = .ok (.iconst 0, 1) := by decide +kernel
theorem dX12_list_43 : decode cX12_list 43 = .ok (.putfield 144, 3) := by decide +kernel
theorem dX12_list_46 : decode cX12_list 46 = .ok (.aload_n 0, 1) := by decide +kernel
theorem dX12_list_47 : decode cX12_list 47 = .ok (.invokevirtual 160, 3) := by decide +kernel
theorem dX12_list_50 : decode cX12_list 50 = .ok (.istore_n 2, 1) := by decide +kernel
theorem dX12_list_51 : decode cX12_list 51 = .ok (.aload_n 0, 1) := by decide +kernel
theorem dX12_list_52 : decode cX12_list 52 = .ok (.invokevirtual 147, 3) := by decide +kernel
theorem dX12_list_55 : decode cX12_list 55 = .ok (.iload_n 2, 1) := by decide +kernel
theorem dX12_list_56 : decode cX12_list 56 = .ok (.ifCond .eq 41, 3) := by decide +kernel
theorem dX12_list_59 : decode cX12_list 59 = .ok (.aload_n 0, 1) := by decide +kernel
theorem dX12_list_60 : decode cX12_list 60 = .ok (.getfield 144, 3) := by decide +kernel
theorem dX12_list_63 : decode cX12_list 63 = .ok (.aload_n 0, 1) := by decide +kernel
theorem dX12_list_64 : decode cX12_list 64 = .ok (.getfield 109, 3) := by decide +kernel
theorem dX12_list_67 : decode cX12_list 67 = .ok (.if_icmp .ge 30, 3) := by decide +kernel
theorem dX12_list_70 : decode cX12_list 70 = .ok (.aload_n 0, 1) := by decide +kernel
theorem dX12_list_71 : decode cX12_list 71 = .ok (.invokevirtual 164, 3) := by decide +kernel
theorem dX12_list_74 : decode cX12_list 74 = .ok (.ifCond .eq 14, 3) := by decide +kernel
theorem dX12_list_77 : decode cX12_list 77 = .ok (.aload_n 0, 1) := by decide +kernel
theorem dX12_list_78 : decode cX12_list 78 = .ok (.invokevirtual 160, 3) := by decide +kernel
theorem dX12_list_81 : decode cX12_list 81 = .ok (.ifCond .eq 7, 3) := by decide +kernel
theorem dX12_list_84 : decode cX12_list 84 = .ok (.iconst 1, 1) := by decide +kernel
theorem dX12_list_85 : decode cX12_list 85 = .ok (.goto 4, 3) := by decide +kernel
theorem dX12_list_88 : decode cX12_list 88 = .ok (.iconst 0, 1) := by decide +kernel
theorem dX12_list_89 : decode cX12_list 89 = .ok (.istore_n 2, 1) := by decide +kernel
theorem dX12_list_90 : decode cX12_list 90 = .ok (.aload_n 0, 1) := by decide +kernel
theorem dX12_list_91 : decode cX12_list 91 = .ok (.invokevirtual 147, 3) := by decide +kernel
theorem dX12_list_94 : decode cX12_list 94 = .ok (.goto (-39), 3) := by decide +kernel
theorem dX12_list_97 : decode cX12_list 97 = .ok (.aload_n 0, 1) := by decide +kernel
theorem dX12_list_98 : decode cX12_list 98 = .ok (.getfield 141, 3) := by decide +kernel
theorem dX12_list_101 : decode cX12_list 101 = .ok (.ifCond .ne 23, 3) := by decide +kernel
theorem dX12_list_104 : decode cX12_list 104 = .ok (.aload_n 0, 1) := by decide +kernel
theorem dX12_list_105 : decode cX12_list 105 = .ok (.getfield 23, 3) := by decide +kernel
theorem dX12_list_108 : decode cX12_list 108 = .ok (.iconst 4, 1) := by decide +kernel
theorem dX12_list_109 : decode cX12_list 109 = .ok (.iaload, 1) := by decide +kernel
theorem dX12_list_110 : decode cX12_list 110 = .ok (.iconst 1, 1) := by decide +kernel
theorem dX12_list_111 : decode cX12_list 111 = .ok (.if_icmp .ne 13, 3) := by decide +kernel
theorem dX12_list_114 : decode cX12_list 114 = .ok (.aload_n 0, 1) := by decide +kernel
theorem dX12_list_115 : decode cX12_list 115 = .ok (.iconst 1, 1) := by decide +kernel
theorem dX12_list_116 : decode cX12_list 116 = .ok (.aload_n 0, 1) := by decide +kernel
theorem dX12_list_117 : decode cX12_list 117 = .ok (.getfield 109, 3) := by decide +kernel
theorem dX12_list_120 : decode cX12_list 120 = .ok (.invokevirtual 150, 3) := by decide +kernel
theorem dX12_list_123 : decode cX12_list 123 = .ok (.istore_n 2, 1) := by decide +kernel
theorem dX12_list_124 : decode cX12_list 124 = .ok (.aload_n 0, 1) := by decide +kernel
theorem dX12_list_125 : decode cX12_list 125 = .ok (.iconst 0, 1) := by decide +kernel
theorem dX12_list_126 : decode cX12_list 126 = .ok (.putfield 109, 3) := by decide +kernel
theorem dX12_list_129 : decode cX12_list 129 = .ok (.aload_n 0, 1) := by decide +kernel
theorem dX12_list_130 : decode cX12_list 130 = .ok (.getfield 141, 3) := by decide +kernel
theorem dX12_list_133 : decode cX12_list 133 = .ok (.ifCond .le 10, 3) := by decide +kernel
theorem dX12_list_136 : decode cX12_list 136 = .ok (.iconst (-1), 1) := by decide +kernel
theorem dX12_list_137 : decode cX12_list 137 = .ok (.aload_n 0, 1) := by decide +kernel
theorem dX12_list_138 : decode cX12_list 138 = .ok (.getfield 141, 3) := by decide +kernel
theorem dX12_list_141 : decode cX12_list 141 = .ok (.isub, 1) := by decide +kernel
theorem dX12_list_142 : decode cX12_list 142 = .ok (.ireturn, 1) := by decide +kernel
theorem dX12_list_143 : decode cX12_list 143 = .ok (.aload_n 0, 1) := by decide +kernel
theorem dX12_list_144 : decode cX12_list 144 = .ok (.getfield 20, 3) := by decide +kernel
theorem dX12_list_147 : decode cX12_list 147 = .ok (.aload_n 0, 1) := by decide +kernel
theorem dX12_list_148 : decode cX12_list 148 = .ok (.getfield 157, 3) := by decide +kernel
theorem dX12_list_151 : decode cX12_list 151 = .ok (.iload_n 1, 1) := by decide +kernel
theorem dX12_list_152 : decode cX12_list 152 = .ok (.iastore, 1) := by decide +kernel
theorem dX12_list_153 : decode cX12_list 153 = .ok (.aload_n 0, 1) := by decide +kernel
theorem dX12_list_154 : decode cX12_list 154 = .ok (.getfield 23, 3) := by decide +kernel
theorem dX12_list_157 : decode cX12_list 157 = .ok (.aload_n 0, 1) := by decide +kernel
theorem dX12_list_158 : decode cX12_list 158 = .ok (.getfield 157, 3) := by decide +kernel
theorem dX12_list_161 : decode cX12_list 161 = .ok (.aload_n 0, 1) := by decide +kernel
theorem dX12_list_162 : decode cX12_list 162 = .ok (.getfield 23, 3) := by decide +kernel
theorem dX12_list_165 : decode cX12_list 165 = .ok (.iconst 4, 1) := by decide +kernel
theorem dX12_list_166 : decode cX12_list 166 = .ok (.iaload, 1) := by decide +kernel
theorem dX12_list_167 : decode cX12_list 167 = .ok (.iastore, 1) := by decide +kernel
theorem dX12_list_168 : decode cX12_list 168 = .ok (.iconst 0, 1) := by decide +kernel
theorem dX12_list_169 : decode cX12_list 169 = .ok (.istore_n 3, 1) := by decide +kernel
theorem dX12_list_170 : decode cX12_list 170 = .ok (.iload_n 3, 1) := by decide +kernel
theorem dX12_list_171 : decode cX12_list 171 = .ok (.bipush 10, 2) := by decide +kernel
theorem dX12_list_173 : decode cX12_list 173 = .ok (.if_icmp .ge 106, 3) := by decide +kernel
theorem dX12_list_176 : decode cX12_list 176 = .ok (.aload_n 0, 1) := by decide +kernel
theorem dX12_list_177 : decode cX12_list 177 = .ok (.getfield 26, 3) := by decide +kernel
theorem dX12_list_180 : decode cX12_list 180 = .ok (.bipush 10, 2) := by decide +kernel
theorem dX12_list_182 : decode cX12_list 182 = .ok (.aload_n 0, 1) := by decide +kernel
theorem dX12_list_183 : decode cX12_list 183 = .ok (.getfield 157, 3) := by decide +kernel
theorem dX12_list_186 : decode cX12_list 186 = .ok (.imul, 1) := by decide +kernel
theorem dX12_list_187 : decode cX12_list 187 = .ok (.iload_n 3, 1) := by decide +kernel
theorem dX12_list_188 : decode cX12_list 188 = .ok (.iadd, 1) := by decide +kernel
theorem dX12_list_189 : decode cX12_list 189 = .ok (.aload_n 0, 1) := by decide +kernel
theorem dX12_list_190 : decode cX12_list 190 = .ok (.getfield 26, 3) := by decide +kernel
theorem dX12_list_193 : decode cX12_list 193 = .ok (.bipush 40, 2) := by decide +kernel
theorem dX12_list_195 : decode cX12_list 195 = .ok (.iload_n 3, 1) := by decide +kernel
theorem dX12_list_196 : decode cX12_list 196 = .ok (.iadd, 1) := by decide +kernel
theorem dX12_list_197 : decode cX12_list 197 = .ok (.laload, 1) := by decide +kernel
theorem dX12_list_198 : decode cX12_list 198 = .ok (.lastore, 1) := by decide +kernel
theorem dX12_list_199 : decode cX12_list 199 = .ok (.aload_n 0, 1) := by decide +kernel
theorem dX12_list_200 : decode cX12_list 200 = .ok (.getfield 33, 3) := by decide +kernel
theorem dX12_list_203 : decode cX12_list 203 = .ok (.bipush 10, 2) := by decide +kernel
theorem dX12_list_205 : decode cX12_list 205 = .ok (.aload_n 0, 1) := by decide +kernel
theorem dX12_list_206 : decode cX12_list 206 = .ok (.getfield 157, 3) := by decide +kernel
theorem dX12_list_209 : decode cX12_list 209 = .ok (.imul, 1) := by decide +kernel
theorem dX12_list_210 : decode cX12_list 210 = .ok (.iload_n 3, 1) := by decide +kernel
theorem dX12_list_211 : decode cX12_list 211 = .ok (.iadd, 1) := by decide +kernel
theorem dX12_list_212 : decode cX12_list 212 = .ok (.aload_n 0, 1) := by decide +kernel
theorem dX12_list_213 : decode cX12_list 213 = .ok (.getfield 33, 3) := by decide +kernel
theorem dX12_list_216 : decode cX12_list 216 = .ok (.bipush 40, 2) := by decide +kernel
theorem dX12_list_218 : decode cX12_list 218 = .ok (.iload_n 3, 1) := by decide +kernel
theorem dX12_list_219 : decode cX12_list 219 = .ok (.iadd, 1) := by decide +kernel
theorem dX12_list_220 : decode cX12_list 220 = .ok (.iaload, 1) := by decide +kernel
theorem dX12_list_221 : decode cX12_list 221 = .ok (.iastore, 1) := by decide +kernel
theorem dX12_list_222 : decode cX12_list 222 = .ok (.iconst 0, 1) := by decide +kernel
theorem dX12_list_223 : decode cX12_list 223 = .ok (.istore 4, 2) := by decide +kernel
theorem dX12_list_225 : decode cX12_list 225 = .ok (.iload 4, 2) := by decide +kernel
theorem dX12_list_227 : decode cX12_list 227 = .ok (.bipush 9, 2) := by decide +kernel
theorem dX12_list_229 : decode cX12_list 229 = .ok (.if_icmp .ge 44, 3) := by decide +kernel
theorem dX12_list_232 : decode cX12_list 232 = .ok (.aload_n 0, 1) := by decide +kernel
theorem dX12_list_233 : decode cX12_list 233 = .ok (.getfield 30, 3) := by decide +kernel
theorem dX12_list_236 : decode cX12_list 236 = .ok (.bipush 9, 2) := by decide +kernel
theorem dX12_list_238 : decode cX12_list 238 = .ok (.bipush 10, 2) := by decide +kernel
theorem dX12_list_240 : decode cX12_list 240 = .ok (.aload_n 0, 1) := by decide +kernel
theorem dX12_list_241 : decode cX12_list 241 = .ok (.getfield 157, 3) := by decide +kernel
theorem dX12_list_244 : decode cX12_list 244 = .ok (.imul, 1) := by decide +kernel
theorem dX12_list_245 : decode cX12_list 245 = .ok (.iload_n 3, 1) := by decide +kernel
theorem dX12_list_246 : decode cX12_list 246 = .ok (.iadd, 1) := by decide +kernel
theorem dX12_list_247 : decode cX12_list 247 = .ok (.imul, 1) := by decide +kernel
theorem dX12_list_248 : decode cX12_list 248 = .ok (.iload 4, 2) := by decide +kernel
theorem dX12_list_250 : decode cX12_list 250 = .ok (.iadd, 1) := by decide +kernel
theorem dX12_list_251 : decode cX12_list 251 = .ok (.aload_n 0, 1) := by decide +kernel
theorem dX12_list_252 : decode cX12_list 252 = .ok (.getfield 30, 3) := by decide +kernel
theorem dX12_list_255 : decode cX12_list 255 = .ok (.bipush 9, 2) := by decide +kernel
theorem dX12_list_257 : decode cX12_list 257 = .ok (.bipush 40, 2) := by decide +kernel
theorem dX12_list_259 : decode cX12_list 259 = .ok (.iload_n 3, 1) := by decide +kernel
theorem dX12_list_260 : decode cX12_list 260 = .ok (.iadd, 1) := by decide +kernel
theorem dX12_list_261 : decode cX12_list 261 = .ok (.imul, 1) := by decide +kernel
theorem dX12_list_262 : decode cX12_list 262 = .ok (.iload 4, 2) := by decide +kernel
theorem dX12_list_264 : decode cX12_list 264 = .ok (.iadd, 1) := by decide +kernel
theorem dX12_list_265 : decode cX12_list 265 = .ok (.iaload, 1) := by decide +kernel
theorem dX12_list_266 : decode cX12_list 266 = .ok (.iastore, 1) := by decide +kernel
theorem dX12_list_267 : decode cX12_list 267 = .ok (.iinc 4 1, 3) := by decide +kernel
theorem dX12_list_270 : decode cX12_list 270 = .ok (.goto (-45), 3) := by decide +kernel
theorem dX12_list_273 : decode cX12_list 273 = .ok (.iinc 3 1, 3) := by decide +kernel
theorem dX12_list_276 : decode cX12_list 276 = .ok (.goto (-106), 3) := by decide +kernel
theorem dX12_list_279 : decode cX12_list 279 = .ok (.aload_n 0, 1) := by decide +kernel
theorem dX12_list_280 : decode cX12_list 280 = .ok (.dup, 1) := by decide +kernel
theorem dX12_list_281 : decode cX12_list 281 = .ok (.getfield 157, 3) := by decide +kernel
theorem dX12_list_284 : decode cX12_list 284 = .ok (.iconst 1, 1) := by decide +kernel
theorem dX12_list_285 : decode cX12_list 285 = .ok (.iadd, 1) := by decide +kernel
theorem dX12_list_286 : decode cX12_list 286 = .ok (.putfield 157, 3) := by decide +kernel
theorem dX12_list_289 : decode cX12_list 289 = .ok (.aload_n 0, 1) := by decide +kernel
theorem dX12_list_290 : decode cX12_list 290 = .ok (.getfield 157, 3) := by decide +kernel
theorem dX12_list_293 : decode cX12_list 293 = .ok (.iconst 1, 1) := by decide +kernel
theorem dX12_list_294 : decode cX12_list 294 = .ok (.isub, 1) := by decide +kernel
theorem dX12_list_295 : decode cX12_list 295 = .ok (.ireturn, 1) := by decide +kernel
theorem dX12_place_0 : decode cX12_place 0 = .ok (.aload_n 0, 1) := by decide +kernel
theorem dX12_place_1 : decode cX12_place 1 = .ok (.iconst 0, 1) := by decide +kernel
theorem dX12_place_2 : decode cX12_place 2 = .ok (.putfield 106, 3) := by decide +kernel
theorem dX12_place_5 : decode cX12_place 5 = .ok (.aload_n 0, 1) := by decide +kernel
theorem dX12_place_6 : decode cX12_place 6 = .ok (.getfield 36, 3) := by decide +kernel
theorem dX12_place_9 : decode cX12_place 9 = .ok (.ireturn, 1) := by decide +kernel
theorem dX12_isList_0 : decode cX12_isList 0 = .ok (.iload_n 1, 1) := by decide +kernel
theorem dX12_isList_1 : decode cX12_isList 1 = .ok (.iconst 0, 1) := by decide +kernel
theorem dX12_isList_2 : decode cX12_isList 2 = .ok (.aload_n 0, 1) := by decide +kernel
theorem dX12_isList_3 : decode cX12_isList 3 = .ok (.getfield 157, 3) := by decide +kernel
theorem dX12_isList_6 : decode cX12_isList 6 = .ok (.iconst 1, 1) := by decide +kernel
theorem dX12_isList_7 : decode cX12_isList 7 = .ok (.isub, 1) := by decide +kernel
theorem dX12_isList_8 : decode cX12_isList 8 = .ok (.invokestatic 112, 3) := by decide +kernel
theorem dX12_isList_11 : decode cX12_isList 11 = .ok (.ireturn, 1) := by decide +kernel
theorem dX12_isStation_0 : decode cX12_isStation 0 = .ok (.aload_n 0, 1) := by decide +kernel
theorem dX12_isStation_1 : decode cX12_isStation 1 = .ok (.iload_n 1, 1) := by decide +kernel
theorem dX12_isStation_2 : decode cX12_isStation 2 = .ok (.invokevirtual 167, 3) := by decide +kernel
theorem dX12_isStation_5 : decode cX12_isStation 5 = .ok (.ifCond .eq 23, 3) := by decide +kernel
theorem dX12_isStation_8 : decode cX12_isStation 8 = .ok (.iload_n 2, 1) := by decide +kernel
theorem dX12_isStation_9 : decode cX12_isStation 9 = .ok (.iconst 0, 1) := by decide +kernel
theorem dX12_isStation_10 : decode cX12_isStation 10 = .ok (.aload_n 0, 1) := by decide +kernel
theorem dX12_isStation_11 : decode cX12_isStation 11 = .ok (.getfield 23, 3) := by decide +kernel
theorem dX12_isStation_14 : decode cX12_isStation 14 = .ok (.iload_n 1, 1) := by decide +kernel
theorem dX12_isStation_15 : decode cX12_isStation 15 = .ok (.iaload, 1) := by decide +kernel
theorem dX12_isStation_16 : decode cX12_isStation 16 = .ok (.iconst 1, 1) := by decide +kernel
theorem dX12_isStation_17 : decode cX12_isStation 17 = .ok (.isub, 1) := by decide +kernel
theorem dX12_isStation_18 : decode cX12_isStation 18 = .ok (.invokestatic 112, 3) := by decide +kernel
theorem dX12_isStation_21 : decode cX12_isStation 21 = .ok (.ifCond .eq 7, 3) := by decide +kernel
theorem dX12_isStation_24 : decode cX12_isStation 24 = .ok (.iconst 1, 1) := by decide +kernel
theorem dX12_isStation_25 : decode cX12_isStation 25 = .ok (.goto 4, 3) := by decide +kernel
theorem dX12_isStation_28 : decode cX12_isStation 28 = .ok (.iconst 0, 1) := by decide +kernel
theorem dX12_isStation_29 : decode cX12_isStation 29 = .ok (.ireturn, 1) := by decide +kernel
theorem dX12_valueOf_0 : decode cX12_valueOf 0 = .ok (.iconst 0, 1) := by decide +kernel
theorem dX12_valueOf_1 : decode cX12_valueOf 1 = .ok (.istore_n 3, 1) := by decide +kernel
theorem dX12_valueOf_2 : decode cX12_valueOf 2 = .ok (.iconst 0, 1) := by decide +kernel
theorem dX12_valueOf_3 : decode cX12_valueOf 3 = .ok (.istore 4, 2) := by decide +kernel
theorem dX12_valueOf_5 : decode cX12_valueOf 5 = .ok (.iload 4, 2) := by decide +kernel
theorem dX12_valueOf_7 : decode cX12_valueOf 7 = .ok (.aload_n 0, 1) := by decide +kernel
theorem dX12_valueOf_8 : decode cX12_valueOf 8 = .ok (.getfield 33, 3) := by decide +kernel
theorem dX12_valueOf_11 : decode cX12_valueOf 11 = .ok (.bipush 10, 2) := by decide +kernel
theorem dX12_valueOf_13 : decode cX12_valueOf 13 = .ok (.iload_n 1, 1) := by decide +kernel
theorem dX12_valueOf_14 : decode cX12_valueOf 14 = .ok (.imul, 1) := by decide +kernel
theorem dX12_valueOf_15 : decode cX12_valueOf 15 = .ok (.iload_n 2, 1) := by decide +kernel
theorem dX12_valueOf_16 : decode cX12_valueOf 16 = .ok (.iadd, 1) := by decide +kernel
theorem dX12_valueOf_17 : decode cX12_valueOf 17 = .ok (.iaload, 1) := by decide +kernel
theorem dX12_valueOf_18 : decode cX12_valueOf 18 = .ok (.if_icmp .ge 32, 3) := by decide +kernel
theorem dX12_valueOf_21 : decode cX12_valueOf 21 = .ok (.iload_n 3, 1) := by decide +kernel
theorem dX12_valueOf_22 : decode cX12_valueOf 22 = .ok (.aload_n 0, 1) := by decide +kernel
theorem dX12_valueOf_23 : decode cX12_valueOf 23 = .ok (.getfield 30, 3) := by decide +kernel
theorem dX12_valueOf_26 : decode cX12_valueOf 26 = .ok (.bipush 9, 2) := by decide +kernel
theorem dX12_valueOf_28 : decode cX12_valueOf 28 = .ok (.bipush 10, 2) := by decide +kernel
theorem dX12_valueOf_30 : decode cX12_valueOf 30 = .ok (.iload_n 1, 1) := by decide +kernel
theorem dX12_valueOf_31 : decode cX12_valueOf 31 = .ok (.imul, 1) := by decide +kernel
theorem dX12_valueOf_32 : decode cX12_valueOf 32 = .ok (.iload_n 2, 1) := by decide +kernel
theorem dX12_valueOf_33 : decode cX12_valueOf 33 = .ok (.iadd, 1) := by decide +kernel
theorem dX12_valueOf_34 : decode cX12_valueOf 34 = .ok (.imul, 1) := by decide +kernel
theorem dX12_valueOf_35 : decode cX12_valueOf 35 = .ok (.iload 4, 2) := by decide +kernel
theorem dX12_valueOf_37 : decode cX12_valueOf 37 = .ok (.iadd, 1) := by decide +kernel
theorem dX12_valueOf_38 : decode cX12_valueOf 38 = .ok (.iaload, 1) := by decide +kernel
theorem dX12_valueOf_39 : decode cX12_valueOf 39 = .ok (.invokestatic 171, 3) := by decide +kernel
theorem dX12_valueOf_42 : decode cX12_valueOf 42 = .ok (.iadd, 1) := by decide +kernel
theorem dX12_valueOf_43 : decode cX12_valueOf 43 = .ok (.istore_n 3, 1) := by decide +kernel
theorem dX12_valueOf_44 : decode cX12_valueOf 44 = .ok (.iinc 4 1, 3) := by decide +kernel
theorem dX12_valueOf_47 : decode cX12_valueOf 47 = .ok (.goto (-42), 3) := by decide +kernel
theorem dX12_valueOf_50 : decode cX12_valueOf 50 = .ok (.iload_n 3, 1) := by decide +kernel
theorem dX12_valueOf_51 : decode cX12_valueOf 51 = .ok (.ireturn, 1) := by decide +kernel
theorem dX12_ruin_0 : decode cX12_ruin 0 = .ok (.aload_n 0, 1) := by decide +kernel
theorem dX12_ruin_1 : decode cX12_ruin 1 = .ok (.iconst 0, 1) := by decide +kernel
theorem dX12_ruin_2 : decode cX12_ruin 2 = .ok (.putfield 106, 3) := by decide +kernel
theorem dX12_ruin_5 : decode cX12_ruin 5 = .ok (.aload_n 0, 1) := by decide +kernel
theorem dX12_ruin_6 : decode cX12_ruin 6 = .ok (.invokevirtual 174, 3) := by decide +kernel
theorem dX12_ruin_9 : decode cX12_ruin 9 = .ok (.lstore_n 2, 1) := by decide +kernel
theorem dX12_ruin_10 : decode cX12_ruin 10 = .ok (.lload_n 2, 1) := by decide +kernel
theorem dX12_ruin_11 : decode cX12_ruin 11 = .ok (.lconst 0, 1) := by decide +kernel
theorem dX12_ruin_12 : decode cX12_ruin 12 = .ok (.lcmp, 1) := by decide +kernel
theorem dX12_ruin_13 : decode cX12_ruin 13 = .ok (.ifCond .eq 23, 3) := by decide +kernel
theorem dX12_ruin_16 : decode cX12_ruin 16 = .ok (.iload_n 1, 1) := by decide +kernel
theorem dX12_ruin_17 : decode cX12_ruin 17 = .ok (.iconst 0, 1) := by decide +kernel
theorem dX12_ruin_18 : decode cX12_ruin 18 = .ok (.sipush 600, 3) := by decide +kernel
theorem dX12_ruin_21 : decode cX12_ruin 21 = .ok (.invokestatic 112, 3) := by decide +kernel
theorem dX12_ruin_24 : decode cX12_ruin 24 = .ok (.ifCond .eq 12, 3) := by decide +kernel
theorem dX12_ruin_27 : decode cX12_ruin 27 = .ok (.aload_n 0, 1) := by decide +kernel
theorem dX12_ruin_28 : decode cX12_ruin 28 = .ok (.getfield 178, 3) := by decide +kernel
theorem dX12_ruin_31 : decode cX12_ruin 31 = .ok (.bipush 12, 2) := by decide +kernel
theorem dX12_ruin_33 : decode cX12_ruin 33 = .ok (.if_icmp .ne 5, 3) := by decide +kernel
theorem dX12_ruin_36 : decode cX12_ruin 36 = .ok (.iconst (-1), 1) := by decide +kernel
theorem dX12_ruin_37 : decode cX12_ruin 37 = .ok (.ireturn, 1) := by decide +kernel
theorem dX12_ruin_38 : decode cX12_ruin 38 = .ok (.iconst 0, 1) := by decide +kernel
theorem dX12_ruin_39 : decode cX12_ruin 39 = .ok (.istore 4, 2) := by decide +kernel
theorem dX12_ruin_41 : decode cX12_ruin 41 = .ok (.iload 4, 2) := by decide +kernel
theorem dX12_ruin_43 : decode cX12_ruin 43 = .ok (.aload_n 0, 1) := by decide +kernel
theorem dX12_ruin_44 : decode cX12_ruin 44 = .ok (.getfield 178, 3) := by decide +kernel
theorem dX12_ruin_47 : decode cX12_ruin 47 = .ok (.if_icmp .ge 22, 3) := by decide +kernel
theorem dX12_ruin_50 : decode cX12_ruin 50 = .ok (.aload_n 0, 1) := by decide +kernel
theorem dX12_ruin_51 : decode cX12_ruin 51 = .ok (.getfield 40, 3) := by decide +kernel
theorem dX12_ruin_54 : decode cX12_ruin 54 = .ok (.iload 4, 2) := by decide +kernel
theorem dX12_ruin_56 : decode cX12_ruin 56 = .ok (.iaload, 1) := by decide +kernel
theorem dX12_ruin_57 : decode cX12_ruin 57 = .ok (.iload_n 1, 1) := by decide +kernel
theorem dX12_ruin_58 : decode cX12_ruin 58 = .ok (.if_icmp .ne 5, 3) := by decide +kernel
theorem dX12_ruin_61 : decode cX12_ruin 61 = .ok (.iconst (-1), 1) := by decide +kernel
theorem dX12_ruin_62 : decode cX12_ruin 62 = .ok (.ireturn, 1) := by decide +kernel
theorem dX12_ruin_63 : decode cX12_ruin 63 = .ok (.iinc 4 1, 3) := by decide +kernel
theorem dX12_ruin_66 : decode cX12_ruin 66 = .ok (.goto (-25), 3) := by decide +kernel
theorem dX12_ruin_69 : decode cX12_ruin 69 = .ok (.aload_n 0, 1) := by decide +kernel
theorem dX12_ruin_70 : decode cX12_ruin 70 = .ok (.getfield 40, 3) := by decide +kernel
theorem dX12_ruin_73 : decode cX12_ruin 73 = .ok (.aload_n 0, 1) := by decide +kernel
theorem dX12_ruin_74 : decode cX12_ruin 74 = .ok (.getfield 178, 3) := by decide +kernel
theorem dX12_ruin_77 : decode cX12_ruin 77 = .ok (.iload_n 1, 1) := by decide +kernel
theorem dX12_ruin_78 : decode cX12_ruin 78 = .ok (.iastore, 1) := by decide +kernel
theorem dX12_ruin_79 : decode cX12_ruin 79 = .ok (.aload_n 0, 1) := by decide +kernel
theorem dX12_ruin_80 : decode cX12_ruin 80 = .ok (.getfield 43, 3) := by decide +kernel
theorem dX12_ruin_83 : decode cX12_ruin 83 = .ok (.aload_n 0, 1) := by decide +kernel
theorem dX12_ruin_84 : decode cX12_ruin 84 = .ok (.getfield 178, 3) := by decide +kernel
theorem dX12_ruin_87 : decode cX12_ruin 87 = .ok (.lload_n 2, 1) := by decide +kernel
theorem dX12_ruin_88 : decode cX12_ruin 88 = .ok (.lastore, 1) := by decide +kernel
theorem dX12_ruin_89 : decode cX12_ruin 89 = .ok (.aload_n 0, 1) := by decide +kernel
theorem dX12_ruin_90 : decode cX12_ruin 90 = .ok (.getfield 46, 3) := by decide +kernel
theorem dX12_ruin_93 : decode cX12_ruin 93 = .ok (.aload_n 0, 1) := by decide +kernel
theorem dX12_ruin_94 : decode cX12_ruin 94 = .ok (.getfield 178, 3) := by decide +kernel
theorem dX12_ruin_97 : decode cX12_ruin 97 = .ok (.aload_n 0, 1) := by decide +kernel
theorem dX12_ruin_98 : decode cX12_ruin 98 = .ok (.getfield 181, 3) := by decide +kernel
theorem dX12_ruin_101 : decode cX12_ruin 101 = .ok (.iastore, 1) := by decide +kernel
theorem dX12_ruin_102 : decode cX12_ruin 102 = .ok (.aload_n 0, 1) := by decide +kernel
theorem dX12_ruin_103 : decode cX12_ruin 103 = .ok (.dup, 1) := by decide +kernel
theorem dX12_ruin_104 : decode cX12_ruin 104 = .ok (.getfield 178, 3) := by decide +kernel
theorem dX12_ruin_107 : decode cX12_ruin 107 = .ok (.iconst 1, 1) := by decide +kernel
theorem dX12_ruin_108 : decode cX12_ruin 108 = .ok (.iadd, 1) := by decide +kernel
theorem dX12_ruin_109 : decode cX12_ruin 109 = .ok (.putfield 178, 3) := by decide +kernel
theorem dX12_ruin_112 : decode cX12_ruin 112 = .ok (.aload_n 0, 1) := by decide +kernel
theorem dX12_ruin_113 : decode cX12_ruin 113 = .ok (.getfield 178, 3) := by decide +kernel
theorem dX12_ruin_116 : decode cX12_ruin 116 = .ok (.iconst 1, 1) := by decide +kernel
theorem dX12_ruin_117 : decode cX12_ruin 117 = .ok (.isub, 1) := by decide +kernel
theorem dX12_ruin_118 : decode cX12_ruin 118 = .ok (.ireturn, 1) := by decide +kernel
theorem dX12_stone_0 : decode cX12_stone 0 = .ok (.aload_n 0, 1) := by decide +kernel
theorem dX12_stone_1 : decode cX12_stone 1 = .ok (.iconst 0, 1) := by decide +kernel
theorem dX12_stone_2 : decode cX12_stone 2 = .ok (.putfield 106, 3) := by decide +kernel
theorem dX12_stone_5 : decode cX12_stone 5 = .ok (.aload_n 0, 1) := by decide +kernel
theorem dX12_stone_6 : decode cX12_stone 6 = .ok (.invokevirtual 174, 3) := by decide +kernel
theorem dX12_stone_9 : decode cX12_stone 9 = .ok (.lstore 4, 2) := by decide +kernel
theorem dX12_stone_11 : decode cX12_stone 11 = .ok (.lload 4, 2) := by decide +kernel
theorem dX12_stone_13 : decode cX12_stone 13 = .ok (.lconst 0, 1) := by decide +kernel
theorem dX12_stone_14 : decode cX12_stone 14 = .ok (.lcmp, 1) := by decide +kernel
theorem dX12_stone_15 : decode cX12_stone 15 = .ok (.ifCond .eq 43, 3) := by decide +kernel
theorem dX12_stone_18 : decode cX12_stone 18 = .ok (.iload_n 1, 1) := by decide +kernel
theorem dX12_stone_19 : decode cX12_stone 19 = .ok (.iconst 0, 1) := by decide +kernel
theorem dX12_stone_20 : decode cX12_stone 20 = .ok (.sipush 600, 3) := by decide +kernel
theorem dX12_stone_23 : decode cX12_stone 23 = .ok (.invokestatic 112, 3) := by decide +kernel
theorem dX12_stone_26 : decode cX12_stone 26 = .ok (.ifCond .eq 32, 3) := by decide +kernel
theorem dX12_stone_29 : decode cX12_stone 29 = .ok (.iload_n 2, 1) := by decide +kernel
theorem dX12_stone_30 : decode cX12_stone 30 = .ok (.iconst 1, 1) := by decide +kernel
theorem dX12_stone_31 : decode cX12_stone 31 = .ok (.sipush 200, 3) := by decide +kernel
theorem dX12_stone_34 : decode cX12_stone 34 = .ok (.invokestatic 112, 3) := by decide +kernel
theorem dX12_stone_37 : decode cX12_stone 37 = .ok (.ifCond .eq 21, 3) := by decide +kernel
theorem dX12_stone_40 : decode cX12_stone 40 = .ok (.iload_n 3, 1) := by decide +kernel
theorem dX12_stone_41 : decode cX12_stone 41 = .ok (.iconst 2, 1) := by decide +kernel
theorem dX12_stone_42 : decode cX12_stone 42 = .ok (.iconst 3, 1) := by decide +kernel
theorem dX12_stone_43 : decode cX12_stone 43 = .ok (.invokestatic 112, 3) := by decide +kernel
theorem dX12_stone_46 : decode cX12_stone 46 = .ok (.ifCond .eq 12, 3) := by decide +kernel
theorem dX12_stone_49 : decode cX12_stone 49 = .ok (.aload_n 0, 1) := by decide +kernel
theorem dX12_stone_50 : decode cX12_stone 50 = .ok (.getfield 184, 3) := by decide +kernel
theorem dX12_stone_53 : decode cX12_stone 53 = .ok (.bipush 12, 2) := by decide +kernel
theorem dX12_stone_55 : decode cX12_stone 55 = .ok (.if_icmp .ne 5, 3) := by decide +kernel
theorem dX12_stone_58 : decode cX12_stone 58 = .ok (.iconst (-1), 1) := by decide +kernel
theorem dX12_stone_59 : decode cX12_stone 59 = .ok (.ireturn, 1) := by decide +kernel
theorem dX12_stone_60 : decode cX12_stone 60 = .ok (.aload_n 0, 1) := by decide +kernel
theorem dX12_stone_61 : decode cX12_stone 61 = .ok (.getfield 49, 3) := by decide +kernel
theorem dX12_stone_64 : decode cX12_stone 64 = .ok (.aload_n 0, 1) := by decide +kernel
theorem dX12_stone_65 : decode cX12_stone 65 = .ok (.getfield 184, 3) := by decide +kernel
theorem dX12_stone_68 : decode cX12_stone 68 = .ok (.iload_n 1, 1) := by decide +kernel
theorem dX12_stone_69 : decode cX12_stone 69 = .ok (.iastore, 1) := by decide +kernel
theorem dX12_stone_70 : decode cX12_stone 70 = .ok (.aload_n 0, 1) := by decide +kernel
theorem dX12_stone_71 : decode cX12_stone 71 = .ok (.getfield 52, 3) := by decide +kernel
theorem dX12_stone_74 : decode cX12_stone 74 = .ok (.aload_n 0, 1) := by decide +kernel
theorem dX12_stone_75 : decode cX12_stone 75 = .ok (.getfield 184, 3) := by decide +kernel
theorem dX12_stone_78 : decode cX12_stone 78 = .ok (.lload 4, 2) := by decide +kernel
theorem dX12_stone_80 : decode cX12_stone 80 = .ok (.lastore, 1) := by decide +kernel
theorem dX12_stone_81 : decode cX12_stone 81 = .ok (.aload_n 0, 1) := by decide +kernel
theorem dX12_stone_82 : decode cX12_stone 82 = .ok (.getfield 55, 3) := by decide +kernel
theorem dX12_stone_85 : decode cX12_stone 85 = .ok (.aload_n 0, 1) := by decide +kernel
theorem dX12_stone_86 : decode cX12_stone 86 = .ok (.getfield 184, 3) := by decide +kernel
theorem dX12_stone_89 : decode cX12_stone 89 = .ok (.iload_n 2, 1) := by decide +kernel
theorem dX12_stone_90 : decode cX12_stone 90 = .ok (.iload_n 3, 1) := by decide +kernel
theorem dX12_stone_91 : decode cX12_stone 91 = .ok (.imul, 1) := by decide +kernel
theorem dX12_stone_92 : decode cX12_stone 92 = .ok (.iastore, 1) := by decide +kernel
theorem dX12_stone_93 : decode cX12_stone 93 = .ok (.aload_n 0, 1) := by decide +kernel
theorem dX12_stone_94 : decode cX12_stone 94 = .ok (.getfield 58, 3) := by decide +kernel
theorem dX12_stone_97 : decode cX12_stone 97 = .ok (.aload_n 0, 1) := by decide +kernel
theorem dX12_stone_98 : decode cX12_stone 98 = .ok (.getfield 184, 3) := by decide +kernel
theorem dX12_stone_101 : decode cX12_stone 101 = .ok (.aload_n 0, 1) := by decide +kernel
theorem dX12_stone_102 : decode cX12_stone 102 = .ok (.getfield 181, 3) := by decide +kernel
theorem dX12_stone_105 : decode cX12_stone 105 = .ok (.iastore, 1) := by decide +kernel
theorem dX12_stone_106 : decode cX12_stone 106 = .ok (.aload_n 0, 1) := by decide +kernel
theorem dX12_stone_107 : decode cX12_stone 107 = .ok (.dup, 1) := by decide +kernel
theorem dX12_stone_108 : decode cX12_stone 108 = .ok (.getfield 184, 3) := by decide +kernel
theorem dX12_stone_111 : decode cX12_stone 111 = .ok (.iconst 1, 1) := by decide +kernel
theorem dX12_stone_112 : decode cX12_stone 112 = .ok (.iadd, 1) := by decide +kernel
theorem dX12_stone_113 : decode cX12_stone 113 = .ok (.putfield 184, 3) := by decide +kernel
theorem dX12_stone_116 : decode cX12_stone 116 = .ok (.aload_n 0, 1) := by decide +kernel
theorem dX12_stone_117 : decode cX12_stone 117 = .ok (.getfield 184, 3) := by decide +kernel
theorem dX12_stone_120 : decode cX12_stone 120 = .ok (.iconst 1, 1) := by decide +kernel
theorem dX12_stone_121 : decode cX12_stone 121 = .ok (.isub, 1) := by decide +kernel
theorem dX12_stone_122 : decode cX12_stone 122 = .ok (.ireturn, 1) := by decide +kernel
theorem dX12_habit_0 : decode cX12_habit 0 = .ok (.aload_n 0, 1) := by decide +kernel
theorem dX12_habit_1 : decode cX12_habit 1 = .ok (.iconst 0, 1) := by decide +kernel
theorem dX12_habit_2 : decode cX12_habit 2 = .ok (.putfield 106, 3) := by decide +kernel
theorem dX12_habit_5 : decode cX12_habit 5 = .ok (.iload_n 1, 1) := by decide +kernel
theorem dX12_habit_6 : decode cX12_habit 6 = .ok (.iconst 0, 1) := by decide +kernel
theorem dX12_habit_7 : decode cX12_habit 7 = .ok (.iconst 4, 1) := by decide +kernel
theorem dX12_habit_8 : decode cX12_habit 8 = .ok (.invokestatic 112, 3) := by decide +kernel
theorem dX12_habit_11 : decode cX12_habit 11 = .ok (.ifCond .eq 36, 3) := by decide +kernel
theorem dX12_habit_14 : decode cX12_habit 14 = .ok (.iload_n 2, 1) := by decide +kernel
theorem dX12_habit_15 : decode cX12_habit 15 = .ok (.iconst 0, 1) := by decide +kernel
theorem dX12_habit_16 : decode cX12_habit 16 = .ok (.iconst 4, 1) := by decide +kernel
theorem dX12_habit_17 : decode cX12_habit 17 = .ok (.invokestatic 112, 3) := by decide +kernel
theorem dX12_habit_20 : decode cX12_habit 20 = .ok (.ifCond .eq 27, 3) := by decide +kernel
theorem dX12_habit_23 : decode cX12_habit 23 = .ok (.iload_n 1, 1) := by decide +kernel
theorem dX12_habit_24 : decode cX12_habit 24 = .ok (.iload_n 2, 1) := by decide +kernel
theorem dX12_habit_25 : decode cX12_habit 25 = .ok (.if_icmp .eq 22, 3) := by decide +kernel
theorem dX12_habit_28 : decode cX12_habit 28 = .ok (.iload_n 3, 1) := by decide +kernel
theorem dX12_habit_29 : decode cX12_habit 29 = .ok (.iconst 1, 1) := by decide +kernel
theorem dX12_habit_30 : decode cX12_habit 30 = .ok (.bipush 20, 2) := by decide +kernel
theorem dX12_habit_32 : decode cX12_habit 32 = .ok (.invokestatic 112, 3) := by decide +kernel
theorem dX12_habit_35 : decode cX12_habit 35 = .ok (.ifCond .eq 12, 3) := by decide +kernel
theorem dX12_habit_38 : decode cX12_habit 38 = .ok (.aload_n 0, 1) := by decide +kernel
theorem dX12_habit_39 : decode cX12_habit 39 = .ok (.getfield 187, 3) := by decide +kernel
theorem dX12_habit_42 : decode cX12_habit 42 = .ok (.bipush 20, 2) := by decide +kernel
theorem dX12_habit_44 : decode cX12_habit 44 = .ok (.if_icmp .ne 5, 3) := by decide +kernel
theorem dX12_habit_47 : decode cX12_habit 47 = .ok (.iconst (-1), 1) := by decide +kernel
theorem dX12_habit_48 : decode cX12_habit 48 = .ok (.ireturn, 1) := by decide +kernel
theorem dX12_habit_49 : decode cX12_habit 49 = .ok (.aload_n 0, 1) := by decide +kernel
theorem dX12_habit_50 : decode cX12_habit 50 = .ok (.getfield 61, 3) := by decide +kernel
theorem dX12_habit_53 : decode cX12_habit 53 = .ok (.aload_n 0, 1) := by decide +kernel
theorem dX12_habit_54 : decode cX12_habit 54 = .ok (.getfield 187, 3) := by decide +kernel
theorem dX12_habit_57 : decode cX12_habit 57 = .ok (.iload_n 1, 1) := by decide +kernel
theorem dX12_habit_58 : decode cX12_habit 58 = .ok (.iastore, 1) := by decide +kernel
theorem dX12_habit_59 : decode cX12_habit 59 = .ok (.aload_n 0, 1) := by decide +kernel
theorem dX12_habit_60 : decode cX12_habit 60 = .ok (.getfield 64, 3) := by decide +kernel
theorem dX12_habit_63 : decode cX12_habit 63 = .ok (.aload_n 0, 1) := by decide +kernel
theorem dX12_habit_64 : decode cX12_habit 64 = .ok (.getfield 187, 3) := by decide +kernel
theorem dX12_habit_67 : decode cX12_habit 67 = .ok (.iload_n 2, 1) := by decide +kernel
theorem dX12_habit_68 : decode cX12_habit 68 = .ok (.iastore, 1) := by decide +kernel
theorem dX12_habit_69 : decode cX12_habit 69 = .ok (.aload_n 0, 1) := by decide +kernel
theorem dX12_habit_70 : decode cX12_habit 70 = .ok (.getfield 67, 3) := by decide +kernel
theorem dX12_habit_73 : decode cX12_habit 73 = .ok (.aload_n 0, 1) := by decide +kernel
theorem dX12_habit_74 : decode cX12_habit 74 = .ok (.getfield 187, 3) := by decide +kernel
theorem dX12_habit_77 : decode cX12_habit 77 = .ok (.iload_n 3, 1) := by decide +kernel
theorem dX12_habit_78 : decode cX12_habit 78 = .ok (.iastore, 1) := by decide +kernel
theorem dX12_habit_79 : decode cX12_habit 79 = .ok (.aload_n 0, 1) := by decide +kernel
theorem dX12_habit_80 : decode cX12_habit 80 = .ok (.dup, 1) := by decide +kernel
theorem dX12_habit_81 : decode cX12_habit 81 = .ok (.getfield 187, 3) := by decide +kernel
theorem dX12_habit_84 : decode cX12_habit 84 = .ok (.iconst 1, 1) := by decide +kernel
theorem dX12_habit_85 : decode cX12_habit 85 = .ok (.iadd, 1) := by decide +kernel
theorem dX12_habit_86 : decode cX12_habit 86 = .ok (.putfield 187, 3) := by decide +kernel
theorem dX12_habit_89 : decode cX12_habit 89 = .ok (.aload_n 0, 1) := by decide +kernel
theorem dX12_habit_90 : decode cX12_habit 90 = .ok (.getfield 187, 3) := by decide +kernel
theorem dX12_habit_93 : decode cX12_habit 93 = .ok (.iconst 1, 1) := by decide +kernel
theorem dX12_habit_94 : decode cX12_habit 94 = .ok (.isub, 1) := by decide +kernel
theorem dX12_habit_95 : decode cX12_habit 95 = .ok (.ireturn, 1) := by decide +kernel
theorem dX12_costs_0 : decode cX12_costs 0 = .ok (.aload_n 0, 1) := by decide +kernel
theorem dX12_costs_1 : decode cX12_costs 1 = .ok (.iconst 0, 1) := by decide +kernel
theorem dX12_costs_2 : decode cX12_costs 2 = .ok (.putfield 106, 3) := by decide +kernel
theorem dX12_costs_5 : decode cX12_costs 5 = .ok (.iload_n 1, 1) := by decide +kernel
theorem dX12_costs_6 : decode cX12_costs 6 = .ok (.iconst 0, 1) := by decide +kernel
theorem dX12_costs_7 : decode cX12_costs 7 = .ok (.bipush 50, 2) := by decide +kernel
theorem dX12_costs_9 : decode cX12_costs 9 = .ok (.invokestatic 112, 3) := by decide +kernel
theorem dX12_costs_12 : decode cX12_costs 12 = .ok (.ifCond .eq 13, 3) := by decide +kernel
theorem dX12_costs_15 : decode cX12_costs 15 = .ok (.iload_n 2, 1) := by decide +kernel
theorem dX12_costs_16 : decode cX12_costs 16 = .ok (.iconst 0, 1) := by decide +kernel
theorem dX12_costs_17 : decode cX12_costs 17 = .ok (.bipush 50, 2) := by decide +kernel
theorem dX12_costs_19 : decode cX12_costs 19 = .ok (.invokestatic 112, 3) := by decide +kernel
theorem dX12_costs_22 : decode cX12_costs 22 = .ok (.ifCond .ne 5, 3) := by decide +kernel
theorem dX12_costs_25 : decode cX12_costs 25 = .ok (.iconst 0, 1) := by decide +kernel
theorem dX12_costs_26 : decode cX12_costs 26 = .ok (.ireturn, 1) := by decide +kernel
theorem dX12_costs_27 : decode cX12_costs 27 = .ok (.aload_n 0, 1) := by decide +kernel
theorem dX12_costs_28 : decode cX12_costs 28 = .ok (.iload_n 1, 1) := by decide +kernel
theorem dX12_costs_29 : decode cX12_costs 29 = .ok (.putfield 70, 3) := by decide +kernel
theorem dX12_costs_32 : decode cX12_costs 32 = .ok (.aload_n 0, 1) := by decide +kernel
theorem dX12_costs_33 : decode cX12_costs 33 = .ok (.iload_n 2, 1) := by decide +kernel
theorem dX12_costs_34 : decode cX12_costs 34 = .ok (.putfield 73, 3) := by decide +kernel
theorem dX12_costs_37 : decode cX12_costs 37 = .ok (.iconst 1, 1) := by decide +kernel
theorem dX12_costs_38 : decode cX12_costs 38 = .ok (.ireturn, 1) := by decide +kernel
theorem dX12_day_0 : decode cX12_day 0 = .ok (.aload_n 0, 1) := by decide +kernel
theorem dX12_day_1 : decode cX12_day 1 = .ok (.iconst 0, 1) := by decide +kernel
theorem dX12_day_2 : decode cX12_day 2 = .ok (.putfield 106, 3) := by decide +kernel
theorem dX12_day_5 : decode cX12_day 5 = .ok (.iload_n 1, 1) := by decide +kernel
theorem dX12_day_6 : decode cX12_day 6 = .ok (.iconst 0, 1) := by decide +kernel
theorem dX12_day_7 : decode cX12_day 7 = .ok (.sipush 1000, 3) := by decide +kernel
theorem dX12_day_10 : decode cX12_day 10 = .ok (.invokestatic 112, 3) := by decide +kernel
theorem dX12_day_13 : decode cX12_day 13 = .ok (.ifCond .eq 14, 3) := by decide +kernel
theorem dX12_day_16 : decode cX12_day 16 = .ok (.aload_n 0, 1) := by decide +kernel
theorem dX12_day_17 : decode cX12_day 17 = .ok (.getfield 181, 3) := by decide +kernel
theorem dX12_day_20 : decode cX12_day 20 = .ok (.iload_n 1, 1) := by decide +kernel
theorem dX12_day_21 : decode cX12_day 21 = .ok (.iadd, 1) := by decide +kernel
theorem dX12_day_22 : decode cX12_day 22 = .ok (.ldc 190, 2) := by decide +kernel
theorem dX12_day_24 : decode cX12_day 24 = .ok (.if_icmp .le 5, 3) := by decide +kernel
theorem dX12_day_27 : decode cX12_day 27 = .ok (.iconst (-1), 1) := by decide +kernel
theorem dX12_day_28 : decode cX12_day 28 = .ok (.ireturn, 1) := by decide +kernel
theorem dX12_day_29 : decode cX12_day 29 = .ok (.aload_n 0, 1) := by decide +kernel
theorem dX12_day_30 : decode cX12_day 30 = .ok (.dup, 1) := by decide +kernel
theorem dX12_day_31 : decode cX12_day 31 = .ok (.getfield 181, 3) := by decide +kernel
theorem dX12_day_34 : decode cX12_day 34 = .ok (.iload_n 1, 1) := by decide +kernel
theorem dX12_day_35 : decode cX12_day 35 = .ok (.iadd, 1) := by decide +kernel
theorem dX12_day_36 : decode cX12_day 36 = .ok (.putfield 181, 3) := by decide +kernel
theorem dX12_day_39 : decode cX12_day 39 = .ok (.aload_n 0, 1) := by decide +kernel
theorem dX12_day_40 : decode cX12_day 40 = .ok (.getfield 181, 3) := by decide +kernel
theorem dX12_day_43 : decode cX12_day 43 = .ok (.ireturn, 1) := by decide +kernel
theorem dX12_apart__0 : decode cX12_apart_ 0 = .ok (.aload_n 0, 1) := by decide +kernel
theorem dX12_apart__1 : decode cX12_apart_ 1 = .ok (.iconst 0, 1) := by decide +kernel
theorem dX12_apart__2 : decode cX12_apart_ 2 = .ok (.putfield 106, 3) := by decide +kernel
theorem dX12_apart__5 : decode cX12_apart_ 5 = .ok (.aload_n 0, 1) := by decide +kernel
theorem dX12_apart__6 : decode cX12_apart_ 6 = .ok (.invokevirtual 174, 3) := by decide +kernel
theorem dX12_apart__9 : decode cX12_apart_ 9 = .ok (.lstore_n 3, 1) := by decide +kernel
theorem dX12_apart__10 : decode cX12_apart_ 10 = .ok (.lload_n 3, 1) := by decide +kernel
theorem dX12_apart__11 : decode cX12_apart_ 11 = .ok (.lconst 0, 1) := by decide +kernel
theorem dX12_apart__12 : decode cX12_apart_ 12 = .ok (.lcmp, 1) := by decide +kernel
theorem dX12_apart__13 : decode cX12_apart_ 13 = .ok (.ifCond .eq 12, 3) := by decide +kernel
theorem dX12_apart__16 : decode cX12_apart_ 16 = .ok (.aload_n 0, 1) := by decide +kernel
theorem dX12_apart__17 : decode cX12_apart_ 17 = .ok (.iload_n 1, 1) := by decide +kernel
theorem dX12_apart__18 : decode cX12_apart_ 18 = .ok (.iload_n 2, 1) := by decide +kernel
theorem dX12_apart__19 : decode cX12_apart_ 19 = .ok (.invokevirtual 191, 3) := by decide +kernel
theorem dX12_apart__22 : decode cX12_apart_ 22 = .ok (.ifCond .ne 7, 3) := by decide +kernel
theorem dX12_apart__25 : decode cX12_apart_ 25 = .ok (.iconst (-1), 1) := by decide +kernel
theorem dX12_apart__26 : decode cX12_apart_ 26 = .ok (.goto 19, 3) := by decide +kernel
theorem dX12_apart__29 : decode cX12_apart_ 29 = .ok (.aload_n 0, 1) := by decide +kernel
theorem dX12_apart__30 : decode cX12_apart_ 30 = .ok (.lload_n 3, 1) := by decide +kernel
theorem dX12_apart__31 : decode cX12_apart_ 31 = .ok (.aload_n 0, 1) := by decide +kernel
theorem dX12_apart__32 : decode cX12_apart_ 32 = .ok (.getfield 26, 3) := by decide +kernel
theorem dX12_apart__35 : decode cX12_apart_ 35 = .ok (.bipush 10, 2) := by decide +kernel
theorem dX12_apart__37 : decode cX12_apart_ 37 = .ok (.iload_n 1, 1) := by decide +kernel
theorem dX12_apart__38 : decode cX12_apart_ 38 = .ok (.imul, 1) := by decide +kernel
theorem dX12_apart__39 : decode cX12_apart_ 39 = .ok (.iload_n 2, 1) := by decide +kernel
theorem dX12_apart__40 : decode cX12_apart_ 40 = .ok (.iadd, 1) := by decide +kernel
theorem dX12_apart__41 : decode cX12_apart_ 41 = .ok (.laload, 1) := by decide +kernel
theorem dX12_apart__42 : decode cX12_apart_ 42 = .ok (.invokevirtual 194, 3) := by decide +kernel
theorem dX12_apart__45 : decode cX12_apart_ 45 = .ok (.ireturn, 1) := by decide +kernel
theorem dX12_canBe_0 : decode cX12_canBe 0 = .ok (.bipush 10, 2) := by decide +kernel
theorem dX12_canBe_2 : decode cX12_canBe 2 = .ok (.iload_n 1, 1) := by decide +kernel
theorem dX12_canBe_3 : decode cX12_canBe 3 = .ok (.imul, 1) := by decide +kernel
theorem dX12_canBe_4 : decode cX12_canBe 4 = .ok (.iload_n 2, 1) := by decide +kernel
theorem dX12_canBe_5 : decode cX12_canBe 5 = .ok (.iadd, 1) := by decide +kernel
theorem dX12_canBe_6 : decode cX12_canBe 6 = .ok (.istore 4, 2) := by decide +kernel
theorem dX12_canBe_8 : decode cX12_canBe 8 = .ok (.aload_n 0, 1) := by decide +kernel
theorem dX12_canBe_9 : decode cX12_canBe 9 = .ok (.getfield 64, 3) := by decide +kernel
theorem dX12_canBe_12 : decode cX12_canBe 12 = .ok (.iload_n 3, 1) := by decide +kernel
theorem dX12_canBe_13 : decode cX12_canBe 13 = .ok (.iaload, 1) := by decide +kernel
theorem dX12_canBe_14 : decode cX12_canBe 14 = .ok (.ifCond .ne 5, 3) := by decide +kernel
theorem dX12_canBe_17 : decode cX12_canBe 17 = .ok (.iconst 1, 1) := by decide +kernel
theorem dX12_canBe_18 : decode cX12_canBe 18 = .ok (.ireturn, 1) := by decide +kernel
theorem dX12_canBe_19 : decode cX12_canBe 19 = .ok (.aload_n 0, 1) := by decide +kernel
theorem dX12_canBe_20 : decode cX12_canBe 20 = .ok (.getfield 61, 3) := by decide +kernel
theorem dX12_canBe_23 : decode cX12_canBe 23 = .ok (.iload_n 3, 1) := by decide +kernel
theorem dX12_canBe_24 : decode cX12_canBe 24 = .ok (.iaload, 1) := by decide +kernel
theorem dX12_canBe_25 : decode cX12_canBe 25 = .ok (.ifCond .ne 36, 3) := by decide +kernel
theorem dX12_canBe_28 : decode cX12_canBe 28 = .ok (.aload_n 0, 1) := by decide +kernel
theorem dX12_canBe_29 : decode cX12_canBe 29 = .ok (.getfield 33, 3) := by decide +kernel
theorem dX12_canBe_32 : decode cX12_canBe 32 = .ok (.iload 4, 2) := by decide +kernel
theorem dX12_canBe_34 : decode cX12_canBe 34 = .ok (.iaload, 1) := by decide +kernel
theorem dX12_canBe_35 : decode cX12_canBe 35 = .ok (.iconst 1, 1) := by decide +kernel
theorem dX12_canBe_36 : decode cX12_canBe 36 = .ok (.if_icmp .le 23, 3) := by decide +kernel
theorem dX12_canBe_39 : decode cX12_canBe 39 = .ok (.aload_n 0, 1) := by decide +kernel
theorem dX12_canBe_40 : decode cX12_canBe 40 = .ok (.iload 4, 2) := by decide +kernel
theorem dX12_canBe_42 : decode cX12_canBe 42 = .ok (.aload_n 0, 1) := by decide +kernel
theorem dX12_canBe_43 : decode cX12_canBe 43 = .ok (.getfield 64, 3) := by decide +kernel
theorem dX12_canBe_46 : decode cX12_canBe 46 = .ok (.iload_n 3, 1) := by decide +kernel
theorem dX12_canBe_47 : decode cX12_canBe 47 = .ok (.iaload, 1) := by decide +kernel
theorem dX12_canBe_48 : decode cX12_canBe 48 = .ok (.invokevirtual 198, 3) := by decide +kernel
theorem dX12_canBe_51 : decode cX12_canBe 51 = .ok (.iconst (-1), 1) := by decide +kernel
theorem dX12_canBe_52 : decode cX12_canBe 52 = .ok (.if_icmp .eq 7, 3) := by decide +kernel
theorem dX12_canBe_55 : decode cX12_canBe 55 = .ok (.iconst 1, 1) := by decide +kernel
theorem dX12_canBe_56 : decode cX12_canBe 56 = .ok (.goto 4, 3) := by decide +kernel
theorem dX12_canBe_59 : decode cX12_canBe 59 = .ok (.iconst 0, 1) := by decide +kernel
theorem dX12_canBe_60 : decode cX12_canBe 60 = .ok (.ireturn, 1) := by decide +kernel
theorem dX12_canBe_61 : decode cX12_canBe 61 = .ok (.iconst 0, 1) := by decide +kernel
theorem dX12_canBe_62 : decode cX12_canBe 62 = .ok (.istore 5, 2) := by decide +kernel
theorem dX12_canBe_64 : decode cX12_canBe 64 = .ok (.iload 5, 2) := by decide +kernel
theorem dX12_canBe_66 : decode cX12_canBe 66 = .ok (.aload_n 0, 1) := by decide +kernel
theorem dX12_canBe_67 : decode cX12_canBe 67 = .ok (.getfield 33, 3) := by decide +kernel
theorem dX12_canBe_70 : decode cX12_canBe 70 = .ok (.iload 4, 2) := by decide +kernel
theorem dX12_canBe_72 : decode cX12_canBe 72 = .ok (.iaload, 1) := by decide +kernel
theorem dX12_canBe_73 : decode cX12_canBe 73 = .ok (.if_icmp .ge 115, 3) := by decide +kernel
theorem dX12_canBe_76 : decode cX12_canBe 76 = .ok (.aload_n 0, 1) := by decide +kernel
theorem dX12_canBe_77 : decode cX12_canBe 77 = .ok (.getfield 30, 3) := by decide +kernel
theorem dX12_canBe_80 : decode cX12_canBe 80 = .ok (.bipush 9, 2) := by decide +kernel
theorem dX12_canBe_82 : decode cX12_canBe 82 = .ok (.iload 4, 2) := by decide +kernel
theorem dX12_canBe_84 : decode cX12_canBe 84 = .ok (.imul, 1) := by decide +kernel
theorem dX12_canBe_85 : decode cX12_canBe 85 = .ok (.iload 5, 2) := by decide +kernel
theorem dX12_canBe_87 : decode cX12_canBe 87 = .ok (.iadd, 1) := by decide +kernel
theorem dX12_canBe_88 : decode cX12_canBe 88 = .ok (.iaload, 1) := by decide +kernel
theorem dX12_canBe_89 : decode cX12_canBe 89 = .ok (.aload_n 0, 1) := by decide +kernel
theorem dX12_canBe_90 : decode cX12_canBe 90 = .ok (.getfield 64, 3) := by decide +kernel
theorem dX12_canBe_93 : decode cX12_canBe 93 = .ok (.iload_n 3, 1) := by decide +kernel
theorem dX12_canBe_94 : decode cX12_canBe 94 = .ok (.iaload, 1) := by decide +kernel
theorem dX12_canBe_95 : decode cX12_canBe 95 = .ok (.if_icmp .eq 6, 3) := by decide +kernel
theorem dX12_canBe_98 : decode cX12_canBe 98 = .ok (.goto 84, 3) := by decide +kernel
theorem dX12_canBe_101 : decode cX12_canBe 101 = .ok (.iload 5, 2) := by decide +kernel
theorem dX12_canBe_103 : decode cX12_canBe 103 = .ok (.ifCond .eq 27, 3) := by decide +kernel
theorem dX12_canBe_106 : decode cX12_canBe 106 = .ok (.aload_n 0, 1) := by decide +kernel
theorem dX12_canBe_107 : decode cX12_canBe 107 = .ok (.getfield 30, 3) := by decide +kernel
theorem dX12_canBe_110 : decode cX12_canBe 110 = .ok (.bipush 9, 2) := by decide +kernel
theorem dX12_canBe_112 : decode cX12_canBe 112 = .ok (.iload 4, 2) := by decide +kernel
theorem dX12_canBe_114 : decode cX12_canBe 114 = .ok (.imul, 1) := by decide +kernel
theorem dX12_canBe_115 : decode cX12_canBe 115 = .ok (.iload 5, 2) := by decide +kernel
theorem dX12_canBe_117 : decode cX12_canBe 117 = .ok (.iadd, 1) := by decide +kernel
theorem dX12_canBe_118 : decode cX12_canBe 118 = .ok (.iconst 1, 1) := by decide +kernel
theorem dX12_canBe_119 : decode cX12_canBe 119 = .ok (.isub, 1) := by decide +kernel
theorem dX12_canBe_120 : decode cX12_canBe 120 = .ok (.iaload, 1) := by decide +kernel
theorem dX12_canBe_121 : decode cX12_canBe 121 = .ok (.aload_n 0, 1) := by decide +kernel
theorem dX12_canBe_122 : decode cX12_canBe 122 = .ok (.getfield 61, 3) := by decide +kernel
theorem dX12_canBe_125 : decode cX12_canBe 125 = .ok (.iload_n 3, 1) := by decide +kernel
theorem dX12_canBe_126 : decode cX12_canBe 126 = .ok (.iaload, 1) := by decide +kernel
theorem dX12_canBe_127 : decode cX12_canBe 127 = .ok (.if_icmp .lt 45, 3) := by decide +kernel
theorem dX12_canBe_130 : decode cX12_canBe 130 = .ok (.iload 5, 2) := by decide +kernel
theorem dX12_canBe_132 : decode cX12_canBe 132 = .ok (.aload_n 0, 1) := by decide +kernel
theorem dX12_canBe_133 : decode cX12_canBe 133 = .ok (.getfield 33, 3) := by decide +kernel
theorem dX12_canBe_136 : decode cX12_canBe 136 = .ok (.iload 4, 2) := by decide +kernel
theorem dX12_canBe_138 : decode cX12_canBe 138 = .ok (.iaload, 1) := by decide +kernel
theorem dX12_canBe_139 : decode cX12_canBe 139 = .ok (.iconst 1, 1) := by decide +kernel
theorem dX12_canBe_140 : decode cX12_canBe 140 = .ok (.isub, 1) := by decide +kernel
theorem dX12_canBe_141 : decode cX12_canBe 141 = .ok (.if_icmp .eq 27, 3) := by decide +kernel
theorem dX12_canBe_144 : decode cX12_canBe 144 = .ok (.aload_n 0, 1) := by decide +kernel
theorem dX12_canBe_145 : decode cX12_canBe 145 = .ok (.getfield 30, 3) := by decide +kernel
theorem dX12_canBe_148 : decode cX12_canBe 148 = .ok (.bipush 9, 2) := by decide +kernel
theorem dX12_canBe_150 : decode cX12_canBe 150 = .ok (.iload 4, 2) := by decide +kernel
theorem dX12_canBe_152 : decode cX12_canBe 152 = .ok (.imul, 1) := by decide +kernel
theorem dX12_canBe_153 : decode cX12_canBe 153 = .ok (.iload 5, 2) := by decide +kernel
theorem dX12_canBe_155 : decode cX12_canBe 155 = .ok (.iadd, 1) := by decide +kernel
theorem dX12_canBe_156 : decode cX12_canBe 156 = .ok (.iconst 1, 1) := by decide +kernel
theorem dX12_canBe_157 : decode cX12_canBe 157 = .ok (.iadd, 1) := by decide +kernel
theorem dX12_canBe_158 : decode cX12_canBe 158 = .ok (.iaload, 1) := by decide +kernel
theorem dX12_canBe_159 : decode cX12_canBe 159 = .ok (.aload_n 0, 1) := by decide +kernel
theorem dX12_canBe_160 : decode cX12_canBe 160 = .ok (.getfield 61, 3) := by decide +kernel
theorem dX12_canBe_163 : decode cX12_canBe 163 = .ok (.iload_n 3, 1) := by decide +kernel
theorem dX12_canBe_164 : decode cX12_canBe 164 = .ok (.iaload, 1) := by decide +kernel
theorem dX12_canBe_165 : decode cX12_canBe 165 = .ok (.if_icmp .gt 7, 3) := by decide +kernel
theorem dX12_canBe_168 : decode cX12_canBe 168 = .ok (.iconst 1, 1) := by decide +kernel
theorem dX12_canBe_169 : decode cX12_canBe 169 = .ok (.goto 4, 3) := by decide +kernel
theorem dX12_canBe_172 : decode cX12_canBe 172 = .ok (.iconst 0, 1) := by decide +kernel
theorem dX12_canBe_173 : decode cX12_canBe 173 = .ok (.istore 6, 2) := by decide +kernel
theorem dX12_canBe_175 : decode cX12_canBe 175 = .ok (.iload 6, 2) := by decide +kernel
theorem dX12_canBe_177 : decode cX12_canBe 177 = .ok (.ifCond .eq 5, 3) := by decide +kernel
theorem dX12_canBe_180 : decode cX12_canBe 180 = .ok (.iconst 1, 1) := by decide +kernel
theorem dX12_canBe_181 : decode cX12_canBe 181 = .ok (.ireturn, 1) := by decide +kernel
theorem dX12_canBe_182 : decode cX12_canBe 182 = .ok (.iinc 5 1, 3) := by decide +kernel
theorem dX12_canBe_185 : decode cX12_canBe 185 = .ok (.goto (-121), 3) := by decide +kernel
theorem dX12_canBe_188 : decode cX12_canBe 188 = .ok (.iconst 0, 1) := by decide +kernel
theorem dX12_canBe_189 : decode cX12_canBe 189 = .ok (.ireturn, 1) := by decide +kernel
theorem dX12_first_0 : decode cX12_first 0 = .ok (.iconst 0, 1) := by decide +kernel
theorem dX12_first_1 : decode cX12_first 1 = .ok (.istore_n 3, 1) := by decide +kernel
theorem dX12_first_2 : decode cX12_first 2 = .ok (.iload_n 3, 1) := by decide +kernel
theorem dX12_first_3 : decode cX12_first 3 = .ok (.aload_n 0, 1) := by decide +kernel
theorem dX12_first_4 : decode cX12_first 4 = .ok (.getfield 33, 3) := by decide +kernel
theorem dX12_first_7 : decode cX12_first 7 = .ok (.iload_n 1, 1) := by decide +kernel
theorem dX12_first_8 : decode cX12_first 8 = .ok (.iaload, 1) := by decide +kernel
theorem dX12_first_9 : decode cX12_first 9 = .ok (.if_icmp .ge 26, 3) := by decide +kernel
theorem dX12_first_12 : decode cX12_first 12 = .ok (.aload_n 0, 1) := by decide +kernel
theorem dX12_first_13 : decode cX12_first 13 = .ok (.getfield 30, 3) := by decide +kernel
theorem dX12_first_16 : decode cX12_first 16 = .ok (.bipush 9, 2) := by decide +kernel
theorem dX12_first_18 : decode cX12_first 18 = .ok (.iload_n 1, 1) := by decide +kernel
theorem dX12_first_19 : decode cX12_first 19 = .ok (.imul, 1) := by decide +kernel
theorem dX12_first_20 : decode cX12_first 20 = .ok (.iload_n 3, 1) := by decide +kernel
theorem dX12_first_21 : decode cX12_first 21 = .ok (.iadd, 1) := by decide +kernel
theorem dX12_first_22 : decode cX12_first 22 = .ok (.iaload, 1) := by decide +kernel
theorem dX12_first_23 : decode cX12_first 23 = .ok (.iload_n 2, 1) := by decide +kernel
theorem dX12_first_24 : decode cX12_first 24 = .ok (.if_icmp .ne 5, 3) := by decide +kernel
theorem dX12_first_27 : decode cX12_first 27 = .ok (.iload_n 3, 1) := by decide +kernel
theorem dX12_first_28 : decode cX12_first 28 = .ok (.ireturn, 1) := by decide +kernel
theorem dX12_first_29 : decode cX12_first 29 = .ok (.iinc 3 1, 3) := by decide +kernel
theorem dX12_first_32 : decode cX12_first 32 = .ok (.goto (-30), 3) := by decide +kernel
end
section
theorem dX12_first_35 : decode cX12_first 35 = .ok (.iconst (-1), 1) := by decide +kernel
theorem dX12_first_36 : decode cX12_first 36 = .ok (.ireturn, 1) := by decide +kernel
theorem dX12_costOf_0 : decode cX12_costOf 0 = .ok (.aload_n 0, 1) := by decide +kernel
theorem dX12_costOf_1 : decode cX12_costOf 1 = .ok (.iload_n 1, 1) := by decide +kernel
theorem dX12_costOf_2 : decode cX12_costOf 2 = .ok (.iload_n 2, 1) := by decide +kernel
theorem dX12_costOf_3 : decode cX12_costOf 3 = .ok (.invokevirtual 201, 3) := by decide +kernel
theorem dX12_costOf_6 : decode cX12_costOf 6 = .ok (.istore 4, 2) := by decide +kernel
theorem dX12_costOf_8 : decode cX12_costOf 8 = .ok (.iload_n 3, 1) := by decide +kernel
theorem dX12_costOf_9 : decode cX12_costOf 9 = .ok (.iload 4, 2) := by decide +kernel
theorem dX12_costOf_11 : decode cX12_costOf 11 = .ok (.if_icmp .ne 7, 3) := by decide +kernel
theorem dX12_costOf_14 : decode cX12_costOf 14 = .ok (.iconst 0, 1) := by decide +kernel
theorem dX12_costOf_15 : decode cX12_costOf 15 = .ok (.goto 5, 3) := by decide +kernel
theorem dX12_costOf_18 : decode cX12_costOf 18 = .ok (.ldc 204, 2) := by decide +kernel
theorem dX12_costOf_20 : decode cX12_costOf 20 = .ok (.istore 5, 2) := by decide +kernel
theorem dX12_costOf_22 : decode cX12_costOf 22 = .ok (.iconst 0, 1) := by decide +kernel
theorem dX12_costOf_23 : decode cX12_costOf 23 = .ok (.istore 6, 2) := by decide +kernel
theorem dX12_costOf_25 : decode cX12_costOf 25 = .ok (.iload 6, 2) := by decide +kernel
theorem dX12_costOf_27 : decode cX12_costOf 27 = .ok (.aload_n 0, 1) := by decide +kernel
theorem dX12_costOf_28 : decode cX12_costOf 28 = .ok (.getfield 187, 3) := by decide +kernel
theorem dX12_costOf_31 : decode cX12_costOf 31 = .ok (.if_icmp .ge 69, 3) := by decide +kernel
theorem dX12_costOf_34 : decode cX12_costOf 34 = .ok (.iload 4, 2) := by decide +kernel
theorem dX12_costOf_36 : decode cX12_costOf 36 = .ok (.aload_n 0, 1) := by decide +kernel
theorem dX12_costOf_37 : decode cX12_costOf 37 = .ok (.getfield 64, 3) := by decide +kernel
theorem dX12_costOf_40 : decode cX12_costOf 40 = .ok (.iload 6, 2) := by decide +kernel
theorem dX12_costOf_42 : decode cX12_costOf 42 = .ok (.iaload, 1) := by decide +kernel
theorem dX12_costOf_43 : decode cX12_costOf 43 = .ok (.invokestatic 171, 3) := by decide +kernel
theorem dX12_costOf_46 : decode cX12_costOf 46 = .ok (.isub, 1) := by decide +kernel
theorem dX12_costOf_47 : decode cX12_costOf 47 = .ok (.aload_n 0, 1) := by decide +kernel
theorem dX12_costOf_48 : decode cX12_costOf 48 = .ok (.getfield 61, 3) := by decide +kernel
theorem dX12_costOf_51 : decode cX12_costOf 51 = .ok (.iload 6, 2) := by decide +kernel
theorem dX12_costOf_53 : decode cX12_costOf 53 = .ok (.iaload, 1) := by decide +kernel
theorem dX12_costOf_54 : decode cX12_costOf 54 = .ok (.invokestatic 171, 3) := by decide +kernel
theorem dX12_costOf_57 : decode cX12_costOf 57 = .ok (.iadd, 1) := by decide +kernel
theorem dX12_costOf_58 : decode cX12_costOf 58 = .ok (.iload_n 3, 1) := by decide +kernel
theorem dX12_costOf_59 : decode cX12_costOf 59 = .ok (.if_icmp .ne 35, 3) := by decide +kernel
theorem dX12_costOf_62 : decode cX12_costOf 62 = .ok (.aload_n 0, 1) := by decide +kernel
theorem dX12_costOf_63 : decode cX12_costOf 63 = .ok (.getfield 67, 3) := by decide +kernel
theorem dX12_costOf_66 : decode cX12_costOf 66 = .ok (.iload 6, 2) := by decide +kernel
theorem dX12_costOf_68 : decode cX12_costOf 68 = .ok (.iaload, 1) := by decide +kernel
theorem dX12_costOf_69 : decode cX12_costOf 69 = .ok (.iload 5, 2) := by decide +kernel
theorem dX12_costOf_71 : decode cX12_costOf 71 = .ok (.if_icmp .ge 23, 3) := by decide +kernel
theorem dX12_costOf_74 : decode cX12_costOf 74 = .ok (.aload_n 0, 1) := by decide +kernel
theorem dX12_costOf_75 : decode cX12_costOf 75 = .ok (.iload_n 1, 1) := by decide +kernel
theorem dX12_costOf_76 : decode cX12_costOf 76 = .ok (.iload_n 2, 1) := by decide +kernel
theorem dX12_costOf_77 : decode cX12_costOf 77 = .ok (.iload 6, 2) := by decide +kernel
theorem dX12_costOf_79 : decode cX12_costOf 79 = .ok (.invokevirtual 205, 3) := by decide +kernel
theorem dX12_costOf_82 : decode cX12_costOf 82 = .ok (.ifCond .eq 12, 3) := by decide +kernel
theorem dX12_costOf_85 : decode cX12_costOf 85 = .ok (.aload_n 0, 1) := by decide +kernel
theorem dX12_costOf_86 : decode cX12_costOf 86 = .ok (.getfield 67, 3) := by decide +kernel
theorem dX12_costOf_89 : decode cX12_costOf 89 = .ok (.iload 6, 2) := by decide +kernel
theorem dX12_costOf_91 : decode cX12_costOf 91 = .ok (.iaload, 1) := by decide +kernel
theorem dX12_costOf_92 : decode cX12_costOf 92 = .ok (.istore 5, 2) := by decide +kernel
theorem dX12_costOf_94 : decode cX12_costOf 94 = .ok (.iinc 6 1, 3) := by decide +kernel
theorem dX12_costOf_97 : decode cX12_costOf 97 = .ok (.goto (-72), 3) := by decide +kernel
theorem dX12_costOf_100 : decode cX12_costOf 100 = .ok (.iload 5, 2) := by decide +kernel
theorem dX12_costOf_102 : decode cX12_costOf 102 = .ok (.ireturn, 1) := by decide +kernel
theorem dX12_reading_0 : decode cX12_reading 0 = .ok (.aload_n 0, 1) := by decide +kernel
theorem dX12_reading_1 : decode cX12_reading 1 = .ok (.iconst 0, 1) := by decide +kernel
theorem dX12_reading_2 : decode cX12_reading 2 = .ok (.putfield 106, 3) := by decide +kernel
theorem dX12_reading_5 : decode cX12_reading 5 = .ok (.aload_n 0, 1) := by decide +kernel
theorem dX12_reading_6 : decode cX12_reading 6 = .ok (.iload_n 1, 1) := by decide +kernel
theorem dX12_reading_7 : decode cX12_reading 7 = .ok (.iload_n 2, 1) := by decide +kernel
theorem dX12_reading_8 : decode cX12_reading 8 = .ok (.invokevirtual 191, 3) := by decide +kernel
theorem dX12_reading_11 : decode cX12_reading 11 = .ok (.ifCond .eq 15, 3) := by decide +kernel
theorem dX12_reading_14 : decode cX12_reading 14 = .ok (.iload_n 2, 1) := by decide +kernel
theorem dX12_reading_15 : decode cX12_reading 15 = .ok (.aload_n 0, 1) := by decide +kernel
theorem dX12_reading_16 : decode cX12_reading 16 = .ok (.getfield 23, 3) := by decide +kernel
theorem dX12_reading_19 : decode cX12_reading 19 = .ok (.iload_n 1, 1) := by decide +kernel
theorem dX12_reading_20 : decode cX12_reading 20 = .ok (.iaload, 1) := by decide +kernel
theorem dX12_reading_21 : decode cX12_reading 21 = .ok (.iconst 1, 1) := by decide +kernel
theorem dX12_reading_22 : decode cX12_reading 22 = .ok (.isub, 1) := by decide +kernel
theorem dX12_reading_23 : decode cX12_reading 23 = .ok (.if_icmp .ne 5, 3) := by decide +kernel
theorem dX12_reading_26 : decode cX12_reading 26 = .ok (.iconst (-1), 1) := by decide +kernel
theorem dX12_reading_27 : decode cX12_reading 27 = .ok (.ireturn, 1) := by decide +kernel
theorem dX12_reading_28 : decode cX12_reading 28 = .ok (.aload_n 0, 1) := by decide +kernel
theorem dX12_reading_29 : decode cX12_reading 29 = .ok (.iload_n 1, 1) := by decide +kernel
theorem dX12_reading_30 : decode cX12_reading 30 = .ok (.iload_n 2, 1) := by decide +kernel
theorem dX12_reading_31 : decode cX12_reading 31 = .ok (.iload_n 3, 1) := by decide +kernel
theorem dX12_reading_32 : decode cX12_reading 32 = .ok (.invokevirtual 208, 3) := by decide +kernel
theorem dX12_reading_35 : decode cX12_reading 35 = .ok (.istore 4, 2) := by decide +kernel
theorem dX12_reading_37 : decode cX12_reading 37 = .ok (.iload 4, 2) := by decide +kernel
theorem dX12_reading_39 : decode cX12_reading 39 = .ok (.ldc 204, 2) := by decide +kernel
theorem dX12_reading_41 : decode cX12_reading 41 = .ok (.if_icmp .ne 7, 3) := by decide +kernel
theorem dX12_reading_44 : decode cX12_reading 44 = .ok (.iconst (-1), 1) := by decide +kernel
theorem dX12_reading_45 : decode cX12_reading 45 = .ok (.goto 5, 3) := by decide +kernel
theorem dX12_reading_48 : decode cX12_reading 48 = .ok (.iload 4, 2) := by decide +kernel
theorem dX12_reading_50 : decode cX12_reading 50 = .ok (.ireturn, 1) := by decide +kernel
theorem dX12_reads_0 : decode cX12_reads 0 = .ok (.iconst 0, 1) := by decide +kernel
theorem dX12_reads_1 : decode cX12_reads 1 = .ok (.istore_n 2, 1) := by decide +kernel
theorem dX12_reads_2 : decode cX12_reads 2 = .ok (.iload_n 2, 1) := by decide +kernel
theorem dX12_reads_3 : decode cX12_reads 3 = .ok (.iconst 1, 1) := by decide +kernel
theorem dX12_reads_4 : decode cX12_reads 4 = .ok (.iadd, 1) := by decide +kernel
theorem dX12_reads_5 : decode cX12_reads 5 = .ok (.aload_n 0, 1) := by decide +kernel
theorem dX12_reads_6 : decode cX12_reads 6 = .ok (.getfield 23, 3) := by decide +kernel
theorem dX12_reads_9 : decode cX12_reads 9 = .ok (.iload_n 1, 1) := by decide +kernel
theorem dX12_reads_10 : decode cX12_reads 10 = .ok (.iaload, 1) := by decide +kernel
theorem dX12_reads_11 : decode cX12_reads 11 = .ok (.if_icmp .ge 104, 3) := by decide +kernel
theorem dX12_reads_14 : decode cX12_reads 14 = .ok (.aload_n 0, 1) := by decide +kernel
theorem dX12_reads_15 : decode cX12_reads 15 = .ok (.getfield 82, 3) := by decide +kernel
theorem dX12_reads_18 : decode cX12_reads 18 = .ok (.iload_n 2, 1) := by decide +kernel
theorem dX12_reads_19 : decode cX12_reads 19 = .ok (.iconst 0, 1) := by decide +kernel
theorem dX12_reads_20 : decode cX12_reads 20 = .ok (.iastore, 1) := by decide +kernel
theorem dX12_reads_21 : decode cX12_reads 21 = .ok (.aload_n 0, 1) := by decide +kernel
theorem dX12_reads_22 : decode cX12_reads 22 = .ok (.iload_n 1, 1) := by decide +kernel
theorem dX12_reads_23 : decode cX12_reads 23 = .ok (.iload_n 2, 1) := by decide +kernel
theorem dX12_reads_24 : decode cX12_reads 24 = .ok (.invokevirtual 201, 3) := by decide +kernel
theorem dX12_reads_27 : decode cX12_reads 27 = .ok (.istore_n 3, 1) := by decide +kernel
theorem dX12_reads_28 : decode cX12_reads 28 = .ok (.aload_n 0, 1) := by decide +kernel
theorem dX12_reads_29 : decode cX12_reads 29 = .ok (.iload_n 2, 1) := by decide +kernel
theorem dX12_reads_30 : decode cX12_reads 30 = .ok (.iload_n 3, 1) := by decide +kernel
theorem dX12_reads_31 : decode cX12_reads 31 = .ok (.iconst 0, 1) := by decide +kernel
theorem dX12_reads_32 : decode cX12_reads 32 = .ok (.invokevirtual 212, 3) := by decide +kernel
theorem dX12_reads_35 : decode cX12_reads 35 = .ok (.iconst 0, 1) := by decide +kernel
theorem dX12_reads_36 : decode cX12_reads 36 = .ok (.istore 4, 2) := by decide +kernel
theorem dX12_reads_38 : decode cX12_reads 38 = .ok (.iload 4, 2) := by decide +kernel
theorem dX12_reads_40 : decode cX12_reads 40 = .ok (.aload_n 0, 1) := by decide +kernel
theorem dX12_reads_41 : decode cX12_reads 41 = .ok (.getfield 187, 3) := by decide +kernel
theorem dX12_reads_44 : decode cX12_reads 44 = .ok (.if_icmp .ge 65, 3) := by decide +kernel
theorem dX12_reads_47 : decode cX12_reads 47 = .ok (.iload_n 3, 1) := by decide +kernel
theorem dX12_reads_48 : decode cX12_reads 48 = .ok (.aload_n 0, 1) := by decide +kernel
theorem dX12_reads_49 : decode cX12_reads 49 = .ok (.getfield 64, 3) := by decide +kernel
theorem dX12_reads_52 : decode cX12_reads 52 = .ok (.iload 4, 2) := by decide +kernel
theorem dX12_reads_54 : decode cX12_reads 54 = .ok (.iaload, 1) := by decide +kernel
theorem dX12_reads_55 : decode cX12_reads 55 = .ok (.invokestatic 171, 3) := by decide +kernel
theorem dX12_reads_58 : decode cX12_reads 58 = .ok (.isub, 1) := by decide +kernel
theorem dX12_reads_59 : decode cX12_reads 59 = .ok (.aload_n 0, 1) := by decide +kernel
theorem dX12_reads_60 : decode cX12_reads 60 = .ok (.getfield 61, 3) := by decide +kernel
theorem dX12_reads_63 : decode cX12_reads 63 = .ok (.iload 4, 2) := by decide +kernel
theorem dX12_reads_65 : decode cX12_reads 65 = .ok (.iaload, 1) := by decide +kernel
theorem dX12_reads_66 : decode cX12_reads 66 = .ok (.invokestatic 171, 3) := by decide +kernel
theorem dX12_reads_69 : decode cX12_reads 69 = .ok (.iadd, 1) := by decide +kernel
theorem dX12_reads_70 : decode cX12_reads 70 = .ok (.istore 5, 2) := by decide +kernel
theorem dX12_reads_72 : decode cX12_reads 72 = .ok (.iload 5, 2) := by decide +kernel
theorem dX12_reads_74 : decode cX12_reads 74 = .ok (.ifCond .le 29, 3) := by decide +kernel
theorem dX12_reads_77 : decode cX12_reads 77 = .ok (.aload_n 0, 1) := by decide +kernel
theorem dX12_reads_78 : decode cX12_reads 78 = .ok (.iload_n 1, 1) := by decide +kernel
theorem dX12_reads_79 : decode cX12_reads 79 = .ok (.iload_n 2, 1) := by decide +kernel
theorem dX12_reads_80 : decode cX12_reads 80 = .ok (.iload 4, 2) := by decide +kernel
theorem dX12_reads_82 : decode cX12_reads 82 = .ok (.invokevirtual 205, 3) := by decide +kernel
theorem dX12_reads_85 : decode cX12_reads 85 = .ok (.ifCond .eq 18, 3) := by decide +kernel
theorem dX12_reads_88 : decode cX12_reads 88 = .ok (.aload_n 0, 1) := by decide +kernel
theorem dX12_reads_89 : decode cX12_reads 89 = .ok (.iload_n 2, 1) := by decide +kernel
theorem dX12_reads_90 : decode cX12_reads 90 = .ok (.iload 5, 2) := by decide +kernel
theorem dX12_reads_92 : decode cX12_reads 92 = .ok (.aload_n 0, 1) := by decide +kernel
theorem dX12_reads_93 : decode cX12_reads 93 = .ok (.iload_n 1, 1) := by decide +kernel
theorem dX12_reads_94 : decode cX12_reads 94 = .ok (.iload_n 2, 1) := by decide +kernel
theorem dX12_reads_95 : decode cX12_reads 95 = .ok (.iload 5, 2) := by decide +kernel
theorem dX12_reads_97 : decode cX12_reads 97 = .ok (.invokevirtual 208, 3) := by decide +kernel
theorem dX12_reads_100 : decode cX12_reads 100 = .ok (.invokevirtual 212, 3) := by decide +kernel
theorem dX12_reads_103 : decode cX12_reads 103 = .ok (.iinc 4 1, 3) := by decide +kernel
theorem dX12_reads_106 : decode cX12_reads 106 = .ok (.goto (-68), 3) := by decide +kernel
theorem dX12_reads_109 : decode cX12_reads 109 = .ok (.iinc 2 1, 3) := by decide +kernel
theorem dX12_reads_112 : decode cX12_reads 112 = .ok (.goto (-110), 3) := by decide +kernel
theorem dX12_reads_115 : decode cX12_reads 115 = .ok (.return_, 1) := by decide +kernel
theorem dX12_adds_0 : decode cX12_adds 0 = .ok (.iconst 0, 1) := by decide +kernel
theorem dX12_adds_1 : decode cX12_adds 1 = .ok (.istore 4, 2) := by decide +kernel
theorem dX12_adds_3 : decode cX12_adds 3 = .ok (.iload 4, 2) := by decide +kernel
theorem dX12_adds_5 : decode cX12_adds 5 = .ok (.aload_n 0, 1) := by decide +kernel
theorem dX12_adds_6 : decode cX12_adds 6 = .ok (.getfield 82, 3) := by decide +kernel
theorem dX12_adds_9 : decode cX12_adds 9 = .ok (.iload_n 1, 1) := by decide +kernel
theorem dX12_adds_10 : decode cX12_adds 10 = .ok (.iaload, 1) := by decide +kernel
theorem dX12_adds_11 : decode cX12_adds 11 = .ok (.if_icmp .ge 26, 3) := by decide +kernel
theorem dX12_adds_14 : decode cX12_adds 14 = .ok (.aload_n 0, 1) := by decide +kernel
theorem dX12_adds_15 : decode cX12_adds 15 = .ok (.getfield 76, 3) := by decide +kernel
theorem dX12_adds_18 : decode cX12_adds 18 = .ok (.bipush 21, 2) := by decide +kernel
theorem dX12_adds_20 : decode cX12_adds 20 = .ok (.iload_n 1, 1) := by decide +kernel
theorem dX12_adds_21 : decode cX12_adds 21 = .ok (.imul, 1) := by decide +kernel
theorem dX12_adds_22 : decode cX12_adds 22 = .ok (.iload 4, 2) := by decide +kernel
theorem dX12_adds_24 : decode cX12_adds 24 = .ok (.iadd, 1) := by decide +kernel
theorem dX12_adds_25 : decode cX12_adds 25 = .ok (.iaload, 1) := by decide +kernel
theorem dX12_adds_26 : decode cX12_adds 26 = .ok (.iload_n 2, 1) := by decide +kernel
theorem dX12_adds_27 : decode cX12_adds 27 = .ok (.if_icmp .ne 4, 3) := by decide +kernel
theorem dX12_adds_30 : decode cX12_adds 30 = .ok (.return_, 1) := by decide +kernel
theorem dX12_adds_31 : decode cX12_adds 31 = .ok (.iinc 4 1, 3) := by decide +kernel
theorem dX12_adds_34 : decode cX12_adds 34 = .ok (.goto (-31), 3) := by decide +kernel
theorem dX12_adds_37 : decode cX12_adds 37 = .ok (.aload_n 0, 1) := by decide +kernel
theorem dX12_adds_38 : decode cX12_adds 38 = .ok (.getfield 76, 3) := by decide +kernel
theorem dX12_adds_41 : decode cX12_adds 41 = .ok (.bipush 21, 2) := by decide +kernel
theorem dX12_adds_43 : decode cX12_adds 43 = .ok (.iload_n 1, 1) := by decide +kernel
theorem dX12_adds_44 : decode cX12_adds 44 = .ok (.imul, 1) := by decide +kernel
theorem dX12_adds_45 : decode cX12_adds 45 = .ok (.aload_n 0, 1) := by decide +kernel
theorem dX12_adds_46 : decode cX12_adds 46 = .ok (.getfield 82, 3) := by decide +kernel
theorem dX12_adds_49 : decode cX12_adds 49 = .ok (.iload_n 1, 1) := by decide +kernel
theorem dX12_adds_50 : decode cX12_adds 50 = .ok (.iaload, 1) := by decide +kernel
theorem dX12_adds_51 : decode cX12_adds 51 = .ok (.iadd, 1) := by decide +kernel
theorem dX12_adds_52 : decode cX12_adds 52 = .ok (.iload_n 2, 1) := by decide +kernel
theorem dX12_adds_53 : decode cX12_adds 53 = .ok (.iastore, 1) := by decide +kernel
theorem dX12_adds_54 : decode cX12_adds 54 = .ok (.aload_n 0, 1) := by decide +kernel
theorem dX12_adds_55 : decode cX12_adds 55 = .ok (.getfield 79, 3) := by decide +kernel
theorem dX12_adds_58 : decode cX12_adds 58 = .ok (.bipush 21, 2) := by decide +kernel
theorem dX12_adds_60 : decode cX12_adds 60 = .ok (.iload_n 1, 1) := by decide +kernel
theorem dX12_adds_61 : decode cX12_adds 61 = .ok (.imul, 1) := by decide +kernel
theorem dX12_adds_62 : decode cX12_adds 62 = .ok (.aload_n 0, 1) := by decide +kernel
theorem dX12_adds_63 : decode cX12_adds 63 = .ok (.getfield 82, 3) := by decide +kernel
theorem dX12_adds_66 : decode cX12_adds 66 = .ok (.iload_n 1, 1) := by decide +kernel
theorem dX12_adds_67 : decode cX12_adds 67 = .ok (.iaload, 1) := by decide +kernel
theorem dX12_adds_68 : decode cX12_adds 68 = .ok (.iadd, 1) := by decide +kernel
theorem dX12_adds_69 : decode cX12_adds 69 = .ok (.iload_n 3, 1) := by decide +kernel
theorem dX12_adds_70 : decode cX12_adds 70 = .ok (.iastore, 1) := by decide +kernel
theorem dX12_adds_71 : decode cX12_adds 71 = .ok (.aload_n 0, 1) := by decide +kernel
theorem dX12_adds_72 : decode cX12_adds 72 = .ok (.getfield 82, 3) := by decide +kernel
theorem dX12_adds_75 : decode cX12_adds 75 = .ok (.iload_n 1, 1) := by decide +kernel
theorem dX12_adds_76 : decode cX12_adds 76 = .ok (.dup2, 1) := by decide +kernel
theorem dX12_adds_77 : decode cX12_adds 77 = .ok (.iaload, 1) := by decide +kernel
theorem dX12_adds_78 : decode cX12_adds 78 = .ok (.iconst 1, 1) := by decide +kernel
theorem dX12_adds_79 : decode cX12_adds 79 = .ok (.iadd, 1) := by decide +kernel
theorem dX12_adds_80 : decode cX12_adds 80 = .ok (.iastore, 1) := by decide +kernel
theorem dX12_adds_81 : decode cX12_adds 81 = .ok (.return_, 1) := by decide +kernel
theorem dX12_ownCost_0 : decode cX12_ownCost 0 = .ok (.aload_n 0, 1) := by decide +kernel
theorem dX12_ownCost_1 : decode cX12_ownCost 1 = .ok (.getfield 26, 3) := by decide +kernel
theorem dX12_ownCost_4 : decode cX12_ownCost 4 = .ok (.bipush 10, 2) := by decide +kernel
theorem dX12_ownCost_6 : decode cX12_ownCost 6 = .ok (.iload_n 1, 1) := by decide +kernel
theorem dX12_ownCost_7 : decode cX12_ownCost 7 = .ok (.imul, 1) := by decide +kernel
theorem dX12_ownCost_8 : decode cX12_ownCost 8 = .ok (.iload_n 2, 1) := by decide +kernel
theorem dX12_ownCost_9 : decode cX12_ownCost 9 = .ok (.iadd, 1) := by decide +kernel
theorem dX12_ownCost_10 : decode cX12_ownCost 10 = .ok (.laload, 1) := by decide +kernel
theorem dX12_ownCost_11 : decode cX12_ownCost 11 = .ok (.lstore 5, 2) := by decide +kernel
theorem dX12_ownCost_13 : decode cX12_ownCost 13 = .ok (.aload_n 0, 1) := by decide +kernel
theorem dX12_ownCost_14 : decode cX12_ownCost 14 = .ok (.getfield 70, 3) := by decide +kernel
theorem dX12_ownCost_17 : decode cX12_ownCost 17 = .ok (.istore 7, 2) := by decide +kernel
theorem dX12_ownCost_19 : decode cX12_ownCost 19 = .ok (.iconst 0, 1) := by decide +kernel
theorem dX12_ownCost_20 : decode cX12_ownCost 20 = .ok (.istore 8, 2) := by decide +kernel
theorem dX12_ownCost_22 : decode cX12_ownCost 22 = .ok (.iload 8, 2) := by decide +kernel
theorem dX12_ownCost_24 : decode cX12_ownCost 24 = .ok (.aload_n 0, 1) := by decide +kernel
theorem dX12_ownCost_25 : decode cX12_ownCost 25 = .ok (.getfield 178, 3) := by decide +kernel
theorem dX12_ownCost_28 : decode cX12_ownCost 28 = .ok (.if_icmp .ge 47, 3) := by decide +kernel
theorem dX12_ownCost_31 : decode cX12_ownCost 31 = .ok (.aload_n 0, 1) := by decide +kernel
theorem dX12_ownCost_32 : decode cX12_ownCost 32 = .ok (.getfield 40, 3) := by decide +kernel
theorem dX12_ownCost_35 : decode cX12_ownCost 35 = .ok (.iload 8, 2) := by decide +kernel
theorem dX12_ownCost_37 : decode cX12_ownCost 37 = .ok (.iaload, 1) := by decide +kernel
theorem dX12_ownCost_38 : decode cX12_ownCost 38 = .ok (.iload_n 3, 1) := by decide +kernel
theorem dX12_ownCost_39 : decode cX12_ownCost 39 = .ok (.if_icmp .ne 30, 3) := by decide +kernel
theorem dX12_ownCost_42 : decode cX12_ownCost 42 = .ok (.aload_n 0, 1) := by decide +kernel
theorem dX12_ownCost_43 : decode cX12_ownCost 43 = .ok (.getfield 46, 3) := by decide +kernel
theorem dX12_ownCost_46 : decode cX12_ownCost 46 = .ok (.iload 8, 2) := by decide +kernel
theorem dX12_ownCost_48 : decode cX12_ownCost 48 = .ok (.iaload, 1) := by decide +kernel
theorem dX12_ownCost_49 : decode cX12_ownCost 49 = .ok (.iload 4, 2) := by decide +kernel
theorem dX12_ownCost_51 : decode cX12_ownCost 51 = .ok (.if_icmp .gt 18, 3) := by decide +kernel
theorem dX12_ownCost_54 : decode cX12_ownCost 54 = .ok (.aload_n 0, 1) := by decide +kernel
theorem dX12_ownCost_55 : decode cX12_ownCost 55 = .ok (.aload_n 0, 1) := by decide +kernel
theorem dX12_ownCost_56 : decode cX12_ownCost 56 = .ok (.getfield 43, 3) := by decide +kernel
theorem dX12_ownCost_59 : decode cX12_ownCost 59 = .ok (.iload 8, 2) := by decide +kernel
theorem dX12_ownCost_61 : decode cX12_ownCost 61 = .ok (.laload, 1) := by decide +kernel
theorem dX12_ownCost_62 : decode cX12_ownCost 62 = .ok (.lload 5, 2) := by decide +kernel
theorem dX12_ownCost_64 : decode cX12_ownCost 64 = .ok (.invokevirtual 194, 3) := by decide +kernel
theorem dX12_ownCost_67 : decode cX12_ownCost 67 = .ok (.istore 7, 2) := by decide +kernel
theorem dX12_ownCost_69 : decode cX12_ownCost 69 = .ok (.iinc 8 1, 3) := by decide +kernel
theorem dX12_ownCost_72 : decode cX12_ownCost 72 = .ok (.goto (-50), 3) := by decide +kernel
theorem dX12_ownCost_75 : decode cX12_ownCost 75 = .ok (.iconst 0, 1) := by decide +kernel
theorem dX12_ownCost_76 : decode cX12_ownCost 76 = .ok (.istore 8, 2) := by decide +kernel
theorem dX12_ownCost_78 : decode cX12_ownCost 78 = .ok (.iload 8, 2) := by decide +kernel
theorem dX12_ownCost_80 : decode cX12_ownCost 80 = .ok (.aload_n 0, 1) := by decide +kernel
theorem dX12_ownCost_81 : decode cX12_ownCost 81 = .ok (.getfield 184, 3) := by decide +kernel
theorem dX12_ownCost_84 : decode cX12_ownCost 84 = .ok (.if_icmp .ge 96, 3) := by decide +kernel
theorem dX12_ownCost_87 : decode cX12_ownCost 87 = .ok (.aload_n 0, 1) := by decide +kernel
theorem dX12_ownCost_88 : decode cX12_ownCost 88 = .ok (.getfield 52, 3) := by decide +kernel
theorem dX12_ownCost_91 : decode cX12_ownCost 91 = .ok (.iload 8, 2) := by decide +kernel
theorem dX12_ownCost_93 : decode cX12_ownCost 93 = .ok (.laload, 1) := by decide +kernel
theorem dX12_ownCost_94 : decode cX12_ownCost 94 = .ok (.lload 5, 2) := by decide +kernel
theorem dX12_ownCost_96 : decode cX12_ownCost 96 = .ok (.lcmp, 1) := by decide +kernel
theorem dX12_ownCost_97 : decode cX12_ownCost 97 = .ok (.ifCond .ne 77, 3) := by decide +kernel
theorem dX12_ownCost_100 : decode cX12_ownCost 100 = .ok (.aload_n 0, 1) := by decide +kernel
theorem dX12_ownCost_101 : decode cX12_ownCost 101 = .ok (.getfield 58, 3) := by decide +kernel
theorem dX12_ownCost_104 : decode cX12_ownCost 104 = .ok (.iload 8, 2) := by decide +kernel
theorem dX12_ownCost_106 : decode cX12_ownCost 106 = .ok (.iaload, 1) := by decide +kernel
theorem dX12_ownCost_107 : decode cX12_ownCost 107 = .ok (.iload 4, 2) := by decide +kernel
theorem dX12_ownCost_109 : decode cX12_ownCost 109 = .ok (.if_icmp .le 6, 3) := by decide +kernel
theorem dX12_ownCost_112 : decode cX12_ownCost 112 = .ok (.goto 62, 3) := by decide +kernel
theorem dX12_ownCost_115 : decode cX12_ownCost 115 = .ok (.aload_n 0, 1) := by decide +kernel
theorem dX12_ownCost_116 : decode cX12_ownCost 116 = .ok (.getfield 49, 3) := by decide +kernel
theorem dX12_ownCost_119 : decode cX12_ownCost 119 = .ok (.iload 8, 2) := by decide +kernel
theorem dX12_ownCost_121 : decode cX12_ownCost 121 = .ok (.iaload, 1) := by decide +kernel
theorem dX12_ownCost_122 : decode cX12_ownCost 122 = .ok (.iload_n 3, 1) := by decide +kernel
theorem dX12_ownCost_123 : decode cX12_ownCost 123 = .ok (.if_icmp .le 15, 3) := by decide +kernel
theorem dX12_ownCost_126 : decode cX12_ownCost 126 = .ok (.aload_n 0, 1) := by decide +kernel
theorem dX12_ownCost_127 : decode cX12_ownCost 127 = .ok (.getfield 49, 3) := by decide +kernel
theorem dX12_ownCost_130 : decode cX12_ownCost 130 = .ok (.iload 8, 2) := by decide +kernel
theorem dX12_ownCost_132 : decode cX12_ownCost 132 = .ok (.iaload, 1) := by decide +kernel
theorem dX12_ownCost_133 : decode cX12_ownCost 133 = .ok (.iload_n 3, 1) := by decide +kernel
theorem dX12_ownCost_134 : decode cX12_ownCost 134 = .ok (.isub, 1) := by decide +kernel
theorem dX12_ownCost_135 : decode cX12_ownCost 135 = .ok (.goto 12, 3) := by decide +kernel
theorem dX12_ownCost_138 : decode cX12_ownCost 138 = .ok (.iload_n 3, 1) := by decide +kernel
theorem dX12_ownCost_139 : decode cX12_ownCost 139 = .ok (.aload_n 0, 1) := by decide +kernel
theorem dX12_ownCost_140 : decode cX12_ownCost 140 = .ok (.getfield 49, 3) := by decide +kernel
theorem dX12_ownCost_143 : decode cX12_ownCost 143 = .ok (.iload 8, 2) := by decide +kernel
theorem dX12_ownCost_145 : decode cX12_ownCost 145 = .ok (.iaload, 1) := by decide +kernel
theorem dX12_ownCost_146 : decode cX12_ownCost 146 = .ok (.isub, 1) := by decide +kernel
theorem dX12_ownCost_147 : decode cX12_ownCost 147 = .ok (.istore 9, 2) := by decide +kernel
theorem dX12_ownCost_149 : decode cX12_ownCost 149 = .ok (.iload 7, 2) := by decide +kernel
theorem dX12_ownCost_151 : decode cX12_ownCost 151 = .ok (.iload 9, 2) := by decide +kernel
theorem dX12_ownCost_153 : decode cX12_ownCost 153 = .ok (.aload_n 0, 1) := by decide +kernel
theorem dX12_ownCost_154 : decode cX12_ownCost 154 = .ok (.getfield 55, 3) := by decide +kernel
theorem dX12_ownCost_157 : decode cX12_ownCost 157 = .ok (.iload 8, 2) := by decide +kernel
theorem dX12_ownCost_159 : decode cX12_ownCost 159 = .ok (.iaload, 1) := by decide +kernel
theorem dX12_ownCost_160 : decode cX12_ownCost 160 = .ok (.if_icmp .ne 7, 3) := by decide +kernel
theorem dX12_ownCost_163 : decode cX12_ownCost 163 = .ok (.iconst 0, 1) := by decide +kernel
theorem dX12_ownCost_164 : decode cX12_ownCost 164 = .ok (.goto 7, 3) := by decide +kernel
theorem dX12_ownCost_167 : decode cX12_ownCost 167 = .ok (.aload_n 0, 1) := by decide +kernel
theorem dX12_ownCost_168 : decode cX12_ownCost 168 = .ok (.getfield 73, 3) := by decide +kernel
theorem dX12_ownCost_171 : decode cX12_ownCost 171 = .ok (.iadd, 1) := by decide +kernel
theorem dX12_ownCost_172 : decode cX12_ownCost 172 = .ok (.istore 7, 2) := by decide +kernel
theorem dX12_ownCost_174 : decode cX12_ownCost 174 = .ok (.iinc 8 1, 3) := by decide +kernel
theorem dX12_ownCost_177 : decode cX12_ownCost 177 = .ok (.goto (-99), 3) := by decide +kernel
theorem dX12_ownCost_180 : decode cX12_ownCost 180 = .ok (.iload 7, 2) := by decide +kernel
theorem dX12_ownCost_182 : decode cX12_ownCost 182 = .ok (.ireturn, 1) := by decide +kernel
theorem dX12_lays_0 : decode cX12_lays 0 = .ok (.aload_n 0, 1) := by decide +kernel
theorem dX12_lays_1 : decode cX12_lays 1 = .ok (.iload_n 1, 1) := by decide +kernel
theorem dX12_lays_2 : decode cX12_lays 2 = .ok (.invokevirtual 216, 3) := by decide +kernel
theorem dX12_lays_5 : decode cX12_lays 5 = .ok (.aload_n 0, 1) := by decide +kernel
theorem dX12_lays_6 : decode cX12_lays 6 = .ok (.getfield 23, 3) := by decide +kernel
theorem dX12_lays_9 : decode cX12_lays 9 = .ok (.iload_n 1, 1) := by decide +kernel
theorem dX12_lays_10 : decode cX12_lays 10 = .ok (.iaload, 1) := by decide +kernel
theorem dX12_lays_11 : decode cX12_lays 11 = .ok (.istore_n 3, 1) := by decide +kernel
theorem dX12_lays_12 : decode cX12_lays 12 = .ok (.iload_n 3, 1) := by decide +kernel
theorem dX12_lays_13 : decode cX12_lays 13 = .ok (.iconst 1, 1) := by decide +kernel
theorem dX12_lays_14 : decode cX12_lays 14 = .ok (.isub, 1) := by decide +kernel
theorem dX12_lays_15 : decode cX12_lays 15 = .ok (.istore 4, 2) := by decide +kernel
theorem dX12_lays_17 : decode cX12_lays 17 = .ok (.iload 4, 2) := by decide +kernel
theorem dX12_lays_19 : decode cX12_lays 19 = .ok (.ifCond .lt 198, 3) := by decide +kernel
theorem dX12_lays_22 : decode cX12_lays 22 = .ok (.iconst 0, 1) := by decide +kernel
theorem dX12_lays_23 : decode cX12_lays 23 = .ok (.istore 5, 2) := by decide +kernel
theorem dX12_lays_25 : decode cX12_lays 25 = .ok (.iload 5, 2) := by decide +kernel
theorem dX12_lays_27 : decode cX12_lays 27 = .ok (.sipush 601, 3) := by decide +kernel
theorem dX12_lays_30 : decode cX12_lays 30 = .ok (.if_icmp .ge 181, 3) := by decide +kernel
theorem dX12_lays_33 : decode cX12_lays 33 = .ok (.sipush 601, 3) := by decide +kernel
theorem dX12_lays_36 : decode cX12_lays 36 = .ok (.iload 4, 2) := by decide +kernel
theorem dX12_lays_38 : decode cX12_lays 38 = .ok (.imul, 1) := by decide +kernel
theorem dX12_lays_39 : decode cX12_lays 39 = .ok (.iload 5, 2) := by decide +kernel
theorem dX12_lays_41 : decode cX12_lays 41 = .ok (.iadd, 1) := by decide +kernel
theorem dX12_lays_42 : decode cX12_lays 42 = .ok (.istore 6, 2) := by decide +kernel
theorem dX12_lays_44 : decode cX12_lays 44 = .ok (.aload_n 0, 1) := by decide +kernel
theorem dX12_lays_45 : decode cX12_lays 45 = .ok (.getfield 85, 3) := by decide +kernel
theorem dX12_lays_48 : decode cX12_lays 48 = .ok (.iload 6, 2) := by decide +kernel
theorem dX12_lays_50 : decode cX12_lays 50 = .ok (.aload_n 0, 1) := by decide +kernel
theorem dX12_lays_51 : decode cX12_lays 51 = .ok (.iload_n 1, 1) := by decide +kernel
theorem dX12_lays_52 : decode cX12_lays 52 = .ok (.iload 4, 2) := by decide +kernel
theorem dX12_lays_54 : decode cX12_lays 54 = .ok (.iload 5, 2) := by decide +kernel
theorem dX12_lays_56 : decode cX12_lays 56 = .ok (.iload_n 2, 1) := by decide +kernel
theorem dX12_lays_57 : decode cX12_lays 57 = .ok (.invokevirtual 220, 3) := by decide +kernel
theorem dX12_lays_60 : decode cX12_lays 60 = .ok (.iastore, 1) := by decide +kernel
theorem dX12_lays_61 : decode cX12_lays 61 = .ok (.iload 4, 2) := by decide +kernel
theorem dX12_lays_63 : decode cX12_lays 63 = .ok (.iload_n 3, 1) := by decide +kernel
theorem dX12_lays_64 : decode cX12_lays 64 = .ok (.iconst 1, 1) := by decide +kernel
theorem dX12_lays_65 : decode cX12_lays 65 = .ok (.isub, 1) := by decide +kernel
theorem dX12_lays_66 : decode cX12_lays 66 = .ok (.if_icmp .ne 7, 3) := by decide +kernel
theorem dX12_lays_69 : decode cX12_lays 69 = .ok (.iconst 0, 1) := by decide +kernel
theorem dX12_lays_70 : decode cX12_lays 70 = .ok (.goto 5, 3) := by decide +kernel
theorem dX12_lays_73 : decode cX12_lays 73 = .ok (.ldc 204, 2) := by decide +kernel
theorem dX12_lays_75 : decode cX12_lays 75 = .ok (.istore 7, 2) := by decide +kernel
theorem dX12_lays_77 : decode cX12_lays 77 = .ok (.iconst 0, 1) := by decide +kernel
theorem dX12_lays_78 : decode cX12_lays 78 = .ok (.istore 8, 2) := by decide +kernel
theorem dX12_lays_80 : decode cX12_lays 80 = .ok (.iload 4, 2) := by decide +kernel
theorem dX12_lays_82 : decode cX12_lays 82 = .ok (.iload_n 3, 1) := by decide +kernel
theorem dX12_lays_83 : decode cX12_lays 83 = .ok (.iconst 1, 1) := by decide +kernel
theorem dX12_lays_84 : decode cX12_lays 84 = .ok (.isub, 1) := by decide +kernel
theorem dX12_lays_85 : decode cX12_lays 85 = .ok (.if_icmp .ge 91, 3) := by decide +kernel
theorem dX12_lays_88 : decode cX12_lays 88 = .ok (.iload 8, 2) := by decide +kernel
theorem dX12_lays_90 : decode cX12_lays 90 = .ok (.aload_n 0, 1) := by decide +kernel
theorem dX12_lays_91 : decode cX12_lays 91 = .ok (.getfield 82, 3) := by decide +kernel
theorem dX12_lays_94 : decode cX12_lays 94 = .ok (.iload 4, 2) := by decide +kernel
theorem dX12_lays_96 : decode cX12_lays 96 = .ok (.iaload, 1) := by decide +kernel
theorem dX12_lays_97 : decode cX12_lays 97 = .ok (.if_icmp .ge 79, 3) := by decide +kernel
theorem dX12_lays_100 : decode cX12_lays 100 = .ok (.iload 5, 2) := by decide +kernel
theorem dX12_lays_102 : decode cX12_lays 102 = .ok (.aload_n 0, 1) := by decide +kernel
theorem dX12_lays_103 : decode cX12_lays 103 = .ok (.getfield 20, 3) := by decide +kernel
theorem dX12_lays_106 : decode cX12_lays 106 = .ok (.iload_n 1, 1) := by decide +kernel
theorem dX12_lays_107 : decode cX12_lays 107 = .ok (.iaload, 1) := by decide +kernel
theorem dX12_lays_108 : decode cX12_lays 108 = .ok (.aload_n 0, 1) := by decide +kernel
theorem dX12_lays_109 : decode cX12_lays 109 = .ok (.getfield 76, 3) := by decide +kernel
theorem dX12_lays_112 : decode cX12_lays 112 = .ok (.bipush 21, 2) := by decide +kernel
theorem dX12_lays_114 : decode cX12_lays 114 = .ok (.iload 4, 2) := by decide +kernel
theorem dX12_lays_116 : decode cX12_lays 116 = .ok (.imul, 1) := by decide +kernel
theorem dX12_lays_117 : decode cX12_lays 117 = .ok (.iload 8, 2) := by decide +kernel
theorem dX12_lays_119 : decode cX12_lays 119 = .ok (.iadd, 1) := by decide +kernel
theorem dX12_lays_120 : decode cX12_lays 120 = .ok (.iaload, 1) := by decide +kernel
theorem dX12_lays_121 : decode cX12_lays 121 = .ok (.imul, 1) := by decide +kernel
theorem dX12_lays_122 : decode cX12_lays 122 = .ok (.iadd, 1) := by decide +kernel
theorem dX12_lays_123 : decode cX12_lays 123 = .ok (.istore 9, 2) := by decide +kernel
theorem dX12_lays_125 : decode cX12_lays 125 = .ok (.iload 9, 2) := by decide +kernel
theorem dX12_lays_127 : decode cX12_lays 127 = .ok (.sipush 601, 3) := by decide +kernel
theorem dX12_lays_130 : decode cX12_lays 130 = .ok (.if_icmp .ge 40, 3) := by decide +kernel
theorem dX12_lays_133 : decode cX12_lays 133 = .ok (.iload 7, 2) := by decide +kernel
theorem dX12_lays_135 : decode cX12_lays 135 = .ok (.aload_n 0, 1) := by decide +kernel
theorem dX12_lays_136 : decode cX12_lays 136 = .ok (.getfield 79, 3) := by decide +kernel
theorem dX12_lays_139 : decode cX12_lays 139 = .ok (.bipush 21, 2) := by decide +kernel
theorem dX12_lays_141 : decode cX12_lays 141 = .ok (.iload 4, 2) := by decide +kernel
theorem dX12_lays_143 : decode cX12_lays 143 = .ok (.imul, 1) := by decide +kernel
theorem dX12_lays_144 : decode cX12_lays 144 = .ok (.iload 8, 2) := by decide +kernel
theorem dX12_lays_146 : decode cX12_lays 146 = .ok (.iadd, 1) := by decide +kernel
theorem dX12_lays_147 : decode cX12_lays 147 = .ok (.iaload, 1) := by decide +kernel
theorem dX12_lays_148 : decode cX12_lays 148 = .ok (.aload_n 0, 1) := by decide +kernel
theorem dX12_lays_149 : decode cX12_lays 149 = .ok (.getfield 88, 3) := by decide +kernel
theorem dX12_lays_152 : decode cX12_lays 152 = .ok (.sipush 601, 3) := by decide +kernel
theorem dX12_lays_155 : decode cX12_lays 155 = .ok (.iload 4, 2) := by decide +kernel
theorem dX12_lays_157 : decode cX12_lays 157 = .ok (.iconst 1, 1) := by decide +kernel
theorem dX12_lays_158 : decode cX12_lays 158 = .ok (.iadd, 1) := by decide +kernel
theorem dX12_lays_159 : decode cX12_lays 159 = .ok (.imul, 1) := by decide +kernel
theorem dX12_lays_160 : decode cX12_lays 160 = .ok (.iload 9, 2) := by decide +kernel
theorem dX12_lays_162 : decode cX12_lays 162 = .ok (.iadd, 1) := by decide +kernel
theorem dX12_lays_163 : decode cX12_lays 163 = .ok (.iaload, 1) := by decide +kernel
theorem dX12_lays_164 : decode cX12_lays 164 = .ok (.iadd, 1) := by decide +kernel
theorem dX12_lays_165 : decode cX12_lays 165 = .ok (.invokestatic 130, 3) := by decide +kernel
theorem dX12_lays_168 : decode cX12_lays 168 = .ok (.istore 7, 2) := by decide +kernel
theorem dX12_lays_170 : decode cX12_lays 170 = .ok (.iinc 8 1, 3) := by decide +kernel
theorem dX12_lays_173 : decode cX12_lays 173 = .ok (.goto (-93), 3) := by decide +kernel
theorem dX12_lays_176 : decode cX12_lays 176 = .ok (.aload_n 0, 1) := by decide +kernel
theorem dX12_lays_177 : decode cX12_lays 177 = .ok (.getfield 88, 3) := by decide +kernel
theorem dX12_lays_180 : decode cX12_lays 180 = .ok (.iload 6, 2) := by decide +kernel
theorem dX12_lays_182 : decode cX12_lays 182 = .ok (.iload 7, 2) := by decide +kernel
theorem dX12_lays_184 : decode cX12_lays 184 = .ok (.ldc 204, 2) := by decide +kernel
theorem dX12_lays_186 : decode cX12_lays 186 = .ok (.if_icmp .lt 8, 3) := by decide +kernel
theorem dX12_lays_189 : decode cX12_lays 189 = .ok (.ldc 204, 2) := by decide +kernel
theorem dX12_lays_191 : decode cX12_lays 191 = .ok (.goto 13, 3) := by decide +kernel
theorem dX12_lays_194 : decode cX12_lays 194 = .ok (.iload 7, 2) := by decide +kernel
theorem dX12_lays_196 : decode cX12_lays 196 = .ok (.aload_n 0, 1) := by decide +kernel
theorem dX12_lays_197 : decode cX12_lays 197 = .ok (.getfield 85, 3) := by decide +kernel
theorem dX12_lays_200 : decode cX12_lays 200 = .ok (.iload 6, 2) := by decide +kernel
theorem dX12_lays_202 : decode cX12_lays 202 = .ok (.iaload, 1) := by decide +kernel
theorem dX12_lays_203 : decode cX12_lays 203 = .ok (.iadd, 1) := by decide +kernel
theorem dX12_lays_204 : decode cX12_lays 204 = .ok (.iastore, 1) := by decide +kernel
theorem dX12_lays_205 : decode cX12_lays 205 = .ok (.iinc 5 1, 3) := by decide +kernel
theorem dX12_lays_208 : decode cX12_lays 208 = .ok (.goto (-183), 3) := by decide +kernel
theorem dX12_lays_211 : decode cX12_lays 211 = .ok (.iinc 4 (-1), 3) := by decide +kernel
theorem dX12_lays_214 : decode cX12_lays 214 = .ok (.goto (-197), 3) := by decide +kernel
theorem dX12_lays_217 : decode cX12_lays 217 = .ok (.ldc 204, 2) := by decide +kernel
theorem dX12_lays_219 : decode cX12_lays 219 = .ok (.istore 4, 2) := by decide +kernel
theorem dX12_lays_221 : decode cX12_lays 221 = .ok (.iconst 0, 1) := by decide +kernel
theorem dX12_lays_222 : decode cX12_lays 222 = .ok (.istore 5, 2) := by decide +kernel
theorem dX12_lays_224 : decode cX12_lays 224 = .ok (.iload 5, 2) := by decide +kernel
theorem dX12_lays_226 : decode cX12_lays 226 = .ok (.sipush 601, 3) := by decide +kernel
theorem dX12_lays_229 : decode cX12_lays 229 = .ok (.if_icmp .ge 23, 3) := by decide +kernel
theorem dX12_lays_232 : decode cX12_lays 232 = .ok (.iload 4, 2) := by decide +kernel
theorem dX12_lays_234 : decode cX12_lays 234 = .ok (.aload_n 0, 1) := by decide +kernel
theorem dX12_lays_235 : decode cX12_lays 235 = .ok (.getfield 88, 3) := by decide +kernel
theorem dX12_lays_238 : decode cX12_lays 238 = .ok (.iload 5, 2) := by decide +kernel
theorem dX12_lays_240 : decode cX12_lays 240 = .ok (.iaload, 1) := by decide +kernel
theorem dX12_lays_241 : decode cX12_lays 241 = .ok (.invokestatic 130, 3) := by decide +kernel
theorem dX12_lays_244 : decode cX12_lays 244 = .ok (.istore 4, 2) := by decide +kernel
theorem dX12_lays_246 : decode cX12_lays 246 = .ok (.iinc 5 1, 3) := by decide +kernel
theorem dX12_lays_249 : decode cX12_lays 249 = .ok (.goto (-25), 3) := by decide +kernel
theorem dX12_lays_252 : decode cX12_lays 252 = .ok (.iload 4, 2) := by decide +kernel
theorem dX12_lays_254 : decode cX12_lays 254 = .ok (.ireturn, 1) := by decide +kernel
theorem dX12_goesAhead_0 : decode cX12_goesAhead 0 = .ok (.aload_n 0, 1) := by decide +kernel
theorem dX12_goesAhead_1 : decode cX12_goesAhead 1 = .ok (.getfield 23, 3) := by decide +kernel
theorem dX12_goesAhead_4 : decode cX12_goesAhead 4 = .ok (.iload_n 1, 1) := by decide +kernel
theorem dX12_goesAhead_5 : decode cX12_goesAhead 5 = .ok (.iaload, 1) := by decide +kernel
theorem dX12_goesAhead_6 : decode cX12_goesAhead 6 = .ok (.istore_n 2, 1) := by decide +kernel
theorem dX12_goesAhead_7 : decode cX12_goesAhead 7 = .ok (.iconst 0, 1) := by decide +kernel
theorem dX12_goesAhead_8 : decode cX12_goesAhead 8 = .ok (.istore_n 3, 1) := by decide +kernel
theorem dX12_goesAhead_9 : decode cX12_goesAhead 9 = .ok (.iload_n 3, 1) := by decide +kernel
theorem dX12_goesAhead_10 : decode cX12_goesAhead 10 = .ok (.sipush 601, 3) := by decide +kernel
theorem dX12_goesAhead_13 : decode cX12_goesAhead 13 = .ok (.iload_n 2, 1) := by decide +kernel
theorem dX12_goesAhead_14 : decode cX12_goesAhead 14 = .ok (.imul, 1) := by decide +kernel
theorem dX12_goesAhead_15 : decode cX12_goesAhead 15 = .ok (.if_icmp .ge 33, 3) := by decide +kernel
theorem dX12_goesAhead_18 : decode cX12_goesAhead 18 = .ok (.aload_n 0, 1) := by decide +kernel
theorem dX12_goesAhead_19 : decode cX12_goesAhead 19 = .ok (.getfield 91, 3) := by decide +kernel
theorem dX12_goesAhead_22 : decode cX12_goesAhead 22 = .ok (.iload_n 3, 1) := by decide +kernel
theorem dX12_goesAhead_23 : decode cX12_goesAhead 23 = .ok (.iload_n 3, 1) := by decide +kernel
theorem dX12_goesAhead_24 : decode cX12_goesAhead 24 = .ok (.sipush 601, 3) := by decide +kernel
theorem dX12_goesAhead_27 : decode cX12_goesAhead 27 = .ok (.if_icmp .ge 12, 3) := by decide +kernel
theorem dX12_goesAhead_30 : decode cX12_goesAhead 30 = .ok (.aload_n 0, 1) := by decide +kernel
theorem dX12_goesAhead_31 : decode cX12_goesAhead 31 = .ok (.getfield 85, 3) := by decide +kernel
theorem dX12_goesAhead_34 : decode cX12_goesAhead 34 = .ok (.iload_n 3, 1) := by decide +kernel
theorem dX12_goesAhead_35 : decode cX12_goesAhead 35 = .ok (.iaload, 1) := by decide +kernel
theorem dX12_goesAhead_36 : decode cX12_goesAhead 36 = .ok (.goto 5, 3) := by decide +kernel
theorem dX12_goesAhead_39 : decode cX12_goesAhead 39 = .ok (.ldc 204, 2) := by decide +kernel
theorem dX12_goesAhead_41 : decode cX12_goesAhead 41 = .ok (.iastore, 1) := by decide +kernel
theorem dX12_goesAhead_42 : decode cX12_goesAhead 42 = .ok (.iinc 3 1, 3) := by decide +kernel
theorem dX12_goesAhead_45 : decode cX12_goesAhead 45 = .ok (.goto (-36), 3) := by decide +kernel
theorem dX12_goesAhead_48 : decode cX12_goesAhead 48 = .ok (.iconst 0, 1) := by decide +kernel
theorem dX12_goesAhead_49 : decode cX12_goesAhead 49 = .ok (.istore_n 3, 1) := by decide +kernel
theorem dX12_goesAhead_50 : decode cX12_goesAhead 50 = .ok (.iload_n 3, 1) := by decide +kernel
theorem dX12_goesAhead_51 : decode cX12_goesAhead 51 = .ok (.iload_n 2, 1) := by decide +kernel
theorem dX12_goesAhead_52 : decode cX12_goesAhead 52 = .ok (.iconst 1, 1) := by decide +kernel
theorem dX12_goesAhead_53 : decode cX12_goesAhead 53 = .ok (.isub, 1) := by decide +kernel
theorem dX12_goesAhead_54 : decode cX12_goesAhead 54 = .ok (.if_icmp .ge 164, 3) := by decide +kernel
theorem dX12_goesAhead_57 : decode cX12_goesAhead 57 = .ok (.iconst 0, 1) := by decide +kernel
theorem dX12_goesAhead_58 : decode cX12_goesAhead 58 = .ok (.istore 4, 2) := by decide +kernel
theorem dX12_goesAhead_60 : decode cX12_goesAhead 60 = .ok (.iload 4, 2) := by decide +kernel
theorem dX12_goesAhead_62 : decode cX12_goesAhead 62 = .ok (.sipush 601, 3) := by decide +kernel
theorem dX12_goesAhead_65 : decode cX12_goesAhead 65 = .ok (.if_icmp .ge 147, 3) := by decide +kernel
theorem dX12_goesAhead_68 : decode cX12_goesAhead 68 = .ok (.aload_n 0, 1) := by decide +kernel
theorem dX12_goesAhead_69 : decode cX12_goesAhead 69 = .ok (.getfield 91, 3) := by decide +kernel
theorem dX12_goesAhead_72 : decode cX12_goesAhead 72 = .ok (.sipush 601, 3) := by decide +kernel
theorem dX12_goesAhead_75 : decode cX12_goesAhead 75 = .ok (.iload_n 3, 1) := by decide +kernel
theorem dX12_goesAhead_76 : decode cX12_goesAhead 76 = .ok (.imul, 1) := by decide +kernel
theorem dX12_goesAhead_77 : decode cX12_goesAhead 77 = .ok (.iload 4, 2) := by decide +kernel
theorem dX12_goesAhead_79 : decode cX12_goesAhead 79 = .ok (.iadd, 1) := by decide +kernel
theorem dX12_goesAhead_80 : decode cX12_goesAhead 80 = .ok (.iaload, 1) := by decide +kernel
theorem dX12_goesAhead_81 : decode cX12_goesAhead 81 = .ok (.istore 5, 2) := by decide +kernel
theorem dX12_goesAhead_83 : decode cX12_goesAhead 83 = .ok (.iconst 0, 1) := by decide +kernel
theorem dX12_goesAhead_84 : decode cX12_goesAhead 84 = .ok (.istore 6, 2) := by decide +kernel
theorem dX12_goesAhead_86 : decode cX12_goesAhead 86 = .ok (.iload 6, 2) := by decide +kernel
theorem dX12_goesAhead_88 : decode cX12_goesAhead 88 = .ok (.aload_n 0, 1) := by decide +kernel
theorem dX12_goesAhead_89 : decode cX12_goesAhead 89 = .ok (.getfield 82, 3) := by decide +kernel
theorem dX12_goesAhead_92 : decode cX12_goesAhead 92 = .ok (.iload_n 3, 1) := by decide +kernel
theorem dX12_goesAhead_93 : decode cX12_goesAhead 93 = .ok (.iaload, 1) := by decide +kernel
theorem dX12_goesAhead_94 : decode cX12_goesAhead 94 = .ok (.if_icmp .ge 112, 3) := by decide +kernel
theorem dX12_goesAhead_97 : decode cX12_goesAhead 97 = .ok (.iload 5, 2) := by decide +kernel
theorem dX12_goesAhead_99 : decode cX12_goesAhead 99 = .ok (.ldc 204, 2) := by decide +kernel
theorem dX12_goesAhead_101 : decode cX12_goesAhead 101 = .ok (.if_icmp .ge 105, 3) := by decide +kernel
theorem dX12_goesAhead_104 : decode cX12_goesAhead 104 = .ok (.iload 4, 2) := by decide +kernel
theorem dX12_goesAhead_106 : decode cX12_goesAhead 106 = .ok (.aload_n 0, 1) := by decide +kernel
theorem dX12_goesAhead_107 : decode cX12_goesAhead 107 = .ok (.getfield 20, 3) := by decide +kernel
theorem dX12_goesAhead_110 : decode cX12_goesAhead 110 = .ok (.iload_n 1, 1) := by decide +kernel
theorem dX12_goesAhead_111 : decode cX12_goesAhead 111 = .ok (.iaload, 1) := by decide +kernel
theorem dX12_goesAhead_112 : decode cX12_goesAhead 112 = .ok (.aload_n 0, 1) := by decide +kernel
theorem dX12_goesAhead_113 : decode cX12_goesAhead 113 = .ok (.getfield 76, 3) := by decide +kernel
theorem dX12_goesAhead_116 : decode cX12_goesAhead 116 = .ok (.bipush 21, 2) := by decide +kernel
theorem dX12_goesAhead_118 : decode cX12_goesAhead 118 = .ok (.iload_n 3, 1) := by decide +kernel
theorem dX12_goesAhead_119 : decode cX12_goesAhead 119 = .ok (.imul, 1) := by decide +kernel
theorem dX12_goesAhead_120 : decode cX12_goesAhead 120 = .ok (.iload 6, 2) := by decide +kernel
theorem dX12_goesAhead_122 : decode cX12_goesAhead 122 = .ok (.iadd, 1) := by decide +kernel
theorem dX12_goesAhead_123 : decode cX12_goesAhead 123 = .ok (.iaload, 1) := by decide +kernel
theorem dX12_goesAhead_124 : decode cX12_goesAhead 124 = .ok (.imul, 1) := by decide +kernel
theorem dX12_goesAhead_125 : decode cX12_goesAhead 125 = .ok (.iadd, 1) := by decide +kernel
theorem dX12_goesAhead_126 : decode cX12_goesAhead 126 = .ok (.istore 7, 2) := by decide +kernel
theorem dX12_goesAhead_128 : decode cX12_goesAhead 128 = .ok (.iload 7, 2) := by decide +kernel
theorem dX12_goesAhead_130 : decode cX12_goesAhead 130 = .ok (.sipush 601, 3) := by decide +kernel
theorem dX12_goesAhead_133 : decode cX12_goesAhead 133 = .ok (.if_icmp .ge 67, 3) := by decide +kernel
theorem dX12_goesAhead_136 : decode cX12_goesAhead 136 = .ok (.aload_n 0, 1) := by decide +kernel
theorem dX12_goesAhead_137 : decode cX12_goesAhead 137 = .ok (.getfield 91, 3) := by decide +kernel
theorem dX12_goesAhead_140 : decode cX12_goesAhead 140 = .ok (.sipush 601, 3) := by decide +kernel
theorem dX12_goesAhead_143 : decode cX12_goesAhead 143 = .ok (.iload_n 3, 1) := by decide +kernel
theorem dX12_goesAhead_144 : decode cX12_goesAhead 144 = .ok (.iconst 1, 1) := by decide +kernel
theorem dX12_goesAhead_145 : decode cX12_goesAhead 145 = .ok (.iadd, 1) := by decide +kernel
theorem dX12_goesAhead_146 : decode cX12_goesAhead 146 = .ok (.imul, 1) := by decide +kernel
theorem dX12_goesAhead_147 : decode cX12_goesAhead 147 = .ok (.iload 7, 2) := by decide +kernel
theorem dX12_goesAhead_149 : decode cX12_goesAhead 149 = .ok (.iadd, 1) := by decide +kernel
theorem dX12_goesAhead_150 : decode cX12_goesAhead 150 = .ok (.aload_n 0, 1) := by decide +kernel
theorem dX12_goesAhead_151 : decode cX12_goesAhead 151 = .ok (.getfield 91, 3) := by decide +kernel
theorem dX12_goesAhead_154 : decode cX12_goesAhead 154 = .ok (.sipush 601, 3) := by decide +kernel
theorem dX12_goesAhead_157 : decode cX12_goesAhead 157 = .ok (.iload_n 3, 1) := by decide +kernel
theorem dX12_goesAhead_158 : decode cX12_goesAhead 158 = .ok (.iconst 1, 1) := by decide +kernel
theorem dX12_goesAhead_159 : decode cX12_goesAhead 159 = .ok (.iadd, 1) := by decide +kernel
theorem dX12_goesAhead_160 : decode cX12_goesAhead 160 = .ok (.imul, 1) := by decide +kernel
theorem dX12_goesAhead_161 : decode cX12_goesAhead 161 = .ok (.iload 7, 2) := by decide +kernel
theorem dX12_goesAhead_163 : decode cX12_goesAhead 163 = .ok (.iadd, 1) := by decide +kernel
theorem dX12_goesAhead_164 : decode cX12_goesAhead 164 = .ok (.iaload, 1) := by decide +kernel
theorem dX12_goesAhead_165 : decode cX12_goesAhead 165 = .ok (.iload 5, 2) := by decide +kernel
theorem dX12_goesAhead_167 : decode cX12_goesAhead 167 = .ok (.aload_n 0, 1) := by decide +kernel
theorem dX12_goesAhead_168 : decode cX12_goesAhead 168 = .ok (.getfield 79, 3) := by decide +kernel
theorem dX12_goesAhead_171 : decode cX12_goesAhead 171 = .ok (.bipush 21, 2) := by decide +kernel
theorem dX12_goesAhead_173 : decode cX12_goesAhead 173 = .ok (.iload_n 3, 1) := by decide +kernel
theorem dX12_goesAhead_174 : decode cX12_goesAhead 174 = .ok (.imul, 1) := by decide +kernel
theorem dX12_goesAhead_175 : decode cX12_goesAhead 175 = .ok (.iload 6, 2) := by decide +kernel
theorem dX12_goesAhead_177 : decode cX12_goesAhead 177 = .ok (.iadd, 1) := by decide +kernel
theorem dX12_goesAhead_178 : decode cX12_goesAhead 178 = .ok (.iaload, 1) := by decide +kernel
theorem dX12_goesAhead_179 : decode cX12_goesAhead 179 = .ok (.iadd, 1) := by decide +kernel
theorem dX12_goesAhead_180 : decode cX12_goesAhead 180 = .ok (.aload_n 0, 1) := by decide +kernel
theorem dX12_goesAhead_181 : decode cX12_goesAhead 181 = .ok (.getfield 85, 3) := by decide +kernel
theorem dX12_goesAhead_184 : decode cX12_goesAhead 184 = .ok (.sipush 601, 3) := by decide +kernel
theorem dX12_goesAhead_187 : decode cX12_goesAhead 187 = .ok (.iload_n 3, 1) := by decide +kernel
theorem dX12_goesAhead_188 : decode cX12_goesAhead 188 = .ok (.iconst 1, 1) := by decide +kernel
theorem dX12_goesAhead_189 : decode cX12_goesAhead 189 = .ok (.iadd, 1) := by decide +kernel
theorem dX12_goesAhead_190 : decode cX12_goesAhead 190 = .ok (.imul, 1) := by decide +kernel
theorem dX12_goesAhead_191 : decode cX12_goesAhead 191 = .ok (.iload 7, 2) := by decide +kernel
theorem dX12_goesAhead_193 : decode cX12_goesAhead 193 = .ok (.iadd, 1) := by decide +kernel
theorem dX12_goesAhead_194 : decode cX12_goesAhead 194 = .ok (.iaload, 1) := by decide +kernel
theorem dX12_goesAhead_195 : decode cX12_goesAhead 195 = .ok (.iadd, 1) := by decide +kernel
theorem dX12_goesAhead_196 : decode cX12_goesAhead 196 = .ok (.invokestatic 130, 3) := by decide +kernel
theorem dX12_goesAhead_199 : decode cX12_goesAhead 199 = .ok (.iastore, 1) := by decide +kernel
theorem dX12_goesAhead_200 : decode cX12_goesAhead 200 = .ok (.iinc 6 1, 3) := by decide +kernel
theorem dX12_goesAhead_203 : decode cX12_goesAhead 203 = .ok (.goto (-117), 3) := by decide +kernel
theorem dX12_goesAhead_206 : decode cX12_goesAhead 206 = .ok (.iinc 4 1, 3) := by decide +kernel
theorem dX12_goesAhead_209 : decode cX12_goesAhead 209 = .ok (.goto (-149), 3) := by decide +kernel
theorem dX12_goesAhead_212 : decode cX12_goesAhead 212 = .ok (.iinc 3 1, 3) := by decide +kernel
theorem dX12_goesAhead_215 : decode cX12_goesAhead 215 = .ok (.goto (-165), 3) := by decide +kernel
theorem dX12_goesAhead_218 : decode cX12_goesAhead 218 = .ok (.return_, 1) := by decide +kernel
theorem dX12_isAsked_0 : decode cX12_isAsked 0 = .ok (.aload_n 0, 1) := by decide +kernel
theorem dX12_isAsked_1 : decode cX12_isAsked 1 = .ok (.iload_n 1, 1) := by decide +kernel
theorem dX12_isAsked_2 : decode cX12_isAsked 2 = .ok (.invokevirtual 167, 3) := by decide +kernel
theorem dX12_isAsked_5 : decode cX12_isAsked 5 = .ok (.ifCond .eq 19, 3) := by decide +kernel
theorem dX12_isAsked_8 : decode cX12_isAsked 8 = .ok (.iload_n 2, 1) := by decide +kernel
theorem dX12_isAsked_9 : decode cX12_isAsked 9 = .ok (.iconst 0, 1) := by decide +kernel
theorem dX12_isAsked_10 : decode cX12_isAsked 10 = .ok (.aload_n 0, 1) := by decide +kernel
theorem dX12_isAsked_11 : decode cX12_isAsked 11 = .ok (.getfield 181, 3) := by decide +kernel
theorem dX12_isAsked_14 : decode cX12_isAsked 14 = .ok (.invokestatic 112, 3) := by decide +kernel
theorem dX12_isAsked_17 : decode cX12_isAsked 17 = .ok (.ifCond .eq 7, 3) := by decide +kernel
theorem dX12_isAsked_20 : decode cX12_isAsked 20 = .ok (.iconst 1, 1) := by decide +kernel
theorem dX12_isAsked_21 : decode cX12_isAsked 21 = .ok (.goto 4, 3) := by decide +kernel
theorem dX12_isAsked_24 : decode cX12_isAsked 24 = .ok (.iconst 0, 1) := by decide +kernel
theorem dX12_isAsked_25 : decode cX12_isAsked 25 = .ok (.ireturn, 1) := by decide +kernel
theorem dX12_best_0 : decode cX12_best 0 = .ok (.aload_n 0, 1) := by decide +kernel
theorem dX12_best_1 : decode cX12_best 1 = .ok (.iconst 0, 1) := by decide +kernel
theorem dX12_best_2 : decode cX12_best 2 = .ok (.putfield 106, 3) := by decide +kernel
theorem dX12_best_5 : decode cX12_best 5 = .ok (.aload_n 0, 1) := by decide +kernel
theorem dX12_best_6 : decode cX12_best 6 = .ok (.iload_n 1, 1) := by decide +kernel
theorem dX12_best_7 : decode cX12_best 7 = .ok (.iload_n 2, 1) := by decide +kernel
theorem dX12_best_8 : decode cX12_best 8 = .ok (.invokevirtual 224, 3) := by decide +kernel
theorem dX12_best_11 : decode cX12_best 11 = .ok (.ifCond .ne 5, 3) := by decide +kernel
theorem dX12_best_14 : decode cX12_best 14 = .ok (.iconst (-1), 1) := by decide +kernel
theorem dX12_best_15 : decode cX12_best 15 = .ok (.ireturn, 1) := by decide +kernel
theorem dX12_best_16 : decode cX12_best 16 = .ok (.aload_n 0, 1) := by decide +kernel
theorem dX12_best_17 : decode cX12_best 17 = .ok (.iload_n 1, 1) := by decide +kernel
theorem dX12_best_18 : decode cX12_best 18 = .ok (.iload_n 2, 1) := by decide +kernel
theorem dX12_best_19 : decode cX12_best 19 = .ok (.invokevirtual 227, 3) := by decide +kernel
theorem dX12_best_22 : decode cX12_best 22 = .ok (.istore_n 3, 1) := by decide +kernel
theorem dX12_best_23 : decode cX12_best 23 = .ok (.iload_n 3, 1) := by decide +kernel
theorem dX12_best_24 : decode cX12_best 24 = .ok (.ldc 204, 2) := by decide +kernel
theorem dX12_best_26 : decode cX12_best 26 = .ok (.if_icmp .ne 8, 3) := by decide +kernel
theorem dX12_best_29 : decode cX12_best 29 = .ok (.bipush (-2), 2) := by decide +kernel
theorem dX12_best_31 : decode cX12_best 31 = .ok (.goto 4, 3) := by decide +kernel
theorem dX12_best_34 : decode cX12_best 34 = .ok (.iload_n 3, 1) := by decide +kernel
theorem dX12_best_35 : decode cX12_best 35 = .ok (.ireturn, 1) := by decide +kernel
theorem dX12_bests_0 : decode cX12_bests 0 = .ok (.aload_n 0, 1) := by decide +kernel
theorem dX12_bests_1 : decode cX12_bests 1 = .ok (.iload_n 1, 1) := by decide +kernel
theorem dX12_bests_2 : decode cX12_bests 2 = .ok (.iload_n 2, 1) := by decide +kernel
theorem dX12_bests_3 : decode cX12_bests 3 = .ok (.invokevirtual 227, 3) := by decide +kernel
theorem dX12_bests_6 : decode cX12_bests 6 = .ok (.istore_n 3, 1) := by decide +kernel
theorem dX12_bests_7 : decode cX12_bests 7 = .ok (.iload_n 3, 1) := by decide +kernel
theorem dX12_bests_8 : decode cX12_bests 8 = .ok (.ldc 204, 2) := by decide +kernel
theorem dX12_bests_10 : decode cX12_bests 10 = .ok (.if_icmp .ne 5, 3) := by decide +kernel
theorem dX12_bests_13 : decode cX12_bests 13 = .ok (.iconst 0, 1) := by decide +kernel
theorem dX12_bests_14 : decode cX12_bests 14 = .ok (.ireturn, 1) := by decide +kernel
theorem dX12_bests_15 : decode cX12_bests 15 = .ok (.iconst 0, 1) := by decide +kernel
theorem dX12_bests_16 : decode cX12_bests 16 = .ok (.istore 4, 2) := by decide +kernel
theorem dX12_bests_18 : decode cX12_bests 18 = .ok (.aload_n 0, 1) := by decide +kernel
theorem dX12_bests_19 : decode cX12_bests 19 = .ok (.getfield 88, 3) := by decide +kernel
theorem dX12_bests_22 : decode cX12_bests 22 = .ok (.iload 4, 2) := by decide +kernel
theorem dX12_bests_24 : decode cX12_bests 24 = .ok (.iaload, 1) := by decide +kernel
theorem dX12_bests_25 : decode cX12_bests 25 = .ok (.iload_n 3, 1) := by decide +kernel
theorem dX12_bests_26 : decode cX12_bests 26 = .ok (.if_icmp .eq 9, 3) := by decide +kernel
theorem dX12_bests_29 : decode cX12_bests 29 = .ok (.iinc 4 1, 3) := by decide +kernel
theorem dX12_bests_32 : decode cX12_bests 32 = .ok (.goto (-14), 3) := by decide +kernel
theorem dX12_bests_35 : decode cX12_bests 35 = .ok (.aload_n 0, 1) := by decide +kernel
theorem dX12_bests_36 : decode cX12_bests 36 = .ok (.getfield 94, 3) := by decide +kernel
theorem dX12_bests_39 : decode cX12_bests 39 = .ok (.iconst 0, 1) := by decide +kernel
theorem dX12_bests_40 : decode cX12_bests 40 = .ok (.iload 4, 2) := by decide +kernel
theorem dX12_bests_42 : decode cX12_bests 42 = .ok (.iastore, 1) := by decide +kernel
theorem dX12_bests_43 : decode cX12_bests 43 = .ok (.iconst 0, 1) := by decide +kernel
theorem dX12_bests_44 : decode cX12_bests 44 = .ok (.istore 5, 2) := by decide +kernel
theorem dX12_bests_46 : decode cX12_bests 46 = .ok (.iload 5, 2) := by decide +kernel
theorem dX12_bests_48 : decode cX12_bests 48 = .ok (.iconst 1, 1) := by decide +kernel
theorem dX12_bests_49 : decode cX12_bests 49 = .ok (.iadd, 1) := by decide +kernel
theorem dX12_bests_50 : decode cX12_bests 50 = .ok (.aload_n 0, 1) := by decide +kernel
theorem dX12_bests_51 : decode cX12_bests 51 = .ok (.getfield 23, 3) := by decide +kernel
theorem dX12_bests_54 : decode cX12_bests 54 = .ok (.iload_n 1, 1) := by decide +kernel
theorem dX12_bests_55 : decode cX12_bests 55 = .ok (.iaload, 1) := by decide +kernel
theorem dX12_bests_56 : decode cX12_bests 56 = .ok (.if_icmp .ge 196, 3) := by decide +kernel
theorem dX12_bests_59 : decode cX12_bests 59 = .ok (.aload_n 0, 1) := by decide +kernel
theorem dX12_bests_60 : decode cX12_bests 60 = .ok (.getfield 88, 3) := by decide +kernel
theorem dX12_bests_63 : decode cX12_bests 63 = .ok (.sipush 601, 3) := by decide +kernel
theorem dX12_bests_66 : decode cX12_bests 66 = .ok (.iload 5, 2) := by decide +kernel
theorem dX12_bests_68 : decode cX12_bests 68 = .ok (.imul, 1) := by decide +kernel
theorem dX12_bests_69 : decode cX12_bests 69 = .ok (.aload_n 0, 1) := by decide +kernel
theorem dX12_bests_70 : decode cX12_bests 70 = .ok (.getfield 94, 3) := by decide +kernel
theorem dX12_bests_73 : decode cX12_bests 73 = .ok (.iload 5, 2) := by decide +kernel
theorem dX12_bests_75 : decode cX12_bests 75 = .ok (.iaload, 1) := by decide +kernel
theorem dX12_bests_76 : decode cX12_bests 76 = .ok (.iadd, 1) := by decide +kernel
theorem dX12_bests_77 : decode cX12_bests 77 = .ok (.iaload, 1) := by decide +kernel
theorem dX12_bests_78 : decode cX12_bests 78 = .ok (.aload_n 0, 1) := by decide +kernel
theorem dX12_bests_79 : decode cX12_bests 79 = .ok (.getfield 85, 3) := by decide +kernel
theorem dX12_bests_82 : decode cX12_bests 82 = .ok (.sipush 601, 3) := by decide +kernel
theorem dX12_bests_85 : decode cX12_bests 85 = .ok (.iload 5, 2) := by decide +kernel
theorem dX12_bests_87 : decode cX12_bests 87 = .ok (.imul, 1) := by decide +kernel
theorem dX12_bests_88 : decode cX12_bests 88 = .ok (.aload_n 0, 1) := by decide +kernel
theorem dX12_bests_89 : decode cX12_bests 89 = .ok (.getfield 94, 3) := by decide +kernel
theorem dX12_bests_92 : decode cX12_bests 92 = .ok (.iload 5, 2) := by decide +kernel
theorem dX12_bests_94 : decode cX12_bests 94 = .ok (.iaload, 1) := by decide +kernel
theorem dX12_bests_95 : decode cX12_bests 95 = .ok (.iadd, 1) := by decide +kernel
theorem dX12_bests_96 : decode cX12_bests 96 = .ok (.iaload, 1) := by decide +kernel
theorem dX12_bests_97 : decode cX12_bests 97 = .ok (.isub, 1) := by decide +kernel
theorem dX12_bests_98 : decode cX12_bests 98 = .ok (.istore 6, 2) := by decide +kernel
theorem dX12_bests_100 : decode cX12_bests 100 = .ok (.aload_n 0, 1) := by decide +kernel
theorem dX12_bests_101 : decode cX12_bests 101 = .ok (.getfield 94, 3) := by decide +kernel
theorem dX12_bests_104 : decode cX12_bests 104 = .ok (.iload 5, 2) := by decide +kernel
theorem dX12_bests_106 : decode cX12_bests 106 = .ok (.iconst 1, 1) := by decide +kernel
theorem dX12_bests_107 : decode cX12_bests 107 = .ok (.iadd, 1) := by decide +kernel
theorem dX12_bests_108 : decode cX12_bests 108 = .ok (.sipush 601, 3) := by decide +kernel
theorem dX12_bests_111 : decode cX12_bests 111 = .ok (.iastore, 1) := by decide +kernel
theorem dX12_bests_112 : decode cX12_bests 112 = .ok (.iconst 0, 1) := by decide +kernel
theorem dX12_bests_113 : decode cX12_bests 113 = .ok (.istore 7, 2) := by decide +kernel
theorem dX12_bests_115 : decode cX12_bests 115 = .ok (.iload 7, 2) := by decide +kernel
theorem dX12_bests_117 : decode cX12_bests 117 = .ok (.aload_n 0, 1) := by decide +kernel
theorem dX12_bests_118 : decode cX12_bests 118 = .ok (.getfield 82, 3) := by decide +kernel
theorem dX12_bests_121 : decode cX12_bests 121 = .ok (.iload 5, 2) := by decide +kernel
theorem dX12_bests_123 : decode cX12_bests 123 = .ok (.iaload, 1) := by decide +kernel
theorem dX12_bests_124 : decode cX12_bests 124 = .ok (.if_icmp .ge 122, 3) := by decide +kernel
theorem dX12_bests_127 : decode cX12_bests 127 = .ok (.aload_n 0, 1) := by decide +kernel
theorem dX12_bests_128 : decode cX12_bests 128 = .ok (.getfield 94, 3) := by decide +kernel
theorem dX12_bests_131 : decode cX12_bests 131 = .ok (.iload 5, 2) := by decide +kernel
theorem dX12_bests_133 : decode cX12_bests 133 = .ok (.iaload, 1) := by decide +kernel
theorem dX12_bests_134 : decode cX12_bests 134 = .ok (.aload_n 0, 1) := by decide +kernel
theorem dX12_bests_135 : decode cX12_bests 135 = .ok (.getfield 20, 3) := by decide +kernel
theorem dX12_bests_138 : decode cX12_bests 138 = .ok (.iload_n 1, 1) := by decide +kernel
theorem dX12_bests_139 : decode cX12_bests 139 = .ok (.iaload, 1) := by decide +kernel
theorem dX12_bests_140 : decode cX12_bests 140 = .ok (.aload_n 0, 1) := by decide +kernel
theorem dX12_bests_141 : decode cX12_bests 141 = .ok (.getfield 76, 3) := by decide +kernel
theorem dX12_bests_144 : decode cX12_bests 144 = .ok (.bipush 21, 2) := by decide +kernel
theorem dX12_bests_146 : decode cX12_bests 146 = .ok (.iload 5, 2) := by decide +kernel
theorem dX12_bests_148 : decode cX12_bests 148 = .ok (.imul, 1) := by decide +kernel
theorem dX12_bests_149 : decode cX12_bests 149 = .ok (.iload 7, 2) := by decide +kernel
theorem dX12_bests_151 : decode cX12_bests 151 = .ok (.iadd, 1) := by decide +kernel
theorem dX12_bests_152 : decode cX12_bests 152 = .ok (.iaload, 1) := by decide +kernel
theorem dX12_bests_153 : decode cX12_bests 153 = .ok (.imul, 1) := by decide +kernel
theorem dX12_bests_154 : decode cX12_bests 154 = .ok (.iadd, 1) := by decide +kernel
theorem dX12_bests_155 : decode cX12_bests 155 = .ok (.istore 8, 2) := by decide +kernel
theorem dX12_bests_157 : decode cX12_bests 157 = .ok (.iload 8, 2) := by decide +kernel
theorem dX12_bests_159 : decode cX12_bests 159 = .ok (.aload_n 0, 1) := by decide +kernel
theorem dX12_bests_160 : decode cX12_bests 160 = .ok (.getfield 94, 3) := by decide +kernel
theorem dX12_bests_163 : decode cX12_bests 163 = .ok (.iload 5, 2) := by decide +kernel
theorem dX12_bests_165 : decode cX12_bests 165 = .ok (.iconst 1, 1) := by decide +kernel
theorem dX12_bests_166 : decode cX12_bests 166 = .ok (.iadd, 1) := by decide +kernel
theorem dX12_bests_167 : decode cX12_bests 167 = .ok (.iaload, 1) := by decide +kernel
theorem dX12_bests_168 : decode cX12_bests 168 = .ok (.if_icmp .ge 72, 3) := by decide +kernel
theorem dX12_bests_171 : decode cX12_bests 171 = .ok (.aload_n 0, 1) := by decide +kernel
theorem dX12_bests_172 : decode cX12_bests 172 = .ok (.getfield 79, 3) := by decide +kernel
theorem dX12_bests_175 : decode cX12_bests 175 = .ok (.bipush 21, 2) := by decide +kernel
theorem dX12_bests_177 : decode cX12_bests 177 = .ok (.iload 5, 2) := by decide +kernel
theorem dX12_bests_179 : decode cX12_bests 179 = .ok (.imul, 1) := by decide +kernel
theorem dX12_bests_180 : decode cX12_bests 180 = .ok (.iload 7, 2) := by decide +kernel
theorem dX12_bests_182 : decode cX12_bests 182 = .ok (.iadd, 1) := by decide +kernel
theorem dX12_bests_183 : decode cX12_bests 183 = .ok (.iaload, 1) := by decide +kernel
theorem dX12_bests_184 : decode cX12_bests 184 = .ok (.aload_n 0, 1) := by decide +kernel
theorem dX12_bests_185 : decode cX12_bests 185 = .ok (.getfield 88, 3) := by decide +kernel
theorem dX12_bests_188 : decode cX12_bests 188 = .ok (.sipush 601, 3) := by decide +kernel
theorem dX12_bests_191 : decode cX12_bests 191 = .ok (.iload 5, 2) := by decide +kernel
theorem dX12_bests_193 : decode cX12_bests 193 = .ok (.iconst 1, 1) := by decide +kernel
theorem dX12_bests_194 : decode cX12_bests 194 = .ok (.iadd, 1) := by decide +kernel
theorem dX12_bests_195 : decode cX12_bests 195 = .ok (.imul, 1) := by decide +kernel
theorem dX12_bests_196 : decode cX12_bests 196 = .ok (.iload 8, 2) := by decide +kernel
theorem dX12_bests_198 : decode cX12_bests 198 = .ok (.iadd, 1) := by decide +kernel
theorem dX12_bests_199 : decode cX12_bests 199 = .ok (.iaload, 1) := by decide +kernel
theorem dX12_bests_200 : decode cX12_bests 200 = .ok (.iadd, 1) := by decide +kernel
theorem dX12_bests_201 : decode cX12_bests 201 = .ok (.iload 6, 2) := by decide +kernel
theorem dX12_bests_203 : decode cX12_bests 203 = .ok (.if_icmp .eq 6, 3) := by decide +kernel
theorem dX12_bests_206 : decode cX12_bests 206 = .ok (.goto 34, 3) := by decide +kernel
theorem dX12_bests_209 : decode cX12_bests 209 = .ok (.aload_n 0, 1) := by decide +kernel
theorem dX12_bests_210 : decode cX12_bests 210 = .ok (.getfield 94, 3) := by decide +kernel
theorem dX12_bests_213 : decode cX12_bests 213 = .ok (.iload 5, 2) := by decide +kernel
theorem dX12_bests_215 : decode cX12_bests 215 = .ok (.iconst 1, 1) := by decide +kernel
theorem dX12_bests_216 : decode cX12_bests 216 = .ok (.iadd, 1) := by decide +kernel
theorem dX12_bests_217 : decode cX12_bests 217 = .ok (.iload 8, 2) := by decide +kernel
theorem dX12_bests_219 : decode cX12_bests 219 = .ok (.iastore, 1) := by decide +kernel
theorem dX12_bests_220 : decode cX12_bests 220 = .ok (.aload_n 0, 1) := by decide +kernel
theorem dX12_bests_221 : decode cX12_bests 221 = .ok (.getfield 97, 3) := by decide +kernel
theorem dX12_bests_224 : decode cX12_bests 224 = .ok (.iload 5, 2) := by decide +kernel
theorem dX12_bests_226 : decode cX12_bests 226 = .ok (.aload_n 0, 1) := by decide +kernel
theorem dX12_bests_227 : decode cX12_bests 227 = .ok (.getfield 76, 3) := by decide +kernel
theorem dX12_bests_230 : decode cX12_bests 230 = .ok (.bipush 21, 2) := by decide +kernel
theorem dX12_bests_232 : decode cX12_bests 232 = .ok (.iload 5, 2) := by decide +kernel
theorem dX12_bests_234 : decode cX12_bests 234 = .ok (.imul, 1) := by decide +kernel
theorem dX12_bests_235 : decode cX12_bests 235 = .ok (.iload 7, 2) := by decide +kernel
theorem dX12_bests_237 : decode cX12_bests 237 = .ok (.iadd, 1) := by decide +kernel
theorem dX12_bests_238 : decode cX12_bests 238 = .ok (.iaload, 1) := by decide +kernel
theorem dX12_bests_239 : decode cX12_bests 239 = .ok (.iastore, 1) := by decide +kernel
theorem dX12_bests_240 : decode cX12_bests 240 = .ok (.iinc 7 1, 3) := by decide +kernel
theorem dX12_bests_243 : decode cX12_bests 243 = .ok (.goto (-128), 3) := by decide +kernel
theorem dX12_bests_246 : decode cX12_bests 246 = .ok (.iinc 5 1, 3) := by decide +kernel
theorem dX12_bests_249 : decode cX12_bests 249 = .ok (.goto (-203), 3) := by decide +kernel
theorem dX12_bests_252 : decode cX12_bests 252 = .ok (.iconst 1, 1) := by decide +kernel
theorem dX12_bests_253 : decode cX12_bests 253 = .ok (.ireturn, 1) := by decide +kernel
theorem dX12_at_0 : decode cX12_at 0 = .ok (.aload_n 0, 1) := by decide +kernel
theorem dX12_at_1 : decode cX12_at 1 = .ok (.iconst 0, 1) := by decide +kernel
theorem dX12_at_2 : decode cX12_at 2 = .ok (.putfield 106, 3) := by decide +kernel
theorem dX12_at_5 : decode cX12_at 5 = .ok (.aload_n 0, 1) := by decide +kernel
theorem dX12_at_6 : decode cX12_at 6 = .ok (.iload_n 1, 1) := by decide +kernel
theorem dX12_at_7 : decode cX12_at 7 = .ok (.iload_n 2, 1) := by decide +kernel
theorem dX12_at_8 : decode cX12_at 8 = .ok (.invokevirtual 224, 3) := by decide +kernel
theorem dX12_at_11 : decode cX12_at 11 = .ok (.ifCond .eq 30, 3) := by decide +kernel
theorem dX12_at_14 : decode cX12_at 14 = .ok (.aload_n 0, 1) := by decide +kernel
theorem dX12_at_15 : decode cX12_at 15 = .ok (.iload_n 1, 1) := by decide +kernel
theorem dX12_at_16 : decode cX12_at 16 = .ok (.iload_n 3, 1) := by decide +kernel
theorem dX12_at_17 : decode cX12_at 17 = .ok (.invokevirtual 191, 3) := by decide +kernel
theorem dX12_at_20 : decode cX12_at 20 = .ok (.ifCond .eq 21, 3) := by decide +kernel
theorem dX12_at_23 : decode cX12_at 23 = .ok (.aload_n 0, 1) := by decide +kernel
theorem dX12_at_24 : decode cX12_at 24 = .ok (.iload_n 1, 1) := by decide +kernel
theorem dX12_at_25 : decode cX12_at 25 = .ok (.iload_n 2, 1) := by decide +kernel
theorem dX12_at_26 : decode cX12_at 26 = .ok (.invokevirtual 230, 3) := by decide +kernel
theorem dX12_at_29 : decode cX12_at 29 = .ok (.ifCond .eq 12, 3) := by decide +kernel
theorem dX12_at_32 : decode cX12_at 32 = .ok (.aload_n 0, 1) := by decide +kernel
theorem dX12_at_33 : decode cX12_at 33 = .ok (.getfield 94, 3) := by decide +kernel
theorem dX12_at_36 : decode cX12_at 36 = .ok (.iload_n 3, 1) := by decide +kernel
theorem dX12_at_37 : decode cX12_at 37 = .ok (.iaload, 1) := by decide +kernel
theorem dX12_at_38 : decode cX12_at 38 = .ok (.goto 4, 3) := by decide +kernel
theorem dX12_at_41 : decode cX12_at 41 = .ok (.iconst (-1), 1) := by decide +kernel
theorem dX12_at_42 : decode cX12_at 42 = .ok (.ireturn, 1) := by decide +kernel
theorem dX12_span_0 : decode cX12_span 0 = .ok (.aload_n 0, 1) := by decide +kernel
theorem dX12_span_1 : decode cX12_span 1 = .ok (.iconst 0, 1) := by decide +kernel
theorem dX12_span_2 : decode cX12_span 2 = .ok (.putfield 106, 3) := by decide +kernel
theorem dX12_span_5 : decode cX12_span 5 = .ok (.aload_n 0, 1) := by decide +kernel
theorem dX12_span_6 : decode cX12_span 6 = .ok (.iload_n 1, 1) := by decide +kernel
theorem dX12_span_7 : decode cX12_span 7 = .ok (.iload_n 2, 1) := by decide +kernel
theorem dX12_span_8 : decode cX12_span 8 = .ok (.invokevirtual 224, 3) := by decide +kernel
theorem dX12_span_11 : decode cX12_span 11 = .ok (.ifCond .eq 33, 3) := by decide +kernel
theorem dX12_span_14 : decode cX12_span 14 = .ok (.iload_n 3, 1) := by decide +kernel
theorem dX12_span_15 : decode cX12_span 15 = .ok (.iconst 0, 1) := by decide +kernel
theorem dX12_span_16 : decode cX12_span 16 = .ok (.bipush 20, 2) := by decide +kernel
theorem dX12_span_18 : decode cX12_span 18 = .ok (.invokestatic 112, 3) := by decide +kernel
theorem dX12_span_21 : decode cX12_span 21 = .ok (.ifCond .eq 23, 3) := by decide +kernel
theorem dX12_span_24 : decode cX12_span 24 = .ok (.aload_n 0, 1) := by decide +kernel
theorem dX12_span_25 : decode cX12_span 25 = .ok (.iload_n 1, 1) := by decide +kernel
theorem dX12_span_26 : decode cX12_span 26 = .ok (.iload 4, 2) := by decide +kernel
theorem dX12_span_28 : decode cX12_span 28 = .ok (.invokevirtual 191, 3) := by decide +kernel
theorem dX12_span_31 : decode cX12_span 31 = .ok (.ifCond .eq 13, 3) := by decide +kernel
theorem dX12_span_34 : decode cX12_span 34 = .ok (.iload 5, 2) := by decide +kernel
theorem dX12_span_36 : decode cX12_span 36 = .ok (.iconst 0, 1) := by decide +kernel
theorem dX12_span_37 : decode cX12_span 37 = .ok (.iconst 1, 1) := by decide +kernel
theorem dX12_span_38 : decode cX12_span 38 = .ok (.invokestatic 112, 3) := by decide +kernel
theorem dX12_span_41 : decode cX12_span 41 = .ok (.ifCond .ne 5, 3) := by decide +kernel
theorem dX12_span_44 : decode cX12_span 44 = .ok (.iconst (-1), 1) := by decide +kernel
theorem dX12_span_45 : decode cX12_span 45 = .ok (.ireturn, 1) := by decide +kernel
theorem dX12_span_46 : decode cX12_span 46 = .ok (.aload_n 0, 1) := by decide +kernel
theorem dX12_span_47 : decode cX12_span 47 = .ok (.iload_n 1, 1) := by decide +kernel
theorem dX12_span_48 : decode cX12_span 48 = .ok (.iload_n 2, 1) := by decide +kernel
theorem dX12_span_49 : decode cX12_span 49 = .ok (.invokevirtual 227, 3) := by decide +kernel
theorem dX12_span_52 : decode cX12_span 52 = .ok (.istore 6, 2) := by decide +kernel
theorem dX12_span_54 : decode cX12_span 54 = .ok (.iload 6, 2) := by decide +kernel
theorem dX12_span_56 : decode cX12_span 56 = .ok (.ldc 204, 2) := by decide +kernel
theorem dX12_span_58 : decode cX12_span 58 = .ok (.if_icmp .ne 5, 3) := by decide +kernel
theorem dX12_span_61 : decode cX12_span 61 = .ok (.iconst (-1), 1) := by decide +kernel
theorem dX12_span_62 : decode cX12_span 62 = .ok (.ireturn, 1) := by decide +kernel
theorem dX12_span_63 : decode cX12_span 63 = .ok (.aload_n 0, 1) := by decide +kernel
theorem dX12_span_64 : decode cX12_span 64 = .ok (.iload_n 1, 1) := by decide +kernel
theorem dX12_span_65 : decode cX12_span 65 = .ok (.invokevirtual 233, 3) := by decide +kernel
theorem dX12_span_68 : decode cX12_span 68 = .ok (.iconst (-1), 1) := by decide +kernel
theorem dX12_span_69 : decode cX12_span 69 = .ok (.istore 7, 2) := by decide +kernel
theorem dX12_span_71 : decode cX12_span 71 = .ok (.iconst 0, 1) := by decide +kernel
theorem dX12_span_72 : decode cX12_span 72 = .ok (.istore 8, 2) := by decide +kernel
theorem dX12_span_74 : decode cX12_span 74 = .ok (.iload 8, 2) := by decide +kernel
theorem dX12_span_76 : decode cX12_span 76 = .ok (.sipush 601, 3) := by decide +kernel
theorem dX12_span_79 : decode cX12_span 79 = .ok (.if_icmp .ge 93, 3) := by decide +kernel
theorem dX12_span_82 : decode cX12_span 82 = .ok (.sipush 601, 3) := by decide +kernel
theorem dX12_span_85 : decode cX12_span 85 = .ok (.iload 4, 2) := by decide +kernel
theorem dX12_span_87 : decode cX12_span 87 = .ok (.imul, 1) := by decide +kernel
theorem dX12_span_88 : decode cX12_span 88 = .ok (.iload 8, 2) := by decide +kernel
theorem dX12_span_90 : decode cX12_span 90 = .ok (.iadd, 1) := by decide +kernel
theorem dX12_span_91 : decode cX12_span 91 = .ok (.istore 9, 2) := by decide +kernel
theorem dX12_span_93 : decode cX12_span 93 = .ok (.aload_n 0, 1) := by decide +kernel
theorem dX12_span_94 : decode cX12_span 94 = .ok (.getfield 91, 3) := by decide +kernel
theorem dX12_span_97 : decode cX12_span 97 = .ok (.iload 9, 2) := by decide +kernel
theorem dX12_span_99 : decode cX12_span 99 = .ok (.iaload, 1) := by decide +kernel
theorem dX12_span_100 : decode cX12_span 100 = .ok (.ldc 204, 2) := by decide +kernel
theorem dX12_span_102 : decode cX12_span 102 = .ok (.if_icmp .ge 64, 3) := by decide +kernel
theorem dX12_span_105 : decode cX12_span 105 = .ok (.aload_n 0, 1) := by decide +kernel
theorem dX12_span_106 : decode cX12_span 106 = .ok (.getfield 88, 3) := by decide +kernel
theorem dX12_span_109 : decode cX12_span 109 = .ok (.iload 9, 2) := by decide +kernel
theorem dX12_span_111 : decode cX12_span 111 = .ok (.iaload, 1) := by decide +kernel
theorem dX12_span_112 : decode cX12_span 112 = .ok (.ldc 204, 2) := by decide +kernel
theorem dX12_span_114 : decode cX12_span 114 = .ok (.if_icmp .ge 52, 3) := by decide +kernel
theorem dX12_span_117 : decode cX12_span 117 = .ok (.aload_n 0, 1) := by decide +kernel
theorem dX12_span_118 : decode cX12_span 118 = .ok (.getfield 91, 3) := by decide +kernel
theorem dX12_span_121 : decode cX12_span 121 = .ok (.iload 9, 2) := by decide +kernel
theorem dX12_span_123 : decode cX12_span 123 = .ok (.iaload, 1) := by decide +kernel
theorem dX12_span_124 : decode cX12_span 124 = .ok (.aload_n 0, 1) := by decide +kernel
theorem dX12_span_125 : decode cX12_span 125 = .ok (.getfield 88, 3) := by decide +kernel
theorem dX12_span_128 : decode cX12_span 128 = .ok (.iload 9, 2) := by decide +kernel
theorem dX12_span_130 : decode cX12_span 130 = .ok (.iaload, 1) := by decide +kernel
theorem dX12_span_131 : decode cX12_span 131 = .ok (.iadd, 1) := by decide +kernel
theorem dX12_span_132 : decode cX12_span 132 = .ok (.aload_n 0, 1) := by decide +kernel
theorem dX12_span_133 : decode cX12_span 133 = .ok (.getfield 85, 3) := by decide +kernel
theorem dX12_span_136 : decode cX12_span 136 = .ok (.iload 9, 2) := by decide +kernel
theorem dX12_span_138 : decode cX12_span 138 = .ok (.iaload, 1) := by decide +kernel
theorem dX12_span_139 : decode cX12_span 139 = .ok (.isub, 1) := by decide +kernel
theorem dX12_span_140 : decode cX12_span 140 = .ok (.iload 6, 2) := by decide +kernel
theorem dX12_span_142 : decode cX12_span 142 = .ok (.iload_n 3, 1) := by decide +kernel
theorem dX12_span_143 : decode cX12_span 143 = .ok (.iadd, 1) := by decide +kernel
theorem dX12_span_144 : decode cX12_span 144 = .ok (.if_icmp .le 6, 3) := by decide +kernel
theorem dX12_span_147 : decode cX12_span 147 = .ok (.goto 19, 3) := by decide +kernel
theorem dX12_span_150 : decode cX12_span 150 = .ok (.iload 7, 2) := by decide +kernel
theorem dX12_span_152 : decode cX12_span 152 = .ok (.iconst (-1), 1) := by decide +kernel
theorem dX12_span_153 : decode cX12_span 153 = .ok (.if_icmp .eq 9, 3) := by decide +kernel
theorem dX12_span_156 : decode cX12_span 156 = .ok (.iload 5, 2) := by decide +kernel
theorem dX12_span_158 : decode cX12_span 158 = .ok (.iconst 1, 1) := by decide +kernel
theorem dX12_span_159 : decode cX12_span 159 = .ok (.if_icmp .ne 7, 3) := by decide +kernel
theorem dX12_span_162 : decode cX12_span 162 = .ok (.iload 8, 2) := by decide +kernel
theorem dX12_span_164 : decode cX12_span 164 = .ok (.istore 7, 2) := by decide +kernel
theorem dX12_span_166 : decode cX12_span 166 = .ok (.iinc 8 1, 3) := by decide +kernel
theorem dX12_span_169 : decode cX12_span 169 = .ok (.goto (-95), 3) := by decide +kernel
theorem dX12_span_172 : decode cX12_span 172 = .ok (.iload 7, 2) := by decide +kernel
theorem dX12_span_174 : decode cX12_span 174 = .ok (.ireturn, 1) := by decide +kernel
theorem dX12_rivals_0 : decode cX12_rivals 0 = .ok (.aload_n 0, 1) := by decide +kernel
theorem dX12_rivals_1 : decode cX12_rivals 1 = .ok (.iconst 0, 1) := by decide +kernel
theorem dX12_rivals_2 : decode cX12_rivals 2 = .ok (.putfield 106, 3) := by decide +kernel
theorem dX12_rivals_5 : decode cX12_rivals 5 = .ok (.aload_n 0, 1) := by decide +kernel
theorem dX12_rivals_6 : decode cX12_rivals 6 = .ok (.iload_n 1, 1) := by decide +kernel
theorem dX12_rivals_7 : decode cX12_rivals 7 = .ok (.iload_n 2, 1) := by decide +kernel
theorem dX12_rivals_8 : decode cX12_rivals 8 = .ok (.invokevirtual 224, 3) := by decide +kernel
theorem dX12_rivals_11 : decode cX12_rivals 11 = .ok (.ifCond .eq 13, 3) := by decide +kernel
theorem dX12_rivals_14 : decode cX12_rivals 14 = .ok (.iload_n 3, 1) := by decide +kernel
theorem dX12_rivals_15 : decode cX12_rivals 15 = .ok (.iconst 0, 1) := by decide +kernel
theorem dX12_rivals_16 : decode cX12_rivals 16 = .ok (.bipush 20, 2) := by decide +kernel
theorem dX12_rivals_18 : decode cX12_rivals 18 = .ok (.invokestatic 112, 3) := by decide +kernel
theorem dX12_rivals_21 : decode cX12_rivals 21 = .ok (.ifCond .ne 5, 3) := by decide +kernel
theorem dX12_rivals_24 : decode cX12_rivals 24 = .ok (.iconst (-1), 1) := by decide +kernel
theorem dX12_rivals_25 : decode cX12_rivals 25 = .ok (.ireturn, 1) := by decide +kernel
theorem dX12_rivals_26 : decode cX12_rivals 26 = .ok (.aload_n 0, 1) := by decide +kernel
theorem dX12_rivals_27 : decode cX12_rivals 27 = .ok (.iload_n 1, 1) := by decide +kernel
theorem dX12_rivals_28 : decode cX12_rivals 28 = .ok (.iload_n 2, 1) := by decide +kernel
theorem dX12_rivals_29 : decode cX12_rivals 29 = .ok (.invokevirtual 227, 3) := by decide +kernel
theorem dX12_rivals_32 : decode cX12_rivals 32 = .ok (.istore 4, 2) := by decide +kernel
theorem dX12_rivals_34 : decode cX12_rivals 34 = .ok (.iload 4, 2) := by decide +kernel
theorem dX12_rivals_36 : decode cX12_rivals 36 = .ok (.ldc 204, 2) := by decide +kernel
theorem dX12_rivals_38 : decode cX12_rivals 38 = .ok (.if_icmp .ne 5, 3) := by decide +kernel
theorem dX12_rivals_41 : decode cX12_rivals 41 = .ok (.iconst (-1), 1) := by decide +kernel
theorem dX12_rivals_42 : decode cX12_rivals 42 = .ok (.ireturn, 1) := by decide +kernel
theorem dX12_rivals_43 : decode cX12_rivals 43 = .ok (.aload_n 0, 1) := by decide +kernel
theorem dX12_rivals_44 : decode cX12_rivals 44 = .ok (.getfield 23, 3) := by decide +kernel
theorem dX12_rivals_47 : decode cX12_rivals 47 = .ok (.iload_n 1, 1) := by decide +kernel
theorem dX12_rivals_48 : decode cX12_rivals 48 = .ok (.iaload, 1) := by decide +kernel
theorem dX12_rivals_49 : decode cX12_rivals 49 = .ok (.istore 5, 2) := by decide +kernel
theorem dX12_rivals_51 : decode cX12_rivals 51 = .ok (.iload 5, 2) := by decide +kernel
theorem dX12_rivals_53 : decode cX12_rivals 53 = .ok (.iconst 1, 1) := by decide +kernel
theorem dX12_rivals_54 : decode cX12_rivals 54 = .ok (.isub, 1) := by decide +kernel
theorem dX12_rivals_55 : decode cX12_rivals 55 = .ok (.istore 6, 2) := by decide +kernel
theorem dX12_rivals_57 : decode cX12_rivals 57 = .ok (.iload 6, 2) := by decide +kernel
theorem dX12_rivals_59 : decode cX12_rivals 59 = .ok (.ifCond .lt 149, 3) := by decide +kernel
theorem dX12_rivals_62 : decode cX12_rivals 62 = .ok (.iconst 0, 1) := by decide +kernel
theorem dX12_rivals_63 : decode cX12_rivals 63 = .ok (.istore 7, 2) := by decide +kernel
theorem dX12_rivals_65 : decode cX12_rivals 65 = .ok (.iload 7, 2) := by decide +kernel
theorem dX12_rivals_67 : decode cX12_rivals 67 = .ok (.sipush 601, 3) := by decide +kernel
theorem dX12_rivals_70 : decode cX12_rivals 70 = .ok (.if_icmp .ge 132, 3) := by decide +kernel
theorem dX12_rivals_73 : decode cX12_rivals 73 = .ok (.iload 6, 2) := by decide +kernel
theorem dX12_rivals_75 : decode cX12_rivals 75 = .ok (.iconst 2, 1) := by decide +kernel
theorem dX12_rivals_76 : decode cX12_rivals 76 = .ok (.irem, 1) := by decide +kernel
theorem dX12_rivals_77 : decode cX12_rivals 77 = .ok (.sipush 601, 3) := by decide +kernel
theorem dX12_rivals_80 : decode cX12_rivals 80 = .ok (.imul, 1) := by decide +kernel
theorem dX12_rivals_81 : decode cX12_rivals 81 = .ok (.iload 7, 2) := by decide +kernel
theorem dX12_rivals_83 : decode cX12_rivals 83 = .ok (.iadd, 1) := by decide +kernel
theorem dX12_rivals_84 : decode cX12_rivals 84 = .ok (.bipush 21, 2) := by decide +kernel
theorem dX12_rivals_86 : decode cX12_rivals 86 = .ok (.imul, 1) := by decide +kernel
theorem dX12_rivals_87 : decode cX12_rivals 87 = .ok (.istore 8, 2) := by decide +kernel
theorem dX12_rivals_89 : decode cX12_rivals 89 = .ok (.iconst 0, 1) := by decide +kernel
theorem dX12_rivals_90 : decode cX12_rivals 90 = .ok (.istore 9, 2) := by decide +kernel
theorem dX12_rivals_92 : decode cX12_rivals 92 = .ok (.iload 9, 2) := by decide +kernel
theorem dX12_rivals_94 : decode cX12_rivals 94 = .ok (.bipush 21, 2) := by decide +kernel
theorem dX12_rivals_96 : decode cX12_rivals 96 = .ok (.if_icmp .ge 38, 3) := by decide +kernel
theorem dX12_rivals_99 : decode cX12_rivals 99 = .ok (.aload_n 0, 1) := by decide +kernel
theorem dX12_rivals_100 : decode cX12_rivals 100 = .ok (.getfield 100, 3) := by decide +kernel
theorem dX12_rivals_103 : decode cX12_rivals 103 = .ok (.iload 8, 2) := by decide +kernel
theorem dX12_rivals_105 : decode cX12_rivals 105 = .ok (.iload 9, 2) := by decide +kernel
theorem dX12_rivals_107 : decode cX12_rivals 107 = .ok (.iadd, 1) := by decide +kernel
theorem dX12_rivals_108 : decode cX12_rivals 108 = .ok (.iload 6, 2) := by decide +kernel
theorem dX12_rivals_110 : decode cX12_rivals 110 = .ok (.iload 5, 2) := by decide +kernel
theorem dX12_rivals_112 : decode cX12_rivals 112 = .ok (.iconst 1, 1) := by decide +kernel
theorem dX12_rivals_113 : decode cX12_rivals 113 = .ok (.isub, 1) := by decide +kernel
theorem dX12_rivals_114 : decode cX12_rivals 114 = .ok (.if_icmp .ne 12, 3) := by decide +kernel
theorem dX12_rivals_117 : decode cX12_rivals 117 = .ok (.iload 9, 2) := by decide +kernel
theorem dX12_rivals_119 : decode cX12_rivals 119 = .ok (.ifCond .ne 7, 3) := by decide +kernel
theorem dX12_rivals_122 : decode cX12_rivals 122 = .ok (.iconst 1, 1) := by decide +kernel
theorem dX12_rivals_123 : decode cX12_rivals 123 = .ok (.goto 4, 3) := by decide +kernel
theorem dX12_rivals_126 : decode cX12_rivals 126 = .ok (.iconst 0, 1) := by decide +kernel
theorem dX12_rivals_127 : decode cX12_rivals 127 = .ok (.iastore, 1) := by decide +kernel
theorem dX12_rivals_128 : decode cX12_rivals 128 = .ok (.iinc 9 1, 3) := by decide +kernel
theorem dX12_rivals_131 : decode cX12_rivals 131 = .ok (.goto (-39), 3) := by decide +kernel
theorem dX12_rivals_134 : decode cX12_rivals 134 = .ok (.aload_n 0, 1) := by decide +kernel
theorem dX12_rivals_135 : decode cX12_rivals 135 = .ok (.getfield 88, 3) := by decide +kernel
theorem dX12_rivals_138 : decode cX12_rivals 138 = .ok (.sipush 601, 3) := by decide +kernel
theorem dX12_rivals_141 : decode cX12_rivals 141 = .ok (.iload 6, 2) := by decide +kernel
theorem dX12_rivals_143 : decode cX12_rivals 143 = .ok (.imul, 1) := by decide +kernel
theorem dX12_rivals_144 : decode cX12_rivals 144 = .ok (.iload 7, 2) := by decide +kernel
theorem dX12_rivals_146 : decode cX12_rivals 146 = .ok (.iadd, 1) := by decide +kernel
theorem dX12_rivals_147 : decode cX12_rivals 147 = .ok (.iaload, 1) := by decide +kernel
theorem dX12_rivals_148 : decode cX12_rivals 148 = .ok (.ldc 204, 2) := by decide +kernel
theorem dX12_rivals_150 : decode cX12_rivals 150 = .ok (.if_icmp .ge 46, 3) := by decide +kernel
theorem dX12_rivals_153 : decode cX12_rivals 153 = .ok (.iconst 0, 1) := by decide +kernel
theorem dX12_rivals_154 : decode cX12_rivals 154 = .ok (.istore 9, 2) := by decide +kernel
theorem dX12_rivals_156 : decode cX12_rivals 156 = .ok (.iload 6, 2) := by decide +kernel
theorem dX12_rivals_158 : decode cX12_rivals 158 = .ok (.iload 5, 2) := by decide +kernel
theorem dX12_rivals_160 : decode cX12_rivals 160 = .ok (.iconst 1, 1) := by decide +kernel
theorem dX12_rivals_161 : decode cX12_rivals 161 = .ok (.isub, 1) := by decide +kernel
theorem dX12_rivals_162 : decode cX12_rivals 162 = .ok (.if_icmp .ge 34, 3) := by decide +kernel
theorem dX12_rivals_165 : decode cX12_rivals 165 = .ok (.iload 9, 2) := by decide +kernel
theorem dX12_rivals_167 : decode cX12_rivals 167 = .ok (.aload_n 0, 1) := by decide +kernel
theorem dX12_rivals_168 : decode cX12_rivals 168 = .ok (.getfield 82, 3) := by decide +kernel
theorem dX12_rivals_171 : decode cX12_rivals 171 = .ok (.iload 6, 2) := by decide +kernel
theorem dX12_rivals_173 : decode cX12_rivals 173 = .ok (.iaload, 1) := by decide +kernel
theorem dX12_rivals_174 : decode cX12_rivals 174 = .ok (.if_icmp .ge 22, 3) := by decide +kernel
theorem dX12_rivals_177 : decode cX12_rivals 177 = .ok (.aload_n 0, 1) := by decide +kernel
theorem dX12_rivals_178 : decode cX12_rivals 178 = .ok (.iload_n 1, 1) := by decide +kernel
theorem dX12_rivals_179 : decode cX12_rivals 179 = .ok (.iload 6, 2) := by decide +kernel
theorem dX12_rivals_181 : decode cX12_rivals 181 = .ok (.iload 7, 2) := by decide +kernel
theorem dX12_rivals_183 : decode cX12_rivals 183 = .ok (.iload 9, 2) := by decide +kernel
theorem dX12_rivals_185 : decode cX12_rivals 185 = .ok (.iload 8, 2) := by decide +kernel
theorem dX12_rivals_187 : decode cX12_rivals 187 = .ok (.invokevirtual 236, 3) := by decide +kernel
theorem dX12_rivals_190 : decode cX12_rivals 190 = .ok (.iinc 9 1, 3) := by decide +kernel
theorem dX12_rivals_193 : decode cX12_rivals 193 = .ok (.goto (-37), 3) := by decide +kernel
theorem dX12_rivals_196 : decode cX12_rivals 196 = .ok (.iinc 7 1, 3) := by decide +kernel
theorem dX12_rivals_199 : decode cX12_rivals 199 = .ok (.goto (-134), 3) := by decide +kernel
theorem dX12_rivals_202 : decode cX12_rivals 202 = .ok (.iinc 6 (-1), 3) := by decide +kernel
theorem dX12_rivals_205 : decode cX12_rivals 205 = .ok (.goto (-148), 3) := by decide +kernel
theorem dX12_rivals_208 : decode cX12_rivals 208 = .ok (.iconst 0, 1) := by decide +kernel
theorem dX12_rivals_209 : decode cX12_rivals 209 = .ok (.istore 6, 2) := by decide +kernel
theorem dX12_rivals_211 : decode cX12_rivals 211 = .ok (.iconst 0, 1) := by decide +kernel
theorem dX12_rivals_212 : decode cX12_rivals 212 = .ok (.istore 7, 2) := by decide +kernel
theorem dX12_rivals_214 : decode cX12_rivals 214 = .ok (.iload 7, 2) := by decide +kernel
theorem dX12_rivals_216 : decode cX12_rivals 216 = .ok (.sipush 601, 3) := by decide +kernel
theorem dX12_rivals_219 : decode cX12_rivals 219 = .ok (.if_icmp .ge 65, 3) := by decide +kernel
theorem dX12_rivals_222 : decode cX12_rivals 222 = .ok (.iconst 0, 1) := by decide +kernel
theorem dX12_rivals_223 : decode cX12_rivals 223 = .ok (.istore 8, 2) := by decide +kernel
theorem dX12_rivals_225 : decode cX12_rivals 225 = .ok (.iload 8, 2) := by decide +kernel
theorem dX12_rivals_227 : decode cX12_rivals 227 = .ok (.bipush 21, 2) := by decide +kernel
theorem dX12_rivals_229 : decode cX12_rivals 229 = .ok (.if_icmp .ge 49, 3) := by decide +kernel
theorem dX12_rivals_232 : decode cX12_rivals 232 = .ok (.aload_n 0, 1) := by decide +kernel
theorem dX12_rivals_233 : decode cX12_rivals 233 = .ok (.getfield 88, 3) := by decide +kernel
theorem dX12_rivals_236 : decode cX12_rivals 236 = .ok (.iload 7, 2) := by decide +kernel
theorem dX12_rivals_238 : decode cX12_rivals 238 = .ok (.iaload, 1) := by decide +kernel
theorem dX12_rivals_239 : decode cX12_rivals 239 = .ok (.iload 8, 2) := by decide +kernel
theorem dX12_rivals_241 : decode cX12_rivals 241 = .ok (.iadd, 1) := by decide +kernel
theorem dX12_rivals_242 : decode cX12_rivals 242 = .ok (.iload 4, 2) := by decide +kernel
theorem dX12_rivals_244 : decode cX12_rivals 244 = .ok (.iload_n 3, 1) := by decide +kernel
theorem dX12_rivals_245 : decode cX12_rivals 245 = .ok (.iadd, 1) := by decide +kernel
theorem dX12_rivals_246 : decode cX12_rivals 246 = .ok (.if_icmp .gt 32, 3) := by decide +kernel
theorem dX12_rivals_249 : decode cX12_rivals 249 = .ok (.ldc 240, 2) := by decide +kernel
theorem dX12_rivals_251 : decode cX12_rivals 251 = .ok (.iload 6, 2) := by decide +kernel
theorem dX12_rivals_253 : decode cX12_rivals 253 = .ok (.aload_n 0, 1) := by decide +kernel
theorem dX12_rivals_254 : decode cX12_rivals 254 = .ok (.getfield 100, 3) := by decide +kernel
theorem dX12_rivals_257 : decode cX12_rivals 257 = .ok (.iload 7, 2) := by decide +kernel
theorem dX12_rivals_259 : decode cX12_rivals 259 = .ok (.bipush 21, 2) := by decide +kernel
theorem dX12_rivals_261 : decode cX12_rivals 261 = .ok (.imul, 1) := by decide +kernel
theorem dX12_rivals_262 : decode cX12_rivals 262 = .ok (.iload 8, 2) := by decide +kernel
theorem dX12_rivals_264 : decode cX12_rivals 264 = .ok (.iadd, 1) := by decide +kernel
theorem dX12_rivals_265 : decode cX12_rivals 265 = .ok (.iaload, 1) := by decide +kernel
theorem dX12_rivals_266 : decode cX12_rivals 266 = .ok (.iadd, 1) := by decide +kernel
theorem dX12_rivals_267 : decode cX12_rivals 267 = .ok (.invokestatic 130, 3) := by decide +kernel
theorem dX12_rivals_270 : decode cX12_rivals 270 = .ok (.istore 6, 2) := by decide +kernel
theorem dX12_rivals_272 : decode cX12_rivals 272 = .ok (.iinc 8 1, 3) := by decide +kernel
theorem dX12_rivals_275 : decode cX12_rivals 275 = .ok (.goto (-50), 3) := by decide +kernel
theorem dX12_rivals_278 : decode cX12_rivals 278 = .ok (.iinc 7 1, 3) := by decide +kernel
theorem dX12_rivals_281 : decode cX12_rivals 281 = .ok (.goto (-67), 3) := by decide +kernel
theorem dX12_rivals_284 : decode cX12_rivals 284 = .ok (.iload 6, 2) := by decide +kernel
theorem dX12_rivals_286 : decode cX12_rivals 286 = .ok (.ldc 240, 2) := by decide +kernel
theorem dX12_rivals_288 : decode cX12_rivals 288 = .ok (.if_icmp .ne 8, 3) := by decide +kernel
theorem dX12_rivals_291 : decode cX12_rivals 291 = .ok (.ldc 204, 2) := by decide +kernel
theorem dX12_rivals_293 : decode cX12_rivals 293 = .ok (.goto 5, 3) := by decide +kernel
theorem dX12_rivals_296 : decode cX12_rivals 296 = .ok (.iload 6, 2) := by decide +kernel
theorem dX12_rivals_298 : decode cX12_rivals 298 = .ok (.ireturn, 1) := by decide +kernel
theorem dX12_joins_0 : decode cX12_joins 0 = .ok (.iload_n 3, 1) := by decide +kernel
theorem dX12_joins_1 : decode cX12_joins 1 = .ok (.aload_n 0, 1) := by decide +kernel
theorem dX12_joins_2 : decode cX12_joins 2 = .ok (.getfield 20, 3) := by decide +kernel
theorem dX12_joins_5 : decode cX12_joins 5 = .ok (.iload_n 1, 1) := by decide +kernel
theorem dX12_joins_6 : decode cX12_joins 6 = .ok (.iaload, 1) := by decide +kernel
theorem dX12_joins_7 : decode cX12_joins 7 = .ok (.aload_n 0, 1) := by decide +kernel
theorem dX12_joins_8 : decode cX12_joins 8 = .ok (.getfield 76, 3) := by decide +kernel
theorem dX12_joins_11 : decode cX12_joins 11 = .ok (.bipush 21, 2) := by decide +kernel
theorem dX12_joins_13 : decode cX12_joins 13 = .ok (.iload_n 2, 1) := by decide +kernel
theorem dX12_joins_14 : decode cX12_joins 14 = .ok (.imul, 1) := by decide +kernel
theorem dX12_joins_15 : decode cX12_joins 15 = .ok (.iload 4, 2) := by decide +kernel
theorem dX12_joins_17 : decode cX12_joins 17 = .ok (.iadd, 1) := by decide +kernel
theorem dX12_joins_18 : decode cX12_joins 18 = .ok (.iaload, 1) := by decide +kernel
theorem dX12_joins_19 : decode cX12_joins 19 = .ok (.imul, 1) := by decide +kernel
theorem dX12_joins_20 : decode cX12_joins 20 = .ok (.iadd, 1) := by decide +kernel
theorem dX12_joins_21 : decode cX12_joins 21 = .ok (.istore 6, 2) := by decide +kernel
theorem dX12_joins_23 : decode cX12_joins 23 = .ok (.iload 6, 2) := by decide +kernel
theorem dX12_joins_25 : decode cX12_joins 25 = .ok (.sipush 601, 3) := by decide +kernel
theorem dX12_joins_28 : decode cX12_joins 28 = .ok (.if_icmp .ge 23, 3) := by decide +kernel
theorem dX12_joins_31 : decode cX12_joins 31 = .ok (.aload_n 0, 1) := by decide +kernel
theorem dX12_joins_32 : decode cX12_joins 32 = .ok (.getfield 88, 3) := by decide +kernel
theorem dX12_joins_35 : decode cX12_joins 35 = .ok (.sipush 601, 3) := by decide +kernel
theorem dX12_joins_38 : decode cX12_joins 38 = .ok (.iload_n 2, 1) := by decide +kernel
theorem dX12_joins_39 : decode cX12_joins 39 = .ok (.iconst 1, 1) := by decide +kernel
theorem dX12_joins_40 : decode cX12_joins 40 = .ok (.iadd, 1) := by decide +kernel
theorem dX12_joins_41 : decode cX12_joins 41 = .ok (.imul, 1) := by decide +kernel
theorem dX12_joins_42 : decode cX12_joins 42 = .ok (.iload 6, 2) := by decide +kernel
theorem dX12_joins_44 : decode cX12_joins 44 = .ok (.iadd, 1) := by decide +kernel
theorem dX12_joins_45 : decode cX12_joins 45 = .ok (.iaload, 1) := by decide +kernel
theorem dX12_joins_46 : decode cX12_joins 46 = .ok (.ldc 204, 2) := by decide +kernel
theorem dX12_joins_48 : decode cX12_joins 48 = .ok (.if_icmp .lt 4, 3) := by decide +kernel
theorem dX12_joins_51 : decode cX12_joins 51 = .ok (.return_, 1) := by decide +kernel
theorem dX12_joins_52 : decode cX12_joins 52 = .ok (.aload_n 0, 1) := by decide +kernel
theorem dX12_joins_53 : decode cX12_joins 53 = .ok (.getfield 79, 3) := by decide +kernel
theorem dX12_joins_56 : decode cX12_joins 56 = .ok (.bipush 21, 2) := by decide +kernel
theorem dX12_joins_58 : decode cX12_joins 58 = .ok (.iload_n 2, 1) := by decide +kernel
theorem dX12_joins_59 : decode cX12_joins 59 = .ok (.imul, 1) := by decide +kernel
theorem dX12_joins_60 : decode cX12_joins 60 = .ok (.iload 4, 2) := by decide +kernel
theorem dX12_joins_62 : decode cX12_joins 62 = .ok (.iadd, 1) := by decide +kernel
theorem dX12_joins_63 : decode cX12_joins 63 = .ok (.iaload, 1) := by decide +kernel
theorem dX12_joins_64 : decode cX12_joins 64 = .ok (.aload_n 0, 1) := by decide +kernel
theorem dX12_joins_65 : decode cX12_joins 65 = .ok (.getfield 88, 3) := by decide +kernel
theorem dX12_joins_68 : decode cX12_joins 68 = .ok (.sipush 601, 3) := by decide +kernel
theorem dX12_joins_71 : decode cX12_joins 71 = .ok (.iload_n 2, 1) := by decide +kernel
theorem dX12_joins_72 : decode cX12_joins 72 = .ok (.iconst 1, 1) := by decide +kernel
theorem dX12_joins_73 : decode cX12_joins 73 = .ok (.iadd, 1) := by decide +kernel
theorem dX12_joins_74 : decode cX12_joins 74 = .ok (.imul, 1) := by decide +kernel
theorem dX12_joins_75 : decode cX12_joins 75 = .ok (.iload 6, 2) := by decide +kernel
theorem dX12_joins_77 : decode cX12_joins 77 = .ok (.iadd, 1) := by decide +kernel
theorem dX12_joins_78 : decode cX12_joins 78 = .ok (.iaload, 1) := by decide +kernel
theorem dX12_joins_79 : decode cX12_joins 79 = .ok (.iadd, 1) := by decide +kernel
theorem dX12_joins_80 : decode cX12_joins 80 = .ok (.aload_n 0, 1) := by decide +kernel
theorem dX12_joins_81 : decode cX12_joins 81 = .ok (.getfield 85, 3) := by decide +kernel
theorem dX12_joins_84 : decode cX12_joins 84 = .ok (.sipush 601, 3) := by decide +kernel
theorem dX12_joins_87 : decode cX12_joins 87 = .ok (.iload_n 2, 1) := by decide +kernel
theorem dX12_joins_88 : decode cX12_joins 88 = .ok (.imul, 1) := by decide +kernel
theorem dX12_joins_89 : decode cX12_joins 89 = .ok (.iload_n 3, 1) := by decide +kernel
theorem dX12_joins_90 : decode cX12_joins 90 = .ok (.iadd, 1) := by decide +kernel
theorem dX12_joins_91 : decode cX12_joins 91 = .ok (.iaload, 1) := by decide +kernel
theorem dX12_joins_92 : decode cX12_joins 92 = .ok (.iadd, 1) := by decide +kernel
theorem dX12_joins_93 : decode cX12_joins 93 = .ok (.aload_n 0, 1) := by decide +kernel
theorem dX12_joins_94 : decode cX12_joins 94 = .ok (.getfield 88, 3) := by decide +kernel
theorem dX12_joins_97 : decode cX12_joins 97 = .ok (.sipush 601, 3) := by decide +kernel
theorem dX12_joins_100 : decode cX12_joins 100 = .ok (.iload_n 2, 1) := by decide +kernel
theorem dX12_joins_101 : decode cX12_joins 101 = .ok (.imul, 1) := by decide +kernel
theorem dX12_joins_102 : decode cX12_joins 102 = .ok (.iload_n 3, 1) := by decide +kernel
theorem dX12_joins_103 : decode cX12_joins 103 = .ok (.iadd, 1) := by decide +kernel
theorem dX12_joins_104 : decode cX12_joins 104 = .ok (.iaload, 1) := by decide +kernel
theorem dX12_joins_105 : decode cX12_joins 105 = .ok (.isub, 1) := by decide +kernel
theorem dX12_joins_106 : decode cX12_joins 106 = .ok (.istore 7, 2) := by decide +kernel
theorem dX12_joins_108 : decode cX12_joins 108 = .ok (.iload_n 2, 1) := by decide +kernel
theorem dX12_joins_109 : decode cX12_joins 109 = .ok (.iconst 1, 1) := by decide +kernel
theorem dX12_joins_110 : decode cX12_joins 110 = .ok (.iadd, 1) := by decide +kernel
theorem dX12_joins_111 : decode cX12_joins 111 = .ok (.iconst 2, 1) := by decide +kernel
theorem dX12_joins_112 : decode cX12_joins 112 = .ok (.irem, 1) := by decide +kernel
theorem dX12_joins_113 : decode cX12_joins 113 = .ok (.sipush 601, 3) := by decide +kernel
theorem dX12_joins_116 : decode cX12_joins 116 = .ok (.imul, 1) := by decide +kernel
theorem dX12_joins_117 : decode cX12_joins 117 = .ok (.iload 6, 2) := by decide +kernel
theorem dX12_joins_119 : decode cX12_joins 119 = .ok (.iadd, 1) := by decide +kernel
theorem dX12_joins_120 : decode cX12_joins 120 = .ok (.bipush 21, 2) := by decide +kernel
theorem dX12_joins_122 : decode cX12_joins 122 = .ok (.imul, 1) := by decide +kernel
theorem dX12_joins_123 : decode cX12_joins 123 = .ok (.istore 8, 2) := by decide +kernel
theorem dX12_joins_125 : decode cX12_joins 125 = .ok (.iconst 0, 1) := by decide +kernel
theorem dX12_joins_126 : decode cX12_joins 126 = .ok (.istore 9, 2) := by decide +kernel
theorem dX12_joins_128 : decode cX12_joins 128 = .ok (.iload 9, 2) := by decide +kernel
theorem dX12_joins_130 : decode cX12_joins 130 = .ok (.iload 7, 2) := by decide +kernel
theorem dX12_joins_132 : decode cX12_joins 132 = .ok (.iadd, 1) := by decide +kernel
theorem dX12_joins_133 : decode cX12_joins 133 = .ok (.bipush 21, 2) := by decide +kernel
theorem dX12_joins_135 : decode cX12_joins 135 = .ok (.if_icmp .ge 51, 3) := by decide +kernel
theorem dX12_joins_138 : decode cX12_joins 138 = .ok (.aload_n 0, 1) := by decide +kernel
theorem dX12_joins_139 : decode cX12_joins 139 = .ok (.getfield 100, 3) := by decide +kernel
theorem dX12_joins_142 : decode cX12_joins 142 = .ok (.iload 5, 2) := by decide +kernel
theorem dX12_joins_144 : decode cX12_joins 144 = .ok (.iload 9, 2) := by decide +kernel
theorem dX12_joins_146 : decode cX12_joins 146 = .ok (.iadd, 1) := by decide +kernel
theorem dX12_joins_147 : decode cX12_joins 147 = .ok (.iload 7, 2) := by decide +kernel
theorem dX12_joins_149 : decode cX12_joins 149 = .ok (.iadd, 1) := by decide +kernel
theorem dX12_joins_150 : decode cX12_joins 150 = .ok (.ldc 240, 2) := by decide +kernel
theorem dX12_joins_152 : decode cX12_joins 152 = .ok (.aload_n 0, 1) := by decide +kernel
theorem dX12_joins_153 : decode cX12_joins 153 = .ok (.getfield 100, 3) := by decide +kernel
theorem dX12_joins_156 : decode cX12_joins 156 = .ok (.iload 5, 2) := by decide +kernel
theorem dX12_joins_158 : decode cX12_joins 158 = .ok (.iload 9, 2) := by decide +kernel
theorem dX12_joins_160 : decode cX12_joins 160 = .ok (.iadd, 1) := by decide +kernel
theorem dX12_joins_161 : decode cX12_joins 161 = .ok (.iload 7, 2) := by decide +kernel
theorem dX12_joins_163 : decode cX12_joins 163 = .ok (.iadd, 1) := by decide +kernel
theorem dX12_joins_164 : decode cX12_joins 164 = .ok (.iaload, 1) := by decide +kernel
theorem dX12_joins_165 : decode cX12_joins 165 = .ok (.aload_n 0, 1) := by decide +kernel
theorem dX12_joins_166 : decode cX12_joins 166 = .ok (.getfield 100, 3) := by decide +kernel
theorem dX12_joins_169 : decode cX12_joins 169 = .ok (.iload 8, 2) := by decide +kernel
theorem dX12_joins_171 : decode cX12_joins 171 = .ok (.iload 9, 2) := by decide +kernel
theorem dX12_joins_173 : decode cX12_joins 173 = .ok (.iadd, 1) := by decide +kernel
theorem dX12_joins_174 : decode cX12_joins 174 = .ok (.iaload, 1) := by decide +kernel
theorem dX12_joins_175 : decode cX12_joins 175 = .ok (.iadd, 1) := by decide +kernel
theorem dX12_joins_176 : decode cX12_joins 176 = .ok (.invokestatic 130, 3) := by decide +kernel
theorem dX12_joins_179 : decode cX12_joins 179 = .ok (.iastore, 1) := by decide +kernel
theorem dX12_joins_180 : decode cX12_joins 180 = .ok (.iinc 9 1, 3) := by decide +kernel
theorem dX12_joins_183 : decode cX12_joins 183 = .ok (.goto (-55), 3) := by decide +kernel
theorem dX12_joins_186 : decode cX12_joins 186 = .ok (.return_, 1) := by decide +kernel
theorem dX12_areSame_0 : decode cX12_areSame 0 = .ok (.aload_n 0, 1) := by decide +kernel
theorem dX12_areSame_1 : decode cX12_areSame 1 = .ok (.getfield 33, 3) := by decide +kernel
theorem dX12_areSame_4 : decode cX12_areSame 4 = .ok (.iload_n 1, 1) := by decide +kernel
theorem dX12_areSame_5 : decode cX12_areSame 5 = .ok (.iaload, 1) := by decide +kernel
theorem dX12_areSame_6 : decode cX12_areSame 6 = .ok (.aload_n 0, 1) := by decide +kernel
theorem dX12_areSame_7 : decode cX12_areSame 7 = .ok (.getfield 33, 3) := by decide +kernel
theorem dX12_areSame_10 : decode cX12_areSame 10 = .ok (.iload_n 2, 1) := by decide +kernel
theorem dX12_areSame_11 : decode cX12_areSame 11 = .ok (.iaload, 1) := by decide +kernel
theorem dX12_areSame_12 : decode cX12_areSame 12 = .ok (.if_icmp .ne 7, 3) := by decide +kernel
theorem dX12_areSame_15 : decode cX12_areSame 15 = .ok (.iconst 1, 1) := by decide +kernel
theorem dX12_areSame_16 : decode cX12_areSame 16 = .ok (.goto 4, 3) := by decide +kernel
theorem dX12_areSame_19 : decode cX12_areSame 19 = .ok (.iconst 0, 1) := by decide +kernel
theorem dX12_areSame_20 : decode cX12_areSame 20 = .ok (.istore_n 3, 1) := by decide +kernel
theorem dX12_areSame_21 : decode cX12_areSame 21 = .ok (.iconst 0, 1) := by decide +kernel
theorem dX12_areSame_22 : decode cX12_areSame 22 = .ok (.istore 4, 2) := by decide +kernel
theorem dX12_areSame_24 : decode cX12_areSame 24 = .ok (.iload 4, 2) := by decide +kernel
theorem dX12_areSame_26 : decode cX12_areSame 26 = .ok (.aload_n 0, 1) := by decide +kernel
theorem dX12_areSame_27 : decode cX12_areSame 27 = .ok (.getfield 33, 3) := by decide +kernel
theorem dX12_areSame_30 : decode cX12_areSame 30 = .ok (.iload_n 1, 1) := by decide +kernel
theorem dX12_areSame_31 : decode cX12_areSame 31 = .ok (.iaload, 1) := by decide +kernel
theorem dX12_areSame_32 : decode cX12_areSame 32 = .ok (.if_icmp .ge 46, 3) := by decide +kernel
theorem dX12_areSame_35 : decode cX12_areSame 35 = .ok (.iload_n 3, 1) := by decide +kernel
theorem dX12_areSame_36 : decode cX12_areSame 36 = .ok (.ifCond .eq 42, 3) := by decide +kernel
theorem dX12_areSame_39 : decode cX12_areSame 39 = .ok (.aload_n 0, 1) := by decide +kernel
theorem dX12_areSame_40 : decode cX12_areSame 40 = .ok (.getfield 30, 3) := by decide +kernel
theorem dX12_areSame_43 : decode cX12_areSame 43 = .ok (.bipush 9, 2) := by decide +kernel
theorem dX12_areSame_45 : decode cX12_areSame 45 = .ok (.iload_n 1, 1) := by decide +kernel
theorem dX12_areSame_46 : decode cX12_areSame 46 = .ok (.imul, 1) := by decide +kernel
theorem dX12_areSame_47 : decode cX12_areSame 47 = .ok (.iload 4, 2) := by decide +kernel
theorem dX12_areSame_49 : decode cX12_areSame 49 = .ok (.iadd, 1) := by decide +kernel
theorem dX12_areSame_50 : decode cX12_areSame 50 = .ok (.iaload, 1) := by decide +kernel
theorem dX12_areSame_51 : decode cX12_areSame 51 = .ok (.aload_n 0, 1) := by decide +kernel
theorem dX12_areSame_52 : decode cX12_areSame 52 = .ok (.getfield 30, 3) := by decide +kernel
theorem dX12_areSame_55 : decode cX12_areSame 55 = .ok (.bipush 9, 2) := by decide +kernel
theorem dX12_areSame_57 : decode cX12_areSame 57 = .ok (.iload_n 2, 1) := by decide +kernel
theorem dX12_areSame_58 : decode cX12_areSame 58 = .ok (.imul, 1) := by decide +kernel
theorem dX12_areSame_59 : decode cX12_areSame 59 = .ok (.iload 4, 2) := by decide +kernel
theorem dX12_areSame_61 : decode cX12_areSame 61 = .ok (.iadd, 1) := by decide +kernel
theorem dX12_areSame_62 : decode cX12_areSame 62 = .ok (.iaload, 1) := by decide +kernel
theorem dX12_areSame_63 : decode cX12_areSame 63 = .ok (.if_icmp .ne 7, 3) := by decide +kernel
theorem dX12_areSame_66 : decode cX12_areSame 66 = .ok (.iconst 1, 1) := by decide +kernel
theorem dX12_areSame_67 : decode cX12_areSame 67 = .ok (.goto 4, 3) := by decide +kernel
theorem dX12_areSame_70 : decode cX12_areSame 70 = .ok (.iconst 0, 1) := by decide +kernel
theorem dX12_areSame_71 : decode cX12_areSame 71 = .ok (.istore_n 3, 1) := by decide +kernel
theorem dX12_areSame_72 : decode cX12_areSame 72 = .ok (.iinc 4 1, 3) := by decide +kernel
theorem dX12_areSame_75 : decode cX12_areSame 75 = .ok (.goto (-51), 3) := by decide +kernel
theorem dX12_areSame_78 : decode cX12_areSame 78 = .ok (.iload_n 3, 1) := by decide +kernel
theorem dX12_areSame_79 : decode cX12_areSame 79 = .ok (.ireturn, 1) := by decide +kernel
theorem dX12_shared_0 : decode cX12_shared 0 = .ok (.aload_n 0, 1) := by decide +kernel
theorem dX12_shared_1 : decode cX12_shared 1 = .ok (.iconst 0, 1) := by decide +kernel
theorem dX12_shared_2 : decode cX12_shared 2 = .ok (.putfield 106, 3) := by decide +kernel
theorem dX12_shared_5 : decode cX12_shared 5 = .ok (.aload_n 0, 1) := by decide +kernel
theorem dX12_shared_6 : decode cX12_shared 6 = .ok (.iload_n 1, 1) := by decide +kernel
theorem dX12_shared_7 : decode cX12_shared 7 = .ok (.iload_n 3, 1) := by decide +kernel
theorem dX12_shared_8 : decode cX12_shared 8 = .ok (.invokevirtual 224, 3) := by decide +kernel
theorem dX12_shared_11 : decode cX12_shared 11 = .ok (.ifCond .eq 16, 3) := by decide +kernel
theorem dX12_shared_14 : decode cX12_shared 14 = .ok (.aload_n 0, 1) := by decide +kernel
theorem dX12_shared_15 : decode cX12_shared 15 = .ok (.iload_n 2, 1) := by decide +kernel
theorem dX12_shared_16 : decode cX12_shared 16 = .ok (.invokevirtual 167, 3) := by decide +kernel
theorem dX12_shared_19 : decode cX12_shared 19 = .ok (.ifCond .eq 8, 3) := by decide +kernel
theorem dX12_shared_22 : decode cX12_shared 22 = .ok (.iload_n 1, 1) := by decide +kernel
theorem dX12_shared_23 : decode cX12_shared 23 = .ok (.iload_n 2, 1) := by decide +kernel
theorem dX12_shared_24 : decode cX12_shared 24 = .ok (.if_icmp .ne 5, 3) := by decide +kernel
theorem dX12_shared_27 : decode cX12_shared 27 = .ok (.iconst (-1), 1) := by decide +kernel
theorem dX12_shared_28 : decode cX12_shared 28 = .ok (.ireturn, 1) := by decide +kernel
theorem dX12_shared_29 : decode cX12_shared 29 = .ok (.aload_n 0, 1) := by decide +kernel
theorem dX12_shared_30 : decode cX12_shared 30 = .ok (.iload_n 1, 1) := by decide +kernel
theorem dX12_shared_31 : decode cX12_shared 31 = .ok (.iload_n 3, 1) := by decide +kernel
theorem dX12_shared_32 : decode cX12_shared 32 = .ok (.invokevirtual 230, 3) := by decide +kernel
theorem dX12_shared_35 : decode cX12_shared 35 = .ok (.ifCond .ne 5, 3) := by decide +kernel
theorem dX12_shared_38 : decode cX12_shared 38 = .ok (.iconst 0, 1) := by decide +kernel
theorem dX12_shared_39 : decode cX12_shared 39 = .ok (.ireturn, 1) := by decide +kernel
theorem dX12_shared_40 : decode cX12_shared 40 = .ok (.iconst 0, 1) := by decide +kernel
theorem dX12_shared_41 : decode cX12_shared 41 = .ok (.istore 4, 2) := by decide +kernel
theorem dX12_shared_43 : decode cX12_shared 43 = .ok (.iload 4, 2) := by decide +kernel
theorem dX12_shared_45 : decode cX12_shared 45 = .ok (.bipush 10, 2) := by decide +kernel
theorem dX12_shared_47 : decode cX12_shared 47 = .ok (.if_icmp .ge 23, 3) := by decide +kernel
theorem dX12_shared_50 : decode cX12_shared 50 = .ok (.aload_n 0, 1) := by decide +kernel
theorem dX12_shared_51 : decode cX12_shared 51 = .ok (.getfield 103, 3) := by decide +kernel
theorem dX12_shared_54 : decode cX12_shared 54 = .ok (.iload 4, 2) := by decide +kernel
theorem dX12_shared_56 : decode cX12_shared 56 = .ok (.aload_n 0, 1) := by decide +kernel
theorem dX12_shared_57 : decode cX12_shared 57 = .ok (.getfield 97, 3) := by decide +kernel
theorem dX12_shared_60 : decode cX12_shared 60 = .ok (.iload 4, 2) := by decide +kernel
theorem dX12_shared_62 : decode cX12_shared 62 = .ok (.iaload, 1) := by decide +kernel
theorem dX12_shared_63 : decode cX12_shared 63 = .ok (.iastore, 1) := by decide +kernel
theorem dX12_shared_64 : decode cX12_shared 64 = .ok (.iinc 4 1, 3) := by decide +kernel
theorem dX12_shared_67 : decode cX12_shared 67 = .ok (.goto (-24), 3) := by decide +kernel
theorem dX12_shared_70 : decode cX12_shared 70 = .ok (.aload_n 0, 1) := by decide +kernel
theorem dX12_shared_71 : decode cX12_shared 71 = .ok (.iload_n 2, 1) := by decide +kernel
theorem dX12_shared_72 : decode cX12_shared 72 = .ok (.iload_n 3, 1) := by decide +kernel
theorem dX12_shared_73 : decode cX12_shared 73 = .ok (.invokevirtual 230, 3) := by decide +kernel
theorem dX12_shared_76 : decode cX12_shared 76 = .ok (.ifCond .ne 5, 3) := by decide +kernel
theorem dX12_shared_79 : decode cX12_shared 79 = .ok (.iconst 0, 1) := by decide +kernel
theorem dX12_shared_80 : decode cX12_shared 80 = .ok (.ireturn, 1) := by decide +kernel
theorem dX12_shared_81 : decode cX12_shared 81 = .ok (.iconst 0, 1) := by decide +kernel
theorem dX12_shared_82 : decode cX12_shared 82 = .ok (.istore 4, 2) := by decide +kernel
theorem dX12_shared_84 : decode cX12_shared 84 = .ok (.iconst 0, 1) := by decide +kernel
theorem dX12_shared_85 : decode cX12_shared 85 = .ok (.istore 5, 2) := by decide +kernel
theorem dX12_shared_87 : decode cX12_shared 87 = .ok (.iload 5, 2) := by decide +kernel
theorem dX12_shared_89 : decode cX12_shared 89 = .ok (.iconst 1, 1) := by decide +kernel
theorem dX12_shared_90 : decode cX12_shared 90 = .ok (.iadd, 1) := by decide +kernel
theorem dX12_shared_91 : decode cX12_shared 91 = .ok (.aload_n 0, 1) := by decide +kernel
theorem dX12_shared_92 : decode cX12_shared 92 = .ok (.getfield 23, 3) := by decide +kernel
theorem dX12_shared_95 : decode cX12_shared 95 = .ok (.iload_n 1, 1) := by decide +kernel
theorem dX12_shared_96 : decode cX12_shared 96 = .ok (.iaload, 1) := by decide +kernel
theorem dX12_shared_97 : decode cX12_shared 97 = .ok (.if_icmp .ge 168, 3) := by decide +kernel
theorem dX12_shared_100 : decode cX12_shared 100 = .ok (.iconst 0, 1) := by decide +kernel
theorem dX12_shared_101 : decode cX12_shared 101 = .ok (.istore 6, 2) := by decide +kernel
theorem dX12_shared_103 : decode cX12_shared 103 = .ok (.iload 6, 2) := by decide +kernel
theorem dX12_shared_105 : decode cX12_shared 105 = .ok (.iconst 1, 1) := by decide +kernel
theorem dX12_shared_106 : decode cX12_shared 106 = .ok (.iadd, 1) := by decide +kernel
theorem dX12_shared_107 : decode cX12_shared 107 = .ok (.aload_n 0, 1) := by decide +kernel
theorem dX12_shared_108 : decode cX12_shared 108 = .ok (.getfield 23, 3) := by decide +kernel
theorem dX12_shared_111 : decode cX12_shared 111 = .ok (.iload_n 2, 1) := by decide +kernel
theorem dX12_shared_112 : decode cX12_shared 112 = .ok (.iaload, 1) := by decide +kernel
theorem dX12_shared_113 : decode cX12_shared 113 = .ok (.if_icmp .ge 146, 3) := by decide +kernel
theorem dX12_shared_116 : decode cX12_shared 116 = .ok (.aload_n 0, 1) := by decide +kernel
theorem dX12_shared_117 : decode cX12_shared 117 = .ok (.getfield 26, 3) := by decide +kernel
theorem dX12_shared_120 : decode cX12_shared 120 = .ok (.bipush 10, 2) := by decide +kernel
theorem dX12_shared_122 : decode cX12_shared 122 = .ok (.iload_n 1, 1) := by decide +kernel
theorem dX12_shared_123 : decode cX12_shared 123 = .ok (.imul, 1) := by decide +kernel
theorem dX12_shared_124 : decode cX12_shared 124 = .ok (.iload 5, 2) := by decide +kernel
theorem dX12_shared_126 : decode cX12_shared 126 = .ok (.iadd, 1) := by decide +kernel
theorem dX12_shared_127 : decode cX12_shared 127 = .ok (.laload, 1) := by decide +kernel
theorem dX12_shared_128 : decode cX12_shared 128 = .ok (.aload_n 0, 1) := by decide +kernel
theorem dX12_shared_129 : decode cX12_shared 129 = .ok (.getfield 26, 3) := by decide +kernel
theorem dX12_shared_132 : decode cX12_shared 132 = .ok (.bipush 10, 2) := by decide +kernel
theorem dX12_shared_134 : decode cX12_shared 134 = .ok (.iload_n 2, 1) := by decide +kernel
theorem dX12_shared_135 : decode cX12_shared 135 = .ok (.imul, 1) := by decide +kernel
theorem dX12_shared_136 : decode cX12_shared 136 = .ok (.iload 6, 2) := by decide +kernel
theorem dX12_shared_138 : decode cX12_shared 138 = .ok (.iadd, 1) := by decide +kernel
theorem dX12_shared_139 : decode cX12_shared 139 = .ok (.laload, 1) := by decide +kernel
theorem dX12_shared_140 : decode cX12_shared 140 = .ok (.lcmp, 1) := by decide +kernel
theorem dX12_shared_141 : decode cX12_shared 141 = .ok (.ifCond .ne 60, 3) := by decide +kernel
theorem dX12_shared_144 : decode cX12_shared 144 = .ok (.aload_n 0, 1) := by decide +kernel
theorem dX12_shared_145 : decode cX12_shared 145 = .ok (.getfield 26, 3) := by decide +kernel
theorem dX12_shared_148 : decode cX12_shared 148 = .ok (.bipush 10, 2) := by decide +kernel
theorem dX12_shared_150 : decode cX12_shared 150 = .ok (.iload_n 1, 1) := by decide +kernel
theorem dX12_shared_151 : decode cX12_shared 151 = .ok (.imul, 1) := by decide +kernel
theorem dX12_shared_152 : decode cX12_shared 152 = .ok (.iload 5, 2) := by decide +kernel
theorem dX12_shared_154 : decode cX12_shared 154 = .ok (.iadd, 1) := by decide +kernel
theorem dX12_shared_155 : decode cX12_shared 155 = .ok (.iconst 1, 1) := by decide +kernel
theorem dX12_shared_156 : decode cX12_shared 156 = .ok (.iadd, 1) := by decide +kernel
theorem dX12_shared_157 : decode cX12_shared 157 = .ok (.laload, 1) := by decide +kernel
theorem dX12_shared_158 : decode cX12_shared 158 = .ok (.aload_n 0, 1) := by decide +kernel
theorem dX12_shared_159 : decode cX12_shared 159 = .ok (.getfield 26, 3) := by decide +kernel
theorem dX12_shared_162 : decode cX12_shared 162 = .ok (.bipush 10, 2) := by decide +kernel
theorem dX12_shared_164 : decode cX12_shared 164 = .ok (.iload_n 2, 1) := by decide +kernel
theorem dX12_shared_165 : decode cX12_shared 165 = .ok (.imul, 1) := by decide +kernel
theorem dX12_shared_166 : decode cX12_shared 166 = .ok (.iload 6, 2) := by decide +kernel
theorem dX12_shared_168 : decode cX12_shared 168 = .ok (.iadd, 1) := by decide +kernel
theorem dX12_shared_169 : decode cX12_shared 169 = .ok (.iconst 1, 1) := by decide +kernel
theorem dX12_shared_170 : decode cX12_shared 170 = .ok (.iadd, 1) := by decide +kernel
theorem dX12_shared_171 : decode cX12_shared 171 = .ok (.laload, 1) := by decide +kernel
theorem dX12_shared_172 : decode cX12_shared 172 = .ok (.lcmp, 1) := by decide +kernel
theorem dX12_shared_173 : decode cX12_shared 173 = .ok (.ifCond .ne 28, 3) := by decide +kernel
theorem dX12_shared_176 : decode cX12_shared 176 = .ok (.aload_n 0, 1) := by decide +kernel
theorem dX12_shared_177 : decode cX12_shared 177 = .ok (.bipush 10, 2) := by decide +kernel
theorem dX12_shared_179 : decode cX12_shared 179 = .ok (.iload_n 1, 1) := by decide +kernel
theorem dX12_shared_180 : decode cX12_shared 180 = .ok (.imul, 1) := by decide +kernel
theorem dX12_shared_181 : decode cX12_shared 181 = .ok (.iload 5, 2) := by decide +kernel
theorem dX12_shared_183 : decode cX12_shared 183 = .ok (.iadd, 1) := by decide +kernel
theorem dX12_shared_184 : decode cX12_shared 184 = .ok (.bipush 10, 2) := by decide +kernel
theorem dX12_shared_186 : decode cX12_shared 186 = .ok (.iload_n 2, 1) := by decide +kernel
theorem dX12_shared_187 : decode cX12_shared 187 = .ok (.imul, 1) := by decide +kernel
theorem dX12_shared_188 : decode cX12_shared 188 = .ok (.iload 6, 2) := by decide +kernel
theorem dX12_shared_190 : decode cX12_shared 190 = .ok (.iadd, 1) := by decide +kernel
theorem dX12_shared_191 : decode cX12_shared 191 = .ok (.invokevirtual 241, 3) := by decide +kernel
theorem dX12_shared_194 : decode cX12_shared 194 = .ok (.ifCond .eq 7, 3) := by decide +kernel
theorem dX12_shared_197 : decode cX12_shared 197 = .ok (.iconst 1, 1) := by decide +kernel
theorem dX12_shared_198 : decode cX12_shared 198 = .ok (.goto 4, 3) := by decide +kernel
theorem dX12_shared_201 : decode cX12_shared 201 = .ok (.iconst 0, 1) := by decide +kernel
theorem dX12_shared_202 : decode cX12_shared 202 = .ok (.istore 7, 2) := by decide +kernel
theorem dX12_shared_204 : decode cX12_shared 204 = .ok (.iload 4, 2) := by decide +kernel
theorem dX12_shared_206 : decode cX12_shared 206 = .ok (.iload 7, 2) := by decide +kernel
theorem dX12_shared_208 : decode cX12_shared 208 = .ok (.ifCond .eq 41, 3) := by decide +kernel
theorem dX12_shared_211 : decode cX12_shared 211 = .ok (.aload_n 0, 1) := by decide +kernel
theorem dX12_shared_212 : decode cX12_shared 212 = .ok (.getfield 103, 3) := by decide +kernel
theorem dX12_shared_215 : decode cX12_shared 215 = .ok (.iload 5, 2) := by decide +kernel
theorem dX12_shared_217 : decode cX12_shared 217 = .ok (.iaload, 1) := by decide +kernel
theorem dX12_shared_218 : decode cX12_shared 218 = .ok (.aload_n 0, 1) := by decide +kernel
theorem dX12_shared_219 : decode cX12_shared 219 = .ok (.iload_n 1, 1) := by decide +kernel
theorem dX12_shared_220 : decode cX12_shared 220 = .ok (.iload 5, 2) := by decide +kernel
theorem dX12_shared_222 : decode cX12_shared 222 = .ok (.invokevirtual 201, 3) := by decide +kernel
theorem dX12_shared_225 : decode cX12_shared 225 = .ok (.if_icmp .eq 24, 3) := by decide +kernel
theorem dX12_shared_228 : decode cX12_shared 228 = .ok (.aload_n 0, 1) := by decide +kernel
theorem dX12_shared_229 : decode cX12_shared 229 = .ok (.getfield 97, 3) := by decide +kernel
theorem dX12_shared_232 : decode cX12_shared 232 = .ok (.iload 6, 2) := by decide +kernel
theorem dX12_shared_234 : decode cX12_shared 234 = .ok (.iaload, 1) := by decide +kernel
theorem dX12_shared_235 : decode cX12_shared 235 = .ok (.aload_n 0, 1) := by decide +kernel
theorem dX12_shared_236 : decode cX12_shared 236 = .ok (.iload_n 2, 1) := by decide +kernel
theorem dX12_shared_237 : decode cX12_shared 237 = .ok (.iload 6, 2) := by decide +kernel
theorem dX12_shared_239 : decode cX12_shared 239 = .ok (.invokevirtual 201, 3) := by decide +kernel
theorem dX12_shared_242 : decode cX12_shared 242 = .ok (.if_icmp .eq 7, 3) := by decide +kernel
theorem dX12_shared_245 : decode cX12_shared 245 = .ok (.iconst 1, 1) := by decide +kernel
theorem dX12_shared_246 : decode cX12_shared 246 = .ok (.goto 4, 3) := by decide +kernel
theorem dX12_shared_249 : decode cX12_shared 249 = .ok (.iconst 0, 1) := by decide +kernel
theorem dX12_shared_250 : decode cX12_shared 250 = .ok (.iadd, 1) := by decide +kernel
theorem dX12_shared_251 : decode cX12_shared 251 = .ok (.istore 4, 2) := by decide +kernel
theorem dX12_shared_253 : decode cX12_shared 253 = .ok (.iinc 6 1, 3) := by decide +kernel
theorem dX12_shared_256 : decode cX12_shared 256 = .ok (.goto (-153), 3) := by decide +kernel
theorem dX12_shared_259 : decode cX12_shared 259 = .ok (.iinc 5 1, 3) := by decide +kernel
theorem dX12_shared_262 : decode cX12_shared 262 = .ok (.goto (-175), 3) := by decide +kernel
theorem dX12_shared_265 : decode cX12_shared 265 = .ok (.iload 4, 2) := by decide +kernel
theorem dX12_shared_267 : decode cX12_shared 267 = .ok (.ireturn, 1) := by decide +kernel
theorem dX12_of_0 : decode cX12_of 0 = .ok (.aload_n 0, 1) := by decide +kernel
theorem dX12_of_1 : decode cX12_of 1 = .ok (.iload_n 1, 1) := by decide +kernel
theorem dX12_of_2 : decode cX12_of 2 = .ok (.invokevirtual 167, 3) := by decide +kernel
theorem dX12_of_5 : decode cX12_of 5 = .ok (.ifCond .eq 52, 3) := by decide +kernel
theorem dX12_of_8 : decode cX12_of 8 = .ok (.iload_n 2, 1) := by decide +kernel
theorem dX12_of_9 : decode cX12_of 9 = .ok (.iconst 0, 1) := by decide +kernel
theorem dX12_of_10 : decode cX12_of 10 = .ok (.iconst 1, 1) := by decide +kernel
theorem dX12_of_11 : decode cX12_of 11 = .ok (.invokestatic 112, 3) := by decide +kernel
theorem dX12_of_14 : decode cX12_of 14 = .ok (.ifCond .ne 39, 3) := by decide +kernel
theorem dX12_of_17 : decode cX12_of 17 = .ok (.iload_n 2, 1) := by decide +kernel
theorem dX12_of_18 : decode cX12_of 18 = .ok (.bipush 10, 2) := by decide +kernel
theorem dX12_of_20 : decode cX12_of 20 = .ok (.bipush 8, 2) := by decide +kernel
theorem dX12_of_22 : decode cX12_of 22 = .ok (.aload_n 0, 1) := by decide +kernel
theorem dX12_of_23 : decode cX12_of 23 = .ok (.getfield 23, 3) := by decide +kernel
theorem dX12_of_26 : decode cX12_of 26 = .ok (.iload_n 1, 1) := by decide +kernel
theorem dX12_of_27 : decode cX12_of 27 = .ok (.iaload, 1) := by decide +kernel
theorem dX12_of_28 : decode cX12_of 28 = .ok (.iadd, 1) := by decide +kernel
theorem dX12_of_29 : decode cX12_of 29 = .ok (.invokestatic 112, 3) := by decide +kernel
theorem dX12_of_32 : decode cX12_of 32 = .ok (.ifCond .ne 21, 3) := by decide +kernel
theorem dX12_of_35 : decode cX12_of 35 = .ok (.iload_n 2, 1) := by decide +kernel
theorem dX12_of_36 : decode cX12_of 36 = .ok (.bipush 20, 2) := by decide +kernel
theorem dX12_of_38 : decode cX12_of 38 = .ok (.bipush 19, 2) := by decide +kernel
theorem dX12_of_40 : decode cX12_of 40 = .ok (.aload_n 0, 1) := by decide +kernel
theorem dX12_of_41 : decode cX12_of 41 = .ok (.getfield 23, 3) := by decide +kernel
theorem dX12_of_44 : decode cX12_of 44 = .ok (.iload_n 1, 1) := by decide +kernel
theorem dX12_of_45 : decode cX12_of 45 = .ok (.iaload, 1) := by decide +kernel
theorem dX12_of_46 : decode cX12_of 46 = .ok (.iadd, 1) := by decide +kernel
theorem dX12_of_47 : decode cX12_of 47 = .ok (.invokestatic 112, 3) := by decide +kernel
theorem dX12_of_50 : decode cX12_of 50 = .ok (.ifCond .eq 7, 3) := by decide +kernel
theorem dX12_of_53 : decode cX12_of 53 = .ok (.iconst 1, 1) := by decide +kernel
theorem dX12_of_54 : decode cX12_of 54 = .ok (.goto 4, 3) := by decide +kernel
theorem dX12_of_57 : decode cX12_of 57 = .ok (.iconst 0, 1) := by decide +kernel
theorem dX12_of_58 : decode cX12_of 58 = .ok (.istore_n 3, 1) := by decide +kernel
theorem dX12_of_59 : decode cX12_of 59 = .ok (.aload_n 0, 1) := by decide +kernel
theorem dX12_of_60 : decode cX12_of 60 = .ok (.iload_n 3, 1) := by decide +kernel
theorem dX12_of_61 : decode cX12_of 61 = .ok (.ifCond .eq 7, 3) := by decide +kernel
theorem dX12_of_64 : decode cX12_of 64 = .ok (.iconst 0, 1) := by decide +kernel
theorem dX12_of_65 : decode cX12_of 65 = .ok (.goto 4, 3) := by decide +kernel
theorem dX12_of_68 : decode cX12_of 68 = .ok (.iconst 1, 1) := by decide +kernel
theorem dX12_of_69 : decode cX12_of 69 = .ok (.putfield 106, 3) := by decide +kernel
theorem dX12_of_72 : decode cX12_of 72 = .ok (.iload_n 3, 1) := by decide +kernel
theorem dX12_of_73 : decode cX12_of 73 = .ok (.ifCond .ne 5, 3) := by decide +kernel
theorem dX12_of_76 : decode cX12_of 76 = .ok (.iconst 0, 1) := by decide +kernel
theorem dX12_of_77 : decode cX12_of 77 = .ok (.ireturn, 1) := by decide +kernel
theorem dX12_of_78 : decode cX12_of 78 = .ok (.iload_n 2, 1) := by decide +kernel
theorem dX12_of_79 : decode cX12_of 79 = .ok (.ifCond .ne 12, 3) := by decide +kernel
theorem dX12_of_82 : decode cX12_of 82 = .ok (.aload_n 0, 1) := by decide +kernel
theorem dX12_of_83 : decode cX12_of 83 = .ok (.getfield 20, 3) := by decide +kernel
theorem dX12_of_86 : decode cX12_of 86 = .ok (.iload_n 1, 1) := by decide +kernel
theorem dX12_of_87 : decode cX12_of 87 = .ok (.iaload, 1) := by decide +kernel
theorem dX12_of_88 : decode cX12_of 88 = .ok (.goto 52, 3) := by decide +kernel
theorem dX12_of_91 : decode cX12_of 91 = .ok (.iload_n 2, 1) := by decide +kernel
theorem dX12_of_92 : decode cX12_of 92 = .ok (.iconst 1, 1) := by decide +kernel
theorem dX12_of_93 : decode cX12_of 93 = .ok (.if_icmp .ne 12, 3) := by decide +kernel
theorem dX12_of_96 : decode cX12_of 96 = .ok (.aload_n 0, 1) := by decide +kernel
theorem dX12_of_97 : decode cX12_of 97 = .ok (.getfield 23, 3) := by decide +kernel
theorem dX12_of_100 : decode cX12_of 100 = .ok (.iload_n 1, 1) := by decide +kernel
theorem dX12_of_101 : decode cX12_of 101 = .ok (.iaload, 1) := by decide +kernel
theorem dX12_of_102 : decode cX12_of 102 = .ok (.goto 38, 3) := by decide +kernel
theorem dX12_of_105 : decode cX12_of 105 = .ok (.iload_n 2, 1) := by decide +kernel
theorem dX12_of_106 : decode cX12_of 106 = .ok (.bipush 20, 2) := by decide +kernel
theorem dX12_of_108 : decode cX12_of 108 = .ok (.if_icmp .ge 15, 3) := by decide +kernel
theorem dX12_of_111 : decode cX12_of 111 = .ok (.aload_n 0, 1) := by decide +kernel
theorem dX12_of_112 : decode cX12_of 112 = .ok (.iload_n 1, 1) := by decide +kernel
theorem dX12_of_113 : decode cX12_of 113 = .ok (.iload_n 2, 1) := by decide +kernel
theorem dX12_of_114 : decode cX12_of 114 = .ok (.bipush 10, 2) := by decide +kernel
theorem dX12_of_116 : decode cX12_of 116 = .ok (.isub, 1) := by decide +kernel
theorem dX12_of_117 : decode cX12_of 117 = .ok (.invokevirtual 201, 3) := by decide +kernel
theorem dX12_of_120 : decode cX12_of 120 = .ok (.goto 20, 3) := by decide +kernel
theorem dX12_of_123 : decode cX12_of 123 = .ok (.aload_n 0, 1) := by decide +kernel
theorem dX12_of_124 : decode cX12_of 124 = .ok (.getfield 26, 3) := by decide +kernel
theorem dX12_of_127 : decode cX12_of 127 = .ok (.bipush 10, 2) := by decide +kernel
theorem dX12_of_129 : decode cX12_of 129 = .ok (.iload_n 1, 1) := by decide +kernel
theorem dX12_of_130 : decode cX12_of 130 = .ok (.imul, 1) := by decide +kernel
theorem dX12_of_131 : decode cX12_of 131 = .ok (.iload_n 2, 1) := by decide +kernel
theorem dX12_of_132 : decode cX12_of 132 = .ok (.iadd, 1) := by decide +kernel
theorem dX12_of_133 : decode cX12_of 133 = .ok (.bipush 20, 2) := by decide +kernel
theorem dX12_of_135 : decode cX12_of 135 = .ok (.isub, 1) := by decide +kernel
theorem dX12_of_136 : decode cX12_of 136 = .ok (.laload, 1) := by decide +kernel
theorem dX12_of_137 : decode cX12_of 137 = .ok (.invokestatic 124, 3) := by decide +kernel
theorem dX12_of_140 : decode cX12_of 140 = .ok (.ireturn, 1) := by decide +kernel
theorem dX12_letter_0 : decode cX12_letter 0 = .ok (.aload_n 0, 1) := by decide +kernel
theorem dX12_letter_1 : decode cX12_letter 1 = .ok (.iconst 0, 1) := by decide +kernel
theorem dX12_letter_2 : decode cX12_letter 2 = .ok (.putfield 106, 3) := by decide +kernel
theorem dX12_letter_5 : decode cX12_letter 5 = .ok (.aload_n 0, 1) := by decide +kernel
theorem dX12_letter_6 : decode cX12_letter 6 = .ok (.iload_n 1, 1) := by decide +kernel
theorem dX12_letter_7 : decode cX12_letter 7 = .ok (.iload_n 2, 1) := by decide +kernel
theorem dX12_letter_8 : decode cX12_letter 8 = .ok (.invokevirtual 191, 3) := by decide +kernel
theorem dX12_letter_11 : decode cX12_letter 11 = .ok (.ifCond .eq 27, 3) := by decide +kernel
theorem dX12_letter_14 : decode cX12_letter 14 = .ok (.iload_n 3, 1) := by decide +kernel
theorem dX12_letter_15 : decode cX12_letter 15 = .ok (.iconst 0, 1) := by decide +kernel
theorem dX12_letter_16 : decode cX12_letter 16 = .ok (.aload_n 0, 1) := by decide +kernel
theorem dX12_letter_17 : decode cX12_letter 17 = .ok (.getfield 26, 3) := by decide +kernel
theorem dX12_letter_20 : decode cX12_letter 20 = .ok (.bipush 10, 2) := by decide +kernel
theorem dX12_letter_22 : decode cX12_letter 22 = .ok (.iload_n 1, 1) := by decide +kernel
theorem dX12_letter_23 : decode cX12_letter 23 = .ok (.imul, 1) := by decide +kernel
theorem dX12_letter_24 : decode cX12_letter 24 = .ok (.iload_n 2, 1) := by decide +kernel
theorem dX12_letter_25 : decode cX12_letter 25 = .ok (.iadd, 1) := by decide +kernel
theorem dX12_letter_26 : decode cX12_letter 26 = .ok (.laload, 1) := by decide +kernel
theorem dX12_letter_27 : decode cX12_letter 27 = .ok (.invokestatic 124, 3) := by decide +kernel
theorem dX12_letter_30 : decode cX12_letter 30 = .ok (.iconst 1, 1) := by decide +kernel
theorem dX12_letter_31 : decode cX12_letter 31 = .ok (.isub, 1) := by decide +kernel
theorem dX12_letter_32 : decode cX12_letter 32 = .ok (.invokestatic 112, 3) := by decide +kernel
theorem dX12_letter_35 : decode cX12_letter 35 = .ok (.ifCond .ne 5, 3) := by decide +kernel
theorem dX12_letter_38 : decode cX12_letter 38 = .ok (.iconst (-1), 1) := by decide +kernel
theorem dX12_letter_39 : decode cX12_letter 39 = .ok (.ireturn, 1) := by decide +kernel
theorem dX12_letter_40 : decode cX12_letter 40 = .ok (.aload_n 0, 1) := by decide +kernel
theorem dX12_letter_41 : decode cX12_letter 41 = .ok (.getfield 26, 3) := by decide +kernel
theorem dX12_letter_44 : decode cX12_letter 44 = .ok (.bipush 10, 2) := by decide +kernel
theorem dX12_letter_46 : decode cX12_letter 46 = .ok (.iload_n 1, 1) := by decide +kernel
theorem dX12_letter_47 : decode cX12_letter 47 = .ok (.imul, 1) := by decide +kernel
theorem dX12_letter_48 : decode cX12_letter 48 = .ok (.iload_n 2, 1) := by decide +kernel
theorem dX12_letter_49 : decode cX12_letter 49 = .ok (.iadd, 1) := by decide +kernel
theorem dX12_letter_50 : decode cX12_letter 50 = .ok (.laload, 1) := by decide +kernel
theorem dX12_letter_51 : decode cX12_letter 51 = .ok (.iload_n 3, 1) := by decide +kernel
theorem dX12_letter_52 : decode cX12_letter 52 = .ok (.invokestatic 134, 3) := by decide +kernel
theorem dX12_letter_55 : decode cX12_letter 55 = .ok (.ireturn, 1) := by decide +kernel
theorem dX12_count_0 : decode cX12_count 0 = .ok (.aload_n 0, 1) := by decide +kernel
theorem dX12_count_1 : decode cX12_count 1 = .ok (.iconst 0, 1) := by decide +kernel
theorem dX12_count_2 : decode cX12_count 2 = .ok (.putfield 106, 3) := by decide +kernel
theorem dX12_count_5 : decode cX12_count 5 = .ok (.iload_n 1, 1) := by decide +kernel
theorem dX12_count_6 : decode cX12_count 6 = .ok (.tableswitch 86 0 7 #[46, 51, 56, 61, 66, 71, 76, 81], 46) := by decide +kernel
theorem dX12_count_52 : decode cX12_count 52 = .ok (.aload_n 0, 1) := by decide +kernel
theorem dX12_count_53 : decode cX12_count 53 = .ok (.getfield 157, 3) := by decide +kernel
theorem dX12_count_56 : decode cX12_count 56 = .ok (.ireturn, 1) := by decide +kernel
theorem dX12_count_57 : decode cX12_count 57 = .ok (.aload_n 0, 1) := by decide +kernel
theorem dX12_count_58 : decode cX12_count 58 = .ok (.getfield 178, 3) := by decide +kernel
theorem dX12_count_61 : decode cX12_count 61 = .ok (.ireturn, 1) := by decide +kernel
theorem dX12_count_62 : decode cX12_count 62 = .ok (.aload_n 0, 1) := by decide +kernel
theorem dX12_count_63 : decode cX12_count 63 = .ok (.getfield 184, 3) := by decide +kernel
theorem dX12_count_66 : decode cX12_count 66 = .ok (.ireturn, 1) := by decide +kernel
theorem dX12_count_67 : decode cX12_count 67 = .ok (.aload_n 0, 1) := by decide +kernel
theorem dX12_count_68 : decode cX12_count 68 = .ok (.getfield 187, 3) := by decide +kernel
theorem dX12_count_71 : decode cX12_count 71 = .ok (.ireturn, 1) := by decide +kernel
theorem dX12_count_72 : decode cX12_count 72 = .ok (.aload_n 0, 1) := by decide +kernel
theorem dX12_count_73 : decode cX12_count 73 = .ok (.getfield 181, 3) := by decide +kernel
theorem dX12_count_76 : decode cX12_count 76 = .ok (.ireturn, 1) := by decide +kernel
theorem dX12_count_77 : decode cX12_count 77 = .ok (.aload_n 0, 1) := by decide +kernel
theorem dX12_count_78 : decode cX12_count 78 = .ok (.getfield 109, 3) := by decide +kernel
theorem dX12_count_81 : decode cX12_count 81 = .ok (.ireturn, 1) := by decide +kernel
theorem dX12_count_82 : decode cX12_count 82 = .ok (.aload_n 0, 1) := by decide +kernel
theorem dX12_count_83 : decode cX12_count 83 = .ok (.getfield 70, 3) := by decide +kernel
theorem dX12_count_86 : decode cX12_count 86 = .ok (.ireturn, 1) := by decide +kernel
theorem dX12_count_87 : decode cX12_count 87 = .ok (.aload_n 0, 1) := by decide +kernel
theorem dX12_count_88 : decode cX12_count 88 = .ok (.getfield 73, 3) := by decide +kernel
theorem dX12_count_91 : decode cX12_count 91 = .ok (.ireturn, 1) := by decide +kernel
theorem dX12_count_92 : decode cX12_count 92 = .ok (.iload_n 1, 1) := by decide +kernel
theorem dX12_count_93 : decode cX12_count 93 = .ok (.bipush 10, 2) := by decide +kernel
theorem dX12_count_95 : decode cX12_count 95 = .ok (.bipush 9, 2) := by decide +kernel
theorem dX12_count_97 : decode cX12_count 97 = .ok (.aload_n 0, 1) := by decide +kernel
theorem dX12_count_98 : decode cX12_count 98 = .ok (.getfield 178, 3) := by decide +kernel
theorem dX12_count_101 : decode cX12_count 101 = .ok (.iadd, 1) := by decide +kernel
theorem dX12_count_102 : decode cX12_count 102 = .ok (.invokestatic 112, 3) := by decide +kernel
theorem dX12_count_105 : decode cX12_count 105 = .ok (.ifCond .eq 13, 3) := by decide +kernel
theorem dX12_count_108 : decode cX12_count 108 = .ok (.aload_n 0, 1) := by decide +kernel
theorem dX12_count_109 : decode cX12_count 109 = .ok (.getfield 40, 3) := by decide +kernel
theorem dX12_count_112 : decode cX12_count 112 = .ok (.iload_n 1, 1) := by decide +kernel
theorem dX12_count_113 : decode cX12_count 113 = .ok (.bipush 10, 2) := by decide +kernel
theorem dX12_count_115 : decode cX12_count 115 = .ok (.isub, 1) := by decide +kernel
theorem dX12_count_116 : decode cX12_count 116 = .ok (.iaload, 1) := by decide +kernel
theorem dX12_count_117 : decode cX12_count 117 = .ok (.ireturn, 1) := by decide +kernel
theorem dX12_count_118 : decode cX12_count 118 = .ok (.iload_n 1, 1) := by decide +kernel
theorem dX12_count_119 : decode cX12_count 119 = .ok (.bipush 30, 2) := by decide +kernel
theorem dX12_count_121 : decode cX12_count 121 = .ok (.bipush 29, 2) := by decide +kernel
theorem dX12_count_123 : decode cX12_count 123 = .ok (.aload_n 0, 1) := by decide +kernel
theorem dX12_count_124 : decode cX12_count 124 = .ok (.getfield 178, 3) := by decide +kernel
theorem dX12_count_127 : decode cX12_count 127 = .ok (.iadd, 1) := by decide +kernel
theorem dX12_count_128 : decode cX12_count 128 = .ok (.invokestatic 112, 3) := by decide +kernel
theorem dX12_count_131 : decode cX12_count 131 = .ok (.ifCond .eq 15, 3) := by decide +kernel
theorem dX12_count_134 : decode cX12_count 134 = .ok (.aload_n 0, 1) := by decide +kernel
theorem dX12_count_135 : decode cX12_count 135 = .ok (.getfield 46, 3) := by decide +kernel
theorem dX12_count_138 : decode cX12_count 138 = .ok (.iload_n 1, 1) := by decide +kernel
theorem dX12_count_139 : decode cX12_count 139 = .ok (.bipush 30, 2) := by decide +kernel
theorem dX12_count_141 : decode cX12_count 141 = .ok (.isub, 1) := by decide +kernel
theorem dX12_count_142 : decode cX12_count 142 = .ok (.iaload, 1) := by decide +kernel
theorem dX12_count_143 : decode cX12_count 143 = .ok (.goto 4, 3) := by decide +kernel
theorem dX12_count_146 : decode cX12_count 146 = .ok (.iconst (-1), 1) := by decide +kernel
theorem dX12_count_147 : decode cX12_count 147 = .ok (.ireturn, 1) := by decide +kernel
end
section
theorem dL_of_0 : decode cL_of 0 = .ok (.aload_n 3, 1) := by decide +kernel
theorem dL_of_1 : decode cL_of 1 = .ok (.iconst 0, 1) := by decide +kernel
theorem dL_of_2 : decode cL_of 2 = .ok (.aload_n 0, 1) := by decide +kernel
theorem dL_of_3 : decode cL_of 3 = .ok (.iload_n 1, 1) := by decide +kernel
theorem dL_of_4 : decode cL_of 4 = .ok (.iload_n 2, 1) := by decide +kernel
theorem dL_of_5 : decode cL_of 5 = .ok (.invokevirtual 7, 3) := by decide +kernel
theorem dL_of_8 : decode cL_of 8 = .ok (.i2l, 1) := by decide +kernel
theorem dL_of_9 : decode cL_of 9 = .ok (.lastore, 1) := by decide +kernel
theorem dL_of_10 : decode cL_of 10 = .ok (.goto 7, 3) := by decide +kernel
theorem dL_of_13 : decode cL_of 13 = .ok (.astore 4, 2) := by decide +kernel
theorem dL_of_15 : decode cL_of 15 = .ok (.iconst 1, 1) := by decide +kernel
theorem dL_of_16 : decode cL_of 16 = .ok (.ireturn, 1) := by decide +kernel
theorem dL_of_17 : decode cL_of 17 = .ok (.iconst 0, 1) := by decide +kernel
theorem dL_of_18 : decode cL_of 18 = .ok (.ireturn, 1) := by decide +kernel
theorem dL_law_0 : decode cL_law 0 = .ok (.new 8, 3) := by decide +kernel
theorem dL_law_3 : decode cL_law 3 = .ok (.dup, 1) := by decide +kernel
theorem dL_law_4 : decode cL_law 4 = .ok (.invokespecial 15, 3) := by decide +kernel
theorem dL_law_7 : decode cL_law 7 = .ok (.astore_n 1, 1) := by decide +kernel
theorem dL_law_8 : decode cL_law 8 = .ok (.new 16, 3) := by decide +kernel
theorem dL_law_11 : decode cL_law 11 = .ok (.dup, 1) := by decide +kernel
theorem dL_law_12 : decode cL_law 12 = .ok (.invokespecial 18, 3) := by decide +kernel
theorem dL_law_15 : decode cL_law 15 = .ok (.astore_n 2, 1) := by decide +kernel
theorem dL_law_16 : decode cL_law 16 = .ok (.iconst 1, 1) := by decide +kernel
theorem dL_law_17 : decode cL_law 17 = .ok (.newarray .long, 2) := by decide +kernel
theorem dL_law_19 : decode cL_law 19 = .ok (.astore_n 3, 1) := by decide +kernel
theorem dL_law_20 : decode cL_law 20 = .ok (.iconst 0, 1) := by decide +kernel
theorem dL_law_21 : decode cL_law 21 = .ok (.istore 4, 2) := by decide +kernel
theorem dL_law_23 : decode cL_law 23 = .ok (.iload 4, 2) := by decide +kernel
theorem dL_law_25 : decode cL_law 25 = .ok (.aload_n 0, 1) := by decide +kernel
theorem dL_law_26 : decode cL_law 26 = .ok (.arraylength, 1) := by decide +kernel
theorem dL_law_27 : decode cL_law 27 = .ok (.bipush 6, 2) := by decide +kernel
theorem dL_law_29 : decode cL_law 29 = .ok (.isub, 1) := by decide +kernel
theorem dL_law_30 : decode cL_law 30 = .ok (.if_icmp .gt 955, 3) := by decide +kernel
theorem dL_law_33 : decode cL_law 33 = .ok (.aload_n 0, 1) := by decide +kernel
theorem dL_law_34 : decode cL_law 34 = .ok (.iload 4, 2) := by decide +kernel
theorem dL_law_36 : decode cL_law 36 = .ok (.iaload, 1) := by decide +kernel
theorem dL_law_37 : decode cL_law 37 = .ok (.bipush 31, 2) := by decide +kernel
theorem dL_law_39 : decode cL_law 39 = .ok (.iand, 1) := by decide +kernel
theorem dL_law_40 : decode cL_law 40 = .ok (.tableswitch 939 0 19 #[96, 169, 194, 219, 232, 257, 306, 355, 392, 429, 454, 491, 540, 577, 626, 699, 748, 797, 865, 914], 96) := by decide +kernel
theorem dL_law_136 : decode cL_law 136 = .ok (.aload_n 1, 1) := by decide +kernel
theorem dL_law_137 : decode cL_law 137 = .ok (.aload_n 0, 1) := by decide +kernel
theorem dL_law_138 : decode cL_law 138 = .ok (.iload 4, 2) := by decide +kernel
theorem dL_law_140 : decode cL_law 140 = .ok (.iconst 1, 1) := by decide +kernel
theorem dL_law_141 : decode cL_law 141 = .ok (.iadd, 1) := by decide +kernel
theorem dL_law_142 : decode cL_law 142 = .ok (.iaload, 1) := by decide +kernel
theorem dL_law_143 : decode cL_law 143 = .ok (.aload_n 0, 1) := by decide +kernel
theorem dL_law_144 : decode cL_law 144 = .ok (.iload 4, 2) := by decide +kernel
theorem dL_law_146 : decode cL_law 146 = .ok (.iconst 2, 1) := by decide +kernel
theorem dL_law_147 : decode cL_law 147 = .ok (.iadd, 1) := by decide +kernel
theorem dL_law_148 : decode cL_law 148 = .ok (.iaload, 1) := by decide +kernel
theorem dL_law_149 : decode cL_law 149 = .ok (.aload_n 0, 1) := by decide +kernel
theorem dL_law_150 : decode cL_law 150 = .ok (.iload 4, 2) := by decide +kernel
theorem dL_law_152 : decode cL_law 152 = .ok (.iconst 3, 1) := by decide +kernel
theorem dL_law_153 : decode cL_law 153 = .ok (.iadd, 1) := by decide +kernel
theorem dL_law_154 : decode cL_law 154 = .ok (.iaload, 1) := by decide +kernel
theorem dL_law_155 : decode cL_law 155 = .ok (.aload_n 0, 1) := by decide +kernel
theorem dL_law_156 : decode cL_law 156 = .ok (.iload 4, 2) := by decide +kernel
theorem dL_law_158 : decode cL_law 158 = .ok (.iconst 4, 1) := by decide +kernel
theorem dL_law_159 : decode cL_law 159 = .ok (.iadd, 1) := by decide +kernel
theorem dL_law_160 : decode cL_law 160 = .ok (.iaload, 1) := by decide +kernel
theorem dL_law_161 : decode cL_law 161 = .ok (.aload_n 0, 1) := by decide +kernel
theorem dL_law_162 : decode cL_law 162 = .ok (.iload 4, 2) := by decide +kernel
theorem dL_law_164 : decode cL_law 164 = .ok (.iconst 5, 1) := by decide +kernel
theorem dL_law_165 : decode cL_law 165 = .ok (.iadd, 1) := by decide +kernel
theorem dL_law_166 : decode cL_law 166 = .ok (.iaload, 1) := by decide +kernel
theorem dL_law_167 : decode cL_law 167 = .ok (.invokevirtual 19, 3) := by decide +kernel
theorem dL_law_170 : decode cL_law 170 = .ok (.aload_n 2, 1) := by decide +kernel
theorem dL_law_171 : decode cL_law 171 = .ok (.aload_n 0, 1) := by decide +kernel
theorem dL_law_172 : decode cL_law 172 = .ok (.iload 4, 2) := by decide +kernel
theorem dL_law_174 : decode cL_law 174 = .ok (.iconst 1, 1) := by decide +kernel
theorem dL_law_175 : decode cL_law 175 = .ok (.iadd, 1) := by decide +kernel
theorem dL_law_176 : decode cL_law 176 = .ok (.iaload, 1) := by decide +kernel
theorem dL_law_177 : decode cL_law 177 = .ok (.aload_n 0, 1) := by decide +kernel
theorem dL_law_178 : decode cL_law 178 = .ok (.iload 4, 2) := by decide +kernel
theorem dL_law_180 : decode cL_law 180 = .ok (.iconst 2, 1) := by decide +kernel
theorem dL_law_181 : decode cL_law 181 = .ok (.iadd, 1) := by decide +kernel
theorem dL_law_182 : decode cL_law 182 = .ok (.iaload, 1) := by decide +kernel
theorem dL_law_183 : decode cL_law 183 = .ok (.aload_n 0, 1) := by decide +kernel
theorem dL_law_184 : decode cL_law 184 = .ok (.iload 4, 2) := by decide +kernel
theorem dL_law_186 : decode cL_law 186 = .ok (.iconst 3, 1) := by decide +kernel
theorem dL_law_187 : decode cL_law 187 = .ok (.iadd, 1) := by decide +kernel
theorem dL_law_188 : decode cL_law 188 = .ok (.iaload, 1) := by decide +kernel
theorem dL_law_189 : decode cL_law 189 = .ok (.aload_n 0, 1) := by decide +kernel
theorem dL_law_190 : decode cL_law 190 = .ok (.iload 4, 2) := by decide +kernel
theorem dL_law_192 : decode cL_law 192 = .ok (.iconst 4, 1) := by decide +kernel
theorem dL_law_193 : decode cL_law 193 = .ok (.iadd, 1) := by decide +kernel
theorem dL_law_194 : decode cL_law 194 = .ok (.iaload, 1) := by decide +kernel
theorem dL_law_195 : decode cL_law 195 = .ok (.aload_n 0, 1) := by decide +kernel
theorem dL_law_196 : decode cL_law 196 = .ok (.iload 4, 2) := by decide +kernel
theorem dL_law_198 : decode cL_law 198 = .ok (.iconst 5, 1) := by decide +kernel
theorem dL_law_199 : decode cL_law 199 = .ok (.iadd, 1) := by decide +kernel
theorem dL_law_200 : decode cL_law 200 = .ok (.iaload, 1) := by decide +kernel
theorem dL_law_201 : decode cL_law 201 = .ok (.invokevirtual 23, 3) := by decide +kernel
theorem dL_law_204 : decode cL_law 204 = .ok (.if_icmp .eq 775, 3) := by decide +kernel
theorem dL_law_207 : decode cL_law 207 = .ok (.iconst 0, 1) := by decide +kernel
theorem dL_law_208 : decode cL_law 208 = .ok (.ireturn, 1) := by decide +kernel
theorem dL_law_209 : decode cL_law 209 = .ok (.aload_n 1, 1) := by decide +kernel
theorem dL_law_210 : decode cL_law 210 = .ok (.aload_n 0, 1) := by decide +kernel
theorem dL_law_211 : decode cL_law 211 = .ok (.iload 4, 2) := by decide +kernel
theorem dL_law_213 : decode cL_law 213 = .ok (.iconst 1, 1) := by decide +kernel
theorem dL_law_214 : decode cL_law 214 = .ok (.iadd, 1) := by decide +kernel
theorem dL_law_215 : decode cL_law 215 = .ok (.iaload, 1) := by decide +kernel
theorem dL_law_216 : decode cL_law 216 = .ok (.invokevirtual 24, 3) := by decide +kernel
theorem dL_law_219 : decode cL_law 219 = .ok (.aload_n 2, 1) := by decide +kernel
theorem dL_law_220 : decode cL_law 220 = .ok (.aload_n 0, 1) := by decide +kernel
theorem dL_law_221 : decode cL_law 221 = .ok (.iload 4, 2) := by decide +kernel
theorem dL_law_223 : decode cL_law 223 = .ok (.iconst 1, 1) := by decide +kernel
theorem dL_law_224 : decode cL_law 224 = .ok (.iadd, 1) := by decide +kernel
theorem dL_law_225 : decode cL_law 225 = .ok (.iaload, 1) := by decide +kernel
theorem dL_law_226 : decode cL_law 226 = .ok (.invokevirtual 28, 3) := by decide +kernel
theorem dL_law_229 : decode cL_law 229 = .ok (.if_icmp .eq 750, 3) := by decide +kernel
theorem dL_law_232 : decode cL_law 232 = .ok (.iconst 0, 1) := by decide +kernel
theorem dL_law_233 : decode cL_law 233 = .ok (.ireturn, 1) := by decide +kernel
theorem dL_law_234 : decode cL_law 234 = .ok (.aload_n 1, 1) := by decide +kernel
theorem dL_law_235 : decode cL_law 235 = .ok (.aload_n 0, 1) := by decide +kernel
theorem dL_law_236 : decode cL_law 236 = .ok (.iload 4, 2) := by decide +kernel
theorem dL_law_238 : decode cL_law 238 = .ok (.iconst 1, 1) := by decide +kernel
theorem dL_law_239 : decode cL_law 239 = .ok (.iadd, 1) := by decide +kernel
theorem dL_law_240 : decode cL_law 240 = .ok (.iaload, 1) := by decide +kernel
theorem dL_law_241 : decode cL_law 241 = .ok (.invokevirtual 29, 3) := by decide +kernel
theorem dL_law_244 : decode cL_law 244 = .ok (.aload_n 2, 1) := by decide +kernel
theorem dL_law_245 : decode cL_law 245 = .ok (.aload_n 0, 1) := by decide +kernel
theorem dL_law_246 : decode cL_law 246 = .ok (.iload 4, 2) := by decide +kernel
theorem dL_law_248 : decode cL_law 248 = .ok (.iconst 1, 1) := by decide +kernel
theorem dL_law_249 : decode cL_law 249 = .ok (.iadd, 1) := by decide +kernel
theorem dL_law_250 : decode cL_law 250 = .ok (.iaload, 1) := by decide +kernel
theorem dL_law_251 : decode cL_law 251 = .ok (.invokevirtual 32, 3) := by decide +kernel
theorem dL_law_254 : decode cL_law 254 = .ok (.if_icmp .eq 725, 3) := by decide +kernel
theorem dL_law_257 : decode cL_law 257 = .ok (.iconst 0, 1) := by decide +kernel
theorem dL_law_258 : decode cL_law 258 = .ok (.ireturn, 1) := by decide +kernel
theorem dL_law_259 : decode cL_law 259 = .ok (.aload_n 1, 1) := by decide +kernel
theorem dL_law_260 : decode cL_law 260 = .ok (.invokevirtual 33, 3) := by decide +kernel
theorem dL_law_263 : decode cL_law 263 = .ok (.aload_n 2, 1) := by decide +kernel
theorem dL_law_264 : decode cL_law 264 = .ok (.invokevirtual 37, 3) := by decide +kernel
theorem dL_law_267 : decode cL_law 267 = .ok (.if_icmp .eq 712, 3) := by decide +kernel
theorem dL_law_270 : decode cL_law 270 = .ok (.iconst 0, 1) := by decide +kernel
theorem dL_law_271 : decode cL_law 271 = .ok (.ireturn, 1) := by decide +kernel
theorem dL_law_272 : decode cL_law 272 = .ok (.aload_n 1, 1) := by decide +kernel
theorem dL_law_273 : decode cL_law 273 = .ok (.aload_n 0, 1) := by decide +kernel
theorem dL_law_274 : decode cL_law 274 = .ok (.iload 4, 2) := by decide +kernel
theorem dL_law_276 : decode cL_law 276 = .ok (.iconst 1, 1) := by decide +kernel
theorem dL_law_277 : decode cL_law 277 = .ok (.iadd, 1) := by decide +kernel
theorem dL_law_278 : decode cL_law 278 = .ok (.iaload, 1) := by decide +kernel
theorem dL_law_279 : decode cL_law 279 = .ok (.invokevirtual 38, 3) := by decide +kernel
theorem dL_law_282 : decode cL_law 282 = .ok (.aload_n 2, 1) := by decide +kernel
theorem dL_law_283 : decode cL_law 283 = .ok (.aload_n 0, 1) := by decide +kernel
theorem dL_law_284 : decode cL_law 284 = .ok (.iload 4, 2) := by decide +kernel
theorem dL_law_286 : decode cL_law 286 = .ok (.iconst 1, 1) := by decide +kernel
theorem dL_law_287 : decode cL_law 287 = .ok (.iadd, 1) := by decide +kernel
theorem dL_law_288 : decode cL_law 288 = .ok (.iaload, 1) := by decide +kernel
theorem dL_law_289 : decode cL_law 289 = .ok (.invokevirtual 41, 3) := by decide +kernel
theorem dL_law_292 : decode cL_law 292 = .ok (.if_icmp .eq 687, 3) := by decide +kernel
theorem dL_law_295 : decode cL_law 295 = .ok (.iconst 0, 1) := by decide +kernel
theorem dL_law_296 : decode cL_law 296 = .ok (.ireturn, 1) := by decide +kernel
theorem dL_law_297 : decode cL_law 297 = .ok (.aload_n 1, 1) := by decide +kernel
theorem dL_law_298 : decode cL_law 298 = .ok (.aload_n 0, 1) := by decide +kernel
theorem dL_law_299 : decode cL_law 299 = .ok (.iload 4, 2) := by decide +kernel
theorem dL_law_301 : decode cL_law 301 = .ok (.iconst 1, 1) := by decide +kernel
theorem dL_law_302 : decode cL_law 302 = .ok (.iadd, 1) := by decide +kernel
theorem dL_law_303 : decode cL_law 303 = .ok (.iaload, 1) := by decide +kernel
theorem dL_law_304 : decode cL_law 304 = .ok (.aload_n 0, 1) := by decide +kernel
theorem dL_law_305 : decode cL_law 305 = .ok (.iload 4, 2) := by decide +kernel
theorem dL_law_307 : decode cL_law 307 = .ok (.iconst 2, 1) := by decide +kernel
theorem dL_law_308 : decode cL_law 308 = .ok (.iadd, 1) := by decide +kernel
theorem dL_law_309 : decode cL_law 309 = .ok (.iaload, 1) := by decide +kernel
theorem dL_law_310 : decode cL_law 310 = .ok (.aload_n 0, 1) := by decide +kernel
theorem dL_law_311 : decode cL_law 311 = .ok (.iload 4, 2) := by decide +kernel
theorem dL_law_313 : decode cL_law 313 = .ok (.iconst 3, 1) := by decide +kernel
theorem dL_law_314 : decode cL_law 314 = .ok (.iadd, 1) := by decide +kernel
theorem dL_law_315 : decode cL_law 315 = .ok (.iaload, 1) := by decide +kernel
theorem dL_law_316 : decode cL_law 316 = .ok (.invokevirtual 42, 3) := by decide +kernel
theorem dL_law_319 : decode cL_law 319 = .ok (.aload_n 2, 1) := by decide +kernel
theorem dL_law_320 : decode cL_law 320 = .ok (.aload_n 0, 1) := by decide +kernel
theorem dL_law_321 : decode cL_law 321 = .ok (.iload 4, 2) := by decide +kernel
theorem dL_law_323 : decode cL_law 323 = .ok (.iconst 1, 1) := by decide +kernel
theorem dL_law_324 : decode cL_law 324 = .ok (.iadd, 1) := by decide +kernel
theorem dL_law_325 : decode cL_law 325 = .ok (.iaload, 1) := by decide +kernel
theorem dL_law_326 : decode cL_law 326 = .ok (.aload_n 0, 1) := by decide +kernel
theorem dL_law_327 : decode cL_law 327 = .ok (.iload 4, 2) := by decide +kernel
theorem dL_law_329 : decode cL_law 329 = .ok (.iconst 2, 1) := by decide +kernel
theorem dL_law_330 : decode cL_law 330 = .ok (.iadd, 1) := by decide +kernel
theorem dL_law_331 : decode cL_law 331 = .ok (.iaload, 1) := by decide +kernel
theorem dL_law_332 : decode cL_law 332 = .ok (.aload_n 0, 1) := by decide +kernel
theorem dL_law_333 : decode cL_law 333 = .ok (.iload 4, 2) := by decide +kernel
theorem dL_law_335 : decode cL_law 335 = .ok (.iconst 3, 1) := by decide +kernel
theorem dL_law_336 : decode cL_law 336 = .ok (.iadd, 1) := by decide +kernel
theorem dL_law_337 : decode cL_law 337 = .ok (.iaload, 1) := by decide +kernel
theorem dL_law_338 : decode cL_law 338 = .ok (.invokevirtual 46, 3) := by decide +kernel
theorem dL_law_341 : decode cL_law 341 = .ok (.if_icmp .eq 638, 3) := by decide +kernel
theorem dL_law_344 : decode cL_law 344 = .ok (.iconst 0, 1) := by decide +kernel
theorem dL_law_345 : decode cL_law 345 = .ok (.ireturn, 1) := by decide +kernel
theorem dL_law_346 : decode cL_law 346 = .ok (.aload_n 1, 1) := by decide +kernel
theorem dL_law_347 : decode cL_law 347 = .ok (.aload_n 0, 1) := by decide +kernel
theorem dL_law_348 : decode cL_law 348 = .ok (.iload 4, 2) := by decide +kernel
theorem dL_law_350 : decode cL_law 350 = .ok (.iconst 1, 1) := by decide +kernel
theorem dL_law_351 : decode cL_law 351 = .ok (.iadd, 1) := by decide +kernel
theorem dL_law_352 : decode cL_law 352 = .ok (.iaload, 1) := by decide +kernel
theorem dL_law_353 : decode cL_law 353 = .ok (.aload_n 0, 1) := by decide +kernel
theorem dL_law_354 : decode cL_law 354 = .ok (.iload 4, 2) := by decide +kernel
theorem dL_law_356 : decode cL_law 356 = .ok (.iconst 2, 1) := by decide +kernel
theorem dL_law_357 : decode cL_law 357 = .ok (.iadd, 1) := by decide +kernel
theorem dL_law_358 : decode cL_law 358 = .ok (.iaload, 1) := by decide +kernel
theorem dL_law_359 : decode cL_law 359 = .ok (.aload_n 0, 1) := by decide +kernel
theorem dL_law_360 : decode cL_law 360 = .ok (.iload 4, 2) := by decide +kernel
theorem dL_law_362 : decode cL_law 362 = .ok (.iconst 3, 1) := by decide +kernel
theorem dL_law_363 : decode cL_law 363 = .ok (.iadd, 1) := by decide +kernel
theorem dL_law_364 : decode cL_law 364 = .ok (.iaload, 1) := by decide +kernel
theorem dL_law_365 : decode cL_law 365 = .ok (.invokevirtual 47, 3) := by decide +kernel
theorem dL_law_368 : decode cL_law 368 = .ok (.aload_n 2, 1) := by decide +kernel
theorem dL_law_369 : decode cL_law 369 = .ok (.aload_n 0, 1) := by decide +kernel
theorem dL_law_370 : decode cL_law 370 = .ok (.iload 4, 2) := by decide +kernel
theorem dL_law_372 : decode cL_law 372 = .ok (.iconst 1, 1) := by decide +kernel
theorem dL_law_373 : decode cL_law 373 = .ok (.iadd, 1) := by decide +kernel
theorem dL_law_374 : decode cL_law 374 = .ok (.iaload, 1) := by decide +kernel
theorem dL_law_375 : decode cL_law 375 = .ok (.aload_n 0, 1) := by decide +kernel
theorem dL_law_376 : decode cL_law 376 = .ok (.iload 4, 2) := by decide +kernel
theorem dL_law_378 : decode cL_law 378 = .ok (.iconst 2, 1) := by decide +kernel
theorem dL_law_379 : decode cL_law 379 = .ok (.iadd, 1) := by decide +kernel
theorem dL_law_380 : decode cL_law 380 = .ok (.iaload, 1) := by decide +kernel
theorem dL_law_381 : decode cL_law 381 = .ok (.aload_n 0, 1) := by decide +kernel
theorem dL_law_382 : decode cL_law 382 = .ok (.iload 4, 2) := by decide +kernel
theorem dL_law_384 : decode cL_law 384 = .ok (.iconst 3, 1) := by decide +kernel
theorem dL_law_385 : decode cL_law 385 = .ok (.iadd, 1) := by decide +kernel
theorem dL_law_386 : decode cL_law 386 = .ok (.iaload, 1) := by decide +kernel
theorem dL_law_387 : decode cL_law 387 = .ok (.invokevirtual 50, 3) := by decide +kernel
theorem dL_law_390 : decode cL_law 390 = .ok (.if_icmp .eq 589, 3) := by decide +kernel
theorem dL_law_393 : decode cL_law 393 = .ok (.iconst 0, 1) := by decide +kernel
theorem dL_law_394 : decode cL_law 394 = .ok (.ireturn, 1) := by decide +kernel
theorem dL_law_395 : decode cL_law 395 = .ok (.aload_n 1, 1) := by decide +kernel
theorem dL_law_396 : decode cL_law 396 = .ok (.aload_n 0, 1) := by decide +kernel
theorem dL_law_397 : decode cL_law 397 = .ok (.iload 4, 2) := by decide +kernel
theorem dL_law_399 : decode cL_law 399 = .ok (.iconst 1, 1) := by decide +kernel
theorem dL_law_400 : decode cL_law 400 = .ok (.iadd, 1) := by decide +kernel
theorem dL_law_401 : decode cL_law 401 = .ok (.iaload, 1) := by decide +kernel
theorem dL_law_402 : decode cL_law 402 = .ok (.aload_n 0, 1) := by decide +kernel
theorem dL_law_403 : decode cL_law 403 = .ok (.iload 4, 2) := by decide +kernel
theorem dL_law_405 : decode cL_law 405 = .ok (.iconst 2, 1) := by decide +kernel
theorem dL_law_406 : decode cL_law 406 = .ok (.iadd, 1) := by decide +kernel
theorem dL_law_407 : decode cL_law 407 = .ok (.iaload, 1) := by decide +kernel
theorem dL_law_408 : decode cL_law 408 = .ok (.invokevirtual 51, 3) := by decide +kernel
theorem dL_law_411 : decode cL_law 411 = .ok (.aload_n 2, 1) := by decide +kernel
theorem dL_law_412 : decode cL_law 412 = .ok (.aload_n 0, 1) := by decide +kernel
theorem dL_law_413 : decode cL_law 413 = .ok (.iload 4, 2) := by decide +kernel
theorem dL_law_415 : decode cL_law 415 = .ok (.iconst 1, 1) := by decide +kernel
theorem dL_law_416 : decode cL_law 416 = .ok (.iadd, 1) := by decide +kernel
theorem dL_law_417 : decode cL_law 417 = .ok (.iaload, 1) := by decide +kernel
theorem dL_law_418 : decode cL_law 418 = .ok (.aload_n 0, 1) := by decide +kernel
theorem dL_law_419 : decode cL_law 419 = .ok (.iload 4, 2) := by decide +kernel
theorem dL_law_421 : decode cL_law 421 = .ok (.iconst 2, 1) := by decide +kernel
theorem dL_law_422 : decode cL_law 422 = .ok (.iadd, 1) := by decide +kernel
theorem dL_law_423 : decode cL_law 423 = .ok (.iaload, 1) := by decide +kernel
theorem dL_law_424 : decode cL_law 424 = .ok (.invokevirtual 55, 3) := by decide +kernel
theorem dL_law_427 : decode cL_law 427 = .ok (.if_icmp .eq 552, 3) := by decide +kernel
theorem dL_law_430 : decode cL_law 430 = .ok (.iconst 0, 1) := by decide +kernel
theorem dL_law_431 : decode cL_law 431 = .ok (.ireturn, 1) := by decide +kernel
theorem dL_law_432 : decode cL_law 432 = .ok (.aload_n 1, 1) := by decide +kernel
theorem dL_law_433 : decode cL_law 433 = .ok (.aload_n 0, 1) := by decide +kernel
theorem dL_law_434 : decode cL_law 434 = .ok (.iload 4, 2) := by decide +kernel
theorem dL_law_436 : decode cL_law 436 = .ok (.iconst 1, 1) := by decide +kernel
theorem dL_law_437 : decode cL_law 437 = .ok (.iadd, 1) := by decide +kernel
theorem dL_law_438 : decode cL_law 438 = .ok (.iaload, 1) := by decide +kernel
theorem dL_law_439 : decode cL_law 439 = .ok (.aload_n 0, 1) := by decide +kernel
theorem dL_law_440 : decode cL_law 440 = .ok (.iload 4, 2) := by decide +kernel
theorem dL_law_442 : decode cL_law 442 = .ok (.iconst 2, 1) := by decide +kernel
theorem dL_law_443 : decode cL_law 443 = .ok (.iadd, 1) := by decide +kernel
theorem dL_law_444 : decode cL_law 444 = .ok (.iaload, 1) := by decide +kernel
theorem dL_law_445 : decode cL_law 445 = .ok (.invokevirtual 56, 3) := by decide +kernel
theorem dL_law_448 : decode cL_law 448 = .ok (.aload_n 2, 1) := by decide +kernel
theorem dL_law_449 : decode cL_law 449 = .ok (.aload_n 0, 1) := by decide +kernel
theorem dL_law_450 : decode cL_law 450 = .ok (.iload 4, 2) := by decide +kernel
theorem dL_law_452 : decode cL_law 452 = .ok (.iconst 1, 1) := by decide +kernel
theorem dL_law_453 : decode cL_law 453 = .ok (.iadd, 1) := by decide +kernel
theorem dL_law_454 : decode cL_law 454 = .ok (.iaload, 1) := by decide +kernel
theorem dL_law_455 : decode cL_law 455 = .ok (.aload_n 0, 1) := by decide +kernel
theorem dL_law_456 : decode cL_law 456 = .ok (.iload 4, 2) := by decide +kernel
theorem dL_law_458 : decode cL_law 458 = .ok (.iconst 2, 1) := by decide +kernel
theorem dL_law_459 : decode cL_law 459 = .ok (.iadd, 1) := by decide +kernel
theorem dL_law_460 : decode cL_law 460 = .ok (.iaload, 1) := by decide +kernel
theorem dL_law_461 : decode cL_law 461 = .ok (.invokevirtual 59, 3) := by decide +kernel
theorem dL_law_464 : decode cL_law 464 = .ok (.if_icmp .eq 515, 3) := by decide +kernel
theorem dL_law_467 : decode cL_law 467 = .ok (.iconst 0, 1) := by decide +kernel
theorem dL_law_468 : decode cL_law 468 = .ok (.ireturn, 1) := by decide +kernel
theorem dL_law_469 : decode cL_law 469 = .ok (.aload_n 1, 1) := by decide +kernel
theorem dL_law_470 : decode cL_law 470 = .ok (.aload_n 0, 1) := by decide +kernel
theorem dL_law_471 : decode cL_law 471 = .ok (.iload 4, 2) := by decide +kernel
theorem dL_law_473 : decode cL_law 473 = .ok (.iconst 1, 1) := by decide +kernel
theorem dL_law_474 : decode cL_law 474 = .ok (.iadd, 1) := by decide +kernel
theorem dL_law_475 : decode cL_law 475 = .ok (.iaload, 1) := by decide +kernel
theorem dL_law_476 : decode cL_law 476 = .ok (.invokevirtual 60, 3) := by decide +kernel
theorem dL_law_479 : decode cL_law 479 = .ok (.aload_n 2, 1) := by decide +kernel
theorem dL_law_480 : decode cL_law 480 = .ok (.aload_n 0, 1) := by decide +kernel
theorem dL_law_481 : decode cL_law 481 = .ok (.iload 4, 2) := by decide +kernel
theorem dL_law_483 : decode cL_law 483 = .ok (.iconst 1, 1) := by decide +kernel
theorem dL_law_484 : decode cL_law 484 = .ok (.iadd, 1) := by decide +kernel
theorem dL_law_485 : decode cL_law 485 = .ok (.iaload, 1) := by decide +kernel
theorem dL_law_486 : decode cL_law 486 = .ok (.invokevirtual 63, 3) := by decide +kernel
theorem dL_law_489 : decode cL_law 489 = .ok (.if_icmp .eq 490, 3) := by decide +kernel
theorem dL_law_492 : decode cL_law 492 = .ok (.iconst 0, 1) := by decide +kernel
theorem dL_law_493 : decode cL_law 493 = .ok (.ireturn, 1) := by decide +kernel
theorem dL_law_494 : decode cL_law 494 = .ok (.aload_n 1, 1) := by decide +kernel
theorem dL_law_495 : decode cL_law 495 = .ok (.aload_n 0, 1) := by decide +kernel
theorem dL_law_496 : decode cL_law 496 = .ok (.iload 4, 2) := by decide +kernel
theorem dL_law_498 : decode cL_law 498 = .ok (.iconst 1, 1) := by decide +kernel
theorem dL_law_499 : decode cL_law 499 = .ok (.iadd, 1) := by decide +kernel
theorem dL_law_500 : decode cL_law 500 = .ok (.iaload, 1) := by decide +kernel
theorem dL_law_501 : decode cL_law 501 = .ok (.aload_n 0, 1) := by decide +kernel
theorem dL_law_502 : decode cL_law 502 = .ok (.iload 4, 2) := by decide +kernel
theorem dL_law_504 : decode cL_law 504 = .ok (.iconst 2, 1) := by decide +kernel
theorem dL_law_505 : decode cL_law 505 = .ok (.iadd, 1) := by decide +kernel
theorem dL_law_506 : decode cL_law 506 = .ok (.iaload, 1) := by decide +kernel
theorem dL_law_507 : decode cL_law 507 = .ok (.invokevirtual 64, 3) := by decide +kernel
theorem dL_law_510 : decode cL_law 510 = .ok (.aload_n 2, 1) := by decide +kernel
theorem dL_law_511 : decode cL_law 511 = .ok (.aload_n 0, 1) := by decide +kernel
theorem dL_law_512 : decode cL_law 512 = .ok (.iload 4, 2) := by decide +kernel
theorem dL_law_514 : decode cL_law 514 = .ok (.iconst 1, 1) := by decide +kernel
theorem dL_law_515 : decode cL_law 515 = .ok (.iadd, 1) := by decide +kernel
theorem dL_law_516 : decode cL_law 516 = .ok (.iaload, 1) := by decide +kernel
theorem dL_law_517 : decode cL_law 517 = .ok (.aload_n 0, 1) := by decide +kernel
theorem dL_law_518 : decode cL_law 518 = .ok (.iload 4, 2) := by decide +kernel
theorem dL_law_520 : decode cL_law 520 = .ok (.iconst 2, 1) := by decide +kernel
theorem dL_law_521 : decode cL_law 521 = .ok (.iadd, 1) := by decide +kernel
theorem dL_law_522 : decode cL_law 522 = .ok (.iaload, 1) := by decide +kernel
theorem dL_law_523 : decode cL_law 523 = .ok (.invokevirtual 67, 3) := by decide +kernel
theorem dL_law_526 : decode cL_law 526 = .ok (.if_icmp .eq 453, 3) := by decide +kernel
theorem dL_law_529 : decode cL_law 529 = .ok (.iconst 0, 1) := by decide +kernel
theorem dL_law_530 : decode cL_law 530 = .ok (.ireturn, 1) := by decide +kernel
theorem dL_law_531 : decode cL_law 531 = .ok (.aload_n 1, 1) := by decide +kernel
theorem dL_law_532 : decode cL_law 532 = .ok (.aload_n 0, 1) := by decide +kernel
theorem dL_law_533 : decode cL_law 533 = .ok (.iload 4, 2) := by decide +kernel
theorem dL_law_535 : decode cL_law 535 = .ok (.iconst 1, 1) := by decide +kernel
theorem dL_law_536 : decode cL_law 536 = .ok (.iadd, 1) := by decide +kernel
theorem dL_law_537 : decode cL_law 537 = .ok (.iaload, 1) := by decide +kernel
theorem dL_law_538 : decode cL_law 538 = .ok (.aload_n 0, 1) := by decide +kernel
theorem dL_law_539 : decode cL_law 539 = .ok (.iload 4, 2) := by decide +kernel
theorem dL_law_541 : decode cL_law 541 = .ok (.iconst 2, 1) := by decide +kernel
theorem dL_law_542 : decode cL_law 542 = .ok (.iadd, 1) := by decide +kernel
theorem dL_law_543 : decode cL_law 543 = .ok (.iaload, 1) := by decide +kernel
theorem dL_law_544 : decode cL_law 544 = .ok (.aload_n 0, 1) := by decide +kernel
theorem dL_law_545 : decode cL_law 545 = .ok (.iload 4, 2) := by decide +kernel
theorem dL_law_547 : decode cL_law 547 = .ok (.iconst 3, 1) := by decide +kernel
theorem dL_law_548 : decode cL_law 548 = .ok (.iadd, 1) := by decide +kernel
theorem dL_law_549 : decode cL_law 549 = .ok (.iaload, 1) := by decide +kernel
theorem dL_law_550 : decode cL_law 550 = .ok (.invokevirtual 68, 3) := by decide +kernel
theorem dL_law_553 : decode cL_law 553 = .ok (.aload_n 2, 1) := by decide +kernel
theorem dL_law_554 : decode cL_law 554 = .ok (.aload_n 0, 1) := by decide +kernel
theorem dL_law_555 : decode cL_law 555 = .ok (.iload 4, 2) := by decide +kernel
theorem dL_law_557 : decode cL_law 557 = .ok (.iconst 1, 1) := by decide +kernel
theorem dL_law_558 : decode cL_law 558 = .ok (.iadd, 1) := by decide +kernel
theorem dL_law_559 : decode cL_law 559 = .ok (.iaload, 1) := by decide +kernel
theorem dL_law_560 : decode cL_law 560 = .ok (.aload_n 0, 1) := by decide +kernel
theorem dL_law_561 : decode cL_law 561 = .ok (.iload 4, 2) := by decide +kernel
theorem dL_law_563 : decode cL_law 563 = .ok (.iconst 2, 1) := by decide +kernel
theorem dL_law_564 : decode cL_law 564 = .ok (.iadd, 1) := by decide +kernel
theorem dL_law_565 : decode cL_law 565 = .ok (.iaload, 1) := by decide +kernel
theorem dL_law_566 : decode cL_law 566 = .ok (.aload_n 0, 1) := by decide +kernel
theorem dL_law_567 : decode cL_law 567 = .ok (.iload 4, 2) := by decide +kernel
theorem dL_law_569 : decode cL_law 569 = .ok (.iconst 3, 1) := by decide +kernel
theorem dL_law_570 : decode cL_law 570 = .ok (.iadd, 1) := by decide +kernel
theorem dL_law_571 : decode cL_law 571 = .ok (.iaload, 1) := by decide +kernel
theorem dL_law_572 : decode cL_law 572 = .ok (.invokevirtual 71, 3) := by decide +kernel
theorem dL_law_575 : decode cL_law 575 = .ok (.if_icmp .eq 404, 3) := by decide +kernel
theorem dL_law_578 : decode cL_law 578 = .ok (.iconst 0, 1) := by decide +kernel
theorem dL_law_579 : decode cL_law 579 = .ok (.ireturn, 1) := by decide +kernel
theorem dL_law_580 : decode cL_law 580 = .ok (.aload_n 1, 1) := by decide +kernel
theorem dL_law_581 : decode cL_law 581 = .ok (.aload_n 0, 1) := by decide +kernel
theorem dL_law_582 : decode cL_law 582 = .ok (.iload 4, 2) := by decide +kernel
theorem dL_law_584 : decode cL_law 584 = .ok (.iconst 1, 1) := by decide +kernel
theorem dL_law_585 : decode cL_law 585 = .ok (.iadd, 1) := by decide +kernel
theorem dL_law_586 : decode cL_law 586 = .ok (.iaload, 1) := by decide +kernel
theorem dL_law_587 : decode cL_law 587 = .ok (.aload_n 0, 1) := by decide +kernel
theorem dL_law_588 : decode cL_law 588 = .ok (.iload 4, 2) := by decide +kernel
theorem dL_law_590 : decode cL_law 590 = .ok (.iconst 2, 1) := by decide +kernel
theorem dL_law_591 : decode cL_law 591 = .ok (.iadd, 1) := by decide +kernel
theorem dL_law_592 : decode cL_law 592 = .ok (.iaload, 1) := by decide +kernel
theorem dL_law_593 : decode cL_law 593 = .ok (.invokevirtual 72, 3) := by decide +kernel
theorem dL_law_596 : decode cL_law 596 = .ok (.aload_n 2, 1) := by decide +kernel
theorem dL_law_597 : decode cL_law 597 = .ok (.aload_n 0, 1) := by decide +kernel
theorem dL_law_598 : decode cL_law 598 = .ok (.iload 4, 2) := by decide +kernel
theorem dL_law_600 : decode cL_law 600 = .ok (.iconst 1, 1) := by decide +kernel
theorem dL_law_601 : decode cL_law 601 = .ok (.iadd, 1) := by decide +kernel
theorem dL_law_602 : decode cL_law 602 = .ok (.iaload, 1) := by decide +kernel
theorem dL_law_603 : decode cL_law 603 = .ok (.aload_n 0, 1) := by decide +kernel
theorem dL_law_604 : decode cL_law 604 = .ok (.iload 4, 2) := by decide +kernel
theorem dL_law_606 : decode cL_law 606 = .ok (.iconst 2, 1) := by decide +kernel
theorem dL_law_607 : decode cL_law 607 = .ok (.iadd, 1) := by decide +kernel
theorem dL_law_608 : decode cL_law 608 = .ok (.iaload, 1) := by decide +kernel
theorem dL_law_609 : decode cL_law 609 = .ok (.invokevirtual 75, 3) := by decide +kernel
theorem dL_law_612 : decode cL_law 612 = .ok (.if_icmp .eq 367, 3) := by decide +kernel
theorem dL_law_615 : decode cL_law 615 = .ok (.iconst 0, 1) := by decide +kernel
theorem dL_law_616 : decode cL_law 616 = .ok (.ireturn, 1) := by decide +kernel
theorem dL_law_617 : decode cL_law 617 = .ok (.aload_n 1, 1) := by decide +kernel
theorem dL_law_618 : decode cL_law 618 = .ok (.aload_n 0, 1) := by decide +kernel
theorem dL_law_619 : decode cL_law 619 = .ok (.iload 4, 2) := by decide +kernel
theorem dL_law_621 : decode cL_law 621 = .ok (.iconst 1, 1) := by decide +kernel
theorem dL_law_622 : decode cL_law 622 = .ok (.iadd, 1) := by decide +kernel
theorem dL_law_623 : decode cL_law 623 = .ok (.iaload, 1) := by decide +kernel
theorem dL_law_624 : decode cL_law 624 = .ok (.aload_n 0, 1) := by decide +kernel
theorem dL_law_625 : decode cL_law 625 = .ok (.iload 4, 2) := by decide +kernel
theorem dL_law_627 : decode cL_law 627 = .ok (.iconst 2, 1) := by decide +kernel
theorem dL_law_628 : decode cL_law 628 = .ok (.iadd, 1) := by decide +kernel
theorem dL_law_629 : decode cL_law 629 = .ok (.iaload, 1) := by decide +kernel
theorem dL_law_630 : decode cL_law 630 = .ok (.aload_n 0, 1) := by decide +kernel
theorem dL_law_631 : decode cL_law 631 = .ok (.iload 4, 2) := by decide +kernel
theorem dL_law_633 : decode cL_law 633 = .ok (.iconst 3, 1) := by decide +kernel
theorem dL_law_634 : decode cL_law 634 = .ok (.iadd, 1) := by decide +kernel
theorem dL_law_635 : decode cL_law 635 = .ok (.iaload, 1) := by decide +kernel
theorem dL_law_636 : decode cL_law 636 = .ok (.invokevirtual 76, 3) := by decide +kernel
theorem dL_law_639 : decode cL_law 639 = .ok (.aload_n 2, 1) := by decide +kernel
theorem dL_law_640 : decode cL_law 640 = .ok (.aload_n 0, 1) := by decide +kernel
theorem dL_law_641 : decode cL_law 641 = .ok (.iload 4, 2) := by decide +kernel
theorem dL_law_643 : decode cL_law 643 = .ok (.iconst 1, 1) := by decide +kernel
theorem dL_law_644 : decode cL_law 644 = .ok (.iadd, 1) := by decide +kernel
theorem dL_law_645 : decode cL_law 645 = .ok (.iaload, 1) := by decide +kernel
theorem dL_law_646 : decode cL_law 646 = .ok (.aload_n 0, 1) := by decide +kernel
theorem dL_law_647 : decode cL_law 647 = .ok (.iload 4, 2) := by decide +kernel
theorem dL_law_649 : decode cL_law 649 = .ok (.iconst 2, 1) := by decide +kernel
theorem dL_law_650 : decode cL_law 650 = .ok (.iadd, 1) := by decide +kernel
theorem dL_law_651 : decode cL_law 651 = .ok (.iaload, 1) := by decide +kernel
theorem dL_law_652 : decode cL_law 652 = .ok (.aload_n 0, 1) := by decide +kernel
theorem dL_law_653 : decode cL_law 653 = .ok (.iload 4, 2) := by decide +kernel
theorem dL_law_655 : decode cL_law 655 = .ok (.iconst 3, 1) := by decide +kernel
theorem dL_law_656 : decode cL_law 656 = .ok (.iadd, 1) := by decide +kernel
theorem dL_law_657 : decode cL_law 657 = .ok (.iaload, 1) := by decide +kernel
theorem dL_law_658 : decode cL_law 658 = .ok (.invokevirtual 79, 3) := by decide +kernel
theorem dL_law_661 : decode cL_law 661 = .ok (.if_icmp .eq 318, 3) := by decide +kernel
theorem dL_law_664 : decode cL_law 664 = .ok (.iconst 0, 1) := by decide +kernel
theorem dL_law_665 : decode cL_law 665 = .ok (.ireturn, 1) := by decide +kernel
theorem dL_law_666 : decode cL_law 666 = .ok (.aload_n 1, 1) := by decide +kernel
theorem dL_law_667 : decode cL_law 667 = .ok (.aload_n 0, 1) := by decide +kernel
theorem dL_law_668 : decode cL_law 668 = .ok (.iload 4, 2) := by decide +kernel
theorem dL_law_670 : decode cL_law 670 = .ok (.iconst 1, 1) := by decide +kernel
theorem dL_law_671 : decode cL_law 671 = .ok (.iadd, 1) := by decide +kernel
theorem dL_law_672 : decode cL_law 672 = .ok (.iaload, 1) := by decide +kernel
theorem dL_law_673 : decode cL_law 673 = .ok (.aload_n 0, 1) := by decide +kernel
theorem dL_law_674 : decode cL_law 674 = .ok (.iload 4, 2) := by decide +kernel
theorem dL_law_676 : decode cL_law 676 = .ok (.iconst 2, 1) := by decide +kernel
theorem dL_law_677 : decode cL_law 677 = .ok (.iadd, 1) := by decide +kernel
theorem dL_law_678 : decode cL_law 678 = .ok (.iaload, 1) := by decide +kernel
theorem dL_law_679 : decode cL_law 679 = .ok (.aload_n 0, 1) := by decide +kernel
theorem dL_law_680 : decode cL_law 680 = .ok (.iload 4, 2) := by decide +kernel
theorem dL_law_682 : decode cL_law 682 = .ok (.iconst 3, 1) := by decide +kernel
theorem dL_law_683 : decode cL_law 683 = .ok (.iadd, 1) := by decide +kernel
theorem dL_law_684 : decode cL_law 684 = .ok (.iaload, 1) := by decide +kernel
theorem dL_law_685 : decode cL_law 685 = .ok (.aload_n 0, 1) := by decide +kernel
theorem dL_law_686 : decode cL_law 686 = .ok (.iload 4, 2) := by decide +kernel
theorem dL_law_688 : decode cL_law 688 = .ok (.iconst 4, 1) := by decide +kernel
theorem dL_law_689 : decode cL_law 689 = .ok (.iadd, 1) := by decide +kernel
theorem dL_law_690 : decode cL_law 690 = .ok (.iaload, 1) := by decide +kernel
theorem dL_law_691 : decode cL_law 691 = .ok (.aload_n 0, 1) := by decide +kernel
theorem dL_law_692 : decode cL_law 692 = .ok (.iload 4, 2) := by decide +kernel
theorem dL_law_694 : decode cL_law 694 = .ok (.iconst 5, 1) := by decide +kernel
theorem dL_law_695 : decode cL_law 695 = .ok (.iadd, 1) := by decide +kernel
theorem dL_law_696 : decode cL_law 696 = .ok (.iaload, 1) := by decide +kernel
theorem dL_law_697 : decode cL_law 697 = .ok (.invokevirtual 80, 3) := by decide +kernel
theorem dL_law_700 : decode cL_law 700 = .ok (.aload_n 2, 1) := by decide +kernel
theorem dL_law_701 : decode cL_law 701 = .ok (.aload_n 0, 1) := by decide +kernel
theorem dL_law_702 : decode cL_law 702 = .ok (.iload 4, 2) := by decide +kernel
theorem dL_law_704 : decode cL_law 704 = .ok (.iconst 1, 1) := by decide +kernel
theorem dL_law_705 : decode cL_law 705 = .ok (.iadd, 1) := by decide +kernel
theorem dL_law_706 : decode cL_law 706 = .ok (.iaload, 1) := by decide +kernel
theorem dL_law_707 : decode cL_law 707 = .ok (.aload_n 0, 1) := by decide +kernel
theorem dL_law_708 : decode cL_law 708 = .ok (.iload 4, 2) := by decide +kernel
theorem dL_law_710 : decode cL_law 710 = .ok (.iconst 2, 1) := by decide +kernel
theorem dL_law_711 : decode cL_law 711 = .ok (.iadd, 1) := by decide +kernel
theorem dL_law_712 : decode cL_law 712 = .ok (.iaload, 1) := by decide +kernel
theorem dL_law_713 : decode cL_law 713 = .ok (.aload_n 0, 1) := by decide +kernel
theorem dL_law_714 : decode cL_law 714 = .ok (.iload 4, 2) := by decide +kernel
theorem dL_law_716 : decode cL_law 716 = .ok (.iconst 3, 1) := by decide +kernel
theorem dL_law_717 : decode cL_law 717 = .ok (.iadd, 1) := by decide +kernel
theorem dL_law_718 : decode cL_law 718 = .ok (.iaload, 1) := by decide +kernel
theorem dL_law_719 : decode cL_law 719 = .ok (.aload_n 0, 1) := by decide +kernel
theorem dL_law_720 : decode cL_law 720 = .ok (.iload 4, 2) := by decide +kernel
theorem dL_law_722 : decode cL_law 722 = .ok (.iconst 4, 1) := by decide +kernel
theorem dL_law_723 : decode cL_law 723 = .ok (.iadd, 1) := by decide +kernel
theorem dL_law_724 : decode cL_law 724 = .ok (.iaload, 1) := by decide +kernel
theorem dL_law_725 : decode cL_law 725 = .ok (.aload_n 0, 1) := by decide +kernel
theorem dL_law_726 : decode cL_law 726 = .ok (.iload 4, 2) := by decide +kernel
theorem dL_law_728 : decode cL_law 728 = .ok (.iconst 5, 1) := by decide +kernel
theorem dL_law_729 : decode cL_law 729 = .ok (.iadd, 1) := by decide +kernel
theorem dL_law_730 : decode cL_law 730 = .ok (.iaload, 1) := by decide +kernel
theorem dL_law_731 : decode cL_law 731 = .ok (.invokevirtual 83, 3) := by decide +kernel
theorem dL_law_734 : decode cL_law 734 = .ok (.if_icmp .eq 245, 3) := by decide +kernel
theorem dL_law_737 : decode cL_law 737 = .ok (.iconst 0, 1) := by decide +kernel
theorem dL_law_738 : decode cL_law 738 = .ok (.ireturn, 1) := by decide +kernel
theorem dL_law_739 : decode cL_law 739 = .ok (.aload_n 1, 1) := by decide +kernel
theorem dL_law_740 : decode cL_law 740 = .ok (.aload_n 0, 1) := by decide +kernel
theorem dL_law_741 : decode cL_law 741 = .ok (.iload 4, 2) := by decide +kernel
theorem dL_law_743 : decode cL_law 743 = .ok (.iconst 1, 1) := by decide +kernel
theorem dL_law_744 : decode cL_law 744 = .ok (.iadd, 1) := by decide +kernel
theorem dL_law_745 : decode cL_law 745 = .ok (.iaload, 1) := by decide +kernel
theorem dL_law_746 : decode cL_law 746 = .ok (.aload_n 0, 1) := by decide +kernel
theorem dL_law_747 : decode cL_law 747 = .ok (.iload 4, 2) := by decide +kernel
theorem dL_law_749 : decode cL_law 749 = .ok (.iconst 2, 1) := by decide +kernel
theorem dL_law_750 : decode cL_law 750 = .ok (.iadd, 1) := by decide +kernel
theorem dL_law_751 : decode cL_law 751 = .ok (.iaload, 1) := by decide +kernel
theorem dL_law_752 : decode cL_law 752 = .ok (.aload_n 0, 1) := by decide +kernel
theorem dL_law_753 : decode cL_law 753 = .ok (.iload 4, 2) := by decide +kernel
theorem dL_law_755 : decode cL_law 755 = .ok (.iconst 3, 1) := by decide +kernel
theorem dL_law_756 : decode cL_law 756 = .ok (.iadd, 1) := by decide +kernel
theorem dL_law_757 : decode cL_law 757 = .ok (.iaload, 1) := by decide +kernel
theorem dL_law_758 : decode cL_law 758 = .ok (.invokevirtual 84, 3) := by decide +kernel
theorem dL_law_761 : decode cL_law 761 = .ok (.aload_n 2, 1) := by decide +kernel
theorem dL_law_762 : decode cL_law 762 = .ok (.aload_n 0, 1) := by decide +kernel
theorem dL_law_763 : decode cL_law 763 = .ok (.iload 4, 2) := by decide +kernel
theorem dL_law_765 : decode cL_law 765 = .ok (.iconst 1, 1) := by decide +kernel
theorem dL_law_766 : decode cL_law 766 = .ok (.iadd, 1) := by decide +kernel
theorem dL_law_767 : decode cL_law 767 = .ok (.iaload, 1) := by decide +kernel
theorem dL_law_768 : decode cL_law 768 = .ok (.aload_n 0, 1) := by decide +kernel
theorem dL_law_769 : decode cL_law 769 = .ok (.iload 4, 2) := by decide +kernel
theorem dL_law_771 : decode cL_law 771 = .ok (.iconst 2, 1) := by decide +kernel
theorem dL_law_772 : decode cL_law 772 = .ok (.iadd, 1) := by decide +kernel
theorem dL_law_773 : decode cL_law 773 = .ok (.iaload, 1) := by decide +kernel
theorem dL_law_774 : decode cL_law 774 = .ok (.aload_n 0, 1) := by decide +kernel
theorem dL_law_775 : decode cL_law 775 = .ok (.iload 4, 2) := by decide +kernel
theorem dL_law_777 : decode cL_law 777 = .ok (.iconst 3, 1) := by decide +kernel
theorem dL_law_778 : decode cL_law 778 = .ok (.iadd, 1) := by decide +kernel
theorem dL_law_779 : decode cL_law 779 = .ok (.iaload, 1) := by decide +kernel
theorem dL_law_780 : decode cL_law 780 = .ok (.invokevirtual 87, 3) := by decide +kernel
theorem dL_law_783 : decode cL_law 783 = .ok (.if_icmp .eq 196, 3) := by decide +kernel
theorem dL_law_786 : decode cL_law 786 = .ok (.iconst 0, 1) := by decide +kernel
theorem dL_law_787 : decode cL_law 787 = .ok (.ireturn, 1) := by decide +kernel
theorem dL_law_788 : decode cL_law 788 = .ok (.aload_n 1, 1) := by decide +kernel
theorem dL_law_789 : decode cL_law 789 = .ok (.aload_n 0, 1) := by decide +kernel
theorem dL_law_790 : decode cL_law 790 = .ok (.iload 4, 2) := by decide +kernel
theorem dL_law_792 : decode cL_law 792 = .ok (.iconst 1, 1) := by decide +kernel
theorem dL_law_793 : decode cL_law 793 = .ok (.iadd, 1) := by decide +kernel
theorem dL_law_794 : decode cL_law 794 = .ok (.iaload, 1) := by decide +kernel
theorem dL_law_795 : decode cL_law 795 = .ok (.aload_n 0, 1) := by decide +kernel
theorem dL_law_796 : decode cL_law 796 = .ok (.iload 4, 2) := by decide +kernel
theorem dL_law_798 : decode cL_law 798 = .ok (.iconst 2, 1) := by decide +kernel
theorem dL_law_799 : decode cL_law 799 = .ok (.iadd, 1) := by decide +kernel
theorem dL_law_800 : decode cL_law 800 = .ok (.iaload, 1) := by decide +kernel
theorem dL_law_801 : decode cL_law 801 = .ok (.aload_n 0, 1) := by decide +kernel
theorem dL_law_802 : decode cL_law 802 = .ok (.iload 4, 2) := by decide +kernel
theorem dL_law_804 : decode cL_law 804 = .ok (.iconst 3, 1) := by decide +kernel
theorem dL_law_805 : decode cL_law 805 = .ok (.iadd, 1) := by decide +kernel
theorem dL_law_806 : decode cL_law 806 = .ok (.iaload, 1) := by decide +kernel
theorem dL_law_807 : decode cL_law 807 = .ok (.invokevirtual 88, 3) := by decide +kernel
theorem dL_law_810 : decode cL_law 810 = .ok (.aload_n 2, 1) := by decide +kernel
theorem dL_law_811 : decode cL_law 811 = .ok (.aload_n 0, 1) := by decide +kernel
theorem dL_law_812 : decode cL_law 812 = .ok (.iload 4, 2) := by decide +kernel
theorem dL_law_814 : decode cL_law 814 = .ok (.iconst 1, 1) := by decide +kernel
theorem dL_law_815 : decode cL_law 815 = .ok (.iadd, 1) := by decide +kernel
theorem dL_law_816 : decode cL_law 816 = .ok (.iaload, 1) := by decide +kernel
theorem dL_law_817 : decode cL_law 817 = .ok (.aload_n 0, 1) := by decide +kernel
theorem dL_law_818 : decode cL_law 818 = .ok (.iload 4, 2) := by decide +kernel
theorem dL_law_820 : decode cL_law 820 = .ok (.iconst 2, 1) := by decide +kernel
theorem dL_law_821 : decode cL_law 821 = .ok (.iadd, 1) := by decide +kernel
theorem dL_law_822 : decode cL_law 822 = .ok (.iaload, 1) := by decide +kernel
theorem dL_law_823 : decode cL_law 823 = .ok (.aload_n 0, 1) := by decide +kernel
theorem dL_law_824 : decode cL_law 824 = .ok (.iload 4, 2) := by decide +kernel
theorem dL_law_826 : decode cL_law 826 = .ok (.iconst 3, 1) := by decide +kernel
theorem dL_law_827 : decode cL_law 827 = .ok (.iadd, 1) := by decide +kernel
theorem dL_law_828 : decode cL_law 828 = .ok (.iaload, 1) := by decide +kernel
theorem dL_law_829 : decode cL_law 829 = .ok (.invokevirtual 91, 3) := by decide +kernel
theorem dL_law_832 : decode cL_law 832 = .ok (.if_icmp .eq 147, 3) := by decide +kernel
theorem dL_law_835 : decode cL_law 835 = .ok (.iconst 0, 1) := by decide +kernel
theorem dL_law_836 : decode cL_law 836 = .ok (.ireturn, 1) := by decide +kernel
theorem dL_law_837 : decode cL_law 837 = .ok (.aload_n 1, 1) := by decide +kernel
theorem dL_law_838 : decode cL_law 838 = .ok (.aload_n 0, 1) := by decide +kernel
theorem dL_law_839 : decode cL_law 839 = .ok (.iload 4, 2) := by decide +kernel
theorem dL_law_841 : decode cL_law 841 = .ok (.iconst 1, 1) := by decide +kernel
theorem dL_law_842 : decode cL_law 842 = .ok (.iadd, 1) := by decide +kernel
theorem dL_law_843 : decode cL_law 843 = .ok (.iaload, 1) := by decide +kernel
theorem dL_law_844 : decode cL_law 844 = .ok (.aload_n 0, 1) := by decide +kernel
theorem dL_law_845 : decode cL_law 845 = .ok (.iload 4, 2) := by decide +kernel
theorem dL_law_847 : decode cL_law 847 = .ok (.iconst 2, 1) := by decide +kernel
theorem dL_law_848 : decode cL_law 848 = .ok (.iadd, 1) := by decide +kernel
theorem dL_law_849 : decode cL_law 849 = .ok (.iaload, 1) := by decide +kernel
theorem dL_law_850 : decode cL_law 850 = .ok (.aload_n 3, 1) := by decide +kernel
theorem dL_law_851 : decode cL_law 851 = .ok (.invokestatic 92, 3) := by decide +kernel
theorem dL_law_854 : decode cL_law 854 = .ok (.istore 5, 2) := by decide +kernel
theorem dL_law_856 : decode cL_law 856 = .ok (.aload_n 2, 1) := by decide +kernel
theorem dL_law_857 : decode cL_law 857 = .ok (.aload_n 0, 1) := by decide +kernel
theorem dL_law_858 : decode cL_law 858 = .ok (.iload 4, 2) := by decide +kernel
theorem dL_law_860 : decode cL_law 860 = .ok (.iconst 1, 1) := by decide +kernel
theorem dL_law_861 : decode cL_law 861 = .ok (.iadd, 1) := by decide +kernel
theorem dL_law_862 : decode cL_law 862 = .ok (.iaload, 1) := by decide +kernel
theorem dL_law_863 : decode cL_law 863 = .ok (.aload_n 0, 1) := by decide +kernel
theorem dL_law_864 : decode cL_law 864 = .ok (.iload 4, 2) := by decide +kernel
theorem dL_law_866 : decode cL_law 866 = .ok (.iconst 2, 1) := by decide +kernel
theorem dL_law_867 : decode cL_law 867 = .ok (.iadd, 1) := by decide +kernel
theorem dL_law_868 : decode cL_law 868 = .ok (.iaload, 1) := by decide +kernel
theorem dL_law_869 : decode cL_law 869 = .ok (.invokevirtual 97, 3) := by decide +kernel
theorem dL_law_872 : decode cL_law 872 = .ok (.istore 6, 2) := by decide +kernel
theorem dL_law_874 : decode cL_law 874 = .ok (.aload_n 2, 1) := by decide +kernel
theorem dL_law_875 : decode cL_law 875 = .ok (.invokevirtual 98, 3) := by decide +kernel
theorem dL_law_878 : decode cL_law 878 = .ok (.iload 5, 2) := by decide +kernel
theorem dL_law_880 : decode cL_law 880 = .ok (.if_icmp .eq 5, 3) := by decide +kernel
theorem dL_law_883 : decode cL_law 883 = .ok (.iconst 0, 1) := by decide +kernel
theorem dL_law_884 : decode cL_law 884 = .ok (.ireturn, 1) := by decide +kernel
theorem dL_law_885 : decode cL_law 885 = .ok (.iload 5, 2) := by decide +kernel
theorem dL_law_887 : decode cL_law 887 = .ok (.ifCond .ne 15, 3) := by decide +kernel
theorem dL_law_890 : decode cL_law 890 = .ok (.aload_n 3, 1) := by decide +kernel
theorem dL_law_891 : decode cL_law 891 = .ok (.iconst 0, 1) := by decide +kernel
theorem dL_law_892 : decode cL_law 892 = .ok (.laload, 1) := by decide +kernel
theorem dL_law_893 : decode cL_law 893 = .ok (.iload 6, 2) := by decide +kernel
theorem dL_law_895 : decode cL_law 895 = .ok (.i2l, 1) := by decide +kernel
theorem dL_law_896 : decode cL_law 896 = .ok (.lcmp, 1) := by decide +kernel
theorem dL_law_897 : decode cL_law 897 = .ok (.ifCond .eq 5, 3) := by decide +kernel
theorem dL_law_900 : decode cL_law 900 = .ok (.iconst 0, 1) := by decide +kernel
theorem dL_law_901 : decode cL_law 901 = .ok (.ireturn, 1) := by decide +kernel
theorem dL_law_902 : decode cL_law 902 = .ok (.goto 77, 3) := by decide +kernel
theorem dL_law_905 : decode cL_law 905 = .ok (.aload_n 1, 1) := by decide +kernel
theorem dL_law_906 : decode cL_law 906 = .ok (.aload_n 0, 1) := by decide +kernel
theorem dL_law_907 : decode cL_law 907 = .ok (.iload 4, 2) := by decide +kernel
theorem dL_law_909 : decode cL_law 909 = .ok (.iconst 1, 1) := by decide +kernel
theorem dL_law_910 : decode cL_law 910 = .ok (.iadd, 1) := by decide +kernel
theorem dL_law_911 : decode cL_law 911 = .ok (.iaload, 1) := by decide +kernel
theorem dL_law_912 : decode cL_law 912 = .ok (.aload_n 0, 1) := by decide +kernel
theorem dL_law_913 : decode cL_law 913 = .ok (.iload 4, 2) := by decide +kernel
theorem dL_law_915 : decode cL_law 915 = .ok (.iconst 2, 1) := by decide +kernel
theorem dL_law_916 : decode cL_law 916 = .ok (.iadd, 1) := by decide +kernel
theorem dL_law_917 : decode cL_law 917 = .ok (.iaload, 1) := by decide +kernel
theorem dL_law_918 : decode cL_law 918 = .ok (.aload_n 0, 1) := by decide +kernel
theorem dL_law_919 : decode cL_law 919 = .ok (.iload 4, 2) := by decide +kernel
theorem dL_law_921 : decode cL_law 921 = .ok (.iconst 3, 1) := by decide +kernel
theorem dL_law_922 : decode cL_law 922 = .ok (.iadd, 1) := by decide +kernel
theorem dL_law_923 : decode cL_law 923 = .ok (.iaload, 1) := by decide +kernel
theorem dL_law_924 : decode cL_law 924 = .ok (.invokevirtual 101, 3) := by decide +kernel
theorem dL_law_927 : decode cL_law 927 = .ok (.aload_n 2, 1) := by decide +kernel
theorem dL_law_928 : decode cL_law 928 = .ok (.aload_n 0, 1) := by decide +kernel
theorem dL_law_929 : decode cL_law 929 = .ok (.iload 4, 2) := by decide +kernel
theorem dL_law_931 : decode cL_law 931 = .ok (.iconst 1, 1) := by decide +kernel
theorem dL_law_932 : decode cL_law 932 = .ok (.iadd, 1) := by decide +kernel
theorem dL_law_933 : decode cL_law 933 = .ok (.iaload, 1) := by decide +kernel
theorem dL_law_934 : decode cL_law 934 = .ok (.aload_n 0, 1) := by decide +kernel
theorem dL_law_935 : decode cL_law 935 = .ok (.iload 4, 2) := by decide +kernel
theorem dL_law_937 : decode cL_law 937 = .ok (.iconst 2, 1) := by decide +kernel
theorem dL_law_938 : decode cL_law 938 = .ok (.iadd, 1) := by decide +kernel
theorem dL_law_939 : decode cL_law 939 = .ok (.iaload, 1) := by decide +kernel
theorem dL_law_940 : decode cL_law 940 = .ok (.aload_n 0, 1) := by decide +kernel
theorem dL_law_941 : decode cL_law 941 = .ok (.iload 4, 2) := by decide +kernel
theorem dL_law_943 : decode cL_law 943 = .ok (.iconst 3, 1) := by decide +kernel
theorem dL_law_944 : decode cL_law 944 = .ok (.iadd, 1) := by decide +kernel
theorem dL_law_945 : decode cL_law 945 = .ok (.iaload, 1) := by decide +kernel
theorem dL_law_946 : decode cL_law 946 = .ok (.invokevirtual 104, 3) := by decide +kernel
theorem dL_law_949 : decode cL_law 949 = .ok (.if_icmp .eq 30, 3) := by decide +kernel
theorem dL_law_952 : decode cL_law 952 = .ok (.iconst 0, 1) := by decide +kernel
theorem dL_law_953 : decode cL_law 953 = .ok (.ireturn, 1) := by decide +kernel
theorem dL_law_954 : decode cL_law 954 = .ok (.aload_n 1, 1) := by decide +kernel
theorem dL_law_955 : decode cL_law 955 = .ok (.aload_n 0, 1) := by decide +kernel
theorem dL_law_956 : decode cL_law 956 = .ok (.iload 4, 2) := by decide +kernel
theorem dL_law_958 : decode cL_law 958 = .ok (.iconst 1, 1) := by decide +kernel
theorem dL_law_959 : decode cL_law 959 = .ok (.iadd, 1) := by decide +kernel
theorem dL_law_960 : decode cL_law 960 = .ok (.iaload, 1) := by decide +kernel
theorem dL_law_961 : decode cL_law 961 = .ok (.invokevirtual 105, 3) := by decide +kernel
theorem dL_law_964 : decode cL_law 964 = .ok (.aload_n 2, 1) := by decide +kernel
theorem dL_law_965 : decode cL_law 965 = .ok (.aload_n 0, 1) := by decide +kernel
theorem dL_law_966 : decode cL_law 966 = .ok (.iload 4, 2) := by decide +kernel
theorem dL_law_968 : decode cL_law 968 = .ok (.iconst 1, 1) := by decide +kernel
theorem dL_law_969 : decode cL_law 969 = .ok (.iadd, 1) := by decide +kernel
theorem dL_law_970 : decode cL_law 970 = .ok (.iaload, 1) := by decide +kernel
theorem dL_law_971 : decode cL_law 971 = .ok (.invokevirtual 108, 3) := by decide +kernel
theorem dL_law_974 : decode cL_law 974 = .ok (.if_icmp .eq 5, 3) := by decide +kernel
theorem dL_law_977 : decode cL_law 977 = .ok (.iconst 0, 1) := by decide +kernel
theorem dL_law_978 : decode cL_law 978 = .ok (.ireturn, 1) := by decide +kernel
theorem dL_law_979 : decode cL_law 979 = .ok (.iinc 4 6, 3) := by decide +kernel
theorem dL_law_982 : decode cL_law 982 = .ok (.goto (-959), 3) := by decide +kernel
theorem dL_law_985 : decode cL_law 985 = .ok (.iconst 1, 1) := by decide +kernel
theorem dL_law_986 : decode cL_law 986 = .ok (.ireturn, 1) := by decide +kernel
end
section
/-! ===== numbers ===== -/
def iI (z : Int) : Int32 := Int32.ofInt z
def lI (z : Int) : Int64 := Int64.ofInt z
def inR (z : Int) : Prop := -2147483648 ≤ z ∧ z ≤ 2147483647
def inL (z : Int) : Prop := -9223372036854775808 ≤ z ∧ z ≤ 9223372036854775807
theorem iI_add (a b : Int) : iI (a + b) = iI a + iI b := Int32.ofInt_add a b
theorem iI_sub (a b : Int) : iI (a - b) = iI a - iI b := Int32.ofInt_sub a b
theorem iI_mul (a b : Int) : iI (a * b) = iI a * iI b := Int32.ofInt_mul a b
theorem iI_neg (a : Int) : iI (-a) = -iI a := Int32.ofInt_neg a
theorem lI_add (a b : Int) : lI (a + b) = lI a + lI b := Int64.ofInt_add a b
theorem iI_toInt {z : Int} (h : inR z) : (iI z).toInt = z := Int32.toInt_ofInt_of_le (by have := h.1; omega) (by have := h.2; omega)
theorem lI_toInt {z : Int} (h : inL z) : (lI z).toInt = z := Int64.toInt_ofInt_of_le (by have := h.1; omega) (by have := h.2; omega)
theorem iI_of (x : Int32) : x = iI x.toInt := (Int32.ofInt_toInt x).symm
theorem iI_in (x : Int32) : inR x.toInt := ⟨by have := Int32.le_toInt x; omega, by have := Int32.toInt_lt x; omega⟩
theorem iI_lt {a b : Int} (ha : inR a) (hb : inR b) : iI a < iI b ↔ a < b := by rw [Int32.lt_iff_toInt_lt, iI_toInt ha, iI_toInt hb]
theorem iI_le {a b : Int} (ha : inR a) (hb : inR b) : iI a ≤ iI b ↔ a ≤ b := by rw [Int32.le_iff_toInt_le, iI_toInt ha, iI_toInt hb]
theorem iI_eq {a b : Int} (ha : inR a) (hb : inR b) : iI a = iI b ↔ a = b := by rw [← Int32.toInt_inj, iI_toInt ha, iI_toInt hb]
theorem lI_eq {a b : Int} (ha : inL a) (hb : inL b) : lI a = lI b ↔ a = b := by rw [← Int64.toInt_inj, lI_toInt ha, lI_toInt hb]
theorem inR_0 : inR 0 := ⟨by decide, by decide⟩
theorem iI_0 : iI 0 = 0 := by decide
theorem iI_clamp {j : Int} (h0 : 0 ≤ j) (h : j ≤ 2147483647) : (iI j).toNatClampNeg = j.toNat := Int32.toNatClampNeg_ofInt_of_le (by omega) (by omega)
theorem iI_vin {j : Int} {n : Nat} (h0 : 0 ≤ j) (h1 : j < n) (hn : j ≤ 2147483647) : vp_in (iI j) n := by
  rw [vp_in_iff, iI_toInt ⟨by omega, hn⟩]
  exact ⟨h0, h1⟩
/-! ===== update of a function ===== -/
def up {α β : Type} [DecidableEq α] (f : α → β) (a : α) (b : β) : α → β := fun x => if x = a then b else f x
theorem up_s {α β : Type} [DecidableEq α] (f : α → β) (a : α) (b : β) : up f a b a = b := by simp [up]
theorem up_n {α β : Type} [DecidableEq α] (f : α → β) {a x : α} (b : β) (h : x ≠ a) : up f a b x = f x := by simp [up, h]
/-! ===== words ===== -/
def UG : List Cond := lw_tbl.filter goodWord
theorem UG_of {w : Cond} {i : Nat} (h : lw_tbl[i]? = some w) (g : goodWord w = true) : w ∈ UG := List.mem_filter.mpr ⟨List.mem_of_getElem? h, g⟩
theorem UG_tbl {w : Cond} (h : w ∈ UG) : w ∈ lw_tbl := (List.mem_filter.mp h).1
theorem UG_good {w : Cond} (h : w ∈ UG) : goodWord w = true := (List.mem_filter.mp h).2
theorem UG_in {c c0 : Cond} (h : c ∈ UG) : GoodIn (c0 :: UG) (c :: UG) := fun w hw => by
  rcases List.mem_cons.mp hw with e | e
  · subst e; exact ⟨List.mem_cons_of_mem _ h, good_of_word (UG_good h)⟩
  · exact ⟨List.mem_cons_of_mem _ e, good_of_word (UG_good e)⟩
theorem UG_in2 {c : Cond} (h : c ∈ UG) : GoodIn UG (c :: UG) := fun w hw => by
  rcases List.mem_cons.mp hw with e | e
  · subst e; exact ⟨h, good_of_word (UG_good h)⟩
  · exact ⟨e, good_of_word (UG_good e)⟩
/-! ===== the picture of the heap ===== -/
abbrev sS : Type := Nat → Option (Nat × Nat)
abbrev sR : Type := Nat → Int → Option Nat
abbrev sH : Type := Nat → Int → Int
def tyc (ci : Nat) : Nat → FieldType := match ci with
  | 0 => tyX0 | 1 => tyX1 | 2 => tyX2 | 3 => tyX3 | 4 => tyX4 | 5 => tyX5 | 6 => tyX6 | 7 => tyX7 | 8 => tyX8 | 9 => tyX9 | 10 => tyX10 | 11 => tyX11 | _ => tyX12
def isRf (t : FieldType) : Bool := match t with
  | .int => false
  | .boolean => false
  | _ => true
def fv (ci k : Nat) (ra : Int → Option Nat) (ha : Int → Int) : Value := if isRf (tyc ci k) then va_rf (ra k) else .int (iI (ha k))
def av (kd : Nat) (x : Option Nat) (z : Int) : Value := if kd = 23 then .long (lI z) else if kd < 24 then .int (iI z) else va_rf x
def cellAt (D : va_G) (aC : Nat → ClassId) (kd n : Nat) (ra : Int → Option Nat) (ha : Int → Int) (a : Nat) (H : Heap) : Prop :=
  if kd < 20 then ∃ q : vw_C, vwCl[kd]? = some q ∧ t_OB a (D.1 kd) q.2.2 (D.2 kd) H (fun k => fv kd k ra ha)
  else H[a]? = some (arrV (aC kd) n (fun j => av kd (ra j) (ha j)))
def Rel (D : va_G) (aC : Nat → ClassId) (B sz : Nat) (S : sS) (r : sR) (h : sH) (H : Heap) : Prop :=
  H.size = sz ∧ ∀ (a kd n : Nat), S a = some (kd, n) → B ≤ a ∧ n ≤ 2147483647 ∧ cellAt D aC kd n (r a) (h a) a H
theorem cellAt.kept {D : va_G} {aC : Nat → ClassId} {kd n : Nat} {ra : Int → Option Nat} {ha : Int → Int} {a : Nat} {H H1 : Heap} (h : cellAt D aC kd n ra ha a H) (e : H1[a]? = H[a]?) : cellAt D aC kd n ra ha a H1 := by
  unfold cellAt at h ⊢
  split at h
  · rename_i hk
    rw [if_pos hk]
    obtain ⟨q, h1, h2⟩ := h
    exact ⟨q, h1, h2.kept e⟩
  · rename_i hk
    rw [if_neg hk, e]
    exact h
theorem cellAt.lt {D : va_G} {aC : Nat → ClassId} {kd n : Nat} {ra : Int → Option Nat} {ha : Int → Int} {a : Nat} {H : Heap} (h : cellAt D aC kd n ra ha a H) : a < H.size := by
  unfold cellAt at h
  split at h
  · obtain ⟨q, h1, cell, h2, -⟩ := h
    exact (Array.getElem?_eq_some_iff.mp h2).1
  · exact (Array.getElem?_eq_some_iff.mp h).1
theorem cellAt.obj {D : va_G} {aC : Nat → ClassId} {kd n : Nat} {ra : Int → Option Nat} {ha : Int → Int} {a : Nat} {H : Heap} (h : cellAt D aC kd n ra ha a H) (hk : kd < 20) : ∃ q : vw_C, vwCl[kd]? = some q ∧ t_OB a (D.1 kd) q.2.2 (D.2 kd) H (fun k => fv kd k ra ha) := by
  unfold cellAt at h; rw [if_pos hk] at h; exact h
theorem cellAt.arr {D : va_G} {aC : Nat → ClassId} {kd n : Nat} {ra : Int → Option Nat} {ha : Int → Int} {a : Nat} {H : Heap} (h : cellAt D aC kd n ra ha a H) (hk : ¬ kd < 20) : H[a]? = some (arrV (aC kd) n (fun j => av kd (ra j) (ha j))) := by
  unfold cellAt at h; rw [if_neg hk] at h; exact h
/-- one cell changes: its new contents are there, all else as it was -/
theorem Rel.seth {D : va_G} {aC : Nat → ClassId} {B sz : Nat} {S : sS} {r : sR} {h : sH} {H H1 : Heap} (R : Rel D aC B sz S r h H) {a kd n : Nat} (ha : S a = some (kd, n)) (f : Int → Int) (z : H1.size = H.size) (o : ∀ q : Nat, q ≠ a → H1[q]? = H[q]?) (e : cellAt D aC kd n (r a) f a H1) : Rel D aC B sz S r (up h a f) H1 := by
  refine ⟨by rw [z]; exact R.1, fun b kd2 n2 hb => ?_⟩
  obtain ⟨q1, q2, q3⟩ := R.2 b kd2 n2 hb
  refine ⟨q1, q2, ?_⟩
  by_cases hba : b = a
  · subst hba
    cases hb.symm.trans ha
    rw [up_s]
    exact e
  · rw [up_n _ _ hba]
    exact q3.kept (o b hba)
theorem Rel.setr {D : va_G} {aC : Nat → ClassId} {B sz : Nat} {S : sS} {r : sR} {h : sH} {H H1 : Heap} (R : Rel D aC B sz S r h H) {a kd n : Nat} (ha : S a = some (kd, n)) (f : Int → Option Nat) (z : H1.size = H.size) (o : ∀ q : Nat, q ≠ a → H1[q]? = H[q]?) (e : cellAt D aC kd n f (h a) a H1) : Rel D aC B sz S (up r a f) h H1 := by
  refine ⟨by rw [z]; exact R.1, fun b kd2 n2 hb => ?_⟩
  obtain ⟨q1, q2, q3⟩ := R.2 b kd2 n2 hb
  refine ⟨q1, q2, ?_⟩
  by_cases hba : b = a
  · subst hba
    cases hb.symm.trans ha
    rw [up_s]
    exact e
  · rw [up_n _ _ hba]
    exact q3.kept (o b hba)
/-! ===== what the tables say, and the table of the signs' values ===== -/
def tysL (aC : Nat → ClassId) : List (ClassId × FieldType) := [(aC 20, .int), (aC 21, .byte), (aC 22, .boolean), (aC 23, .long), (aC 24, .object "MileLists$Name"), (aC 25, .object "MileLists$Numeral"), (aC 26, .object "MileLists$Route"), (aC 27, .object "MileLists$Find"), (aC 28, .object "MileLists$Readings"), (aC 29, .array .int)]
def svI (j : Int) : Int := if j = 1 then 1 else if j = 2 then 5 else if j = 3 then 10 else if j = 4 then 50 else 0
def nwM : List (String × Nat × MethodName) := [(RX11, 11, yX10_init), (RX11, 18, yX3_init), (RX11, 25, yX8_init), (RX11, 53, yX1_init), (RX0, 9, yX3_init), (RX2, 27, yX0_init), (RX5, 33, yX6_init), (RX7, 27, yX3_init), (RX7, 28, yX4_init)]
def nwF : List (String × Nat) := [(RX1, 35), (RX4, 29)]
def KK (D : va_G) (aC : Nat → ClassId) (B t : Nat) (U : State) : Prop :=
  va_K D vwCl (tysL aC) U ∧ va_Z "MileLists" "SIGN_VALUES" "[I" (.ref t) (fun q => B ≤ q) U U.heap ∧ va_T .int t 5 (fun j => .int (iI (svI j))) (fun q => B ≤ q) U U.heap ∧
  (∀ q ∈ nwM, va_Nw (.methodLinkNest q.1 q.2.1 q.2.2 "MileLists") U) ∧ (∀ q ∈ nwF, va_Nw (.fieldLinkNest q.1 q.2 "MileLists" "SIGN_VALUES" "[I" "MileLists") U) ∧ B ≤ U.heap.size
theorem KK.moved {D : va_G} {aC : Nat → ClassId} {B t : Nat} {s U : State} (h : KK D aC B t s) (hW : s.WarmedH U.vm) (z : s.heap.size ≤ U.heap.size) (o : ∀ q : Nat, q < s.heap.size → ¬ B ≤ q → U.heap[q]? = s.heap[q]?) : KK D aC B t U :=
  ⟨h.1.moved hW.alike, (h.2.1.moved hW.alike).kept o, (h.2.2.1.moved hW.alike).kept o, fun q hq => va_Nw.warmM hW (h.2.2.2.1 q hq), fun q hq => va_Nw.warmF hW (h.2.2.2.2.1 q hq), Nat.le_trans h.2.2.2.2.2 z⟩
/-! ===== the context of a walk ===== -/
abbrev CX : Type := Program × Launch × Env × Room × State × MethodId × Array Value × List Frame × Method × Code × (State → Prop) × va_G × (Nat → ClassId) × Nat × Nat
abbrev xp (X : CX) : Program := X.1
abbrev xl (X : CX) : Launch := X.2.1
abbrev xe (X : CX) : Env := X.2.2.1
abbrev xR (X : CX) : Room := X.2.2.2.1
abbrev xs (X : CX) : State := X.2.2.2.2.1
abbrev xm (X : CX) : MethodId := X.2.2.2.2.2.1
abbrev xa (X : CX) : Array Value := X.2.2.2.2.2.2.1
abbrev xb (X : CX) : List Frame := X.2.2.2.2.2.2.2.1
abbrev xh (X : CX) : Method := X.2.2.2.2.2.2.2.2.1
abbrev xc (X : CX) : Code := X.2.2.2.2.2.2.2.2.2.1
abbrev xQ (X : CX) : State → Prop := X.2.2.2.2.2.2.2.2.2.2.1
abbrev xD (X : CX) : va_G := X.2.2.2.2.2.2.2.2.2.2.2.1
abbrev xA (X : CX) : Nat → ClassId := X.2.2.2.2.2.2.2.2.2.2.2.2.1
abbrev xB (X : CX) : Nat := X.2.2.2.2.2.2.2.2.2.2.2.2.2.1
abbrev xt (X : CX) : Nat := X.2.2.2.2.2.2.2.2.2.2.2.2.2.2
def LV (ls : Array Slot) (lv : List (Option Value)) : Prop := ls.size = lv.length ∧ lv_wf ls ∧ ∀ (i : Nat) (v : Value), lv[i]? = some (some v) → ls[i]? = some (.val v)
def WX (X : CX) (k n : Nat) (H : Heap) (locs : List Loc) (g : JFrame) : Prop := W (xp X) (xl X) (xe X) (xR X) (xs X) (xm X) (xa X) (xb X) (xh X) (xc X) H locs k n (xQ X) g
def G (X : CX) (k n pc : Nat) (lv : List (Option Value)) (st : List Value) (sz : Nat) (S : sS) (r : sR) (h : sH) : Prop :=
  ∀ (ls : Array Slot) (H : Heap) (locs : List Loc), LV ls lv → Rel (xD X) (xA X) (xB X) sz S r h H → va_S (fun q => xB X ≤ q) (xs X).heap H locs → WX X k n H locs (F0 (xm X) pc ls st)
def Ok (X : CX) (cc : ByteArray) (own : String) (nL fr lo mc ms : Nat) : Prop :=
  (xp X).tables.exec = Jvm.exec ∧ (xc X).code = cc ∧ (xc X).maxLocals = nL ∧ (xs X).vm.findClass own = some (xm X).cls ∧ (∀ w ∈ UG, w.before (xa X) (xs X) = true) ∧ KK (xD X) (xA X) (xB X) (xt X) (xs X) ∧ (xR X).frames = fr ∧ (xR X).cells = mc ∧ (xR X).slots = ms ∧ (xR X).locals = lo
abbrev sP : Type := Option Value → Nat → sS → sR → sH → Prop
def QP (D : va_G) (aC : Nat → ClassId) (B : Nat) (P : sP) : Array Value → State → Outcome → State → Prop := fun _ st oc tt =>
  (∃ (v : Option Value) (sz : Nat) (S : sS) (r : sR) (h : sH), oc = .returned v ∧ P v sz S r h ∧ Rel D aC B sz S r h tt.heap) ∧ va_F (fun q => B ≤ q) st tt
def Rt (X : CX) (ret : Option FieldType) (mc ms : Nat) (P : sP) : Prop :=
  (xh X).locks = false ∧ (xh X).sig.returnType = ret ∧ xQ X = MQ (xb X) (QP (xD X) (xA X) (xB X) P) (xa X) (xs X) mc ms (fun q => xB X ≤ q)
/-- a method's contract: from the arguments av and the picture (sz, S, r, h) it returns, P holds of the answer and of the picture behind it -/
def Ct (l : Launch) (y : MethodName) (cc : ByteArray) (maxL : Nat) (ret : Option FieldType) (fr lo mc ms : Nat) (av : List Value) (D : va_G) (aC : Nat → ClassId) (B t sz : Nat) (S : sS) (r : sR) (h : sH) (P : sP) : Prop :=
  Met l y (Cond.code y cc maxL ret :: UG) ({ frames := fr, cells := mc, slots := ms, locals := lo } : Room) (va_Pc av (fun U => Rel D aC B sz S r h U.heap ∧ KK D aC B t U)) (QP D aC B P) mc ms (fun q => B ≤ q)
/-! ===== locals ===== -/
def vo (s : Slot) : Option Value := match s with
  | .val v => some v
  | _ => none
def elv (vs : List Value) (n : Nat) : List (Option Value) := (lg_sl vs ++ List.replicate (n - (lg_sl vs).length) Slot.unset).map vo
theorem LV.entry (vs : List Value) {n : Nat} (h : (lg_sl vs).length ≤ n) : LV ((lg_sl vs ++ List.replicate (n - (lg_sl vs).length) Slot.unset).toArray) (elv vs n) := by
  have e := lv_entry vs h
  refine ⟨by simp [elv], e.2.1, fun i v hv => ?_⟩
  unfold elv at hv
  rw [List.getElem?_map] at hv
  rw [List.getElem?_toArray]
  cases hx : (lg_sl vs ++ List.replicate (n - (lg_sl vs).length) Slot.unset)[i]? with
  | none => rw [hx] at hv; cases hv
  | some x =>
    rw [hx] at hv
    cases x with
    | val w => cases hv; rfl
    | second => cases hv
    | unset => cases hv
def lvA (lv : List (Option Value)) : List (Nat × Value) := (List.range lv.length).filterMap (fun j => match lv[j]? with
  | some (some w) => some (j, w)
  | _ => none)
theorem lvA_mem {lv : List (Option Value)} {q : Nat × Value} : q ∈ lvA lv ↔ lv[q.1]? = some (some q.2) := by
  unfold lvA
  rw [List.mem_filterMap]
  constructor
  · rintro ⟨j, -, hj⟩
    split at hj
    · rename_i w hw
      cases hj
      exact hw
    · cases hj
  · intro hq
    refine ⟨q.1, List.mem_range.mpr (List.getElem?_eq_some_iff.mp hq).1, ?_⟩
    rw [hq]
theorem LV.has {ls : Array Slot} {lv : List (Option Value)} (h : LV ls lv) : lv_has ls lv.length (lvA lv) := ⟨h.1, h.2.1, fun q hq => h.2.2 q.1 q.2 (lvA_mem.mp hq)⟩
def noL (o : Option Value) : Bool := match o with
  | some w => w.category != 2
  | none => true
def noP (lv : List (Option Value)) (i : Nat) : Bool := match i with
  | 0 => true
  | j + 1 => noL (lv.getD j none)
theorem LV.store1 {ls : Array Slot} {lv : List (Option Value)} {i : Nat} {v : Value} (h : LV ls lv) (hi : i < lv.length) (hc : v.category = 1) (hp : noP lv i = true) : ∃ ls', storeLocals ls i v = some ls' ∧ LV ls' (lv.set i (some v)) := by
  obtain ⟨ls', e, q1, q2, q3⟩ := lv_store1 h.has hi hc
  refine ⟨ls', e, by rw [List.length_set]; exact q1, q2, fun j w hj => ?_⟩
  by_cases hij : j = i
  · subst hij
    rw [List.getElem?_set_self hi] at hj
    cases hj
    exact q3 (j, v) List.mem_cons_self
  · rw [List.getElem?_set_ne (Ne.symm hij)] at hj
    refine q3 (j, w) (List.mem_cons_of_mem _ (List.mem_filter.mpr ⟨lvA_mem.mpr hj, ?_⟩))
    simp only [Bool.and_eq_true, Bool.not_eq_true', beq_eq_false_iff_ne, ne_eq, hij, not_false_eq_true, true_and, Bool.and_eq_false_iff]
    by_cases hji : j + 1 = i
    · right
      subst hji
      simp only [noP, List.getD, hj, Option.getD, noL] at hp
      simpa using hp
    · left; exact hji
theorem LV.store2 {ls : Array Slot} {lv : List (Option Value)} {i : Nat} {v : Value} (h : LV ls lv) (hi : i + 1 < lv.length) (hc : v.category = 2) (hp : noP lv i = true) : ∃ ls', storeLocals ls i v = some ls' ∧ LV ls' ((lv.set i (some v)).set (i + 1) none) := by
  obtain ⟨ls', e, q1, q2, q3⟩ := lv_store2 h.has hi hc
  refine ⟨ls', e, by rw [List.length_set, List.length_set]; exact q1, q2, fun j w hj => ?_⟩
  by_cases hi1 : j = i + 1
  · subst hi1
    rw [List.getElem?_set_self (by rw [List.length_set]; exact hi)] at hj
    cases hj
  · rw [List.getElem?_set_ne (Ne.symm hi1)] at hj
    by_cases hij : j = i
    · subst hij
      rw [List.getElem?_set_self (by omega)] at hj
      cases hj
      exact q3 (j, v) List.mem_cons_self
    · rw [List.getElem?_set_ne (Ne.symm hij)] at hj
      refine q3 (j, w) (List.mem_cons_of_mem _ (List.mem_filter.mpr ⟨lvA_mem.mpr hj, ?_⟩))
      simp only [Bool.and_eq_true, Bool.not_eq_true', beq_eq_false_iff_ne, ne_eq, hij, hi1, not_false_eq_true, true_and, Bool.and_eq_false_iff]
      by_cases hji : j + 1 = i
      · right
        subst hji
        simp only [noP, List.getD, hj, Option.getD, noL] at hp
        simpa using hp
      · left; exact hji
/-! ===== a contract out of a walk ===== -/
theorem Ct.of {l : Launch} {y : MethodName} {cc : ByteArray} {maxL : Nat} {ret : Option FieldType} {fr lo mc ms : Nat} {av : List Value} {D : va_G} {aC : Nat → ClassId} {B t sz : Nat} {S : sS} {r : sR} {h : sH} {P : sP} {lv : List (Option Value)}
    (hy : plainName y.cls = true) (hlv : elv av maxL = lv) (hlen : (lg_sl av).length ≤ maxL)
    (body : ∀ X : CX, xl X = l → Ok X cc y.cls maxL fr lo mc ms → Rt X ret mc ms P → (xh X).name = y.name → G X 0 0 0 lv [] sz S r h) : Ct l y cc maxL ret fr lo mc ms av D aC B t sz S r h P := by
  refine Met.ofW (cc := cc) (maxL := maxL) (ret := ret) hy rfl ?_
  intro p e s m args below meth c s₁ Bd hml hv
  obtain ⟨rfl, hRel, hKK⟩ := hv
  have hts := atoms_spec (ws := Cond.code y cc maxL ret :: UG) Bd.pre
  have g := body (p, l, e, (headSpec (Cond.code y cc maxL ret :: UG) ({ frames := fr, cells := mc, slots := ms, locals := lo } : Room)).room, s, m, av.toArray, below, meth, c, MQ below (QP D aC B P) av.toArray s mc ms (fun q => B ≤ q), D, aC, B, t) rfl
    ⟨Bd.exec, Bd.bytes, hml, findClass_of_methodNamed Bd.named, fun w hw => hts w (List.mem_cons_of_mem _ hw), hKK, rfl, rfl, rfl, rfl⟩ ⟨Bd.notSynchronized, Bd.returns, rfl⟩ (name_of_methodNamed Bd.named Bd.method).1
  have := g _ s.heap [] (by rw [← hlv]; exact LV.entry av hlen) hRel va_S.rf
  rw [lg_entry_eq]
  exact this
end
section
section RW
variable {X : CX} {k n pc : Nat} {lv : List (Option Value)} {st : List Value} {sz : Nat} {S : sS} {r : sR} {h : sH} {cc : ByteArray} {own : String} {nL fr lo mc ms : Nat}
theorem Ok.exec (q : Ok X cc own nL fr lo mc ms) : (xp X).tables.exec = Jvm.exec := q.1
theorem Ok.byt (q : Ok X cc own nL fr lo mc ms) : (xc X).code = cc := q.2.1
theorem Ok.ml (q : Ok X cc own nL fr lo mc ms) : (xc X).maxLocals = nL := q.2.2.1
theorem Ok.ow (q : Ok X cc own nL fr lo mc ms) : (xs X).vm.findClass own = some (xm X).cls := q.2.2.2.1
theorem Ok.w (q : Ok X cc own nL fr lo mc ms) {c : Cond} (h : c ∈ UG) : c.before (xa X) (xs X) = true := q.2.2.2.2.1 c h
theorem Ok.kk (q : Ok X cc own nL fr lo mc ms) : KK (xD X) (xA X) (xB X) (xt X) (xs X) := q.2.2.2.2.2.1
theorem Ok.va (q : Ok X cc own nL fr lo mc ms) : va_K (xD X) vwCl (tysL (xA X)) (xs X) := q.kk.1
/-- the pc as a number -/
theorem r_pc {pc2 : Nat} (e : pc = pc2) (kk : G X k n pc2 lv st sz S r h) : G X k n pc lv st sz S r h := e ▸ kk
/-- another word for the top -/
theorem r_top {v v2 : Value} (e : v = v2) (kk : G X k n pc lv (v2 :: st) sz S r h) : G X k n pc lv (v :: st) sz S r h := e ▸ kk
theorem r_topi {x y : Int} (e : x = y) (kk : G X k n pc lv (.int (iI y) :: st) sz S r h) : G X k n pc lv (.int (iI x) :: st) sz S r h := e ▸ kk
theorem r_widen {k2 n2 : Nat} (h1 : k ≤ k2) (h2 : n ≤ n2) (kk : G X k2 n2 pc lv st sz S r h) : G X k n pc lv st sz S r h := fun ls H locs a b c => W.widen h1 h2 (kk ls H locs a b c)

theorem r_iconst (q : Ok X cc own nL fr lo mc ms) {z : Int} (hd : decode cc pc = .ok (.iconst z, 1)) (kk : G X k n (pc + 1) lv (.int (iI z) :: st) sz S r h) : G X k n pc lv st sz S r h := fun ls H locs a b c => lv_iconst (v := iI z) q.exec q.byt hd rfl (kk ls H locs a b c)
theorem r_bipush (q : Ok X cc own nL fr lo mc ms) {z : Int} (hd : decode cc pc = .ok (.bipush z, 2)) (hv : (Int8.ofInt z).toInt32 = iI z) (kk : G X k n (pc + 2) lv (.int (iI z) :: st) sz S r h) : G X k n pc lv st sz S r h := fun ls H locs a b c => lv_bipush (v := iI z) q.exec q.byt hd hv (kk ls H locs a b c)
theorem r_sipush (q : Ok X cc own nL fr lo mc ms) {z : Int} (hd : decode cc pc = .ok (.sipush z, 3)) (hv : (Int16.ofInt z).toInt32 = iI z) (kk : G X k n (pc + 3) lv (.int (iI z) :: st) sz S r h) : G X k n pc lv st sz S r h := fun ls H locs a b c => lv_sipush (v := iI z) q.exec q.byt hd hv (kk ls H locs a b c)
theorem r_lconst (q : Ok X cc own nL fr lo mc ms) {z : Fin 2} (hd : decode cc pc = .ok (.lconst z, 1)) (hv : Int64.ofNat (z : Nat) = lI (z : Nat)) (kk : G X k n (pc + 1) lv (.long (lI (z : Nat)) :: st) sz S r h) : G X k n pc lv st sz S r h := fun ls H locs a b c => lv_lconst (v := lI (z : Nat)) q.exec q.byt hd hv (kk ls H locs a b c)
def LC (own : String) (index : Nat) (z : Int) : Prop := Cond.constant own index (iI z) ∈ UG
def LCL (own : String) (index : Nat) (z : Int) : Prop := Cond.constantLong own index (lI z) ∈ UG
theorem r_ldc (q : Ok X cc own nL fr lo mc ms) {i : Nat} {z : Int} (hc : LC own i z) (hd : decode cc pc = .ok (.ldc i, 2)) (kk : G X k n (pc + 2) lv (.int (iI z) :: st) sz S r h) : G X k n pc lv st sz S r h := fun ls H locs a b c => lv_ldc q.exec q.byt q.ow (q.w hc) hd (kk ls H locs a b c)
theorem r_ldc_w (q : Ok X cc own nL fr lo mc ms) {i : Nat} {z : Int} (hc : LC own i z) (hd : decode cc pc = .ok (.ldc_w i, 3)) (kk : G X k n (pc + 3) lv (.int (iI z) :: st) sz S r h) : G X k n pc lv st sz S r h := fun ls H locs a b c => lv_ldcw q.exec q.byt q.ow (q.w hc) hd (kk ls H locs a b c)
theorem r_ldc2_w (q : Ok X cc own nL fr lo mc ms) {i : Nat} {z : Int} (hc : LCL own i z) (hd : decode cc pc = .ok (.ldc2_w i, 3)) (kk : G X k n (pc + 3) lv (.long (lI z) :: st) sz S r h) : G X k n pc lv st sz S r h := fun ls H locs a b c => lv_ldc2 q.exec q.byt q.ow (q.w hc) hd (kk ls H locs a b c)
theorem LV.back {ls : Array Slot} {lv : List (Option Value)} {nl : Nat} {l : List (Nat × Value)} (h : lv_has ls nl l) (hn : lv.length = nl) (hs : ∀ (j : Nat) (w : Value), lv[j]? = some (some w) → (j, w) ∈ l) : LV ls lv := ⟨h.1.trans hn.symm, h.2.1, fun i v hv => h.2.2 (i, v) (hs i v hv)⟩
theorem sub1 {lv : List (Option Value)} {i : Nat} {v : Value} (hi : i < lv.length) (hp : noP lv i = true) : ∀ (j : Nat) (w : Value), (lv.set i (some v))[j]? = some (some w) → (j, w) ∈ (i, v) :: (lvA lv).filter (fun q => !(q.1 == i) && !(q.1 + 1 == i && q.2.category == 2)) := by
  intro j w hj
  by_cases hij : j = i
  · subst hij
    rw [List.getElem?_set_self hi] at hj
    cases hj
    exact List.mem_cons_self
  · rw [List.getElem?_set_ne (Ne.symm hij)] at hj
    refine List.mem_cons_of_mem _ (List.mem_filter.mpr ⟨lvA_mem.mpr hj, ?_⟩)
    simp only [Bool.and_eq_true, Bool.not_eq_true', beq_eq_false_iff_ne, ne_eq, hij, not_false_eq_true, true_and, Bool.and_eq_false_iff]
    by_cases hji : j + 1 = i
    · right
      subst hji
      simp only [noP, List.getD, hj, Option.getD, noL] at hp
      simpa using hp
    · left; exact hji
theorem sub2 {lv : List (Option Value)} {i : Nat} {v : Value} (hi : i + 1 < lv.length) (hp : noP lv i = true) : ∀ (j : Nat) (w : Value), ((lv.set i (some v)).set (i + 1) none)[j]? = some (some w) → (j, w) ∈ (i, v) :: (lvA lv).filter (fun q => !(q.1 == i) && (!(q.1 == i + 1) && !(q.1 + 1 == i && q.2.category == 2))) := by
  intro j w hj
  by_cases hi1 : j = i + 1
  · subst hi1
    rw [List.getElem?_set_self (by rw [List.length_set]; exact hi)] at hj
    cases hj
  · rw [List.getElem?_set_ne (Ne.symm hi1)] at hj
    by_cases hij : j = i
    · subst hij
      rw [List.getElem?_set_self (by omega)] at hj
      cases hj
      exact List.mem_cons_self
    · rw [List.getElem?_set_ne (Ne.symm hij)] at hj
      refine List.mem_cons_of_mem _ (List.mem_filter.mpr ⟨lvA_mem.mpr hj, ?_⟩)
      simp only [Bool.and_eq_true, Bool.not_eq_true', beq_eq_false_iff_ne, ne_eq, hij, hi1, not_false_eq_true, true_and, Bool.and_eq_false_iff]
      by_cases hji : j + 1 = i
      · right
        subst hji
        simp only [noP, List.getD, hj, Option.getD, noL] at hp
        simpa using hp
      · left; exact hji
theorem g_store1 (q : Ok X cc own nL fr lo mc ms) {i ln : Nat} {v : Value} {lv' : List (Option Value)} (hl : lv.set i (some v) = lv') (hi : i < lv.length) (hp : noP lv i = true)
    (row : ∀ (ls : Array Slot) (H : Heap) (locs : List Loc), (lv_has ls lv.length (lvA lv) ∧ i < lv.length ∧ ∀ (ls' : Array Slot), lv_has ls' lv.length ((i, v) :: (lvA lv).filter (fun q => !(q.1 == i) && !(q.1 + 1 == i && q.2.category == 2))) → W (xp X) (xl X) (xe X) (xR X) (xs X) (xm X) (xa X) (xb X) (xh X) (xc X) H locs k n (xQ X) (F0 (xm X) (pc + ln) ls' st)) → W (xp X) (xl X) (xe X) (xR X) (xs X) (xm X) (xa X) (xb X) (xh X) (xc X) H locs k n (xQ X) (F0 (xm X) pc ls (v :: st)))
    (kk : G X k n (pc + ln) lv' st sz S r h) : G X k n pc lv (v :: st) sz S r h := by
  subst hl
  intro ls H locs a b c
  exact row ls H locs ⟨a.has, hi, fun ls' h' => kk ls' H locs (LV.back h' (by simp) (sub1 hi hp)) b c⟩
theorem g_store2 (q : Ok X cc own nL fr lo mc ms) {i ln : Nat} {v : Value} {lv' : List (Option Value)} (hl : (lv.set i (some v)).set (i + 1) none = lv') (hi : i + 1 < lv.length) (hp : noP lv i = true)
    (row : ∀ (ls : Array Slot) (H : Heap) (locs : List Loc), (lv_has ls lv.length (lvA lv) ∧ i + 1 < lv.length ∧ ∀ (ls' : Array Slot), lv_has ls' lv.length ((i, v) :: (lvA lv).filter (fun q => !(q.1 == i) && (!(q.1 == i + 1) && !(q.1 + 1 == i && q.2.category == 2)))) → W (xp X) (xl X) (xe X) (xR X) (xs X) (xm X) (xa X) (xb X) (xh X) (xc X) H locs k n (xQ X) (F0 (xm X) (pc + ln) ls' st)) → W (xp X) (xl X) (xe X) (xR X) (xs X) (xm X) (xa X) (xb X) (xh X) (xc X) H locs k n (xQ X) (F0 (xm X) pc ls (v :: st)))
    (kk : G X k n (pc + ln) lv' st sz S r h) : G X k n pc lv (v :: st) sz S r h := by
  subst hl
  intro ls H locs a b c
  exact row ls H locs ⟨a.has, hi, fun ls' h' => kk ls' H locs (LV.back h' (by simp) (sub2 hi hp)) b c⟩
theorem g_iinc (q : Ok X cc own nL fr lo mc ms) {i : Nat} {x z : Int} {lv' : List (Option Value)} (hl : lv.set i (some (.int (iI (x + z)))) = lv') (hi : lv[i]? = some (some (.int (iI x)))) (hp : noP lv i = true) (hd : decode cc pc = .ok (.iinc i z, 3)) (kk : G X k n (pc + 3) lv' st sz S r h) : G X k n pc lv st sz S r h := by
  subst hl
  intro ls H locs a b c
  have hlt := (List.getElem?_eq_some_iff.mp hi).1
  obtain ⟨j, hj⟩ := List.getElem?_of_mem (lvA_mem (q := (i, .int (iI x))).mpr hi)
  exact lv_iinc (v := iI (x + z)) q.exec q.byt hd a.has hj (by rw [iI_add]; rfl) hlt rfl (fun ls' h' => kk ls' H locs (LV.back h' (by simp) (sub1 hlt hp)) b c)
theorem r_iload_0 (q : Ok X cc own nL fr lo mc ms) {x : Int} {tl : List (Option Value)} (hd : decode cc pc = .ok (.iload_n 0, 1)) (kk : G X k n (pc + 1) (some (.int (iI x)) :: tl) (.int (iI x) :: st) sz S r h) : G X k n pc (some (.int (iI x)) :: tl) st sz S r h := fun ls H locs a b c => lv_iload_n q.exec q.byt hd rfl (a.2.2 0 _ rfl) (kk ls H locs a b c)
theorem r_aload_0 (q : Ok X cc own nL fr lo mc ms) {x : Nat} {tl : List (Option Value)} (hd : decode cc pc = .ok (.aload_n 0, 1)) (kk : G X k n (pc + 1) (some (.ref x) :: tl) (.ref x :: st) sz S r h) : G X k n pc (some (.ref x) :: tl) st sz S r h := fun ls H locs a b c => lv_aload_n q.exec q.byt hd rfl (a.2.2 0 _ rfl) (kk ls H locs a b c)
theorem r_lload_0 (q : Ok X cc own nL fr lo mc ms) {x : Int} {tl : List (Option Value)} (hd : decode cc pc = .ok (.lload_n 0, 1)) (kk : G X k n (pc + 1) (some (.long (lI x)) :: tl) (.long (lI x) :: st) sz S r h) : G X k n pc (some (.long (lI x)) :: tl) st sz S r h := fun ls H locs a b c => lv_lload_n q.exec q.byt hd rfl (a.2.2 0 _ rfl) (kk ls H locs a b c)
theorem r_istore_0 (q : Ok X cc own nL fr lo mc ms) {x : Int} {y : Option Value} {tl : List (Option Value)} (hd : decode cc pc = .ok (.istore_n 0, 1)) (kk : G X k n (pc + 1) (some (.int (iI x)) :: tl) st sz S r h) : G X k n pc (y :: tl) (.int (iI x) :: st) sz S r h := g_store1 q (i := 0) (ln := 1) rfl (by simp) rfl (fun ls H locs kk => by exact lv_istore_n q.exec q.byt hd rfl kk.1 kk.2.1 rfl kk.2.2) kk
theorem r_astore_0 (q : Ok X cc own nL fr lo mc ms) {x : Nat} {y : Option Value} {tl : List (Option Value)} (hd : decode cc pc = .ok (.astore_n 0, 1)) (kk : G X k n (pc + 1) (some (.ref x) :: tl) st sz S r h) : G X k n pc (y :: tl) (.ref x :: st) sz S r h := g_store1 q (i := 0) (ln := 1) rfl (by simp) rfl (fun ls H locs kk => by exact lv_astore_n q.exec q.byt hd rfl kk.1 kk.2.1 rfl kk.2.2) kk
theorem r_lstore_0 (q : Ok X cc own nL fr lo mc ms) {x : Int} {y y2 : Option Value} {tl : List (Option Value)} (hd : decode cc pc = .ok (.lstore_n 0, 1)) (kk : G X k n (pc + 1) (some (.long (lI x)) :: none :: tl) st sz S r h) : G X k n pc (y :: y2 :: tl) (.long (lI x) :: st) sz S r h := g_store2 q (i := 0) (ln := 1) rfl (by simp) rfl (fun ls H locs kk => by exact lv_lstore_n q.exec q.byt hd rfl kk.1 kk.2.1 rfl kk.2.2) kk
theorem r_iinc_0 (q : Ok X cc own nL fr lo mc ms) {x z : Int} {tl : List (Option Value)} (hd : decode cc pc = .ok (.iinc 0 z, 3)) (kk : G X k n (pc + 3) (some (.int (iI (x + z))) :: tl) st sz S r h) : G X k n pc (some (.int (iI x)) :: tl) st sz S r h := g_iinc q (i := 0) rfl (by simp) rfl hd kk
theorem r_iload_1 (q : Ok X cc own nL fr lo mc ms) {l0 : Option Value} {x : Int} {tl : List (Option Value)} (hd : decode cc pc = .ok (.iload_n 1, 1)) (kk : G X k n (pc + 1) (l0 :: some (.int (iI x)) :: tl) (.int (iI x) :: st) sz S r h) : G X k n pc (l0 :: some (.int (iI x)) :: tl) st sz S r h := fun ls H locs a b c => lv_iload_n q.exec q.byt hd rfl (a.2.2 1 _ rfl) (kk ls H locs a b c)
theorem r_aload_1 (q : Ok X cc own nL fr lo mc ms) {l0 : Option Value} {x : Nat} {tl : List (Option Value)} (hd : decode cc pc = .ok (.aload_n 1, 1)) (kk : G X k n (pc + 1) (l0 :: some (.ref x) :: tl) (.ref x :: st) sz S r h) : G X k n pc (l0 :: some (.ref x) :: tl) st sz S r h := fun ls H locs a b c => lv_aload_n q.exec q.byt hd rfl (a.2.2 1 _ rfl) (kk ls H locs a b c)
theorem r_lload_1 (q : Ok X cc own nL fr lo mc ms) {l0 : Option Value} {x : Int} {tl : List (Option Value)} (hd : decode cc pc = .ok (.lload_n 1, 1)) (kk : G X k n (pc + 1) (l0 :: some (.long (lI x)) :: tl) (.long (lI x) :: st) sz S r h) : G X k n pc (l0 :: some (.long (lI x)) :: tl) st sz S r h := fun ls H locs a b c => lv_lload_n q.exec q.byt hd rfl (a.2.2 1 _ rfl) (kk ls H locs a b c)
theorem r_istore_1 (q : Ok X cc own nL fr lo mc ms) {l0 : Option Value} {x : Int} {y : Option Value} {tl : List (Option Value)} (hd : decode cc pc = .ok (.istore_n 1, 1)) (hp : noL l0 = true) (kk : G X k n (pc + 1) (l0 :: some (.int (iI x)) :: tl) st sz S r h) : G X k n pc (l0 :: y :: tl) (.int (iI x) :: st) sz S r h := g_store1 q (i := 1) (ln := 1) rfl (by simp) hp (fun ls H locs kk => by exact lv_istore_n q.exec q.byt hd rfl kk.1 kk.2.1 rfl kk.2.2) kk
theorem r_astore_1 (q : Ok X cc own nL fr lo mc ms) {l0 : Option Value} {x : Nat} {y : Option Value} {tl : List (Option Value)} (hd : decode cc pc = .ok (.astore_n 1, 1)) (hp : noL l0 = true) (kk : G X k n (pc + 1) (l0 :: some (.ref x) :: tl) st sz S r h) : G X k n pc (l0 :: y :: tl) (.ref x :: st) sz S r h := g_store1 q (i := 1) (ln := 1) rfl (by simp) hp (fun ls H locs kk => by exact lv_astore_n q.exec q.byt hd rfl kk.1 kk.2.1 rfl kk.2.2) kk
theorem r_lstore_1 (q : Ok X cc own nL fr lo mc ms) {l0 : Option Value} {x : Int} {y y2 : Option Value} {tl : List (Option Value)} (hd : decode cc pc = .ok (.lstore_n 1, 1)) (hp : noL l0 = true) (kk : G X k n (pc + 1) (l0 :: some (.long (lI x)) :: none :: tl) st sz S r h) : G X k n pc (l0 :: y :: y2 :: tl) (.long (lI x) :: st) sz S r h := g_store2 q (i := 1) (ln := 1) rfl (by simp) hp (fun ls H locs kk => by exact lv_lstore_n q.exec q.byt hd rfl kk.1 kk.2.1 rfl kk.2.2) kk
theorem r_iinc_1 (q : Ok X cc own nL fr lo mc ms) {l0 : Option Value} {x z : Int} {tl : List (Option Value)} (hd : decode cc pc = .ok (.iinc 1 z, 3)) (hp : noL l0 = true) (kk : G X k n (pc + 3) (l0 :: some (.int (iI (x + z))) :: tl) st sz S r h) : G X k n pc (l0 :: some (.int (iI x)) :: tl) st sz S r h := g_iinc q (i := 1) rfl (by simp) hp hd kk
theorem r_iload_2 (q : Ok X cc own nL fr lo mc ms) {l0 l1 : Option Value} {x : Int} {tl : List (Option Value)} (hd : decode cc pc = .ok (.iload_n 2, 1)) (kk : G X k n (pc + 1) (l0 :: l1 :: some (.int (iI x)) :: tl) (.int (iI x) :: st) sz S r h) : G X k n pc (l0 :: l1 :: some (.int (iI x)) :: tl) st sz S r h := fun ls H locs a b c => lv_iload_n q.exec q.byt hd rfl (a.2.2 2 _ rfl) (kk ls H locs a b c)
theorem r_aload_2 (q : Ok X cc own nL fr lo mc ms) {l0 l1 : Option Value} {x : Nat} {tl : List (Option Value)} (hd : decode cc pc = .ok (.aload_n 2, 1)) (kk : G X k n (pc + 1) (l0 :: l1 :: some (.ref x) :: tl) (.ref x :: st) sz S r h) : G X k n pc (l0 :: l1 :: some (.ref x) :: tl) st sz S r h := fun ls H locs a b c => lv_aload_n q.exec q.byt hd rfl (a.2.2 2 _ rfl) (kk ls H locs a b c)
theorem r_lload_2 (q : Ok X cc own nL fr lo mc ms) {l0 l1 : Option Value} {x : Int} {tl : List (Option Value)} (hd : decode cc pc = .ok (.lload_n 2, 1)) (kk : G X k n (pc + 1) (l0 :: l1 :: some (.long (lI x)) :: tl) (.long (lI x) :: st) sz S r h) : G X k n pc (l0 :: l1 :: some (.long (lI x)) :: tl) st sz S r h := fun ls H locs a b c => lv_lload_n q.exec q.byt hd rfl (a.2.2 2 _ rfl) (kk ls H locs a b c)
theorem r_istore_2 (q : Ok X cc own nL fr lo mc ms) {l0 l1 : Option Value} {x : Int} {y : Option Value} {tl : List (Option Value)} (hd : decode cc pc = .ok (.istore_n 2, 1)) (hp : noL l1 = true) (kk : G X k n (pc + 1) (l0 :: l1 :: some (.int (iI x)) :: tl) st sz S r h) : G X k n pc (l0 :: l1 :: y :: tl) (.int (iI x) :: st) sz S r h := g_store1 q (i := 2) (ln := 1) rfl (by simp) hp (fun ls H locs kk => by exact lv_istore_n q.exec q.byt hd rfl kk.1 kk.2.1 rfl kk.2.2) kk
theorem r_astore_2 (q : Ok X cc own nL fr lo mc ms) {l0 l1 : Option Value} {x : Nat} {y : Option Value} {tl : List (Option Value)} (hd : decode cc pc = .ok (.astore_n 2, 1)) (hp : noL l1 = true) (kk : G X k n (pc + 1) (l0 :: l1 :: some (.ref x) :: tl) st sz S r h) : G X k n pc (l0 :: l1 :: y :: tl) (.ref x :: st) sz S r h := g_store1 q (i := 2) (ln := 1) rfl (by simp) hp (fun ls H locs kk => by exact lv_astore_n q.exec q.byt hd rfl kk.1 kk.2.1 rfl kk.2.2) kk
theorem r_lstore_2 (q : Ok X cc own nL fr lo mc ms) {l0 l1 : Option Value} {x : Int} {y y2 : Option Value} {tl : List (Option Value)} (hd : decode cc pc = .ok (.lstore_n 2, 1)) (hp : noL l1 = true) (kk : G X k n (pc + 1) (l0 :: l1 :: some (.long (lI x)) :: none :: tl) st sz S r h) : G X k n pc (l0 :: l1 :: y :: y2 :: tl) (.long (lI x) :: st) sz S r h := g_store2 q (i := 2) (ln := 1) rfl (by simp) hp (fun ls H locs kk => by exact lv_lstore_n q.exec q.byt hd rfl kk.1 kk.2.1 rfl kk.2.2) kk
theorem r_iinc_2 (q : Ok X cc own nL fr lo mc ms) {l0 l1 : Option Value} {x z : Int} {tl : List (Option Value)} (hd : decode cc pc = .ok (.iinc 2 z, 3)) (hp : noL l1 = true) (kk : G X k n (pc + 3) (l0 :: l1 :: some (.int (iI (x + z))) :: tl) st sz S r h) : G X k n pc (l0 :: l1 :: some (.int (iI x)) :: tl) st sz S r h := g_iinc q (i := 2) rfl (by simp) hp hd kk
theorem r_iload_3 (q : Ok X cc own nL fr lo mc ms) {l0 l1 l2 : Option Value} {x : Int} {tl : List (Option Value)} (hd : decode cc pc = .ok (.iload_n 3, 1)) (kk : G X k n (pc + 1) (l0 :: l1 :: l2 :: some (.int (iI x)) :: tl) (.int (iI x) :: st) sz S r h) : G X k n pc (l0 :: l1 :: l2 :: some (.int (iI x)) :: tl) st sz S r h := fun ls H locs a b c => lv_iload_n q.exec q.byt hd rfl (a.2.2 3 _ rfl) (kk ls H locs a b c)
theorem r_aload_3 (q : Ok X cc own nL fr lo mc ms) {l0 l1 l2 : Option Value} {x : Nat} {tl : List (Option Value)} (hd : decode cc pc = .ok (.aload_n 3, 1)) (kk : G X k n (pc + 1) (l0 :: l1 :: l2 :: some (.ref x) :: tl) (.ref x :: st) sz S r h) : G X k n pc (l0 :: l1 :: l2 :: some (.ref x) :: tl) st sz S r h := fun ls H locs a b c => lv_aload_n q.exec q.byt hd rfl (a.2.2 3 _ rfl) (kk ls H locs a b c)
theorem r_lload_3 (q : Ok X cc own nL fr lo mc ms) {l0 l1 l2 : Option Value} {x : Int} {tl : List (Option Value)} (hd : decode cc pc = .ok (.lload_n 3, 1)) (kk : G X k n (pc + 1) (l0 :: l1 :: l2 :: some (.long (lI x)) :: tl) (.long (lI x) :: st) sz S r h) : G X k n pc (l0 :: l1 :: l2 :: some (.long (lI x)) :: tl) st sz S r h := fun ls H locs a b c => lv_lload_n q.exec q.byt hd rfl (a.2.2 3 _ rfl) (kk ls H locs a b c)
theorem r_istore_3 (q : Ok X cc own nL fr lo mc ms) {l0 l1 l2 : Option Value} {x : Int} {y : Option Value} {tl : List (Option Value)} (hd : decode cc pc = .ok (.istore_n 3, 1)) (hp : noL l2 = true) (kk : G X k n (pc + 1) (l0 :: l1 :: l2 :: some (.int (iI x)) :: tl) st sz S r h) : G X k n pc (l0 :: l1 :: l2 :: y :: tl) (.int (iI x) :: st) sz S r h := g_store1 q (i := 3) (ln := 1) rfl (by simp) hp (fun ls H locs kk => by exact lv_istore_n q.exec q.byt hd rfl kk.1 kk.2.1 rfl kk.2.2) kk
theorem r_astore_3 (q : Ok X cc own nL fr lo mc ms) {l0 l1 l2 : Option Value} {x : Nat} {y : Option Value} {tl : List (Option Value)} (hd : decode cc pc = .ok (.astore_n 3, 1)) (hp : noL l2 = true) (kk : G X k n (pc + 1) (l0 :: l1 :: l2 :: some (.ref x) :: tl) st sz S r h) : G X k n pc (l0 :: l1 :: l2 :: y :: tl) (.ref x :: st) sz S r h := g_store1 q (i := 3) (ln := 1) rfl (by simp) hp (fun ls H locs kk => by exact lv_astore_n q.exec q.byt hd rfl kk.1 kk.2.1 rfl kk.2.2) kk
theorem r_lstore_3 (q : Ok X cc own nL fr lo mc ms) {l0 l1 l2 : Option Value} {x : Int} {y y2 : Option Value} {tl : List (Option Value)} (hd : decode cc pc = .ok (.lstore_n 3, 1)) (hp : noL l2 = true) (kk : G X k n (pc + 1) (l0 :: l1 :: l2 :: some (.long (lI x)) :: none :: tl) st sz S r h) : G X k n pc (l0 :: l1 :: l2 :: y :: y2 :: tl) (.long (lI x) :: st) sz S r h := g_store2 q (i := 3) (ln := 1) rfl (by simp) hp (fun ls H locs kk => by exact lv_lstore_n q.exec q.byt hd rfl kk.1 kk.2.1 rfl kk.2.2) kk
theorem r_iinc_3 (q : Ok X cc own nL fr lo mc ms) {l0 l1 l2 : Option Value} {x z : Int} {tl : List (Option Value)} (hd : decode cc pc = .ok (.iinc 3 z, 3)) (hp : noL l2 = true) (kk : G X k n (pc + 3) (l0 :: l1 :: l2 :: some (.int (iI (x + z))) :: tl) st sz S r h) : G X k n pc (l0 :: l1 :: l2 :: some (.int (iI x)) :: tl) st sz S r h := g_iinc q (i := 3) rfl (by simp) hp hd kk
theorem r_iload_4 (q : Ok X cc own nL fr lo mc ms) {l0 l1 l2 l3 : Option Value} {x : Int} {tl : List (Option Value)} (hd : decode cc pc = .ok (.iload 4, 2)) (kk : G X k n (pc + 2) (l0 :: l1 :: l2 :: l3 :: some (.int (iI x)) :: tl) (.int (iI x) :: st) sz S r h) : G X k n pc (l0 :: l1 :: l2 :: l3 :: some (.int (iI x)) :: tl) st sz S r h := fun ls H locs a b c => lv_iload q.exec q.byt hd (a.2.2 4 _ rfl) (kk ls H locs a b c)
theorem r_aload_4 (q : Ok X cc own nL fr lo mc ms) {l0 l1 l2 l3 : Option Value} {x : Nat} {tl : List (Option Value)} (hd : decode cc pc = .ok (.aload 4, 2)) (kk : G X k n (pc + 2) (l0 :: l1 :: l2 :: l3 :: some (.ref x) :: tl) (.ref x :: st) sz S r h) : G X k n pc (l0 :: l1 :: l2 :: l3 :: some (.ref x) :: tl) st sz S r h := fun ls H locs a b c => lv_aload q.exec q.byt hd (a.2.2 4 _ rfl) (kk ls H locs a b c)
theorem r_lload_4 (q : Ok X cc own nL fr lo mc ms) {l0 l1 l2 l3 : Option Value} {x : Int} {tl : List (Option Value)} (hd : decode cc pc = .ok (.lload 4, 2)) (kk : G X k n (pc + 2) (l0 :: l1 :: l2 :: l3 :: some (.long (lI x)) :: tl) (.long (lI x) :: st) sz S r h) : G X k n pc (l0 :: l1 :: l2 :: l3 :: some (.long (lI x)) :: tl) st sz S r h := fun ls H locs a b c => lv_lload q.exec q.byt hd (a.2.2 4 _ rfl) (kk ls H locs a b c)
theorem r_istore_4 (q : Ok X cc own nL fr lo mc ms) {l0 l1 l2 l3 : Option Value} {x : Int} {y : Option Value} {tl : List (Option Value)} (hd : decode cc pc = .ok (.istore 4, 2)) (hp : noL l3 = true) (kk : G X k n (pc + 2) (l0 :: l1 :: l2 :: l3 :: some (.int (iI x)) :: tl) st sz S r h) : G X k n pc (l0 :: l1 :: l2 :: l3 :: y :: tl) (.int (iI x) :: st) sz S r h := g_store1 q (i := 4) (ln := 2) rfl (by simp) hp (fun ls H locs kk => by exact lv_istore q.exec q.byt hd kk.1 kk.2.1 rfl kk.2.2) kk
theorem r_astore_4 (q : Ok X cc own nL fr lo mc ms) {l0 l1 l2 l3 : Option Value} {x : Nat} {y : Option Value} {tl : List (Option Value)} (hd : decode cc pc = .ok (.astore 4, 2)) (hp : noL l3 = true) (kk : G X k n (pc + 2) (l0 :: l1 :: l2 :: l3 :: some (.ref x) :: tl) st sz S r h) : G X k n pc (l0 :: l1 :: l2 :: l3 :: y :: tl) (.ref x :: st) sz S r h := g_store1 q (i := 4) (ln := 2) rfl (by simp) hp (fun ls H locs kk => by exact lv_astore q.exec q.byt hd kk.1 kk.2.1 rfl kk.2.2) kk
theorem r_lstore_4 (q : Ok X cc own nL fr lo mc ms) {l0 l1 l2 l3 : Option Value} {x : Int} {y y2 : Option Value} {tl : List (Option Value)} (hd : decode cc pc = .ok (.lstore 4, 2)) (hp : noL l3 = true) (kk : G X k n (pc + 2) (l0 :: l1 :: l2 :: l3 :: some (.long (lI x)) :: none :: tl) st sz S r h) : G X k n pc (l0 :: l1 :: l2 :: l3 :: y :: y2 :: tl) (.long (lI x) :: st) sz S r h := g_store2 q (i := 4) (ln := 2) rfl (by simp) hp (fun ls H locs kk => by exact lv_lstore q.exec q.byt hd kk.1 kk.2.1 rfl kk.2.2) kk
theorem r_iinc_4 (q : Ok X cc own nL fr lo mc ms) {l0 l1 l2 l3 : Option Value} {x z : Int} {tl : List (Option Value)} (hd : decode cc pc = .ok (.iinc 4 z, 3)) (hp : noL l3 = true) (kk : G X k n (pc + 3) (l0 :: l1 :: l2 :: l3 :: some (.int (iI (x + z))) :: tl) st sz S r h) : G X k n pc (l0 :: l1 :: l2 :: l3 :: some (.int (iI x)) :: tl) st sz S r h := g_iinc q (i := 4) rfl (by simp) hp hd kk
theorem r_iload_5 (q : Ok X cc own nL fr lo mc ms) {l0 l1 l2 l3 l4 : Option Value} {x : Int} {tl : List (Option Value)} (hd : decode cc pc = .ok (.iload 5, 2)) (kk : G X k n (pc + 2) (l0 :: l1 :: l2 :: l3 :: l4 :: some (.int (iI x)) :: tl) (.int (iI x) :: st) sz S r h) : G X k n pc (l0 :: l1 :: l2 :: l3 :: l4 :: some (.int (iI x)) :: tl) st sz S r h := fun ls H locs a b c => lv_iload q.exec q.byt hd (a.2.2 5 _ rfl) (kk ls H locs a b c)
theorem r_aload_5 (q : Ok X cc own nL fr lo mc ms) {l0 l1 l2 l3 l4 : Option Value} {x : Nat} {tl : List (Option Value)} (hd : decode cc pc = .ok (.aload 5, 2)) (kk : G X k n (pc + 2) (l0 :: l1 :: l2 :: l3 :: l4 :: some (.ref x) :: tl) (.ref x :: st) sz S r h) : G X k n pc (l0 :: l1 :: l2 :: l3 :: l4 :: some (.ref x) :: tl) st sz S r h := fun ls H locs a b c => lv_aload q.exec q.byt hd (a.2.2 5 _ rfl) (kk ls H locs a b c)
theorem r_lload_5 (q : Ok X cc own nL fr lo mc ms) {l0 l1 l2 l3 l4 : Option Value} {x : Int} {tl : List (Option Value)} (hd : decode cc pc = .ok (.lload 5, 2)) (kk : G X k n (pc + 2) (l0 :: l1 :: l2 :: l3 :: l4 :: some (.long (lI x)) :: tl) (.long (lI x) :: st) sz S r h) : G X k n pc (l0 :: l1 :: l2 :: l3 :: l4 :: some (.long (lI x)) :: tl) st sz S r h := fun ls H locs a b c => lv_lload q.exec q.byt hd (a.2.2 5 _ rfl) (kk ls H locs a b c)
theorem r_istore_5 (q : Ok X cc own nL fr lo mc ms) {l0 l1 l2 l3 l4 : Option Value} {x : Int} {y : Option Value} {tl : List (Option Value)} (hd : decode cc pc = .ok (.istore 5, 2)) (hp : noL l4 = true) (kk : G X k n (pc + 2) (l0 :: l1 :: l2 :: l3 :: l4 :: some (.int (iI x)) :: tl) st sz S r h) : G X k n pc (l0 :: l1 :: l2 :: l3 :: l4 :: y :: tl) (.int (iI x) :: st) sz S r h := g_store1 q (i := 5) (ln := 2) rfl (by simp) hp (fun ls H locs kk => by exact lv_istore q.exec q.byt hd kk.1 kk.2.1 rfl kk.2.2) kk
theorem r_astore_5 (q : Ok X cc own nL fr lo mc ms) {l0 l1 l2 l3 l4 : Option Value} {x : Nat} {y : Option Value} {tl : List (Option Value)} (hd : decode cc pc = .ok (.astore 5, 2)) (hp : noL l4 = true) (kk : G X k n (pc + 2) (l0 :: l1 :: l2 :: l3 :: l4 :: some (.ref x) :: tl) st sz S r h) : G X k n pc (l0 :: l1 :: l2 :: l3 :: l4 :: y :: tl) (.ref x :: st) sz S r h := g_store1 q (i := 5) (ln := 2) rfl (by simp) hp (fun ls H locs kk => by exact lv_astore q.exec q.byt hd kk.1 kk.2.1 rfl kk.2.2) kk
theorem r_lstore_5 (q : Ok X cc own nL fr lo mc ms) {l0 l1 l2 l3 l4 : Option Value} {x : Int} {y y2 : Option Value} {tl : List (Option Value)} (hd : decode cc pc = .ok (.lstore 5, 2)) (hp : noL l4 = true) (kk : G X k n (pc + 2) (l0 :: l1 :: l2 :: l3 :: l4 :: some (.long (lI x)) :: none :: tl) st sz S r h) : G X k n pc (l0 :: l1 :: l2 :: l3 :: l4 :: y :: y2 :: tl) (.long (lI x) :: st) sz S r h := g_store2 q (i := 5) (ln := 2) rfl (by simp) hp (fun ls H locs kk => by exact lv_lstore q.exec q.byt hd kk.1 kk.2.1 rfl kk.2.2) kk
theorem r_iinc_5 (q : Ok X cc own nL fr lo mc ms) {l0 l1 l2 l3 l4 : Option Value} {x z : Int} {tl : List (Option Value)} (hd : decode cc pc = .ok (.iinc 5 z, 3)) (hp : noL l4 = true) (kk : G X k n (pc + 3) (l0 :: l1 :: l2 :: l3 :: l4 :: some (.int (iI (x + z))) :: tl) st sz S r h) : G X k n pc (l0 :: l1 :: l2 :: l3 :: l4 :: some (.int (iI x)) :: tl) st sz S r h := g_iinc q (i := 5) rfl (by simp) hp hd kk
theorem r_iload_6 (q : Ok X cc own nL fr lo mc ms) {l0 l1 l2 l3 l4 l5 : Option Value} {x : Int} {tl : List (Option Value)} (hd : decode cc pc = .ok (.iload 6, 2)) (kk : G X k n (pc + 2) (l0 :: l1 :: l2 :: l3 :: l4 :: l5 :: some (.int (iI x)) :: tl) (.int (iI x) :: st) sz S r h) : G X k n pc (l0 :: l1 :: l2 :: l3 :: l4 :: l5 :: some (.int (iI x)) :: tl) st sz S r h := fun ls H locs a b c => lv_iload q.exec q.byt hd (a.2.2 6 _ rfl) (kk ls H locs a b c)
theorem r_aload_6 (q : Ok X cc own nL fr lo mc ms) {l0 l1 l2 l3 l4 l5 : Option Value} {x : Nat} {tl : List (Option Value)} (hd : decode cc pc = .ok (.aload 6, 2)) (kk : G X k n (pc + 2) (l0 :: l1 :: l2 :: l3 :: l4 :: l5 :: some (.ref x) :: tl) (.ref x :: st) sz S r h) : G X k n pc (l0 :: l1 :: l2 :: l3 :: l4 :: l5 :: some (.ref x) :: tl) st sz S r h := fun ls H locs a b c => lv_aload q.exec q.byt hd (a.2.2 6 _ rfl) (kk ls H locs a b c)
theorem r_lload_6 (q : Ok X cc own nL fr lo mc ms) {l0 l1 l2 l3 l4 l5 : Option Value} {x : Int} {tl : List (Option Value)} (hd : decode cc pc = .ok (.lload 6, 2)) (kk : G X k n (pc + 2) (l0 :: l1 :: l2 :: l3 :: l4 :: l5 :: some (.long (lI x)) :: tl) (.long (lI x) :: st) sz S r h) : G X k n pc (l0 :: l1 :: l2 :: l3 :: l4 :: l5 :: some (.long (lI x)) :: tl) st sz S r h := fun ls H locs a b c => lv_lload q.exec q.byt hd (a.2.2 6 _ rfl) (kk ls H locs a b c)
theorem r_istore_6 (q : Ok X cc own nL fr lo mc ms) {l0 l1 l2 l3 l4 l5 : Option Value} {x : Int} {y : Option Value} {tl : List (Option Value)} (hd : decode cc pc = .ok (.istore 6, 2)) (hp : noL l5 = true) (kk : G X k n (pc + 2) (l0 :: l1 :: l2 :: l3 :: l4 :: l5 :: some (.int (iI x)) :: tl) st sz S r h) : G X k n pc (l0 :: l1 :: l2 :: l3 :: l4 :: l5 :: y :: tl) (.int (iI x) :: st) sz S r h := g_store1 q (i := 6) (ln := 2) rfl (by simp) hp (fun ls H locs kk => by exact lv_istore q.exec q.byt hd kk.1 kk.2.1 rfl kk.2.2) kk
theorem r_astore_6 (q : Ok X cc own nL fr lo mc ms) {l0 l1 l2 l3 l4 l5 : Option Value} {x : Nat} {y : Option Value} {tl : List (Option Value)} (hd : decode cc pc = .ok (.astore 6, 2)) (hp : noL l5 = true) (kk : G X k n (pc + 2) (l0 :: l1 :: l2 :: l3 :: l4 :: l5 :: some (.ref x) :: tl) st sz S r h) : G X k n pc (l0 :: l1 :: l2 :: l3 :: l4 :: l5 :: y :: tl) (.ref x :: st) sz S r h := g_store1 q (i := 6) (ln := 2) rfl (by simp) hp (fun ls H locs kk => by exact lv_astore q.exec q.byt hd kk.1 kk.2.1 rfl kk.2.2) kk
theorem r_lstore_6 (q : Ok X cc own nL fr lo mc ms) {l0 l1 l2 l3 l4 l5 : Option Value} {x : Int} {y y2 : Option Value} {tl : List (Option Value)} (hd : decode cc pc = .ok (.lstore 6, 2)) (hp : noL l5 = true) (kk : G X k n (pc + 2) (l0 :: l1 :: l2 :: l3 :: l4 :: l5 :: some (.long (lI x)) :: none :: tl) st sz S r h) : G X k n pc (l0 :: l1 :: l2 :: l3 :: l4 :: l5 :: y :: y2 :: tl) (.long (lI x) :: st) sz S r h := g_store2 q (i := 6) (ln := 2) rfl (by simp) hp (fun ls H locs kk => by exact lv_lstore q.exec q.byt hd kk.1 kk.2.1 rfl kk.2.2) kk
theorem r_iinc_6 (q : Ok X cc own nL fr lo mc ms) {l0 l1 l2 l3 l4 l5 : Option Value} {x z : Int} {tl : List (Option Value)} (hd : decode cc pc = .ok (.iinc 6 z, 3)) (hp : noL l5 = true) (kk : G X k n (pc + 3) (l0 :: l1 :: l2 :: l3 :: l4 :: l5 :: some (.int (iI (x + z))) :: tl) st sz S r h) : G X k n pc (l0 :: l1 :: l2 :: l3 :: l4 :: l5 :: some (.int (iI x)) :: tl) st sz S r h := g_iinc q (i := 6) rfl (by simp) hp hd kk
theorem r_iload_7 (q : Ok X cc own nL fr lo mc ms) {l0 l1 l2 l3 l4 l5 l6 : Option Value} {x : Int} {tl : List (Option Value)} (hd : decode cc pc = .ok (.iload 7, 2)) (kk : G X k n (pc + 2) (l0 :: l1 :: l2 :: l3 :: l4 :: l5 :: l6 :: some (.int (iI x)) :: tl) (.int (iI x) :: st) sz S r h) : G X k n pc (l0 :: l1 :: l2 :: l3 :: l4 :: l5 :: l6 :: some (.int (iI x)) :: tl) st sz S r h := fun ls H locs a b c => lv_iload q.exec q.byt hd (a.2.2 7 _ rfl) (kk ls H locs a b c)
theorem r_aload_7 (q : Ok X cc own nL fr lo mc ms) {l0 l1 l2 l3 l4 l5 l6 : Option Value} {x : Nat} {tl : List (Option Value)} (hd : decode cc pc = .ok (.aload 7, 2)) (kk : G X k n (pc + 2) (l0 :: l1 :: l2 :: l3 :: l4 :: l5 :: l6 :: some (.ref x) :: tl) (.ref x :: st) sz S r h) : G X k n pc (l0 :: l1 :: l2 :: l3 :: l4 :: l5 :: l6 :: some (.ref x) :: tl) st sz S r h := fun ls H locs a b c => lv_aload q.exec q.byt hd (a.2.2 7 _ rfl) (kk ls H locs a b c)
theorem r_lload_7 (q : Ok X cc own nL fr lo mc ms) {l0 l1 l2 l3 l4 l5 l6 : Option Value} {x : Int} {tl : List (Option Value)} (hd : decode cc pc = .ok (.lload 7, 2)) (kk : G X k n (pc + 2) (l0 :: l1 :: l2 :: l3 :: l4 :: l5 :: l6 :: some (.long (lI x)) :: tl) (.long (lI x) :: st) sz S r h) : G X k n pc (l0 :: l1 :: l2 :: l3 :: l4 :: l5 :: l6 :: some (.long (lI x)) :: tl) st sz S r h := fun ls H locs a b c => lv_lload q.exec q.byt hd (a.2.2 7 _ rfl) (kk ls H locs a b c)
theorem r_istore_7 (q : Ok X cc own nL fr lo mc ms) {l0 l1 l2 l3 l4 l5 l6 : Option Value} {x : Int} {y : Option Value} {tl : List (Option Value)} (hd : decode cc pc = .ok (.istore 7, 2)) (hp : noL l6 = true) (kk : G X k n (pc + 2) (l0 :: l1 :: l2 :: l3 :: l4 :: l5 :: l6 :: some (.int (iI x)) :: tl) st sz S r h) : G X k n pc (l0 :: l1 :: l2 :: l3 :: l4 :: l5 :: l6 :: y :: tl) (.int (iI x) :: st) sz S r h := g_store1 q (i := 7) (ln := 2) rfl (by simp) hp (fun ls H locs kk => by exact lv_istore q.exec q.byt hd kk.1 kk.2.1 rfl kk.2.2) kk
theorem r_astore_7 (q : Ok X cc own nL fr lo mc ms) {l0 l1 l2 l3 l4 l5 l6 : Option Value} {x : Nat} {y : Option Value} {tl : List (Option Value)} (hd : decode cc pc = .ok (.astore 7, 2)) (hp : noL l6 = true) (kk : G X k n (pc + 2) (l0 :: l1 :: l2 :: l3 :: l4 :: l5 :: l6 :: some (.ref x) :: tl) st sz S r h) : G X k n pc (l0 :: l1 :: l2 :: l3 :: l4 :: l5 :: l6 :: y :: tl) (.ref x :: st) sz S r h := g_store1 q (i := 7) (ln := 2) rfl (by simp) hp (fun ls H locs kk => by exact lv_astore q.exec q.byt hd kk.1 kk.2.1 rfl kk.2.2) kk
theorem r_lstore_7 (q : Ok X cc own nL fr lo mc ms) {l0 l1 l2 l3 l4 l5 l6 : Option Value} {x : Int} {y y2 : Option Value} {tl : List (Option Value)} (hd : decode cc pc = .ok (.lstore 7, 2)) (hp : noL l6 = true) (kk : G X k n (pc + 2) (l0 :: l1 :: l2 :: l3 :: l4 :: l5 :: l6 :: some (.long (lI x)) :: none :: tl) st sz S r h) : G X k n pc (l0 :: l1 :: l2 :: l3 :: l4 :: l5 :: l6 :: y :: y2 :: tl) (.long (lI x) :: st) sz S r h := g_store2 q (i := 7) (ln := 2) rfl (by simp) hp (fun ls H locs kk => by exact lv_lstore q.exec q.byt hd kk.1 kk.2.1 rfl kk.2.2) kk
theorem r_iinc_7 (q : Ok X cc own nL fr lo mc ms) {l0 l1 l2 l3 l4 l5 l6 : Option Value} {x z : Int} {tl : List (Option Value)} (hd : decode cc pc = .ok (.iinc 7 z, 3)) (hp : noL l6 = true) (kk : G X k n (pc + 3) (l0 :: l1 :: l2 :: l3 :: l4 :: l5 :: l6 :: some (.int (iI (x + z))) :: tl) st sz S r h) : G X k n pc (l0 :: l1 :: l2 :: l3 :: l4 :: l5 :: l6 :: some (.int (iI x)) :: tl) st sz S r h := g_iinc q (i := 7) rfl (by simp) hp hd kk
theorem r_iload_8 (q : Ok X cc own nL fr lo mc ms) {l0 l1 l2 l3 l4 l5 l6 l7 : Option Value} {x : Int} {tl : List (Option Value)} (hd : decode cc pc = .ok (.iload 8, 2)) (kk : G X k n (pc + 2) (l0 :: l1 :: l2 :: l3 :: l4 :: l5 :: l6 :: l7 :: some (.int (iI x)) :: tl) (.int (iI x) :: st) sz S r h) : G X k n pc (l0 :: l1 :: l2 :: l3 :: l4 :: l5 :: l6 :: l7 :: some (.int (iI x)) :: tl) st sz S r h := fun ls H locs a b c => lv_iload q.exec q.byt hd (a.2.2 8 _ rfl) (kk ls H locs a b c)
theorem r_aload_8 (q : Ok X cc own nL fr lo mc ms) {l0 l1 l2 l3 l4 l5 l6 l7 : Option Value} {x : Nat} {tl : List (Option Value)} (hd : decode cc pc = .ok (.aload 8, 2)) (kk : G X k n (pc + 2) (l0 :: l1 :: l2 :: l3 :: l4 :: l5 :: l6 :: l7 :: some (.ref x) :: tl) (.ref x :: st) sz S r h) : G X k n pc (l0 :: l1 :: l2 :: l3 :: l4 :: l5 :: l6 :: l7 :: some (.ref x) :: tl) st sz S r h := fun ls H locs a b c => lv_aload q.exec q.byt hd (a.2.2 8 _ rfl) (kk ls H locs a b c)
theorem r_lload_8 (q : Ok X cc own nL fr lo mc ms) {l0 l1 l2 l3 l4 l5 l6 l7 : Option Value} {x : Int} {tl : List (Option Value)} (hd : decode cc pc = .ok (.lload 8, 2)) (kk : G X k n (pc + 2) (l0 :: l1 :: l2 :: l3 :: l4 :: l5 :: l6 :: l7 :: some (.long (lI x)) :: tl) (.long (lI x) :: st) sz S r h) : G X k n pc (l0 :: l1 :: l2 :: l3 :: l4 :: l5 :: l6 :: l7 :: some (.long (lI x)) :: tl) st sz S r h := fun ls H locs a b c => lv_lload q.exec q.byt hd (a.2.2 8 _ rfl) (kk ls H locs a b c)
theorem r_istore_8 (q : Ok X cc own nL fr lo mc ms) {l0 l1 l2 l3 l4 l5 l6 l7 : Option Value} {x : Int} {y : Option Value} {tl : List (Option Value)} (hd : decode cc pc = .ok (.istore 8, 2)) (hp : noL l7 = true) (kk : G X k n (pc + 2) (l0 :: l1 :: l2 :: l3 :: l4 :: l5 :: l6 :: l7 :: some (.int (iI x)) :: tl) st sz S r h) : G X k n pc (l0 :: l1 :: l2 :: l3 :: l4 :: l5 :: l6 :: l7 :: y :: tl) (.int (iI x) :: st) sz S r h := g_store1 q (i := 8) (ln := 2) rfl (by simp) hp (fun ls H locs kk => by exact lv_istore q.exec q.byt hd kk.1 kk.2.1 rfl kk.2.2) kk
theorem r_astore_8 (q : Ok X cc own nL fr lo mc ms) {l0 l1 l2 l3 l4 l5 l6 l7 : Option Value} {x : Nat} {y : Option Value} {tl : List (Option Value)} (hd : decode cc pc = .ok (.astore 8, 2)) (hp : noL l7 = true) (kk : G X k n (pc + 2) (l0 :: l1 :: l2 :: l3 :: l4 :: l5 :: l6 :: l7 :: some (.ref x) :: tl) st sz S r h) : G X k n pc (l0 :: l1 :: l2 :: l3 :: l4 :: l5 :: l6 :: l7 :: y :: tl) (.ref x :: st) sz S r h := g_store1 q (i := 8) (ln := 2) rfl (by simp) hp (fun ls H locs kk => by exact lv_astore q.exec q.byt hd kk.1 kk.2.1 rfl kk.2.2) kk
theorem r_lstore_8 (q : Ok X cc own nL fr lo mc ms) {l0 l1 l2 l3 l4 l5 l6 l7 : Option Value} {x : Int} {y y2 : Option Value} {tl : List (Option Value)} (hd : decode cc pc = .ok (.lstore 8, 2)) (hp : noL l7 = true) (kk : G X k n (pc + 2) (l0 :: l1 :: l2 :: l3 :: l4 :: l5 :: l6 :: l7 :: some (.long (lI x)) :: none :: tl) st sz S r h) : G X k n pc (l0 :: l1 :: l2 :: l3 :: l4 :: l5 :: l6 :: l7 :: y :: y2 :: tl) (.long (lI x) :: st) sz S r h := g_store2 q (i := 8) (ln := 2) rfl (by simp) hp (fun ls H locs kk => by exact lv_lstore q.exec q.byt hd kk.1 kk.2.1 rfl kk.2.2) kk
theorem r_iinc_8 (q : Ok X cc own nL fr lo mc ms) {l0 l1 l2 l3 l4 l5 l6 l7 : Option Value} {x z : Int} {tl : List (Option Value)} (hd : decode cc pc = .ok (.iinc 8 z, 3)) (hp : noL l7 = true) (kk : G X k n (pc + 3) (l0 :: l1 :: l2 :: l3 :: l4 :: l5 :: l6 :: l7 :: some (.int (iI (x + z))) :: tl) st sz S r h) : G X k n pc (l0 :: l1 :: l2 :: l3 :: l4 :: l5 :: l6 :: l7 :: some (.int (iI x)) :: tl) st sz S r h := g_iinc q (i := 8) rfl (by simp) hp hd kk
theorem r_iload_9 (q : Ok X cc own nL fr lo mc ms) {l0 l1 l2 l3 l4 l5 l6 l7 l8 : Option Value} {x : Int} {tl : List (Option Value)} (hd : decode cc pc = .ok (.iload 9, 2)) (kk : G X k n (pc + 2) (l0 :: l1 :: l2 :: l3 :: l4 :: l5 :: l6 :: l7 :: l8 :: some (.int (iI x)) :: tl) (.int (iI x) :: st) sz S r h) : G X k n pc (l0 :: l1 :: l2 :: l3 :: l4 :: l5 :: l6 :: l7 :: l8 :: some (.int (iI x)) :: tl) st sz S r h := fun ls H locs a b c => lv_iload q.exec q.byt hd (a.2.2 9 _ rfl) (kk ls H locs a b c)
theorem r_aload_9 (q : Ok X cc own nL fr lo mc ms) {l0 l1 l2 l3 l4 l5 l6 l7 l8 : Option Value} {x : Nat} {tl : List (Option Value)} (hd : decode cc pc = .ok (.aload 9, 2)) (kk : G X k n (pc + 2) (l0 :: l1 :: l2 :: l3 :: l4 :: l5 :: l6 :: l7 :: l8 :: some (.ref x) :: tl) (.ref x :: st) sz S r h) : G X k n pc (l0 :: l1 :: l2 :: l3 :: l4 :: l5 :: l6 :: l7 :: l8 :: some (.ref x) :: tl) st sz S r h := fun ls H locs a b c => lv_aload q.exec q.byt hd (a.2.2 9 _ rfl) (kk ls H locs a b c)
theorem r_lload_9 (q : Ok X cc own nL fr lo mc ms) {l0 l1 l2 l3 l4 l5 l6 l7 l8 : Option Value} {x : Int} {tl : List (Option Value)} (hd : decode cc pc = .ok (.lload 9, 2)) (kk : G X k n (pc + 2) (l0 :: l1 :: l2 :: l3 :: l4 :: l5 :: l6 :: l7 :: l8 :: some (.long (lI x)) :: tl) (.long (lI x) :: st) sz S r h) : G X k n pc (l0 :: l1 :: l2 :: l3 :: l4 :: l5 :: l6 :: l7 :: l8 :: some (.long (lI x)) :: tl) st sz S r h := fun ls H locs a b c => lv_lload q.exec q.byt hd (a.2.2 9 _ rfl) (kk ls H locs a b c)
theorem r_istore_9 (q : Ok X cc own nL fr lo mc ms) {l0 l1 l2 l3 l4 l5 l6 l7 l8 : Option Value} {x : Int} {y : Option Value} {tl : List (Option Value)} (hd : decode cc pc = .ok (.istore 9, 2)) (hp : noL l8 = true) (kk : G X k n (pc + 2) (l0 :: l1 :: l2 :: l3 :: l4 :: l5 :: l6 :: l7 :: l8 :: some (.int (iI x)) :: tl) st sz S r h) : G X k n pc (l0 :: l1 :: l2 :: l3 :: l4 :: l5 :: l6 :: l7 :: l8 :: y :: tl) (.int (iI x) :: st) sz S r h := g_store1 q (i := 9) (ln := 2) rfl (by simp) hp (fun ls H locs kk => by exact lv_istore q.exec q.byt hd kk.1 kk.2.1 rfl kk.2.2) kk
theorem r_astore_9 (q : Ok X cc own nL fr lo mc ms) {l0 l1 l2 l3 l4 l5 l6 l7 l8 : Option Value} {x : Nat} {y : Option Value} {tl : List (Option Value)} (hd : decode cc pc = .ok (.astore 9, 2)) (hp : noL l8 = true) (kk : G X k n (pc + 2) (l0 :: l1 :: l2 :: l3 :: l4 :: l5 :: l6 :: l7 :: l8 :: some (.ref x) :: tl) st sz S r h) : G X k n pc (l0 :: l1 :: l2 :: l3 :: l4 :: l5 :: l6 :: l7 :: l8 :: y :: tl) (.ref x :: st) sz S r h := g_store1 q (i := 9) (ln := 2) rfl (by simp) hp (fun ls H locs kk => by exact lv_astore q.exec q.byt hd kk.1 kk.2.1 rfl kk.2.2) kk
theorem r_lstore_9 (q : Ok X cc own nL fr lo mc ms) {l0 l1 l2 l3 l4 l5 l6 l7 l8 : Option Value} {x : Int} {y y2 : Option Value} {tl : List (Option Value)} (hd : decode cc pc = .ok (.lstore 9, 2)) (hp : noL l8 = true) (kk : G X k n (pc + 2) (l0 :: l1 :: l2 :: l3 :: l4 :: l5 :: l6 :: l7 :: l8 :: some (.long (lI x)) :: none :: tl) st sz S r h) : G X k n pc (l0 :: l1 :: l2 :: l3 :: l4 :: l5 :: l6 :: l7 :: l8 :: y :: y2 :: tl) (.long (lI x) :: st) sz S r h := g_store2 q (i := 9) (ln := 2) rfl (by simp) hp (fun ls H locs kk => by exact lv_lstore q.exec q.byt hd kk.1 kk.2.1 rfl kk.2.2) kk
theorem r_iinc_9 (q : Ok X cc own nL fr lo mc ms) {l0 l1 l2 l3 l4 l5 l6 l7 l8 : Option Value} {x z : Int} {tl : List (Option Value)} (hd : decode cc pc = .ok (.iinc 9 z, 3)) (hp : noL l8 = true) (kk : G X k n (pc + 3) (l0 :: l1 :: l2 :: l3 :: l4 :: l5 :: l6 :: l7 :: l8 :: some (.int (iI (x + z))) :: tl) st sz S r h) : G X k n pc (l0 :: l1 :: l2 :: l3 :: l4 :: l5 :: l6 :: l7 :: l8 :: some (.int (iI x)) :: tl) st sz S r h := g_iinc q (i := 9) rfl (by simp) hp hd kk
theorem r_iload_10 (q : Ok X cc own nL fr lo mc ms) {l0 l1 l2 l3 l4 l5 l6 l7 l8 l9 : Option Value} {x : Int} {tl : List (Option Value)} (hd : decode cc pc = .ok (.iload 10, 2)) (kk : G X k n (pc + 2) (l0 :: l1 :: l2 :: l3 :: l4 :: l5 :: l6 :: l7 :: l8 :: l9 :: some (.int (iI x)) :: tl) (.int (iI x) :: st) sz S r h) : G X k n pc (l0 :: l1 :: l2 :: l3 :: l4 :: l5 :: l6 :: l7 :: l8 :: l9 :: some (.int (iI x)) :: tl) st sz S r h := fun ls H locs a b c => lv_iload q.exec q.byt hd (a.2.2 10 _ rfl) (kk ls H locs a b c)
theorem r_aload_10 (q : Ok X cc own nL fr lo mc ms) {l0 l1 l2 l3 l4 l5 l6 l7 l8 l9 : Option Value} {x : Nat} {tl : List (Option Value)} (hd : decode cc pc = .ok (.aload 10, 2)) (kk : G X k n (pc + 2) (l0 :: l1 :: l2 :: l3 :: l4 :: l5 :: l6 :: l7 :: l8 :: l9 :: some (.ref x) :: tl) (.ref x :: st) sz S r h) : G X k n pc (l0 :: l1 :: l2 :: l3 :: l4 :: l5 :: l6 :: l7 :: l8 :: l9 :: some (.ref x) :: tl) st sz S r h := fun ls H locs a b c => lv_aload q.exec q.byt hd (a.2.2 10 _ rfl) (kk ls H locs a b c)
theorem r_lload_10 (q : Ok X cc own nL fr lo mc ms) {l0 l1 l2 l3 l4 l5 l6 l7 l8 l9 : Option Value} {x : Int} {tl : List (Option Value)} (hd : decode cc pc = .ok (.lload 10, 2)) (kk : G X k n (pc + 2) (l0 :: l1 :: l2 :: l3 :: l4 :: l5 :: l6 :: l7 :: l8 :: l9 :: some (.long (lI x)) :: tl) (.long (lI x) :: st) sz S r h) : G X k n pc (l0 :: l1 :: l2 :: l3 :: l4 :: l5 :: l6 :: l7 :: l8 :: l9 :: some (.long (lI x)) :: tl) st sz S r h := fun ls H locs a b c => lv_lload q.exec q.byt hd (a.2.2 10 _ rfl) (kk ls H locs a b c)
theorem r_istore_10 (q : Ok X cc own nL fr lo mc ms) {l0 l1 l2 l3 l4 l5 l6 l7 l8 l9 : Option Value} {x : Int} {y : Option Value} {tl : List (Option Value)} (hd : decode cc pc = .ok (.istore 10, 2)) (hp : noL l9 = true) (kk : G X k n (pc + 2) (l0 :: l1 :: l2 :: l3 :: l4 :: l5 :: l6 :: l7 :: l8 :: l9 :: some (.int (iI x)) :: tl) st sz S r h) : G X k n pc (l0 :: l1 :: l2 :: l3 :: l4 :: l5 :: l6 :: l7 :: l8 :: l9 :: y :: tl) (.int (iI x) :: st) sz S r h := g_store1 q (i := 10) (ln := 2) rfl (by simp) hp (fun ls H locs kk => by exact lv_istore q.exec q.byt hd kk.1 kk.2.1 rfl kk.2.2) kk
theorem r_astore_10 (q : Ok X cc own nL fr lo mc ms) {l0 l1 l2 l3 l4 l5 l6 l7 l8 l9 : Option Value} {x : Nat} {y : Option Value} {tl : List (Option Value)} (hd : decode cc pc = .ok (.astore 10, 2)) (hp : noL l9 = true) (kk : G X k n (pc + 2) (l0 :: l1 :: l2 :: l3 :: l4 :: l5 :: l6 :: l7 :: l8 :: l9 :: some (.ref x) :: tl) st sz S r h) : G X k n pc (l0 :: l1 :: l2 :: l3 :: l4 :: l5 :: l6 :: l7 :: l8 :: l9 :: y :: tl) (.ref x :: st) sz S r h := g_store1 q (i := 10) (ln := 2) rfl (by simp) hp (fun ls H locs kk => by exact lv_astore q.exec q.byt hd kk.1 kk.2.1 rfl kk.2.2) kk
theorem r_lstore_10 (q : Ok X cc own nL fr lo mc ms) {l0 l1 l2 l3 l4 l5 l6 l7 l8 l9 : Option Value} {x : Int} {y y2 : Option Value} {tl : List (Option Value)} (hd : decode cc pc = .ok (.lstore 10, 2)) (hp : noL l9 = true) (kk : G X k n (pc + 2) (l0 :: l1 :: l2 :: l3 :: l4 :: l5 :: l6 :: l7 :: l8 :: l9 :: some (.long (lI x)) :: none :: tl) st sz S r h) : G X k n pc (l0 :: l1 :: l2 :: l3 :: l4 :: l5 :: l6 :: l7 :: l8 :: l9 :: y :: y2 :: tl) (.long (lI x) :: st) sz S r h := g_store2 q (i := 10) (ln := 2) rfl (by simp) hp (fun ls H locs kk => by exact lv_lstore q.exec q.byt hd kk.1 kk.2.1 rfl kk.2.2) kk
theorem r_iinc_10 (q : Ok X cc own nL fr lo mc ms) {l0 l1 l2 l3 l4 l5 l6 l7 l8 l9 : Option Value} {x z : Int} {tl : List (Option Value)} (hd : decode cc pc = .ok (.iinc 10 z, 3)) (hp : noL l9 = true) (kk : G X k n (pc + 3) (l0 :: l1 :: l2 :: l3 :: l4 :: l5 :: l6 :: l7 :: l8 :: l9 :: some (.int (iI (x + z))) :: tl) st sz S r h) : G X k n pc (l0 :: l1 :: l2 :: l3 :: l4 :: l5 :: l6 :: l7 :: l8 :: l9 :: some (.int (iI x)) :: tl) st sz S r h := g_iinc q (i := 10) rfl (by simp) hp hd kk
theorem r_iadd (q : Ok X cc own nL fr lo mc ms) {x y : Int} (hd : decode cc pc = .ok (.iadd, 1)) (kk : G X k n (pc + 1) lv (.int (iI (x + y)) :: st) sz S r h) : G X k n pc lv (.int (iI y) :: .int (iI x) :: st) sz S r h := fun ls H locs a b c => lv_iadd q.exec q.byt hd (by rw [← iI_add]; exact kk ls H locs a b c)
theorem r_isub (q : Ok X cc own nL fr lo mc ms) {x y : Int} (hd : decode cc pc = .ok (.isub, 1)) (kk : G X k n (pc + 1) lv (.int (iI (x - y)) :: st) sz S r h) : G X k n pc lv (.int (iI y) :: .int (iI x) :: st) sz S r h := fun ls H locs a b c => lv_isub q.exec q.byt hd (by rw [← iI_sub]; exact kk ls H locs a b c)
theorem r_imul (q : Ok X cc own nL fr lo mc ms) {x y : Int} (hd : decode cc pc = .ok (.imul, 1)) (kk : G X k n (pc + 1) lv (.int (iI (x * y)) :: st) sz S r h) : G X k n pc lv (.int (iI y) :: .int (iI x) :: st) sz S r h := fun ls H locs a b c => lv_imul q.exec q.byt hd (by rw [← iI_mul]; exact kk ls H locs a b c)
theorem r_ineg (q : Ok X cc own nL fr lo mc ms) {x : Int} (hd : decode cc pc = .ok (.ineg, 1)) (kk : G X k n (pc + 1) lv (.int (iI (-x)) :: st) sz S r h) : G X k n pc lv (.int (iI x) :: st) sz S r h := fun ls H locs a b c => lv_ineg q.exec q.byt hd (by rw [← iI_neg]; exact kk ls H locs a b c)
theorem r_ladd (q : Ok X cc own nL fr lo mc ms) {x y : Int} (hd : decode cc pc = .ok (.ladd, 1)) (kk : G X k n (pc + 1) lv (.long (lI (x + y)) :: st) sz S r h) : G X k n pc lv (.long (lI y) :: .long (lI x) :: st) sz S r h := fun ls H locs a b c => lv_ladd q.exec q.byt hd (by rw [← lI_add]; exact kk ls H locs a b c)
theorem iI_rem {x y : Int} (hx : inR x) (h0 : 0 ≤ x) (h1 : 0 < y) (h2 : y ≤ 2147483647) : iI x - iI x / iI y * iI y = iI (x % y) := by
  obtain ⟨a, rfl⟩ := Int.eq_ofNat_of_zero_le h0
  obtain ⟨b, rfl⟩ := Int.eq_ofNat_of_zero_le (Int.le_of_lt h1)
  have := pk_rem (a := a) (d := b) (by have := hx.2; omega) (by omega) (by omega)
  exact this
theorem r_irem (q : Ok X cc own nL fr lo mc ms) {x y : Int} (hd : decode cc pc = .ok (.irem, 1)) (hx : inR x) (h0 : 0 ≤ x) (h1 : 0 < y) (h2 : y ≤ 2147483647) (kk : G X k n (pc + 1) lv (.int (iI (x % y)) :: st) sz S r h) : G X k n pc lv (.int (iI y) :: .int (iI x) :: st) sz S r h := fun ls H locs a b c => lv_irem q.exec q.byt hd (fun e => by
  have e2 : iI y = iI 0 := by rw [e, iI_0]
  rw [iI_eq ⟨by omega, h2⟩ inR_0] at e2
  omega) (by rw [iI_rem hx h0 h1 h2]; exact kk ls H locs a b c)
theorem r_iand (q : Ok X cc own nL fr lo mc ms) {x y z : Int} (hd : decode cc pc = .ok (.iand, 1)) (hv : iI x &&& iI y = iI z) (kk : G X k n (pc + 1) lv (.int (iI z) :: st) sz S r h) : G X k n pc lv (.int (iI y) :: .int (iI x) :: st) sz S r h := fun ls H locs a b c => lv_iand q.exec q.byt hd (by rw [hv]; exact kk ls H locs a b c)
theorem r_ishr (q : Ok X cc own nL fr lo mc ms) {x y z : Int} (hd : decode cc pc = .ok (.ishr, 1)) (hv : iI x >>> (iI y &&& 31) = iI z) (kk : G X k n (pc + 1) lv (.int (iI z) :: st) sz S r h) : G X k n pc lv (.int (iI y) :: .int (iI x) :: st) sz S r h := fun ls H locs a b c => lv_ishr q.exec q.byt hd (by rw [hv]; exact kk ls H locs a b c)
theorem r_iushr (q : Ok X cc own nL fr lo mc ms) {x y z : Int} (hd : decode cc pc = .ok (.iushr, 1)) (hv : ((iI x).toUInt32 >>> ((iI y).toUInt32 &&& Int32.toUInt32 31)).toInt32 = iI z) (kk : G X k n (pc + 1) lv (.int (iI z) :: st) sz S r h) : G X k n pc lv (.int (iI y) :: .int (iI x) :: st) sz S r h := fun ls H locs a b c => lv_iushr q.exec q.byt hd hv (kk ls H locs a b c)
theorem r_i2b (q : Ok X cc own nL fr lo mc ms) {x z : Int} (hd : decode cc pc = .ok (.i2b, 1)) (hv : (iI x).toInt8.toInt32 = iI z) (kk : G X k n (pc + 1) lv (.int (iI z) :: st) sz S r h) : G X k n pc lv (.int (iI x) :: st) sz S r h := fun ls H locs a b c => lv_i2b q.exec q.byt hd hv (kk ls H locs a b c)
theorem r_i2l (q : Ok X cc own nL fr lo mc ms) {x : Int} (hd : decode cc pc = .ok (.i2l, 1)) (hx : inR x) (kk : G X k n (pc + 1) lv (.long (lI x) :: st) sz S r h) : G X k n pc lv (.int (iI x) :: st) sz S r h := fun ls H locs a b c => lv_i2l q.exec q.byt hd (by
  apply Int64.toInt_inj.mp
  rw [Int32.toInt_toInt64, iI_toInt hx, lI_toInt ⟨by have := hx.1; omega, by have := hx.2; omega⟩]) (kk ls H locs a b c)
theorem r_l2i (q : Ok X cc own nL fr lo mc ms) {x : Int} (hd : decode cc pc = .ok (.l2i, 1)) (hx : inR x) (kk : G X k n (pc + 1) lv (.int (iI x) :: st) sz S r h) : G X k n pc lv (.long (lI x) :: st) sz S r h := fun ls H locs a b c => lv_l2i q.exec q.byt hd (by
  apply Int32.toInt_inj.mp
  rw [Int64.toInt_toInt32, iI_toInt hx, lI_toInt ⟨by have := hx.1; omega, by have := hx.2; omega⟩]
  have := hx.1; have := hx.2
  rw [Int.bmod_def]; omega) (kk ls H locs a b c)
theorem r_land (q : Ok X cc own nL fr lo mc ms) {x y z : Int} (hd : decode cc pc = .ok (.land, 1)) (hv : lI x &&& lI y = lI z) (kk : G X k n (pc + 1) lv (.long (lI z) :: st) sz S r h) : G X k n pc lv (.long (lI y) :: .long (lI x) :: st) sz S r h := fun ls H locs a b c => lv_land q.exec q.byt hd (by rw [hv]; exact kk ls H locs a b c)
theorem r_lor (q : Ok X cc own nL fr lo mc ms) {x y z : Int} (hd : decode cc pc = .ok (.lor, 1)) (hv : lI x ||| lI y = lI z) (kk : G X k n (pc + 1) lv (.long (lI z) :: st) sz S r h) : G X k n pc lv (.long (lI y) :: .long (lI x) :: st) sz S r h := fun ls H locs a b c => lv_lor q.exec q.byt hd (by rw [hv]; exact kk ls H locs a b c)
theorem r_lshl (q : Ok X cc own nL fr lo mc ms) {x y z : Int} (hd : decode cc pc = .ok (.lshl, 1)) (hv : lI x <<< ((iI y).toInt64 &&& 63) = lI z) (kk : G X k n (pc + 1) lv (.long (lI z) :: st) sz S r h) : G X k n pc lv (.int (iI y) :: .long (lI x) :: st) sz S r h := fun ls H locs a b c => lv_lshl q.exec q.byt hd hv (kk ls H locs a b c)
theorem r_lushr (q : Ok X cc own nL fr lo mc ms) {x y z : Int} (hd : decode cc pc = .ok (.lushr, 1)) (hv : ((lI x).toUInt64 >>> ((iI y).toInt64.toUInt64 &&& Int64.toUInt64 63)).toInt64 = lI z) (kk : G X k n (pc + 1) lv (.long (lI z) :: st) sz S r h) : G X k n pc lv (.int (iI y) :: .long (lI x) :: st) sz S r h := fun ls H locs a b c => lv_lushr q.exec q.byt hd hv (kk ls H locs a b c)
def cmpI (x y : Int) : Int := if x < y then -1 else if x = y then 0 else 1
theorem lI_cmp {x y : Int} (hx : inL x) (hy : inL y) : lg_cmp (lI x) (lI y) = iI (cmpI x y) := by
  have hl : ∀ {a b : Int}, inL a → inL b → (lI a < lI b ↔ a < b) := fun ha hb => by rw [Int64.lt_iff_toInt_lt, lI_toInt ha, lI_toInt hb]
  have h1 := hl hx hy
  have h2 := hl hy hx
  have h3 := lI_eq hx hy
  unfold lg_cmp cmpI
  by_cases a : x < y
  · have hn : ¬ y < x := by omega
    have hne : ¬ x = y := by omega
    simp [h1, h2, h3, a, hn, hne]
    try decide
  · by_cases b : x = y
    · subst b
      simp [h1, h2]
      try decide
    · have : y < x := by omega
      simp [h1, h2, h3, a, b, this]
      try decide
theorem r_lcmp (q : Ok X cc own nL fr lo mc ms) {x y : Int} (hd : decode cc pc = .ok (.lcmp, 1)) (hx : inL x) (hy : inL y) (kk : G X k n (pc + 1) lv (.int (iI (cmpI x y)) :: st) sz S r h) : G X k n pc lv (.long (lI y) :: .long (lI x) :: st) sz S r h := fun ls H locs a b c => W.lcmp q.exec q.byt hd (by rw [lI_cmp hx hy]; exact kk ls H locs a b c)
theorem r_dup (q : Ok X cc own nL fr lo mc ms) {v : Value} (hd : decode cc pc = .ok (.dup, 1)) (hc : v.category = 1) (kk : G X k n (pc + 1) lv (v :: v :: st) sz S r h) : G X k n pc lv (v :: st) sz S r h := fun ls H locs a b c => lv_dup q.exec q.byt hd hc (kk ls H locs a b c)
theorem r_dup2 (q : Ok X cc own nL fr lo mc ms) {v w : Value} (hd : decode cc pc = .ok (.dup2, 1)) (hc : v.category = 1) (hw : w.category = 1) (kk : G X k n (pc + 1) lv (v :: w :: v :: w :: st) sz S r h) : G X k n pc lv (v :: w :: st) sz S r h := fun ls H locs a b c => lv_dup2_11 q.exec q.byt hd hc hw (kk ls H locs a b c)
theorem r_goto (q : Ok X cc own nL fr lo mc ms) {off : Int} {tgt : Nat} (hd : decode cc pc = .ok (.goto off, 3)) (ht : (pc : Int) + off = (tgt : Int)) (kk : G X k n tgt lv st sz S r h) : G X k n pc lv st sz S r h := fun ls H locs a b c => lv_goto q.exec q.byt hd ht (kk ls H locs a b c)
theorem r_icmp_eq (q : Ok X cc own nL fr lo mc ms) {x y : Int} {off : Int} (tgt : Nat) (hd : decode cc pc = .ok (.if_icmp .eq off, 3)) (ht : (pc : Int) + off = (tgt : Int)) (hx : inR x) (hy : inR y) (kt : x = y → G X k n tgt lv st sz S r h) (kf : ¬ (x = y) → G X k n (pc + 3) lv st sz S r h) : G X k n pc lv (.int (iI y) :: .int (iI x) :: st) sz S r h := fun ls H locs a b c => lv_icmp_eq q.exec q.byt hd ht (fun e => kt ((iI_eq hx hy).mp e) ls H locs a b c) (fun e => kf (fun z => e ((iI_eq hx hy).mpr z)) ls H locs a b c)
theorem r_if_eq (q : Ok X cc own nL fr lo mc ms) {x : Int} {off : Int} (tgt : Nat) (hd : decode cc pc = .ok (.ifCond .eq off, 3)) (ht : (pc : Int) + off = (tgt : Int)) (hx : inR x) (kt : x = 0 → G X k n tgt lv st sz S r h) (kf : ¬ (x = 0) → G X k n (pc + 3) lv st sz S r h) : G X k n pc lv (.int (iI x) :: st) sz S r h := fun ls H locs a b c => lv_if_eq q.exec q.byt hd ht (fun e => kt ((iI_eq hx inR_0).mp (by rw [iI_0]; exact e)) ls H locs a b c) (fun e => kf (fun z => e (by have := (iI_eq hx inR_0).mpr z; rw [iI_0] at this; exact this)) ls H locs a b c)
theorem r_icmp_lt (q : Ok X cc own nL fr lo mc ms) {x y : Int} {off : Int} (tgt : Nat) (hd : decode cc pc = .ok (.if_icmp .lt off, 3)) (ht : (pc : Int) + off = (tgt : Int)) (hx : inR x) (hy : inR y) (kt : x < y → G X k n tgt lv st sz S r h) (kf : ¬ (x < y) → G X k n (pc + 3) lv st sz S r h) : G X k n pc lv (.int (iI y) :: .int (iI x) :: st) sz S r h := fun ls H locs a b c => lv_icmp_lt q.exec q.byt hd ht (fun e => kt ((iI_lt hx hy).mp e) ls H locs a b c) (fun e => kf (fun z => e ((iI_lt hx hy).mpr z)) ls H locs a b c)
theorem r_if_lt (q : Ok X cc own nL fr lo mc ms) {x : Int} {off : Int} (tgt : Nat) (hd : decode cc pc = .ok (.ifCond .lt off, 3)) (ht : (pc : Int) + off = (tgt : Int)) (hx : inR x) (kt : x < 0 → G X k n tgt lv st sz S r h) (kf : ¬ (x < 0) → G X k n (pc + 3) lv st sz S r h) : G X k n pc lv (.int (iI x) :: st) sz S r h := fun ls H locs a b c => lv_if_lt q.exec q.byt hd ht (fun e => kt ((iI_lt hx inR_0).mp (by rw [iI_0]; exact e)) ls H locs a b c) (fun e => kf (fun z => e (by have := (iI_lt hx inR_0).mpr z; rw [iI_0] at this; exact this)) ls H locs a b c)
theorem r_icmp_ge (q : Ok X cc own nL fr lo mc ms) {x y : Int} {off : Int} (tgt : Nat) (hd : decode cc pc = .ok (.if_icmp .ge off, 3)) (ht : (pc : Int) + off = (tgt : Int)) (hx : inR x) (hy : inR y) (kt : y ≤ x → G X k n tgt lv st sz S r h) (kf : ¬ (y ≤ x) → G X k n (pc + 3) lv st sz S r h) : G X k n pc lv (.int (iI y) :: .int (iI x) :: st) sz S r h := fun ls H locs a b c => lv_icmp_ge q.exec q.byt hd ht (fun e => kt ((iI_le hy hx).mp e) ls H locs a b c) (fun e => kf (fun z => e ((iI_le hy hx).mpr z)) ls H locs a b c)
theorem r_if_ge (q : Ok X cc own nL fr lo mc ms) {x : Int} {off : Int} (tgt : Nat) (hd : decode cc pc = .ok (.ifCond .ge off, 3)) (ht : (pc : Int) + off = (tgt : Int)) (hx : inR x) (kt : 0 ≤ x → G X k n tgt lv st sz S r h) (kf : ¬ (0 ≤ x) → G X k n (pc + 3) lv st sz S r h) : G X k n pc lv (.int (iI x) :: st) sz S r h := fun ls H locs a b c => lv_if_ge q.exec q.byt hd ht (fun e => kt ((iI_le inR_0 hx).mp (by rw [iI_0]; exact e)) ls H locs a b c) (fun e => kf (fun z => e (by have := (iI_le inR_0 hx).mpr z; rw [iI_0] at this; exact this)) ls H locs a b c)
theorem r_icmp_gt (q : Ok X cc own nL fr lo mc ms) {x y : Int} {off : Int} (tgt : Nat) (hd : decode cc pc = .ok (.if_icmp .gt off, 3)) (ht : (pc : Int) + off = (tgt : Int)) (hx : inR x) (hy : inR y) (kt : y < x → G X k n tgt lv st sz S r h) (kf : ¬ (y < x) → G X k n (pc + 3) lv st sz S r h) : G X k n pc lv (.int (iI y) :: .int (iI x) :: st) sz S r h := fun ls H locs a b c => lv_icmp_gt q.exec q.byt hd ht (fun e => kt ((iI_lt hy hx).mp e) ls H locs a b c) (fun e => kf (fun z => e ((iI_lt hy hx).mpr z)) ls H locs a b c)
theorem r_if_gt (q : Ok X cc own nL fr lo mc ms) {x : Int} {off : Int} (tgt : Nat) (hd : decode cc pc = .ok (.ifCond .gt off, 3)) (ht : (pc : Int) + off = (tgt : Int)) (hx : inR x) (kt : 0 < x → G X k n tgt lv st sz S r h) (kf : ¬ (0 < x) → G X k n (pc + 3) lv st sz S r h) : G X k n pc lv (.int (iI x) :: st) sz S r h := fun ls H locs a b c => lv_if_gt q.exec q.byt hd ht (fun e => kt ((iI_lt inR_0 hx).mp (by rw [iI_0]; exact e)) ls H locs a b c) (fun e => kf (fun z => e (by have := (iI_lt inR_0 hx).mpr z; rw [iI_0] at this; exact this)) ls H locs a b c)
theorem r_icmp_le (q : Ok X cc own nL fr lo mc ms) {x y : Int} {off : Int} (tgt : Nat) (hd : decode cc pc = .ok (.if_icmp .le off, 3)) (ht : (pc : Int) + off = (tgt : Int)) (hx : inR x) (hy : inR y) (kt : x ≤ y → G X k n tgt lv st sz S r h) (kf : ¬ (x ≤ y) → G X k n (pc + 3) lv st sz S r h) : G X k n pc lv (.int (iI y) :: .int (iI x) :: st) sz S r h := fun ls H locs a b c => lv_icmp_le q.exec q.byt hd ht (fun e => kt ((iI_le hx hy).mp e) ls H locs a b c) (fun e => kf (fun z => e ((iI_le hx hy).mpr z)) ls H locs a b c)
theorem r_if_le (q : Ok X cc own nL fr lo mc ms) {x : Int} {off : Int} (tgt : Nat) (hd : decode cc pc = .ok (.ifCond .le off, 3)) (ht : (pc : Int) + off = (tgt : Int)) (hx : inR x) (kt : x ≤ 0 → G X k n tgt lv st sz S r h) (kf : ¬ (x ≤ 0) → G X k n (pc + 3) lv st sz S r h) : G X k n pc lv (.int (iI x) :: st) sz S r h := fun ls H locs a b c => lv_if_le q.exec q.byt hd ht (fun e => kt ((iI_le hx inR_0).mp (by rw [iI_0]; exact e)) ls H locs a b c) (fun e => kf (fun z => e (by have := (iI_le hx inR_0).mpr z; rw [iI_0] at this; exact this)) ls H locs a b c)
theorem r_icmp_ne (q : Ok X cc own nL fr lo mc ms) {x y : Int} {off : Int} (tgt : Nat) (hd : decode cc pc = .ok (.if_icmp .ne off, 3)) (ht : (pc : Int) + off = (tgt : Int)) (hx : inR x) (hy : inR y) (kt : ¬ x = y → G X k n tgt lv st sz S r h) (kf : x = y → G X k n (pc + 3) lv st sz S r h) : G X k n pc lv (.int (iI y) :: .int (iI x) :: st) sz S r h := fun ls H locs a b c => lv_icmp_ne q.exec q.byt hd ht (fun e => kt (fun z => e ((iI_eq hx hy).mpr z)) ls H locs a b c) (fun e => kf ((iI_eq hx hy).mp e) ls H locs a b c)
theorem r_if_ne (q : Ok X cc own nL fr lo mc ms) {x : Int} {off : Int} (tgt : Nat) (hd : decode cc pc = .ok (.ifCond .ne off, 3)) (ht : (pc : Int) + off = (tgt : Int)) (hx : inR x) (kt : ¬ x = 0 → G X k n tgt lv st sz S r h) (kf : x = 0 → G X k n (pc + 3) lv st sz S r h) : G X k n pc lv (.int (iI x) :: st) sz S r h := fun ls H locs a b c => lv_if_ne q.exec q.byt hd ht (fun e => kt (fun z => e (by rw [z, iI_0])) ls H locs a b c) (fun e => kf ((iI_eq hx inR_0).mp (by rw [iI_0]; exact e)) ls H locs a b c)
end RW
end
section
/-! ===== fields, arrays ===== -/
/-- the field k of class ci, by the pool entry idx of class own -/
def FC (C : String) (T : u_T) (N ci : Nat) : Prop := vwCl[ci]? = some (C, T, N) ∧ (∀ w ∈ u_ws C T N, w ∈ UG) ∧ (∀ j, j < N → parseFieldDescriptor (T j).2.2.1 = some (tyc ci j)) ∧ (∀ a, a < N → ∀ b, b < N → a ≠ b → (T a).2.1 ≠ (T b).2.1)
def FL (own : String) (idx ci k : Nat) (fin : Bool) : Prop := ∃ (C : String) (T : u_T) (N : Nat), FC C T N ci ∧ k < N ∧ (T k).2.2.2 = fin ∧ (T k).1 = C ∧ Cond.fieldLink own idx C (T k).2.1 (T k).2.2.1 ∈ UG
theorem fv_upi {ci k : Nat} {ra : Int → Option Nat} {ha : Int → Int} {z : Int} (hk : isRf (tyc ci k) = false) : ∀ j : Nat, updV (fun k => fv ci k ra ha) k (.int (iI z)) j = fv ci j ra (up ha (k : Int) z) := by
  intro j
  by_cases e : j = k
  · subst e
    simp [updV, fv, hk, up]
  · have : ¬ (j : Int) = (k : Int) := by omega
    simp [updV, fv, e, up, this]
theorem fv_upr {ci k : Nat} {ra : Int → Option Nat} {ha : Int → Int} {b : Option Nat} (hk : isRf (tyc ci k) = true) : ∀ j : Nat, updV (fun k => fv ci k ra ha) k (va_rf b) j = fv ci j (up ra (k : Int) b) ha := by
  intro j
  by_cases e : j = k
  · subst e
    simp [updV, fv, hk, up]
  · have : ¬ (j : Int) = (k : Int) := by omega
    simp [updV, fv, e, up, this]
section RH
variable {X : CX} {k n pc : Nat} {lv : List (Option Value)} {st : List Value} {sz : Nat} {S : sS} {r : sR} {h : sH} {cc : ByteArray} {own : String} {nL fr lo mc ms : Nat}
theorem g_get (q : Ok X cc own nL fr lo mc ms) {idx ci kf : Nat} {fin : Bool} (f : FL own idx ci kf fin) (hci : ci < 20) {a nn : Nat} (ha : S a = some (ci, nn)) {v : Value} (hv : fv ci kf (r a) (h a) = v) (hd : decode cc pc = .ok (.getfield idx, 3)) (kk : G X k n (pc + 3) lv (v :: st) sz S r h) : G X k n pc lv (.ref a :: st) sz S r h := by
  intro ls H locs a1 b1 c1
  obtain ⟨C, T, N, ⟨hc, hin, hty, hnm⟩, hk, hfin, hC, hl⟩ := f
  obtain ⟨q', hq', cell, q1, q2, q3, q4⟩ := ((b1.2 a ci nn ha).2.2).obj hci
  cases hq'.symm.trans hc
  obtain ⟨hS, hfc, kC, hkC, hkind⟩ := q.va.1 ci _ hc
  obtain ⟨cf, kf', fi, fd, hi, hsl⟩ := hS kf hk
  rw [hC] at hi
  refine W.getf q.exec q.byt q.ow (q.w hl) hi (u_facts hfc hkC (u_lays (ws := UG) (fun w h => q.w h) hin hk) (by rw [hC]; exact hi)).1 q1 (by rw [q3]; exact fun h => by cases h) (v := v) ?_ rfl rfl hd (kk ls H locs a1 b1 c1)
  rw [hsl, q4 kf hk]
  exact congrArg some hv
theorem r_geti (q : Ok X cc own nL fr lo mc ms) {idx ci kf : Nat} {kz : Int} {fin : Bool} (f : FL own idx ci kf fin) (ek : (kf : Int) = kz) (hci : ci < 20) (hk : isRf (tyc ci kf) = false) {a nn : Nat} (ha : S a = some (ci, nn)) (hd : decode cc pc = .ok (.getfield idx, 3)) (kk : G X k n (pc + 3) lv (.int (iI (h a kz)) :: st) sz S r h) : G X k n pc lv (.ref a :: st) sz S r h :=
  g_get q f hci ha (by simp [fv, hk, ek]) hd kk
theorem r_getr (q : Ok X cc own nL fr lo mc ms) {idx ci kf : Nat} {kz : Int} {fin : Bool} (f : FL own idx ci kf fin) (ek : (kf : Int) = kz) (hci : ci < 20) (hk : isRf (tyc ci kf) = true) {a nn b : Nat} (ha : S a = some (ci, nn)) (hb : r a kz = some b) (hd : decode cc pc = .ok (.getfield idx, 3)) (kk : G X k n (pc + 3) lv (.ref b :: st) sz S r h) : G X k n pc lv (.ref a :: st) sz S r h :=
  g_get q f hci ha (by simp [fv, hk, ek, hb, va_rf]) hd kk
theorem g_put (q : Ok X cc own nL fr lo mc ms) {idx ci kf : Nat} (f : FL own idx ci kf false) (hci : ci < 20) {a nn : Nat} (ha : S a = some (ci, nn)) {v : Value} (hn : narrow (tyc ci kf) v = v) (hfit : fits (tyc ci kf) v = true) (hd : decode cc pc = .ok (.putfield idx, 3))
    (kk : ∀ (ls : Array Slot) (H H1 : Heap) (locs : List Loc), LV ls lv → Rel (xD X) (xA X) (xB X) sz S r h H → H1.size = H.size → (∀ z : Nat, z ≠ a → H1[z]? = H[z]?) → (∀ q' : vw_C, vwCl[ci]? = some q' → t_OB a ((xD X).1 ci) q'.2.2 ((xD X).2 ci) H1 (updV (fun k => fv ci k (r a) (h a)) kf v)) → va_S (fun q => xB X ≤ q) (xs X).heap H1 locs → WX X k n H1 locs (F0 (xm X) (pc + 3) ls st)) : G X k n pc lv (v :: .ref a :: st) sz S r h := by
  intro ls H locs a1 b1 c1
  obtain ⟨C, T, N, ⟨hc, hin, hty, hnm⟩, hk, hfin, hC, hl⟩ := f
  have hts : ∀ w ∈ UG, w.before (xa X) (xs X) = true := fun w h => q.w h
  have hap := va_apart (own := own) hts hin (tyc ci) hty hnm q.va hc
  obtain ⟨hBa, hnn, hcell⟩ := b1.2 a ci nn ha
  obtain ⟨q', hq', cell, q1, q2, q3, q4⟩ := hcell.obj hci
  cases hq'.symm.trans hc
  obtain ⟨hS, hfc, kC, hkC, hkind⟩ := q.va.1 ci _ hc
  obtain ⟨cf, kf', fi, fd, hi, hsl⟩ := hS kf hk
  have hlay := hts _ (hin _ (u_in_lay hk))
  unfold u_lay at hlay
  rw [if_neg (by rw [hfin]; decide)] at hlay
  have hst := (u_facts hfc hkC (u_lays hts hin hk) hi).1
  have h6 := u_store hfc hkC hkind hlay hi (hty kf hk) hn hfit
  have hi' := hi
  rw [hC] at hi'
  refine W.putK q.exec q.byt (f := fd) ⟨q.ow, q.w hl, ⟨_, _, _, hi'⟩, hst⟩ (by rw [q2]; exact h6) q1 q3 (by rw [hsl]; exact k2_hasslot (q4 kf hk)) rfl rfl hd fun H' e1 e2 e3 => ?_
  rw [hsl] at e1 ⊢
  refine kk ls H H' _ a1 b1 e2 e3 (fun q'' hq'' => ?_) (c1.put e2 e3 hBa)
  cases hq''.symm.trans hc
  exact ⟨_, e1, q2, q3, t_set q4 hap hk v⟩
theorem g_putF (q : Ok X cc own nL fr lo mc ms) (hin2 : (xh X).name = "<init>") {idx ci kf : Nat} (f : FL own idx ci kf true) (hown : vwCl[ci]?.map (fun q => q.1) = some own) (hci : ci < 20) {a nn : Nat} (ha : S a = some (ci, nn)) {v : Value} (hn : narrow (tyc ci kf) v = v) (hfit : fits (tyc ci kf) v = true) (hd : decode cc pc = .ok (.putfield idx, 3))
    (kk : ∀ (ls : Array Slot) (H H1 : Heap) (locs : List Loc), LV ls lv → Rel (xD X) (xA X) (xB X) sz S r h H → H1.size = H.size → (∀ z : Nat, z ≠ a → H1[z]? = H[z]?) → (∀ q' : vw_C, vwCl[ci]? = some q' → t_OB a ((xD X).1 ci) q'.2.2 ((xD X).2 ci) H1 (updV (fun k => fv ci k (r a) (h a)) kf v)) → va_S (fun q => xB X ≤ q) (xs X).heap H1 locs → WX X k n H1 locs (F0 (xm X) (pc + 3) ls st)) : G X k n pc lv (v :: .ref a :: st) sz S r h := by
  intro ls H locs a1 b1 c1
  obtain ⟨C, T, N, ⟨hc, hin, hty, hnm⟩, hk, hfin, hC, hl⟩ := f
  rw [hc] at hown
  have hCo : C = own := Option.some.inj hown
  have hts : ∀ w ∈ UG, w.before (xa X) (xs X) = true := fun w h => q.w h
  have hap := va_apart (own := own) hts hin (tyc ci) hty hnm q.va hc
  obtain ⟨hBa, hnn, hcell⟩ := b1.2 a ci nn ha
  obtain ⟨q', hq', cell, q1, q2, q3, q4⟩ := hcell.obj hci
  cases hq'.symm.trans hc
  obtain ⟨hS, hfc, kC, hkC, hkind⟩ := q.va.1 ci _ hc
  obtain ⟨cf, kf', fi, fd, hi, hsl⟩ := hS kf hk
  have hlay := hts _ (hin _ (u_in_lay hk))
  unfold u_lay at hlay
  rw [if_pos hfin] at hlay
  have hst := (u_facts hfc hkC (u_lays hts hin hk) hi).1
  have hcf : (xm X).cls = cf := by
    obtain ⟨_, _, c', _, _, _, -, -, hf', -, -, -, hown2, -⟩ := Cond.laysFinal_spec hlay
    have e1 : c' = cf := by have := hi.symm.trans hf'; simp at this; exact this.1.symm
    rw [hC, hCo] at hown2
    rw [← e1]; exact Option.some.inj (q.ow.symm.trans hown2)
  have h6 := u_fits hfc hkC hkind (Or.inr hlay) hi (hty kf hk) hn hfit
  have hi' := hi
  rw [hC] at hi'
  refine W.putFinK q.exec q.byt q.ow (q.w hl) hi' hst hcf hin2 (by rw [q2]; exact h6) q1 q3 (by rw [hsl]; exact k2_hasslot (q4 kf hk)) rfl rfl hd fun H' e1 e2 e3 => ?_
  rw [hsl] at e1 ⊢
  refine kk ls H H' _ a1 b1 e2 e3 (fun q'' hq'' => ?_) (c1.put e2 e3 hBa)
  cases hq''.symm.trans hc
  exact ⟨_, e1, q2, q3, t_set q4 hap hk v⟩
theorem cellAt.mk {D : va_G} {aC : Nat → ClassId} {kd n a : Nat} {ra : Int → Option Nat} {ha : Int → Int} {H : Heap} {V : Nat → Value} (hk : kd < 20) (hq : kd < 13) (e : ∀ q : vw_C, vwCl[kd]? = some q → t_OB a (D.1 kd) q.2.2 (D.2 kd) H V) (hV : ∀ j, V j = fv kd j ra ha) : cellAt D aC kd n ra ha a H := by
  unfold cellAt
  rw [if_pos hk]
  have hl : kd < vwCl.length := hq
  exact ⟨vwCl[kd], List.getElem?_eq_getElem hl, (e _ (List.getElem?_eq_getElem hl)).to (fun j _ => hV j)⟩
/-- an int field (also a boolean one: 0 or 1) -/
theorem r_puti (q : Ok X cc own nL fr lo mc ms) {idx ci kf : Nat} {kz : Int} (f : FL own idx ci kf false) (ek : (kf : Int) = kz) (hci : ci < 13) (hk : tyc ci kf = .int) {a nn : Nat} (ha : S a = some (ci, nn)) {z : Int} (hd : decode cc pc = .ok (.putfield idx, 3))
    (kk : ∀ h1 : sH, h1 = up h a (up (h a) kz z) → G X k n (pc + 3) lv st sz S r h1) : G X k n pc lv (.int (iI z) :: .ref a :: st) sz S r h := by
  subst ek
  have hr : isRf (tyc ci kf) = false := by rw [hk]; rfl
  refine g_put q f (by omega) ha (by rw [hk]; rfl) (by rw [hk]; rfl) hd fun ls H H1 locs a1 b1 z1 o1 e1 s1 => ?_
  exact kk _ rfl ls H1 locs a1 (b1.seth ha _ z1 o1 (cellAt.mk (by omega) hci e1 (fv_upi hr))) s1
theorem r_putz (q : Ok X cc own nL fr lo mc ms) {idx ci kf : Nat} {kz : Int} (f : FL own idx ci kf false) (ek : (kf : Int) = kz) (hci : ci < 13) (hk : tyc ci kf = .boolean) {a nn : Nat} (ha : S a = some (ci, nn)) {z : Int} (hz : z = 0 ∨ z = 1) (hd : decode cc pc = .ok (.putfield idx, 3))
    (kk : ∀ h1 : sH, h1 = up h a (up (h a) kz z) → G X k n (pc + 3) lv st sz S r h1) : G X k n pc lv (.int (iI z) :: .ref a :: st) sz S r h := by
  subst ek
  have hr : isRf (tyc ci kf) = false := by rw [hk]; rfl
  refine g_put q f (by omega) ha (by rw [hk]; rcases hz with rfl | rfl <;> decide) (by rw [hk]; rcases hz with rfl | rfl <;> decide) hd fun ls H H1 locs a1 b1 z1 o1 e1 s1 => ?_
  exact kk _ rfl ls H1 locs a1 (b1.seth ha _ z1 o1 (cellAt.mk (by omega) hci e1 (fv_upi hr))) s1
/-- a final field of references, in the constructor -/
theorem r_putrF (q : Ok X cc own nL fr lo mc ms) (hin2 : (xh X).name = "<init>") {idx ci kf : Nat} {kz : Int} (f : FL own idx ci kf true) (ek : (kf : Int) = kz) (hown : vwCl[ci]?.map (fun q => q.1) = some own) (hci : ci < 13) (hk : isRf (tyc ci kf) = true) (hn : ∀ b, narrow (tyc ci kf) (.ref b) = .ref b) (hfit : ∀ b, fits (tyc ci kf) (.ref b) = true) {a nn b : Nat} (ha : S a = some (ci, nn)) (hd : decode cc pc = .ok (.putfield idx, 3))
    (kk : ∀ r1 : sR, r1 = up r a (up (r a) kz (some b)) → G X k n (pc + 3) lv st sz S r1 h) : G X k n pc lv (.ref b :: .ref a :: st) sz S r h := by
  subst ek
  refine g_putF q hin2 f hown (by omega) ha (hn b) (hfit b) hd fun ls H H1 locs a1 b1 z1 o1 e1 s1 => ?_
  exact kk _ rfl ls H1 locs a1 (b1.setr ha _ z1 o1 (cellAt.mk (by omega) hci e1 (fv_upr (b := some b) hk))) s1
/-! arrays -/
theorem av_upi {kd : Nat} {ra : Int → Option Nat} {ha : Int → Int} {j : Int} (h0 : 0 ≤ j) {z : Int} (h1 : kd < 23) : ∀ i : Nat, updV (fun i => av kd (ra i) (ha i)) j.toNat (.int (iI z)) i = av kd (ra i) (up ha j z i) := by
  intro i
  have h23 : ¬ kd = 23 := by omega
  have h24 : kd < 24 := by omega
  by_cases e : i = j.toNat
  · subst e
    have : ((j.toNat : Nat) : Int) = j := Int.toNat_of_nonneg h0
    simp [updV, av, h23, h24, up, this]
  · have : ¬ (i : Int) = j := by omega
    simp [updV, e, up, this]
theorem av_upl {ra : Int → Option Nat} {ha : Int → Int} {j : Int} (h0 : 0 ≤ j) {z : Int} : ∀ i : Nat, updV (fun i => av 23 (ra i) (ha i)) j.toNat (.long (lI z)) i = av 23 (ra i) (up ha j z i) := by
  intro i
  by_cases e : i = j.toNat
  · subst e
    have : ((j.toNat : Nat) : Int) = j := Int.toNat_of_nonneg h0
    simp [updV, av, up, this]
  · have : ¬ (i : Int) = j := by omega
    simp [updV, e, up, this]
theorem vinA {cA : ClassId} {nn : Nat} {V : Nat → Value} {j : Int} (h0 : 0 ≤ j) (h1 : j < nn) (hn : nn ≤ 2147483647) : ¬ (iI j < 0 ∨ (arrV cA nn V).slots.size ≤ (iI j).toNatClampNeg) := by
  rw [arrV_size]
  exact iI_vin h0 h1 (by omega)
theorem r_iald (q : Ok X cc own nL fr lo mc ms) {a nn : Nat} (ha : S a = some (20, nn)) {j : Int} (h0 : 0 ≤ j) (h1 : j < nn) (hd : decode cc pc = .ok (.iaload, 1)) (kk : G X k n (pc + 1) lv (.int (iI (h a j)) :: st) sz S r h) : G X k n pc lv (.int (iI j) :: .ref a :: st) sz S r h := by
  intro ls H locs a1 b1 c1
  obtain ⟨-, hn, hc⟩ := b1.2 a 20 nn ha
  have e := hc.arr (by decide)
  refine W.iald (v := .int (iI (h a j))) q.exec q.byt e ((q.va.2 0 _ rfl).1 nn _) (fun q => by cases q) (vinA h0 h1 hn) ?_ rfl rfl hd (kk ls H locs a1 b1 c1)
  rw [iI_clamp h0 (by omega), arrV_read _ _ (by omega), Int.toNat_of_nonneg h0]
  rfl
theorem r_bald (q : Ok X cc own nL fr lo mc ms) {a nn : Nat} (ha : S a = some (21, nn)) {j : Int} (h0 : 0 ≤ j) (h1 : j < nn) (hd : decode cc pc = .ok (.baload, 1)) (kk : G X k n (pc + 1) lv (.int (iI (h a j)) :: st) sz S r h) : G X k n pc lv (.int (iI j) :: .ref a :: st) sz S r h := by
  intro ls H locs a1 b1 c1
  obtain ⟨-, hn, hc⟩ := b1.2 a 21 nn ha
  have e := hc.arr (by decide)
  refine W.bald (v := .int (iI (h a j))) q.exec q.byt e ((q.va.2 1 _ rfl).1 nn _) (fun q => by cases q) (vinA h0 h1 hn) ?_ rfl rfl hd (kk ls H locs a1 b1 c1)
  rw [iI_clamp h0 (by omega), arrV_read _ _ (by omega), Int.toNat_of_nonneg h0]
  rfl
theorem r_zald (q : Ok X cc own nL fr lo mc ms) {a nn : Nat} (ha : S a = some (22, nn)) {j : Int} (h0 : 0 ≤ j) (h1 : j < nn) (hd : decode cc pc = .ok (.baload, 1)) (kk : G X k n (pc + 1) lv (.int (iI (h a j)) :: st) sz S r h) : G X k n pc lv (.int (iI j) :: .ref a :: st) sz S r h := by
  intro ls H locs a1 b1 c1
  obtain ⟨-, hn, hc⟩ := b1.2 a 22 nn ha
  have e := hc.arr (by decide)
  refine W.zald (v := .int (iI (h a j))) q.exec q.byt e ((q.va.2 2 _ rfl).1 nn _) (fun q => by cases q) (vinA h0 h1 hn) ?_ rfl rfl hd (kk ls H locs a1 b1 c1)
  rw [iI_clamp h0 (by omega), arrV_read _ _ (by omega), Int.toNat_of_nonneg h0]
  rfl
theorem r_lald (q : Ok X cc own nL fr lo mc ms) {a nn : Nat} (ha : S a = some (23, nn)) {j : Int} (h0 : 0 ≤ j) (h1 : j < nn) (hd : decode cc pc = .ok (.laload, 1)) (kk : G X k n (pc + 1) lv (.long (lI (h a j)) :: st) sz S r h) : G X k n pc lv (.int (iI j) :: .ref a :: st) sz S r h := by
  intro ls H locs a1 b1 c1
  obtain ⟨-, hn, hc⟩ := b1.2 a 23 nn ha
  have e := hc.arr (by decide)
  refine W.lald (v := .long (lI (h a j))) q.exec q.byt e ((q.va.2 3 _ rfl).1 nn _) (fun q => by cases q) (vinA h0 h1 hn) ?_ rfl rfl hd (kk ls H locs a1 b1 c1)
  rw [iI_clamp h0 (by omega), arrV_read _ _ (by omega), Int.toNat_of_nonneg h0]
  rfl
theorem g_aald (q : Ok X cc own nL fr lo mc ms) {kd t0 : Nat} {ty : FieldType} (ht : (tysL (xA X))[t0]? = some (xA X kd, ty)) (hrf : ty.isReference = true) (hk : 24 ≤ kd) {a nn b : Nat} (ha : S a = some (kd, nn)) {j : Int} (h0 : 0 ≤ j) (h1 : j < nn) (hb : r a j = some b) (hd : decode cc pc = .ok (.aaload, 1)) (kk : G X k n (pc + 1) lv (.ref b :: st) sz S r h) : G X k n pc lv (.int (iI j) :: .ref a :: st) sz S r h := by
  intro ls H locs a1 b1 c1
  obtain ⟨-, hn, hc⟩ := b1.2 a kd nn ha
  have e := hc.arr (by omega)
  refine W.aald (v := .ref b) (ty := ty) q.exec q.byt e ((q.va.2 t0 _ ht).1 nn _) hrf (fun q => by cases q) (vinA h0 h1 hn) ?_ rfl rfl hd (kk ls H locs a1 b1 c1)
  rw [iI_clamp h0 (by omega), arrV_read _ _ (by omega), Int.toNat_of_nonneg h0, hb]
  simp only [av, va_rf]
  rw [if_neg (by omega), if_neg (by omega)]
theorem r_aald24 (q : Ok X cc own nL fr lo mc ms) {a nn b : Nat} (ha : S a = some (24, nn)) {j : Int} (h0 : 0 ≤ j) (h1 : j < nn) (hb : r a j = some b) (hd : decode cc pc = .ok (.aaload, 1)) (kk : G X k n (pc + 1) lv (.ref b :: st) sz S r h) : G X k n pc lv (.int (iI j) :: .ref a :: st) sz S r h := g_aald q (t0 := 4) rfl rfl (by decide) ha h0 h1 hb hd kk
theorem r_aald25 (q : Ok X cc own nL fr lo mc ms) {a nn b : Nat} (ha : S a = some (25, nn)) {j : Int} (h0 : 0 ≤ j) (h1 : j < nn) (hb : r a j = some b) (hd : decode cc pc = .ok (.aaload, 1)) (kk : G X k n (pc + 1) lv (.ref b :: st) sz S r h) : G X k n pc lv (.int (iI j) :: .ref a :: st) sz S r h := g_aald q (t0 := 5) rfl rfl (by decide) ha h0 h1 hb hd kk
theorem r_aald26 (q : Ok X cc own nL fr lo mc ms) {a nn b : Nat} (ha : S a = some (26, nn)) {j : Int} (h0 : 0 ≤ j) (h1 : j < nn) (hb : r a j = some b) (hd : decode cc pc = .ok (.aaload, 1)) (kk : G X k n (pc + 1) lv (.ref b :: st) sz S r h) : G X k n pc lv (.int (iI j) :: .ref a :: st) sz S r h := g_aald q (t0 := 6) rfl rfl (by decide) ha h0 h1 hb hd kk
theorem r_aald27 (q : Ok X cc own nL fr lo mc ms) {a nn b : Nat} (ha : S a = some (27, nn)) {j : Int} (h0 : 0 ≤ j) (h1 : j < nn) (hb : r a j = some b) (hd : decode cc pc = .ok (.aaload, 1)) (kk : G X k n (pc + 1) lv (.ref b :: st) sz S r h) : G X k n pc lv (.int (iI j) :: .ref a :: st) sz S r h := g_aald q (t0 := 7) rfl rfl (by decide) ha h0 h1 hb hd kk
theorem r_aald28 (q : Ok X cc own nL fr lo mc ms) {a nn b : Nat} (ha : S a = some (28, nn)) {j : Int} (h0 : 0 ≤ j) (h1 : j < nn) (hb : r a j = some b) (hd : decode cc pc = .ok (.aaload, 1)) (kk : G X k n (pc + 1) lv (.ref b :: st) sz S r h) : G X k n pc lv (.int (iI j) :: .ref a :: st) sz S r h := g_aald q (t0 := 8) rfl rfl (by decide) ha h0 h1 hb hd kk
theorem r_aald29 (q : Ok X cc own nL fr lo mc ms) {a nn b : Nat} (ha : S a = some (29, nn)) {j : Int} (h0 : 0 ≤ j) (h1 : j < nn) (hb : r a j = some b) (hd : decode cc pc = .ok (.aaload, 1)) (kk : G X k n (pc + 1) lv (.ref b :: st) sz S r h) : G X k n pc lv (.int (iI j) :: .ref a :: st) sz S r h := g_aald q (t0 := 9) rfl rfl (by decide) ha h0 h1 hb hd kk
theorem cellAt.upa {D : va_G} {aC : Nat → ClassId} {kd n a : Nat} {ra : Int → Option Nat} {f : Int → Int} {H : Heap} {V : Nat → Value} {j : Nat} {v : Value} (hk : ¬ kd < 20) (e : H[a]? = some ((arrV (aC kd) n V).setSlot j v)) (hV : ∀ i : Nat, updV V j v i = av kd (ra i) (f i)) : cellAt D aC kd n ra f a H := by
  unfold cellAt
  rw [if_neg hk, e, arrV_store]
  exact congrArg (fun V => some (arrV (aC kd) n V)) (funext hV)
theorem r_iast (q : Ok X cc own nL fr lo mc ms) {a nn : Nat} (ha : S a = some (20, nn)) {j z : Int} (h0 : 0 ≤ j) (h1 : j < nn) (hd : decode cc pc = .ok (.iastore, 1)) (kk : ∀ h1 : sH, h1 = up h a (up (h a) j z) → G X k n (pc + 1) lv st sz S r h1) : G X k n pc lv (.int (iI z) :: .int (iI j) :: .ref a :: st) sz S r h := by
  intro ls H locs a1 b1 c1
  obtain ⟨hB, hn, hc⟩ := b1.2 a 20 nn ha
  have e := hc.arr (by decide)
  refine W.iast q.exec q.byt e ((q.va.2 0 _ rfl).1 nn _) (fun q => by cases q) (vinA h0 h1 hn) rfl rfl hd fun H1 e1 z1 o1 => ?_
  rw [iI_clamp h0 (by omega)] at e1
  exact kk _ rfl ls H1 _ a1 (b1.seth ha _ z1 o1 (cellAt.upa (by decide) e1 (av_upi h0 (by decide)))) (c1.put z1 o1 hB)
theorem nar_b {z : Int} (h0 : -128 ≤ z) (h1 : z ≤ 127) : narrow .byte (.int (iI z)) = .int (iI z) := by
  show Value.int (iI z).toInt8.toInt32 = _
  congr 1
  apply Int32.toInt_inj.mp
  rw [Int8.toInt_toInt32, Int32.toInt_toInt8, iI_toInt ⟨by omega, by omega⟩, Int.bmod_def]
  omega
theorem r_bast (q : Ok X cc own nL fr lo mc ms) {a nn : Nat} (ha : S a = some (21, nn)) {j z : Int} (h0 : 0 ≤ j) (h1 : j < nn) (z0 : -128 ≤ z) (z1 : z ≤ 127) (hd : decode cc pc = .ok (.bastore, 1)) (kk : ∀ h1 : sH, h1 = up h a (up (h a) j z) → G X k n (pc + 1) lv st sz S r h1) : G X k n pc lv (.int (iI z) :: .int (iI j) :: .ref a :: st) sz S r h := by
  intro ls H locs a1 b1 c1
  obtain ⟨hB, hn, hc⟩ := b1.2 a 21 nn ha
  have e := hc.arr (by decide)
  refine W.bast q.exec q.byt e ((q.va.2 1 _ rfl).1 nn _) (fun q => by cases q) (vinA h0 h1 hn) rfl rfl hd fun H1 e1 z1' o1 => ?_
  rw [iI_clamp h0 (by omega), nar_b z0 z1] at e1
  exact kk _ rfl ls H1 _ a1 (b1.seth ha _ z1' o1 (cellAt.upa (by decide) e1 (av_upi h0 (by decide)))) (c1.put z1' o1 hB)
theorem nar_z {z : Int} (hz : z = 0 ∨ z = 1) : narrow .boolean (.int (iI z)) = .int (iI z) := by rcases hz with rfl | rfl <;> decide
theorem r_zast (q : Ok X cc own nL fr lo mc ms) {a nn : Nat} (ha : S a = some (22, nn)) {j z : Int} (h0 : 0 ≤ j) (h1 : j < nn) (hz : z = 0 ∨ z = 1) (hd : decode cc pc = .ok (.bastore, 1)) (kk : ∀ h1 : sH, h1 = up h a (up (h a) j z) → G X k n (pc + 1) lv st sz S r h1) : G X k n pc lv (.int (iI z) :: .int (iI j) :: .ref a :: st) sz S r h := by
  intro ls H locs a1 b1 c1
  obtain ⟨hB, hn, hc⟩ := b1.2 a 22 nn ha
  have e := hc.arr (by decide)
  refine W.zast q.exec q.byt e ((q.va.2 2 _ rfl).1 nn _) (fun q => by cases q) (vinA h0 h1 hn) rfl rfl hd fun H1 e1 z1' o1 => ?_
  rw [iI_clamp h0 (by omega), nar_z hz] at e1
  exact kk _ rfl ls H1 _ a1 (b1.seth ha _ z1' o1 (cellAt.upa (by decide) e1 (av_upi h0 (by decide)))) (c1.put z1' o1 hB)
theorem r_last (q : Ok X cc own nL fr lo mc ms) {a nn : Nat} (ha : S a = some (23, nn)) {j z : Int} (h0 : 0 ≤ j) (h1 : j < nn) (hd : decode cc pc = .ok (.lastore, 1)) (kk : ∀ h1 : sH, h1 = up h a (up (h a) j z) → G X k n (pc + 1) lv st sz S r h1) : G X k n pc lv (.long (lI z) :: .int (iI j) :: .ref a :: st) sz S r h := by
  intro ls H locs a1 b1 c1
  obtain ⟨hB, hn, hc⟩ := b1.2 a 23 nn ha
  have e := hc.arr (by decide)
  refine W.last q.exec q.byt e ((q.va.2 3 _ rfl).1 nn _) (fun q => by cases q) (vinA h0 h1 hn) rfl rfl hd fun H1 e1 z1 o1 => ?_
  rw [iI_clamp h0 (by omega)] at e1
  exact kk _ rfl ls H1 _ a1 (b1.seth ha _ z1 o1 (cellAt.upa (by decide) e1 (av_upl h0))) (c1.put z1 o1 hB)
theorem g_alen (q : Ok X cc own nL fr lo mc ms) {kd t0 : Nat} {ty : FieldType} (ht : (tysL (xA X))[t0]? = some (xA X kd, ty)) (hk : 20 ≤ kd) {a nn : Nat} (ha : S a = some (kd, nn)) (hd : decode cc pc = .ok (.arraylength, 1)) (kk : G X k n (pc + 1) lv (.int (iI (nn : Int)) :: st) sz S r h) : G X k n pc lv (.ref a :: st) sz S r h := by
  intro ls H locs a1 b1 c1
  obtain ⟨-, hn, hc⟩ := b1.2 a kd nn ha
  have e := hc.arr (by omega)
  exact W.alen (n := iI (nn : Int)) q.exec q.byt e ((q.va.2 t0 _ ht).1 nn _) (by rw [arrV_size]; rfl) rfl rfl hd (kk ls H locs a1 b1 c1)
theorem r_alen20 (q : Ok X cc own nL fr lo mc ms) {a nn : Nat} (ha : S a = some (20, nn)) (hd : decode cc pc = .ok (.arraylength, 1)) (kk : G X k n (pc + 1) lv (.int (iI (nn : Int)) :: st) sz S r h) : G X k n pc lv (.ref a :: st) sz S r h := g_alen q (t0 := 0) rfl (by decide) ha hd kk
theorem r_alen23 (q : Ok X cc own nL fr lo mc ms) {a nn : Nat} (ha : S a = some (23, nn)) (hd : decode cc pc = .ok (.arraylength, 1)) (kk : G X k n (pc + 1) lv (.int (iI (nn : Int)) :: st) sz S r h) : G X k n pc lv (.ref a :: st) sz S r h := g_alen q (t0 := 3) rfl (by decide) ha hd kk
/-! the signs' values -/
theorem r_sv (q : Ok X cc own nL fr lo mc ms) {idx : Nat} (hl : Cond.fieldLink own idx "MileLists" "SIGN_VALUES" "[I" ∈ UG) (hd : decode cc pc = .ok (.getstatic idx, 3)) (kk : G X k n (pc + 3) lv (.ref (xt X) :: st) sz S r h) : G X k n pc lv st sz S r h := fun ls H locs a b c => va_gets q.exec q.byt q.kk.2.1 c q.ow (q.w hl) (fun _ h => h) hd (kk ls H locs a b c)
theorem r_svN (q : Ok X cc own nL fr lo mc ms) {idx : Nat} (hl : (own, idx) ∈ nwF) (hd : decode cc pc = .ok (.getstatic idx, 3)) (kk : G X k n (pc + 3) lv (.ref (xt X) :: st) sz S r h) : G X k n pc lv st sz S r h := fun ls H locs a b c => va_getsN (host := "MileLists") q.exec q.byt q.kk.2.1 c q.ow (va_Nw.use rfl (q.kk.2.2.2.2.1 _ hl)) (fun _ h => h) hd (kk ls H locs a b c)
theorem r_svld (q : Ok X cc own nL fr lo mc ms) {j : Int} (h0 : 0 ≤ j) (h1 : j < 5) (hd : decode cc pc = .ok (.iaload, 1)) (kk : G X k n (pc + 1) lv (.int (iI (svI j)) :: st) sz S r h) : G X k n pc lv (.int (iI j) :: .ref (xt X) :: st) sz S r h := fun ls H locs a b c => va_ti (v := .int (iI (svI j))) q.exec q.byt q.kk.2.2.1 c (iI_vin h0 h1 (by omega)) (by rw [iI_clamp h0 (by omega), Int.toNat_of_nonneg h0]) hd (kk ls H locs a b c)
theorem r_svlen (q : Ok X cc own nL fr lo mc ms) (hd : decode cc pc = .ok (.arraylength, 1)) (kk : G X k n (pc + 1) lv (.int (iI 5) :: st) sz S r h) : G X k n pc lv (.ref (xt X) :: st) sz S r h := fun ls H locs a b c => va_tlen (v := iI 5) q.exec q.byt q.kk.2.2.1 c rfl hd (kk ls H locs a b c)
end RH
end
section
/-! ===== ends and calls ===== -/
def nP (sz : Nat) (S : sS) (r : sR) (Q : Option Value → sH → Prop) : sP := fun v sz1 S1 r1 h1 => sz1 = sz ∧ S1 = S ∧ r1 = r ∧ Q v h1
def nPI (sz : Nat) (S : sS) (r : sR) (Q : Int → sH → Prop) : sP := nP sz S r (fun v h1 => ∃ z : Int, v = some (.int (iI z)) ∧ Q z h1)
def nPL (sz : Nat) (S : sS) (r : sR) (Q : Int → sH → Prop) : sP := nP sz S r (fun v h1 => ∃ z : Int, v = some (.long (lI z)) ∧ Q z h1)
def nPV (sz : Nat) (S : sS) (r : sR) (Q : sH → Prop) : sP := nP sz S r (fun v h1 => v = none ∧ Q h1)
/-- contracts of methods that make nothing: an int, a long, nothing as the answer -/
def CtI (l : Launch) (y : MethodName) (cc : ByteArray) (maxL : Nat) (ret : Option FieldType) (fr lo : Nat) (av : List Value) (D : va_G) (aC : Nat → ClassId) (B t sz : Nat) (S : sS) (r : sR) (h : sH) (Q : Int → sH → Prop) : Prop := Ct l y cc maxL ret fr lo 0 0 av D aC B t sz S r h (nPI sz S r Q)
def CtL (l : Launch) (y : MethodName) (cc : ByteArray) (maxL : Nat) (ret : Option FieldType) (fr lo : Nat) (av : List Value) (D : va_G) (aC : Nat → ClassId) (B t sz : Nat) (S : sS) (r : sR) (h : sH) (Q : Int → sH → Prop) : Prop := Ct l y cc maxL ret fr lo 0 0 av D aC B t sz S r h (nPL sz S r Q)
def CtV (l : Launch) (y : MethodName) (cc : ByteArray) (maxL : Nat) (ret : Option FieldType) (fr lo : Nat) (av : List Value) (D : va_G) (aC : Nat → ClassId) (B t sz : Nat) (S : sS) (r : sR) (h : sH) (Q : sH → Prop) : Prop := Ct l y cc maxL ret fr lo 0 0 av D aC B t sz S r h (nPV sz S r Q)
def MLB (own : String) (idx : Nat) (y : MethodName) (cc : ByteArray) (maxL : Nat) (ret : Option FieldType) (np : Nat) : Prop :=
  Cond.initialized y.cls ∈ UG ∧ Cond.code y cc maxL ret ∈ UG ∧ (y.cls ≠ "java/lang/invoke/MethodHandle" ∧ y.cls ≠ "java/lang/invoke/VarHandle" ∧ (parseMethodDescriptor y.desc).map (fun d => d.parameters.length) = some np)
def MLV (own : String) (idx : Nat) (y : MethodName) (cc : ByteArray) (maxL : Nat) (ret : Option FieldType) (ci np : Nat) : Prop :=
  MLB own idx y cc maxL ret np ∧ Cond.methodLink own idx y ∈ UG ∧ Cond.instanceMethod y ∈ UG ∧ Cond.selects y.cls y y ∈ UG ∧ vwCl[ci]?.map (fun q => q.1) = some y.cls ∧ ci < 20
def MLS (own : String) (idx : Nat) (y : MethodName) (cc : ByteArray) (maxL : Nat) (ret : Option FieldType) (np : Nat) : Prop :=
  MLB own idx y cc maxL ret np ∧ Cond.methodLink own idx y ∈ UG ∧ Cond.static y ∈ UG
def MLI (own : String) (idx : Nat) (y : MethodName) (cc : ByteArray) (maxL : Nat) (np : Nat) : Prop :=
  MLB own idx y cc maxL none np ∧ Cond.methodLink own idx y ∈ UG ∧ Cond.instanceMethod y ∈ UG ∧ y.name = "<init>"
def MLN (own : String) (idx : Nat) (y : MethodName) (cc : ByteArray) (maxL : Nat) (np : Nat) : Prop :=
  MLB own idx y cc maxL none np ∧ (own, idx, y) ∈ nwM ∧ Cond.instanceMethod y ∈ UG ∧ y.name = "<init>"
section RC
variable {X : CX} {k n pc : Nat} {lv : List (Option Value)} {st : List Value} {sz : Nat} {S : sS} {r : sR} {h : sH} {cc : ByteArray} {own : String} {nL fr lo mc ms : Nat}
theorem g_ireturn (q : Ok X cc own nL fr lo mc ms) {P : sP} (rt : Rt X (some .int) mc ms P) (hk : k ≤ mc) (hn : n ≤ ms) {z : Int} (hd : decode cc pc = .ok (.ireturn, 1)) (hP : P (some (.int (iI z))) sz S r h) : G X k n pc lv [.int (iI z)] sz S r h := by
  intro ls H locs a b c
  unfold WX
  rw [rt.2.2]
  refine W.widen hk hn ?_
  exact W.iret q.exec q.byt rt.2.1 (fun t ht hW => ⟨⟨_, _, _, _, _, rfl, hP, by rw [ht]; exact b⟩, c.F ht⟩) c.2.2 hd rt.1
theorem g_zreturn (q : Ok X cc own nL fr lo mc ms) {P : sP} (rt : Rt X (some .boolean) mc ms P) (hk : k ≤ mc) (hn : n ≤ ms) {z : Int} (hz : z = 0 ∨ z = 1) (hd : decode cc pc = .ok (.ireturn, 1)) (hP : P (some (.int (iI z))) sz S r h) : G X k n pc lv [.int (iI z)] sz S r h := by
  intro ls H locs a b c
  unfold WX
  rw [rt.2.2]
  refine W.widen hk hn ?_
  exact W.zret q.exec q.byt rt.2.1 (nar_z hz) (fun t ht hW => ⟨⟨_, _, _, _, _, rfl, hP, by rw [ht]; exact b⟩, c.F ht⟩) c.2.2 hd rt.1
theorem g_lreturn (q : Ok X cc own nL fr lo mc ms) {P : sP} (rt : Rt X (some .long) mc ms P) (hk : k ≤ mc) (hn : n ≤ ms) {z : Int} (hd : decode cc pc = .ok (.lreturn, 1)) (hP : P (some (.long (lI z))) sz S r h) : G X k n pc lv [.long (lI z)] sz S r h := by
  intro ls H locs a b c
  unfold WX
  rw [rt.2.2]
  refine W.widen hk hn ?_
  exact W.lret q.exec q.byt rt.2.1 (fun t ht hW => ⟨⟨_, _, _, _, _, rfl, hP, by rw [ht]; exact b⟩, c.F ht⟩) c.2.2 hd rt.1
theorem g_return (q : Ok X cc own nL fr lo mc ms) {P : sP} (rt : Rt X none mc ms P) (hk : k ≤ mc) (hn : n ≤ ms) (hd : decode cc pc = .ok (.return_, 1)) (hP : P none sz S r h) : G X k n pc lv [] sz S r h := by
  intro ls H locs a b c
  unfold WX
  rw [rt.2.2]
  refine W.widen hk hn ?_
  exact W.vret q.exec q.byt rt.2.1 (fun t ht hW => ⟨⟨_, _, _, _, _, rfl, hP, by rw [ht]; exact b⟩, c.F ht⟩) c.2.2 hd rt.1
theorem r_ireturn (q : Ok X cc own nL fr lo 0 0) {Q : Int → sH → Prop} (rt : Rt X (some .int) 0 0 (nPI sz S r Q)) {z : Int} (hd : decode cc pc = .ok (.ireturn, 1)) (hQ : Q z h) : G X 0 0 pc lv [.int (iI z)] sz S r h := g_ireturn q rt (Nat.le_refl 0) (Nat.le_refl 0) hd ⟨rfl, rfl, rfl, z, rfl, hQ⟩
theorem r_zreturn (q : Ok X cc own nL fr lo 0 0) {Q : Int → sH → Prop} (rt : Rt X (some .boolean) 0 0 (nPI sz S r Q)) {z : Int} (hd : decode cc pc = .ok (.ireturn, 1)) (hz : z = 0 ∨ z = 1) (hQ : Q z h) : G X 0 0 pc lv [.int (iI z)] sz S r h := g_zreturn q rt (Nat.le_refl 0) (Nat.le_refl 0) hz hd ⟨rfl, rfl, rfl, z, rfl, hQ⟩
theorem r_lreturn (q : Ok X cc own nL fr lo 0 0) {Q : Int → sH → Prop} (rt : Rt X (some .long) 0 0 (nPL sz S r Q)) {z : Int} (hd : decode cc pc = .ok (.lreturn, 1)) (hQ : Q z h) : G X 0 0 pc lv [.long (lI z)] sz S r h := g_lreturn q rt (Nat.le_refl 0) (Nat.le_refl 0) hd ⟨rfl, rfl, rfl, z, rfl, hQ⟩
theorem r_return (q : Ok X cc own nL fr lo 0 0) {Q : sH → Prop} (rt : Rt X none 0 0 (nPV sz S r Q)) (hd : decode cc pc = .ok (.return_, 1)) (hQ : Q h) : G X 0 0 pc lv [] sz S r h := g_return q rt (Nat.le_refl 0) (Nat.le_refl 0) hd ⟨rfl, rfl, rfl, rfl, hQ⟩
theorem g_run {mc1 ms1 : Nat} {rest st0 : List Value} {av : Array Value} {P : sP} {ls : Array Slot} {H : Heap} {locs : List Loc} (hr : va_Run (xp X) (xl X) (xe X) (xR X) (xs X) (xm X) (xa X) (xb X) (xh X) (xc X) H locs k n mc1 ms1 (F0 (xm X) pc ls st0) rest (QP (xD X) (xA X) (xB X) P av) (fun q => xB X ≤ q)) (hS : va_S (fun q => xB X ≤ q) (xs X).heap H locs)
    (kk : ∀ (v : Option Value) (sz1 : Nat) (S1 : sS) (r1 : sR) (h1 : sH), P v sz1 S1 r1 h1 → ∀ (H1 : Heap) (locs1 : List Loc), Rel (xD X) (xA X) (xB X) sz1 S1 r1 h1 H1 → va_S (fun q => xB X ≤ q) (xs X).heap H1 locs1 → WX X (k + mc1) (n + ms1) H1 locs1 (F0 (xm X) (pc + 3) ls (v.toList ++ rest))) : WX X k n H locs (F0 (xm X) pc ls st0) := by
  intro T hT Xs
  obtain ⟨v, st₀, t, T', L, h0, X', hL, e1, e2, ⟨⟨v', sz1, S1, r1, h1, hv, hP, hRel⟩, hz, hk⟩, st⟩ := hr T hT Xs
  cases hv
  rw [h0] at hz hk
  obtain ⟨t2, a1, b1⟩ := kk v sz1 S1 r1 h1 hP T'.heap (locs ++ L) (by rw [e1]; exact hRel)
    ⟨Nat.le_trans hS.1 (by rw [e1]; exact hz), fun q g1 g2 => by rw [e1, hk q (Nat.lt_of_lt_of_le g1 hS.1) g2]; exact hS.2.1 q g1 g2, fun q hq => by
      rcases List.mem_append.mp hq with h | h
      · exact hS.2.2 q h
      · exact hL q h⟩ T' rfl X'
  exact ⟨t2, st t2 a1, b1⟩
theorem Pc_blind {D : va_G} {aC : Nat → ClassId} {B t : Nat} {av : List Value} : FrameBlind (va_Pc av (fun U => Rel D aC B sz S r h U.heap ∧ KK D aC B t U)) := by
  intro a U g mk hq
  obtain ⟨q0, q1, q2⟩ := hq
  exact ⟨q0, q1, q2.moved (U := U.calling g mk a) (State.WarmedH.refl U) (Nat.le_refl _) (fun _ _ _ => rfl)⟩
theorem Ok.at (q : Ok X cc own nL fr lo mc ms) {H : Heap} {locs : List Loc} (hS : va_S (fun q => xB X ≤ q) (xs X).heap H locs) {U : State} (hU : U.heap = H) (hW : (xs X).WarmedH U.vm) : KK (xD X) (xA X) (xB X) (xt X) U := q.kk.moved hW (by rw [hU]; exact hS.1) (fun z h1 h2 => by rw [hU]; exact hS.2.1 z h1 h2)
theorem Ok.cb (q : Ok X cc own nL fr lo mc ms) {idx maxL1 fr1 lo1 mc1 ms1 np : Nat} {y : MethodName} {c1 : ByteArray} {ret1 : Option FieldType} (hm : MLB own idx y c1 maxL1 ret1 np) (hl : Cond.methodLink own idx y ∈ UG) (hfr : fr1 + 1 ≤ fr) (hlo : 8 + (maxL1 + 11) + lo1 ≤ lo) : CallB (xR X) (xs X) (xa X) own idx y c1 maxL1 ret1 (Cond.code y c1 maxL1 ret1 :: UG) ({ frames := fr1, cells := mc1, slots := ms1, locals := lo1 } : Room) mc1 ms1 np :=
  callB_of (Ts := UG) np (fun w h => q.w h) (UG_in2 hm.2.1) rfl rfl rfl (q.w hm.1) (q.w hl) hm.2.2 ⟨by rw [q.2.2.2.2.2.2.1]; exact hfr, by rw [q.2.2.2.2.2.2.2.2.2]; exact hlo⟩
theorem g_cv (q : Ok X cc own nL fr lo mc ms) {idx maxL1 fr1 lo1 mc1 ms1 np ci nn b : Nat} {y : MethodName} {c1 : ByteArray} {ret1 : Option FieldType} {As : List Value} {P : sP} (hC : Ct (xl X) y c1 maxL1 ret1 fr1 lo1 mc1 ms1 (.ref b :: As) (xD X) (xA X) (xB X) (xt X) sz S r h P) (hm : MLV own idx y c1 maxL1 ret1 ci np) (hb : S b = some (ci, nn)) (hnp : As.length = np) (hrm : fr1 + 1 ≤ fr ∧ 8 + (maxL1 + 11) + lo1 ≤ lo ∧ k + mc1 ≤ mc ∧ n + ms1 ≤ ms) (hst : (st.map fun v => v.category).sum ≤ 8) (hl : lv.length = nL) (hd : decode cc pc = .ok (.invokevirtual idx, 3))
    (kk : ∀ (v : Option Value) (sz1 : Nat) (S1 : sS) (r1 : sR) (h1 : sH), P v sz1 S1 r1 h1 → G X (k + mc1) (n + ms1) (pc + 3) lv (v.toList ++ st) sz1 S1 r1 h1) : G X k n pc lv (As.reverse ++ .ref b :: st) sz S r h := by
  intro ls H locs a1 b1 c1
  obtain ⟨hB, hlk, hin, hse, hcl, hci⟩ := hm
  refine g_run (mc1 := mc1) (ms1 := ms1) (va_runV (As := As) (rest := st) (Ts := UG) ⟨q.exec, q.byt, q.ml, q.ow, fun w h => q.w h⟩ hC ⟨q.cb hB hlk hrm.1 hrm.2.1, q.w hin, q.w hse⟩ ⟨Pc_blind, ?_, fun U hU hW => ⟨rfl, by rw [hU]; exact b1, q.at c1 hU hW⟩⟩ rfl hnp (a1.1.trans hl) rfl (lv_room hst) hd ⟨by rw [q.2.2.2.2.2.2.2.1]; exact hrm.2.2.1, by rw [q.2.2.2.2.2.2.2.2.1]; exact hrm.2.2.2⟩) c1 fun v sz1 S1 r1 h1 hP H1 locs1 hR hS => kk v sz1 S1 r1 h1 hP ls H1 locs1 a1 hR hS
  obtain ⟨q', hq', cell, g1, g2, g3, -⟩ := ((b1.2 b ci nn hb).2.2).obj hci
  rw [hq'] at hcl
  refine ⟨cell, g1, by rw [g3]; rfl, ?_⟩
  rw [g2, ← Option.some.inj hcl]
  exact (q.va.1 ci q' hq').2.1
theorem g_cs (q : Ok X cc own nL fr lo mc ms) {idx maxL1 fr1 lo1 mc1 ms1 np : Nat} {y : MethodName} {c1 : ByteArray} {ret1 : Option FieldType} {As : List Value} {P : sP} (hC : Ct (xl X) y c1 maxL1 ret1 fr1 lo1 mc1 ms1 As (xD X) (xA X) (xB X) (xt X) sz S r h P) (hm : MLS own idx y c1 maxL1 ret1 np) (hnp : As.length = np) (hrm : fr1 + 1 ≤ fr ∧ 8 + (maxL1 + 11) + lo1 ≤ lo ∧ k + mc1 ≤ mc ∧ n + ms1 ≤ ms) (hst : (st.map fun v => v.category).sum ≤ 8) (hl : lv.length = nL) (hd : decode cc pc = .ok (.invokestatic idx, 3))
    (kk : ∀ (v : Option Value) (sz1 : Nat) (S1 : sS) (r1 : sR) (h1 : sH), P v sz1 S1 r1 h1 → G X (k + mc1) (n + ms1) (pc + 3) lv (v.toList ++ st) sz1 S1 r1 h1) : G X k n pc lv (As.reverse ++ st) sz S r h := by
  intro ls H locs a1 b1 c1
  obtain ⟨hB, hlk, hse⟩ := hm
  exact g_run (mc1 := mc1) (ms1 := ms1) (va_runS (As := As) (rest := st) (Ts := UG) ⟨q.exec, q.byt, q.ml, q.ow, fun w h => q.w h⟩ hC ⟨q.cb hB hlk hrm.1 hrm.2.1, q.w hse⟩ ⟨Pc_blind, fun U hU hW => ⟨rfl, by rw [hU]; exact b1, q.at c1 hU hW⟩⟩ rfl hnp (a1.1.trans hl) rfl (lv_room hst) hd ⟨by rw [q.2.2.2.2.2.2.2.1]; exact hrm.2.2.1, by rw [q.2.2.2.2.2.2.2.2.1]; exact hrm.2.2.2⟩) c1 fun v sz1 S1 r1 h1 hP H1 locs1 hR hS => kk v sz1 S1 r1 h1 hP ls H1 locs1 a1 hR hS
theorem g_ci (q : Ok X cc own nL fr lo mc ms) {idx maxL1 fr1 lo1 mc1 ms1 np b : Nat} {y : MethodName} {c1 : ByteArray} {As : List Value} {P : sP} (hC : Ct (xl X) y c1 maxL1 none fr1 lo1 mc1 ms1 (.ref b :: As) (xD X) (xA X) (xB X) (xt X) sz S r h P) (hm : MLI own idx y c1 maxL1 np) (hnp : As.length = np) (hrm : fr1 + 1 ≤ fr ∧ 8 + (maxL1 + 11) + lo1 ≤ lo ∧ k + mc1 ≤ mc ∧ n + ms1 ≤ ms) (hst : (st.map fun v => v.category).sum ≤ 8) (hl : lv.length = nL) (hd : decode cc pc = .ok (.invokespecial idx, 3))
    (kk : ∀ (v : Option Value) (sz1 : Nat) (S1 : sS) (r1 : sR) (h1 : sH), P v sz1 S1 r1 h1 → G X (k + mc1) (n + ms1) (pc + 3) lv (v.toList ++ st) sz1 S1 r1 h1) : G X k n pc lv (As.reverse ++ .ref b :: st) sz S r h := by
  intro ls H locs a1 b1 c1
  obtain ⟨hB, hlk, hin, hnm⟩ := hm
  exact g_run (mc1 := mc1) (ms1 := ms1) (va_runI (As := As) (rest := st) (Ts := UG) ⟨q.exec, q.byt, q.ml, q.ow, fun w h => q.w h⟩ hC ⟨q.cb hB hlk hrm.1 hrm.2.1, hnm, q.w hin⟩ ⟨Pc_blind, fun U hU hW => ⟨rfl, by rw [hU]; exact b1, q.at c1 hU hW⟩⟩ rfl hnp (a1.1.trans hl) rfl (lv_room hst) hd ⟨by rw [q.2.2.2.2.2.2.2.1]; exact hrm.2.2.1, by rw [q.2.2.2.2.2.2.2.2.1]; exact hrm.2.2.2⟩) c1 fun v sz1 S1 r1 h1 hP H1 locs1 hR hS => kk v sz1 S1 r1 h1 hP ls H1 locs1 a1 hR hS
theorem g_cn (q : Ok X cc own nL fr lo mc ms) {idx maxL1 fr1 lo1 mc1 ms1 np b : Nat} {y : MethodName} {c1 : ByteArray} {As : List Value} {P : sP} (hC : Ct (xl X) y c1 maxL1 none fr1 lo1 mc1 ms1 (.ref b :: As) (xD X) (xA X) (xB X) (xt X) sz S r h P) (hm : MLN own idx y c1 maxL1 np) (hnp : As.length = np) (hrm : fr1 + 1 ≤ fr ∧ 8 + (maxL1 + 11) + lo1 ≤ lo ∧ k + mc1 ≤ mc ∧ n + ms1 ≤ ms) (hst : (st.map fun v => v.category).sum ≤ 8) (hl : lv.length = nL) (hd : decode cc pc = .ok (.invokespecial idx, 3))
    (kk : ∀ (v : Option Value) (sz1 : Nat) (S1 : sS) (r1 : sR) (h1 : sH), P v sz1 S1 r1 h1 → G X (k + mc1) (n + ms1) (pc + 3) lv (v.toList ++ st) sz1 S1 r1 h1) : G X k n pc lv (As.reverse ++ .ref b :: st) sz S r h := by
  intro ls H locs a1 b1 c1
  obtain ⟨hB, hlk, hin, hnm⟩ := hm
  exact g_run (mc1 := mc1) (ms1 := ms1) (va_runIN (As := As) (rest := st) (Ts := UG) (host := "MileLists") ⟨q.exec, q.byt, q.ml, q.ow, fun w h => q.w h⟩ hC ⟨va_cnB (Ts := UG) np (fun w h => q.w h) (UG_in2 hB.2.1) rfl rfl rfl (q.kk.2.2.2.1 _ hlk) (q.w hB.1) hB.2.2 ⟨by rw [q.2.2.2.2.2.2.1]; exact hrm.1, by rw [q.2.2.2.2.2.2.2.2.2]; exact hrm.2.1⟩, hnm, q.w hin⟩ ⟨Pc_blind, fun U hU hW => ⟨rfl, by rw [hU]; exact b1, q.at c1 hU hW⟩⟩ rfl hnp (a1.1.trans hl) rfl (lv_room hst) hd ⟨by rw [q.2.2.2.2.2.2.2.1]; exact hrm.2.2.1, by rw [q.2.2.2.2.2.2.2.2.1]; exact hrm.2.2.2⟩) c1 fun v sz1 S1 r1 h1 hP H1 locs1 hR hS => kk v sz1 S1 r1 h1 hP ls H1 locs1 a1 hR hS

theorem r_cI0 (q : Ok X cc own nL fr lo mc ms) {idx maxL1 fr1 lo1 ci nn b : Nat} {y : MethodName} {c1 : ByteArray} {ret1 : Option FieldType} {Q : Int → sH → Prop} (hC : CtI (xl X) y c1 maxL1 ret1 fr1 lo1 (.ref b :: []) (xD X) (xA X) (xB X) (xt X) sz S r h Q) (hm : MLV own idx y c1 maxL1 ret1 ci 0) (hb : S b = some (ci, nn)) (hrm : fr1 + 1 ≤ fr ∧ 8 + (maxL1 + 11) + lo1 ≤ lo ∧ k + 0 ≤ mc ∧ n + 0 ≤ ms) (hst : (st.map fun v => v.category).sum ≤ 8) (hl : lv.length = nL) (hd : decode cc pc = .ok (.invokevirtual idx, 3)) (kk : ∀ (z : Int) (h1 : sH), Q z h1 → G X k n (pc + 3) lv (.int (iI z) :: st) sz S r h1) : G X k n pc lv (.ref b :: st) sz S r h := by
  refine g_cv (As := []) q hC hm hb rfl hrm hst hl hd fun v sz1 S1 r1 h1 hP => ?_
  obtain ⟨rfl, rfl, rfl, z, rfl, hQ⟩ := hP
  exact kk z h1 hQ
theorem r_cL0 (q : Ok X cc own nL fr lo mc ms) {idx maxL1 fr1 lo1 ci nn b : Nat} {y : MethodName} {c1 : ByteArray} {ret1 : Option FieldType} {Q : Int → sH → Prop} (hC : CtL (xl X) y c1 maxL1 ret1 fr1 lo1 (.ref b :: []) (xD X) (xA X) (xB X) (xt X) sz S r h Q) (hm : MLV own idx y c1 maxL1 ret1 ci 0) (hb : S b = some (ci, nn)) (hrm : fr1 + 1 ≤ fr ∧ 8 + (maxL1 + 11) + lo1 ≤ lo ∧ k + 0 ≤ mc ∧ n + 0 ≤ ms) (hst : (st.map fun v => v.category).sum ≤ 8) (hl : lv.length = nL) (hd : decode cc pc = .ok (.invokevirtual idx, 3)) (kk : ∀ (z : Int) (h1 : sH), Q z h1 → G X k n (pc + 3) lv (.long (lI z) :: st) sz S r h1) : G X k n pc lv (.ref b :: st) sz S r h := by
  refine g_cv (As := []) q hC hm hb rfl hrm hst hl hd fun v sz1 S1 r1 h1 hP => ?_
  obtain ⟨rfl, rfl, rfl, z, rfl, hQ⟩ := hP
  exact kk z h1 hQ
theorem r_cV0 (q : Ok X cc own nL fr lo mc ms) {idx maxL1 fr1 lo1 ci nn b : Nat} {y : MethodName} {c1 : ByteArray} {ret1 : Option FieldType} {Q : sH → Prop} (hC : CtV (xl X) y c1 maxL1 ret1 fr1 lo1 (.ref b :: []) (xD X) (xA X) (xB X) (xt X) sz S r h Q) (hm : MLV own idx y c1 maxL1 ret1 ci 0) (hb : S b = some (ci, nn)) (hrm : fr1 + 1 ≤ fr ∧ 8 + (maxL1 + 11) + lo1 ≤ lo ∧ k + 0 ≤ mc ∧ n + 0 ≤ ms) (hst : (st.map fun v => v.category).sum ≤ 8) (hl : lv.length = nL) (hd : decode cc pc = .ok (.invokevirtual idx, 3)) (kk : ∀ (h1 : sH), Q h1 → G X k n (pc + 3) lv (st) sz S r h1) : G X k n pc lv (.ref b :: st) sz S r h := by
  refine g_cv (As := []) q hC hm hb rfl hrm hst hl hd fun v sz1 S1 r1 h1 hP => ?_
  obtain ⟨rfl, rfl, rfl, rfl, hQ⟩ := hP
  exact kk h1 hQ
theorem r_cI1 (q : Ok X cc own nL fr lo mc ms) {idx maxL1 fr1 lo1 ci nn b : Nat} {y : MethodName} {c1 : ByteArray} {ret1 : Option FieldType} {v1 : Value} {Q : Int → sH → Prop} (hC : CtI (xl X) y c1 maxL1 ret1 fr1 lo1 (.ref b :: [v1]) (xD X) (xA X) (xB X) (xt X) sz S r h Q) (hm : MLV own idx y c1 maxL1 ret1 ci 1) (hb : S b = some (ci, nn)) (hrm : fr1 + 1 ≤ fr ∧ 8 + (maxL1 + 11) + lo1 ≤ lo ∧ k + 0 ≤ mc ∧ n + 0 ≤ ms) (hst : (st.map fun v => v.category).sum ≤ 8) (hl : lv.length = nL) (hd : decode cc pc = .ok (.invokevirtual idx, 3)) (kk : ∀ (z : Int) (h1 : sH), Q z h1 → G X k n (pc + 3) lv (.int (iI z) :: st) sz S r h1) : G X k n pc lv (v1 :: .ref b :: st) sz S r h := by
  refine g_cv (As := [v1]) q hC hm hb rfl hrm hst hl hd fun v sz1 S1 r1 h1 hP => ?_
  obtain ⟨rfl, rfl, rfl, z, rfl, hQ⟩ := hP
  exact kk z h1 hQ
theorem r_sI1 (q : Ok X cc own nL fr lo mc ms) {idx maxL1 fr1 lo1 : Nat} {y : MethodName} {c1 : ByteArray} {ret1 : Option FieldType} {v1 : Value} {Q : Int → sH → Prop} (hC : CtI (xl X) y c1 maxL1 ret1 fr1 lo1 [v1] (xD X) (xA X) (xB X) (xt X) sz S r h Q) (hm : MLS own idx y c1 maxL1 ret1 1) (hrm : fr1 + 1 ≤ fr ∧ 8 + (maxL1 + 11) + lo1 ≤ lo ∧ k + 0 ≤ mc ∧ n + 0 ≤ ms) (hst : (st.map fun v => v.category).sum ≤ 8) (hl : lv.length = nL) (hd : decode cc pc = .ok (.invokestatic idx, 3)) (kk : ∀ (z : Int) (h1 : sH), Q z h1 → G X k n (pc + 3) lv (.int (iI z) :: st) sz S r h1) : G X k n pc lv (v1 :: st) sz S r h := by
  refine g_cs (As := [v1]) q hC hm rfl hrm hst hl hd fun v sz1 S1 r1 h1 hP => ?_
  obtain ⟨rfl, rfl, rfl, z, rfl, hQ⟩ := hP
  exact kk z h1 hQ
theorem r_cL1 (q : Ok X cc own nL fr lo mc ms) {idx maxL1 fr1 lo1 ci nn b : Nat} {y : MethodName} {c1 : ByteArray} {ret1 : Option FieldType} {v1 : Value} {Q : Int → sH → Prop} (hC : CtL (xl X) y c1 maxL1 ret1 fr1 lo1 (.ref b :: [v1]) (xD X) (xA X) (xB X) (xt X) sz S r h Q) (hm : MLV own idx y c1 maxL1 ret1 ci 1) (hb : S b = some (ci, nn)) (hrm : fr1 + 1 ≤ fr ∧ 8 + (maxL1 + 11) + lo1 ≤ lo ∧ k + 0 ≤ mc ∧ n + 0 ≤ ms) (hst : (st.map fun v => v.category).sum ≤ 8) (hl : lv.length = nL) (hd : decode cc pc = .ok (.invokevirtual idx, 3)) (kk : ∀ (z : Int) (h1 : sH), Q z h1 → G X k n (pc + 3) lv (.long (lI z) :: st) sz S r h1) : G X k n pc lv (v1 :: .ref b :: st) sz S r h := by
  refine g_cv (As := [v1]) q hC hm hb rfl hrm hst hl hd fun v sz1 S1 r1 h1 hP => ?_
  obtain ⟨rfl, rfl, rfl, z, rfl, hQ⟩ := hP
  exact kk z h1 hQ
theorem r_sL1 (q : Ok X cc own nL fr lo mc ms) {idx maxL1 fr1 lo1 : Nat} {y : MethodName} {c1 : ByteArray} {ret1 : Option FieldType} {v1 : Value} {Q : Int → sH → Prop} (hC : CtL (xl X) y c1 maxL1 ret1 fr1 lo1 [v1] (xD X) (xA X) (xB X) (xt X) sz S r h Q) (hm : MLS own idx y c1 maxL1 ret1 1) (hrm : fr1 + 1 ≤ fr ∧ 8 + (maxL1 + 11) + lo1 ≤ lo ∧ k + 0 ≤ mc ∧ n + 0 ≤ ms) (hst : (st.map fun v => v.category).sum ≤ 8) (hl : lv.length = nL) (hd : decode cc pc = .ok (.invokestatic idx, 3)) (kk : ∀ (z : Int) (h1 : sH), Q z h1 → G X k n (pc + 3) lv (.long (lI z) :: st) sz S r h1) : G X k n pc lv (v1 :: st) sz S r h := by
  refine g_cs (As := [v1]) q hC hm rfl hrm hst hl hd fun v sz1 S1 r1 h1 hP => ?_
  obtain ⟨rfl, rfl, rfl, z, rfl, hQ⟩ := hP
  exact kk z h1 hQ
theorem r_cV1 (q : Ok X cc own nL fr lo mc ms) {idx maxL1 fr1 lo1 ci nn b : Nat} {y : MethodName} {c1 : ByteArray} {ret1 : Option FieldType} {v1 : Value} {Q : sH → Prop} (hC : CtV (xl X) y c1 maxL1 ret1 fr1 lo1 (.ref b :: [v1]) (xD X) (xA X) (xB X) (xt X) sz S r h Q) (hm : MLV own idx y c1 maxL1 ret1 ci 1) (hb : S b = some (ci, nn)) (hrm : fr1 + 1 ≤ fr ∧ 8 + (maxL1 + 11) + lo1 ≤ lo ∧ k + 0 ≤ mc ∧ n + 0 ≤ ms) (hst : (st.map fun v => v.category).sum ≤ 8) (hl : lv.length = nL) (hd : decode cc pc = .ok (.invokevirtual idx, 3)) (kk : ∀ (h1 : sH), Q h1 → G X k n (pc + 3) lv (st) sz S r h1) : G X k n pc lv (v1 :: .ref b :: st) sz S r h := by
  refine g_cv (As := [v1]) q hC hm hb rfl hrm hst hl hd fun v sz1 S1 r1 h1 hP => ?_
  obtain ⟨rfl, rfl, rfl, rfl, hQ⟩ := hP
  exact kk h1 hQ
theorem r_sV1 (q : Ok X cc own nL fr lo mc ms) {idx maxL1 fr1 lo1 : Nat} {y : MethodName} {c1 : ByteArray} {ret1 : Option FieldType} {v1 : Value} {Q : sH → Prop} (hC : CtV (xl X) y c1 maxL1 ret1 fr1 lo1 [v1] (xD X) (xA X) (xB X) (xt X) sz S r h Q) (hm : MLS own idx y c1 maxL1 ret1 1) (hrm : fr1 + 1 ≤ fr ∧ 8 + (maxL1 + 11) + lo1 ≤ lo ∧ k + 0 ≤ mc ∧ n + 0 ≤ ms) (hst : (st.map fun v => v.category).sum ≤ 8) (hl : lv.length = nL) (hd : decode cc pc = .ok (.invokestatic idx, 3)) (kk : ∀ (h1 : sH), Q h1 → G X k n (pc + 3) lv (st) sz S r h1) : G X k n pc lv (v1 :: st) sz S r h := by
  refine g_cs (As := [v1]) q hC hm rfl hrm hst hl hd fun v sz1 S1 r1 h1 hP => ?_
  obtain ⟨rfl, rfl, rfl, rfl, hQ⟩ := hP
  exact kk h1 hQ
theorem r_cI2 (q : Ok X cc own nL fr lo mc ms) {idx maxL1 fr1 lo1 ci nn b : Nat} {y : MethodName} {c1 : ByteArray} {ret1 : Option FieldType} {v1 v2 : Value} {Q : Int → sH → Prop} (hC : CtI (xl X) y c1 maxL1 ret1 fr1 lo1 (.ref b :: [v1, v2]) (xD X) (xA X) (xB X) (xt X) sz S r h Q) (hm : MLV own idx y c1 maxL1 ret1 ci 2) (hb : S b = some (ci, nn)) (hrm : fr1 + 1 ≤ fr ∧ 8 + (maxL1 + 11) + lo1 ≤ lo ∧ k + 0 ≤ mc ∧ n + 0 ≤ ms) (hst : (st.map fun v => v.category).sum ≤ 8) (hl : lv.length = nL) (hd : decode cc pc = .ok (.invokevirtual idx, 3)) (kk : ∀ (z : Int) (h1 : sH), Q z h1 → G X k n (pc + 3) lv (.int (iI z) :: st) sz S r h1) : G X k n pc lv (v2 :: v1 :: .ref b :: st) sz S r h := by
  refine g_cv (As := [v1, v2]) q hC hm hb rfl hrm hst hl hd fun v sz1 S1 r1 h1 hP => ?_
  obtain ⟨rfl, rfl, rfl, z, rfl, hQ⟩ := hP
  exact kk z h1 hQ
theorem r_sI2 (q : Ok X cc own nL fr lo mc ms) {idx maxL1 fr1 lo1 : Nat} {y : MethodName} {c1 : ByteArray} {ret1 : Option FieldType} {v1 v2 : Value} {Q : Int → sH → Prop} (hC : CtI (xl X) y c1 maxL1 ret1 fr1 lo1 [v1, v2] (xD X) (xA X) (xB X) (xt X) sz S r h Q) (hm : MLS own idx y c1 maxL1 ret1 2) (hrm : fr1 + 1 ≤ fr ∧ 8 + (maxL1 + 11) + lo1 ≤ lo ∧ k + 0 ≤ mc ∧ n + 0 ≤ ms) (hst : (st.map fun v => v.category).sum ≤ 8) (hl : lv.length = nL) (hd : decode cc pc = .ok (.invokestatic idx, 3)) (kk : ∀ (z : Int) (h1 : sH), Q z h1 → G X k n (pc + 3) lv (.int (iI z) :: st) sz S r h1) : G X k n pc lv (v2 :: v1 :: st) sz S r h := by
  refine g_cs (As := [v1, v2]) q hC hm rfl hrm hst hl hd fun v sz1 S1 r1 h1 hP => ?_
  obtain ⟨rfl, rfl, rfl, z, rfl, hQ⟩ := hP
  exact kk z h1 hQ
theorem r_cL2 (q : Ok X cc own nL fr lo mc ms) {idx maxL1 fr1 lo1 ci nn b : Nat} {y : MethodName} {c1 : ByteArray} {ret1 : Option FieldType} {v1 v2 : Value} {Q : Int → sH → Prop} (hC : CtL (xl X) y c1 maxL1 ret1 fr1 lo1 (.ref b :: [v1, v2]) (xD X) (xA X) (xB X) (xt X) sz S r h Q) (hm : MLV own idx y c1 maxL1 ret1 ci 2) (hb : S b = some (ci, nn)) (hrm : fr1 + 1 ≤ fr ∧ 8 + (maxL1 + 11) + lo1 ≤ lo ∧ k + 0 ≤ mc ∧ n + 0 ≤ ms) (hst : (st.map fun v => v.category).sum ≤ 8) (hl : lv.length = nL) (hd : decode cc pc = .ok (.invokevirtual idx, 3)) (kk : ∀ (z : Int) (h1 : sH), Q z h1 → G X k n (pc + 3) lv (.long (lI z) :: st) sz S r h1) : G X k n pc lv (v2 :: v1 :: .ref b :: st) sz S r h := by
  refine g_cv (As := [v1, v2]) q hC hm hb rfl hrm hst hl hd fun v sz1 S1 r1 h1 hP => ?_
  obtain ⟨rfl, rfl, rfl, z, rfl, hQ⟩ := hP
  exact kk z h1 hQ
theorem r_sL2 (q : Ok X cc own nL fr lo mc ms) {idx maxL1 fr1 lo1 : Nat} {y : MethodName} {c1 : ByteArray} {ret1 : Option FieldType} {v1 v2 : Value} {Q : Int → sH → Prop} (hC : CtL (xl X) y c1 maxL1 ret1 fr1 lo1 [v1, v2] (xD X) (xA X) (xB X) (xt X) sz S r h Q) (hm : MLS own idx y c1 maxL1 ret1 2) (hrm : fr1 + 1 ≤ fr ∧ 8 + (maxL1 + 11) + lo1 ≤ lo ∧ k + 0 ≤ mc ∧ n + 0 ≤ ms) (hst : (st.map fun v => v.category).sum ≤ 8) (hl : lv.length = nL) (hd : decode cc pc = .ok (.invokestatic idx, 3)) (kk : ∀ (z : Int) (h1 : sH), Q z h1 → G X k n (pc + 3) lv (.long (lI z) :: st) sz S r h1) : G X k n pc lv (v2 :: v1 :: st) sz S r h := by
  refine g_cs (As := [v1, v2]) q hC hm rfl hrm hst hl hd fun v sz1 S1 r1 h1 hP => ?_
  obtain ⟨rfl, rfl, rfl, z, rfl, hQ⟩ := hP
  exact kk z h1 hQ
theorem r_cV2 (q : Ok X cc own nL fr lo mc ms) {idx maxL1 fr1 lo1 ci nn b : Nat} {y : MethodName} {c1 : ByteArray} {ret1 : Option FieldType} {v1 v2 : Value} {Q : sH → Prop} (hC : CtV (xl X) y c1 maxL1 ret1 fr1 lo1 (.ref b :: [v1, v2]) (xD X) (xA X) (xB X) (xt X) sz S r h Q) (hm : MLV own idx y c1 maxL1 ret1 ci 2) (hb : S b = some (ci, nn)) (hrm : fr1 + 1 ≤ fr ∧ 8 + (maxL1 + 11) + lo1 ≤ lo ∧ k + 0 ≤ mc ∧ n + 0 ≤ ms) (hst : (st.map fun v => v.category).sum ≤ 8) (hl : lv.length = nL) (hd : decode cc pc = .ok (.invokevirtual idx, 3)) (kk : ∀ (h1 : sH), Q h1 → G X k n (pc + 3) lv (st) sz S r h1) : G X k n pc lv (v2 :: v1 :: .ref b :: st) sz S r h := by
  refine g_cv (As := [v1, v2]) q hC hm hb rfl hrm hst hl hd fun v sz1 S1 r1 h1 hP => ?_
  obtain ⟨rfl, rfl, rfl, rfl, hQ⟩ := hP
  exact kk h1 hQ
theorem r_sV2 (q : Ok X cc own nL fr lo mc ms) {idx maxL1 fr1 lo1 : Nat} {y : MethodName} {c1 : ByteArray} {ret1 : Option FieldType} {v1 v2 : Value} {Q : sH → Prop} (hC : CtV (xl X) y c1 maxL1 ret1 fr1 lo1 [v1, v2] (xD X) (xA X) (xB X) (xt X) sz S r h Q) (hm : MLS own idx y c1 maxL1 ret1 2) (hrm : fr1 + 1 ≤ fr ∧ 8 + (maxL1 + 11) + lo1 ≤ lo ∧ k + 0 ≤ mc ∧ n + 0 ≤ ms) (hst : (st.map fun v => v.category).sum ≤ 8) (hl : lv.length = nL) (hd : decode cc pc = .ok (.invokestatic idx, 3)) (kk : ∀ (h1 : sH), Q h1 → G X k n (pc + 3) lv (st) sz S r h1) : G X k n pc lv (v2 :: v1 :: st) sz S r h := by
  refine g_cs (As := [v1, v2]) q hC hm rfl hrm hst hl hd fun v sz1 S1 r1 h1 hP => ?_
  obtain ⟨rfl, rfl, rfl, rfl, hQ⟩ := hP
  exact kk h1 hQ
theorem r_cI3 (q : Ok X cc own nL fr lo mc ms) {idx maxL1 fr1 lo1 ci nn b : Nat} {y : MethodName} {c1 : ByteArray} {ret1 : Option FieldType} {v1 v2 v3 : Value} {Q : Int → sH → Prop} (hC : CtI (xl X) y c1 maxL1 ret1 fr1 lo1 (.ref b :: [v1, v2, v3]) (xD X) (xA X) (xB X) (xt X) sz S r h Q) (hm : MLV own idx y c1 maxL1 ret1 ci 3) (hb : S b = some (ci, nn)) (hrm : fr1 + 1 ≤ fr ∧ 8 + (maxL1 + 11) + lo1 ≤ lo ∧ k + 0 ≤ mc ∧ n + 0 ≤ ms) (hst : (st.map fun v => v.category).sum ≤ 8) (hl : lv.length = nL) (hd : decode cc pc = .ok (.invokevirtual idx, 3)) (kk : ∀ (z : Int) (h1 : sH), Q z h1 → G X k n (pc + 3) lv (.int (iI z) :: st) sz S r h1) : G X k n pc lv (v3 :: v2 :: v1 :: .ref b :: st) sz S r h := by
  refine g_cv (As := [v1, v2, v3]) q hC hm hb rfl hrm hst hl hd fun v sz1 S1 r1 h1 hP => ?_
  obtain ⟨rfl, rfl, rfl, z, rfl, hQ⟩ := hP
  exact kk z h1 hQ
theorem r_sI3 (q : Ok X cc own nL fr lo mc ms) {idx maxL1 fr1 lo1 : Nat} {y : MethodName} {c1 : ByteArray} {ret1 : Option FieldType} {v1 v2 v3 : Value} {Q : Int → sH → Prop} (hC : CtI (xl X) y c1 maxL1 ret1 fr1 lo1 [v1, v2, v3] (xD X) (xA X) (xB X) (xt X) sz S r h Q) (hm : MLS own idx y c1 maxL1 ret1 3) (hrm : fr1 + 1 ≤ fr ∧ 8 + (maxL1 + 11) + lo1 ≤ lo ∧ k + 0 ≤ mc ∧ n + 0 ≤ ms) (hst : (st.map fun v => v.category).sum ≤ 8) (hl : lv.length = nL) (hd : decode cc pc = .ok (.invokestatic idx, 3)) (kk : ∀ (z : Int) (h1 : sH), Q z h1 → G X k n (pc + 3) lv (.int (iI z) :: st) sz S r h1) : G X k n pc lv (v3 :: v2 :: v1 :: st) sz S r h := by
  refine g_cs (As := [v1, v2, v3]) q hC hm rfl hrm hst hl hd fun v sz1 S1 r1 h1 hP => ?_
  obtain ⟨rfl, rfl, rfl, z, rfl, hQ⟩ := hP
  exact kk z h1 hQ
theorem r_cL3 (q : Ok X cc own nL fr lo mc ms) {idx maxL1 fr1 lo1 ci nn b : Nat} {y : MethodName} {c1 : ByteArray} {ret1 : Option FieldType} {v1 v2 v3 : Value} {Q : Int → sH → Prop} (hC : CtL (xl X) y c1 maxL1 ret1 fr1 lo1 (.ref b :: [v1, v2, v3]) (xD X) (xA X) (xB X) (xt X) sz S r h Q) (hm : MLV own idx y c1 maxL1 ret1 ci 3) (hb : S b = some (ci, nn)) (hrm : fr1 + 1 ≤ fr ∧ 8 + (maxL1 + 11) + lo1 ≤ lo ∧ k + 0 ≤ mc ∧ n + 0 ≤ ms) (hst : (st.map fun v => v.category).sum ≤ 8) (hl : lv.length = nL) (hd : decode cc pc = .ok (.invokevirtual idx, 3)) (kk : ∀ (z : Int) (h1 : sH), Q z h1 → G X k n (pc + 3) lv (.long (lI z) :: st) sz S r h1) : G X k n pc lv (v3 :: v2 :: v1 :: .ref b :: st) sz S r h := by
  refine g_cv (As := [v1, v2, v3]) q hC hm hb rfl hrm hst hl hd fun v sz1 S1 r1 h1 hP => ?_
  obtain ⟨rfl, rfl, rfl, z, rfl, hQ⟩ := hP
  exact kk z h1 hQ
theorem r_sL3 (q : Ok X cc own nL fr lo mc ms) {idx maxL1 fr1 lo1 : Nat} {y : MethodName} {c1 : ByteArray} {ret1 : Option FieldType} {v1 v2 v3 : Value} {Q : Int → sH → Prop} (hC : CtL (xl X) y c1 maxL1 ret1 fr1 lo1 [v1, v2, v3] (xD X) (xA X) (xB X) (xt X) sz S r h Q) (hm : MLS own idx y c1 maxL1 ret1 3) (hrm : fr1 + 1 ≤ fr ∧ 8 + (maxL1 + 11) + lo1 ≤ lo ∧ k + 0 ≤ mc ∧ n + 0 ≤ ms) (hst : (st.map fun v => v.category).sum ≤ 8) (hl : lv.length = nL) (hd : decode cc pc = .ok (.invokestatic idx, 3)) (kk : ∀ (z : Int) (h1 : sH), Q z h1 → G X k n (pc + 3) lv (.long (lI z) :: st) sz S r h1) : G X k n pc lv (v3 :: v2 :: v1 :: st) sz S r h := by
  refine g_cs (As := [v1, v2, v3]) q hC hm rfl hrm hst hl hd fun v sz1 S1 r1 h1 hP => ?_
  obtain ⟨rfl, rfl, rfl, z, rfl, hQ⟩ := hP
  exact kk z h1 hQ
theorem r_cV3 (q : Ok X cc own nL fr lo mc ms) {idx maxL1 fr1 lo1 ci nn b : Nat} {y : MethodName} {c1 : ByteArray} {ret1 : Option FieldType} {v1 v2 v3 : Value} {Q : sH → Prop} (hC : CtV (xl X) y c1 maxL1 ret1 fr1 lo1 (.ref b :: [v1, v2, v3]) (xD X) (xA X) (xB X) (xt X) sz S r h Q) (hm : MLV own idx y c1 maxL1 ret1 ci 3) (hb : S b = some (ci, nn)) (hrm : fr1 + 1 ≤ fr ∧ 8 + (maxL1 + 11) + lo1 ≤ lo ∧ k + 0 ≤ mc ∧ n + 0 ≤ ms) (hst : (st.map fun v => v.category).sum ≤ 8) (hl : lv.length = nL) (hd : decode cc pc = .ok (.invokevirtual idx, 3)) (kk : ∀ (h1 : sH), Q h1 → G X k n (pc + 3) lv (st) sz S r h1) : G X k n pc lv (v3 :: v2 :: v1 :: .ref b :: st) sz S r h := by
  refine g_cv (As := [v1, v2, v3]) q hC hm hb rfl hrm hst hl hd fun v sz1 S1 r1 h1 hP => ?_
  obtain ⟨rfl, rfl, rfl, rfl, hQ⟩ := hP
  exact kk h1 hQ
theorem r_sV3 (q : Ok X cc own nL fr lo mc ms) {idx maxL1 fr1 lo1 : Nat} {y : MethodName} {c1 : ByteArray} {ret1 : Option FieldType} {v1 v2 v3 : Value} {Q : sH → Prop} (hC : CtV (xl X) y c1 maxL1 ret1 fr1 lo1 [v1, v2, v3] (xD X) (xA X) (xB X) (xt X) sz S r h Q) (hm : MLS own idx y c1 maxL1 ret1 3) (hrm : fr1 + 1 ≤ fr ∧ 8 + (maxL1 + 11) + lo1 ≤ lo ∧ k + 0 ≤ mc ∧ n + 0 ≤ ms) (hst : (st.map fun v => v.category).sum ≤ 8) (hl : lv.length = nL) (hd : decode cc pc = .ok (.invokestatic idx, 3)) (kk : ∀ (h1 : sH), Q h1 → G X k n (pc + 3) lv (st) sz S r h1) : G X k n pc lv (v3 :: v2 :: v1 :: st) sz S r h := by
  refine g_cs (As := [v1, v2, v3]) q hC hm rfl hrm hst hl hd fun v sz1 S1 r1 h1 hP => ?_
  obtain ⟨rfl, rfl, rfl, rfl, hQ⟩ := hP
  exact kk h1 hQ
theorem r_cI4 (q : Ok X cc own nL fr lo mc ms) {idx maxL1 fr1 lo1 ci nn b : Nat} {y : MethodName} {c1 : ByteArray} {ret1 : Option FieldType} {v1 v2 v3 v4 : Value} {Q : Int → sH → Prop} (hC : CtI (xl X) y c1 maxL1 ret1 fr1 lo1 (.ref b :: [v1, v2, v3, v4]) (xD X) (xA X) (xB X) (xt X) sz S r h Q) (hm : MLV own idx y c1 maxL1 ret1 ci 4) (hb : S b = some (ci, nn)) (hrm : fr1 + 1 ≤ fr ∧ 8 + (maxL1 + 11) + lo1 ≤ lo ∧ k + 0 ≤ mc ∧ n + 0 ≤ ms) (hst : (st.map fun v => v.category).sum ≤ 8) (hl : lv.length = nL) (hd : decode cc pc = .ok (.invokevirtual idx, 3)) (kk : ∀ (z : Int) (h1 : sH), Q z h1 → G X k n (pc + 3) lv (.int (iI z) :: st) sz S r h1) : G X k n pc lv (v4 :: v3 :: v2 :: v1 :: .ref b :: st) sz S r h := by
  refine g_cv (As := [v1, v2, v3, v4]) q hC hm hb rfl hrm hst hl hd fun v sz1 S1 r1 h1 hP => ?_
  obtain ⟨rfl, rfl, rfl, z, rfl, hQ⟩ := hP
  exact kk z h1 hQ
theorem r_sI4 (q : Ok X cc own nL fr lo mc ms) {idx maxL1 fr1 lo1 : Nat} {y : MethodName} {c1 : ByteArray} {ret1 : Option FieldType} {v1 v2 v3 v4 : Value} {Q : Int → sH → Prop} (hC : CtI (xl X) y c1 maxL1 ret1 fr1 lo1 [v1, v2, v3, v4] (xD X) (xA X) (xB X) (xt X) sz S r h Q) (hm : MLS own idx y c1 maxL1 ret1 4) (hrm : fr1 + 1 ≤ fr ∧ 8 + (maxL1 + 11) + lo1 ≤ lo ∧ k + 0 ≤ mc ∧ n + 0 ≤ ms) (hst : (st.map fun v => v.category).sum ≤ 8) (hl : lv.length = nL) (hd : decode cc pc = .ok (.invokestatic idx, 3)) (kk : ∀ (z : Int) (h1 : sH), Q z h1 → G X k n (pc + 3) lv (.int (iI z) :: st) sz S r h1) : G X k n pc lv (v4 :: v3 :: v2 :: v1 :: st) sz S r h := by
  refine g_cs (As := [v1, v2, v3, v4]) q hC hm rfl hrm hst hl hd fun v sz1 S1 r1 h1 hP => ?_
  obtain ⟨rfl, rfl, rfl, z, rfl, hQ⟩ := hP
  exact kk z h1 hQ
theorem r_cL4 (q : Ok X cc own nL fr lo mc ms) {idx maxL1 fr1 lo1 ci nn b : Nat} {y : MethodName} {c1 : ByteArray} {ret1 : Option FieldType} {v1 v2 v3 v4 : Value} {Q : Int → sH → Prop} (hC : CtL (xl X) y c1 maxL1 ret1 fr1 lo1 (.ref b :: [v1, v2, v3, v4]) (xD X) (xA X) (xB X) (xt X) sz S r h Q) (hm : MLV own idx y c1 maxL1 ret1 ci 4) (hb : S b = some (ci, nn)) (hrm : fr1 + 1 ≤ fr ∧ 8 + (maxL1 + 11) + lo1 ≤ lo ∧ k + 0 ≤ mc ∧ n + 0 ≤ ms) (hst : (st.map fun v => v.category).sum ≤ 8) (hl : lv.length = nL) (hd : decode cc pc = .ok (.invokevirtual idx, 3)) (kk : ∀ (z : Int) (h1 : sH), Q z h1 → G X k n (pc + 3) lv (.long (lI z) :: st) sz S r h1) : G X k n pc lv (v4 :: v3 :: v2 :: v1 :: .ref b :: st) sz S r h := by
  refine g_cv (As := [v1, v2, v3, v4]) q hC hm hb rfl hrm hst hl hd fun v sz1 S1 r1 h1 hP => ?_
  obtain ⟨rfl, rfl, rfl, z, rfl, hQ⟩ := hP
  exact kk z h1 hQ
theorem r_sL4 (q : Ok X cc own nL fr lo mc ms) {idx maxL1 fr1 lo1 : Nat} {y : MethodName} {c1 : ByteArray} {ret1 : Option FieldType} {v1 v2 v3 v4 : Value} {Q : Int → sH → Prop} (hC : CtL (xl X) y c1 maxL1 ret1 fr1 lo1 [v1, v2, v3, v4] (xD X) (xA X) (xB X) (xt X) sz S r h Q) (hm : MLS own idx y c1 maxL1 ret1 4) (hrm : fr1 + 1 ≤ fr ∧ 8 + (maxL1 + 11) + lo1 ≤ lo ∧ k + 0 ≤ mc ∧ n + 0 ≤ ms) (hst : (st.map fun v => v.category).sum ≤ 8) (hl : lv.length = nL) (hd : decode cc pc = .ok (.invokestatic idx, 3)) (kk : ∀ (z : Int) (h1 : sH), Q z h1 → G X k n (pc + 3) lv (.long (lI z) :: st) sz S r h1) : G X k n pc lv (v4 :: v3 :: v2 :: v1 :: st) sz S r h := by
  refine g_cs (As := [v1, v2, v3, v4]) q hC hm rfl hrm hst hl hd fun v sz1 S1 r1 h1 hP => ?_
  obtain ⟨rfl, rfl, rfl, z, rfl, hQ⟩ := hP
  exact kk z h1 hQ
theorem r_cV4 (q : Ok X cc own nL fr lo mc ms) {idx maxL1 fr1 lo1 ci nn b : Nat} {y : MethodName} {c1 : ByteArray} {ret1 : Option FieldType} {v1 v2 v3 v4 : Value} {Q : sH → Prop} (hC : CtV (xl X) y c1 maxL1 ret1 fr1 lo1 (.ref b :: [v1, v2, v3, v4]) (xD X) (xA X) (xB X) (xt X) sz S r h Q) (hm : MLV own idx y c1 maxL1 ret1 ci 4) (hb : S b = some (ci, nn)) (hrm : fr1 + 1 ≤ fr ∧ 8 + (maxL1 + 11) + lo1 ≤ lo ∧ k + 0 ≤ mc ∧ n + 0 ≤ ms) (hst : (st.map fun v => v.category).sum ≤ 8) (hl : lv.length = nL) (hd : decode cc pc = .ok (.invokevirtual idx, 3)) (kk : ∀ (h1 : sH), Q h1 → G X k n (pc + 3) lv (st) sz S r h1) : G X k n pc lv (v4 :: v3 :: v2 :: v1 :: .ref b :: st) sz S r h := by
  refine g_cv (As := [v1, v2, v3, v4]) q hC hm hb rfl hrm hst hl hd fun v sz1 S1 r1 h1 hP => ?_
  obtain ⟨rfl, rfl, rfl, rfl, hQ⟩ := hP
  exact kk h1 hQ
theorem r_sV4 (q : Ok X cc own nL fr lo mc ms) {idx maxL1 fr1 lo1 : Nat} {y : MethodName} {c1 : ByteArray} {ret1 : Option FieldType} {v1 v2 v3 v4 : Value} {Q : sH → Prop} (hC : CtV (xl X) y c1 maxL1 ret1 fr1 lo1 [v1, v2, v3, v4] (xD X) (xA X) (xB X) (xt X) sz S r h Q) (hm : MLS own idx y c1 maxL1 ret1 4) (hrm : fr1 + 1 ≤ fr ∧ 8 + (maxL1 + 11) + lo1 ≤ lo ∧ k + 0 ≤ mc ∧ n + 0 ≤ ms) (hst : (st.map fun v => v.category).sum ≤ 8) (hl : lv.length = nL) (hd : decode cc pc = .ok (.invokestatic idx, 3)) (kk : ∀ (h1 : sH), Q h1 → G X k n (pc + 3) lv (st) sz S r h1) : G X k n pc lv (v4 :: v3 :: v2 :: v1 :: st) sz S r h := by
  refine g_cs (As := [v1, v2, v3, v4]) q hC hm rfl hrm hst hl hd fun v sz1 S1 r1 h1 hP => ?_
  obtain ⟨rfl, rfl, rfl, rfl, hQ⟩ := hP
  exact kk h1 hQ
theorem r_cI5 (q : Ok X cc own nL fr lo mc ms) {idx maxL1 fr1 lo1 ci nn b : Nat} {y : MethodName} {c1 : ByteArray} {ret1 : Option FieldType} {v1 v2 v3 v4 v5 : Value} {Q : Int → sH → Prop} (hC : CtI (xl X) y c1 maxL1 ret1 fr1 lo1 (.ref b :: [v1, v2, v3, v4, v5]) (xD X) (xA X) (xB X) (xt X) sz S r h Q) (hm : MLV own idx y c1 maxL1 ret1 ci 5) (hb : S b = some (ci, nn)) (hrm : fr1 + 1 ≤ fr ∧ 8 + (maxL1 + 11) + lo1 ≤ lo ∧ k + 0 ≤ mc ∧ n + 0 ≤ ms) (hst : (st.map fun v => v.category).sum ≤ 8) (hl : lv.length = nL) (hd : decode cc pc = .ok (.invokevirtual idx, 3)) (kk : ∀ (z : Int) (h1 : sH), Q z h1 → G X k n (pc + 3) lv (.int (iI z) :: st) sz S r h1) : G X k n pc lv (v5 :: v4 :: v3 :: v2 :: v1 :: .ref b :: st) sz S r h := by
  refine g_cv (As := [v1, v2, v3, v4, v5]) q hC hm hb rfl hrm hst hl hd fun v sz1 S1 r1 h1 hP => ?_
  obtain ⟨rfl, rfl, rfl, z, rfl, hQ⟩ := hP
  exact kk z h1 hQ
theorem r_sI5 (q : Ok X cc own nL fr lo mc ms) {idx maxL1 fr1 lo1 : Nat} {y : MethodName} {c1 : ByteArray} {ret1 : Option FieldType} {v1 v2 v3 v4 v5 : Value} {Q : Int → sH → Prop} (hC : CtI (xl X) y c1 maxL1 ret1 fr1 lo1 [v1, v2, v3, v4, v5] (xD X) (xA X) (xB X) (xt X) sz S r h Q) (hm : MLS own idx y c1 maxL1 ret1 5) (hrm : fr1 + 1 ≤ fr ∧ 8 + (maxL1 + 11) + lo1 ≤ lo ∧ k + 0 ≤ mc ∧ n + 0 ≤ ms) (hst : (st.map fun v => v.category).sum ≤ 8) (hl : lv.length = nL) (hd : decode cc pc = .ok (.invokestatic idx, 3)) (kk : ∀ (z : Int) (h1 : sH), Q z h1 → G X k n (pc + 3) lv (.int (iI z) :: st) sz S r h1) : G X k n pc lv (v5 :: v4 :: v3 :: v2 :: v1 :: st) sz S r h := by
  refine g_cs (As := [v1, v2, v3, v4, v5]) q hC hm rfl hrm hst hl hd fun v sz1 S1 r1 h1 hP => ?_
  obtain ⟨rfl, rfl, rfl, z, rfl, hQ⟩ := hP
  exact kk z h1 hQ
theorem r_cL5 (q : Ok X cc own nL fr lo mc ms) {idx maxL1 fr1 lo1 ci nn b : Nat} {y : MethodName} {c1 : ByteArray} {ret1 : Option FieldType} {v1 v2 v3 v4 v5 : Value} {Q : Int → sH → Prop} (hC : CtL (xl X) y c1 maxL1 ret1 fr1 lo1 (.ref b :: [v1, v2, v3, v4, v5]) (xD X) (xA X) (xB X) (xt X) sz S r h Q) (hm : MLV own idx y c1 maxL1 ret1 ci 5) (hb : S b = some (ci, nn)) (hrm : fr1 + 1 ≤ fr ∧ 8 + (maxL1 + 11) + lo1 ≤ lo ∧ k + 0 ≤ mc ∧ n + 0 ≤ ms) (hst : (st.map fun v => v.category).sum ≤ 8) (hl : lv.length = nL) (hd : decode cc pc = .ok (.invokevirtual idx, 3)) (kk : ∀ (z : Int) (h1 : sH), Q z h1 → G X k n (pc + 3) lv (.long (lI z) :: st) sz S r h1) : G X k n pc lv (v5 :: v4 :: v3 :: v2 :: v1 :: .ref b :: st) sz S r h := by
  refine g_cv (As := [v1, v2, v3, v4, v5]) q hC hm hb rfl hrm hst hl hd fun v sz1 S1 r1 h1 hP => ?_
  obtain ⟨rfl, rfl, rfl, z, rfl, hQ⟩ := hP
  exact kk z h1 hQ
theorem r_sL5 (q : Ok X cc own nL fr lo mc ms) {idx maxL1 fr1 lo1 : Nat} {y : MethodName} {c1 : ByteArray} {ret1 : Option FieldType} {v1 v2 v3 v4 v5 : Value} {Q : Int → sH → Prop} (hC : CtL (xl X) y c1 maxL1 ret1 fr1 lo1 [v1, v2, v3, v4, v5] (xD X) (xA X) (xB X) (xt X) sz S r h Q) (hm : MLS own idx y c1 maxL1 ret1 5) (hrm : fr1 + 1 ≤ fr ∧ 8 + (maxL1 + 11) + lo1 ≤ lo ∧ k + 0 ≤ mc ∧ n + 0 ≤ ms) (hst : (st.map fun v => v.category).sum ≤ 8) (hl : lv.length = nL) (hd : decode cc pc = .ok (.invokestatic idx, 3)) (kk : ∀ (z : Int) (h1 : sH), Q z h1 → G X k n (pc + 3) lv (.long (lI z) :: st) sz S r h1) : G X k n pc lv (v5 :: v4 :: v3 :: v2 :: v1 :: st) sz S r h := by
  refine g_cs (As := [v1, v2, v3, v4, v5]) q hC hm rfl hrm hst hl hd fun v sz1 S1 r1 h1 hP => ?_
  obtain ⟨rfl, rfl, rfl, z, rfl, hQ⟩ := hP
  exact kk z h1 hQ
theorem r_cV5 (q : Ok X cc own nL fr lo mc ms) {idx maxL1 fr1 lo1 ci nn b : Nat} {y : MethodName} {c1 : ByteArray} {ret1 : Option FieldType} {v1 v2 v3 v4 v5 : Value} {Q : sH → Prop} (hC : CtV (xl X) y c1 maxL1 ret1 fr1 lo1 (.ref b :: [v1, v2, v3, v4, v5]) (xD X) (xA X) (xB X) (xt X) sz S r h Q) (hm : MLV own idx y c1 maxL1 ret1 ci 5) (hb : S b = some (ci, nn)) (hrm : fr1 + 1 ≤ fr ∧ 8 + (maxL1 + 11) + lo1 ≤ lo ∧ k + 0 ≤ mc ∧ n + 0 ≤ ms) (hst : (st.map fun v => v.category).sum ≤ 8) (hl : lv.length = nL) (hd : decode cc pc = .ok (.invokevirtual idx, 3)) (kk : ∀ (h1 : sH), Q h1 → G X k n (pc + 3) lv (st) sz S r h1) : G X k n pc lv (v5 :: v4 :: v3 :: v2 :: v1 :: .ref b :: st) sz S r h := by
  refine g_cv (As := [v1, v2, v3, v4, v5]) q hC hm hb rfl hrm hst hl hd fun v sz1 S1 r1 h1 hP => ?_
  obtain ⟨rfl, rfl, rfl, rfl, hQ⟩ := hP
  exact kk h1 hQ
theorem r_sV5 (q : Ok X cc own nL fr lo mc ms) {idx maxL1 fr1 lo1 : Nat} {y : MethodName} {c1 : ByteArray} {ret1 : Option FieldType} {v1 v2 v3 v4 v5 : Value} {Q : sH → Prop} (hC : CtV (xl X) y c1 maxL1 ret1 fr1 lo1 [v1, v2, v3, v4, v5] (xD X) (xA X) (xB X) (xt X) sz S r h Q) (hm : MLS own idx y c1 maxL1 ret1 5) (hrm : fr1 + 1 ≤ fr ∧ 8 + (maxL1 + 11) + lo1 ≤ lo ∧ k + 0 ≤ mc ∧ n + 0 ≤ ms) (hst : (st.map fun v => v.category).sum ≤ 8) (hl : lv.length = nL) (hd : decode cc pc = .ok (.invokestatic idx, 3)) (kk : ∀ (h1 : sH), Q h1 → G X k n (pc + 3) lv (st) sz S r h1) : G X k n pc lv (v5 :: v4 :: v3 :: v2 :: v1 :: st) sz S r h := by
  refine g_cs (As := [v1, v2, v3, v4, v5]) q hC hm rfl hrm hst hl hd fun v sz1 S1 r1 h1 hP => ?_
  obtain ⟨rfl, rfl, rfl, rfl, hQ⟩ := hP
  exact kk h1 hQ
/-! Math -/
def MJ (own : String) (idx : Nat) (y : MethodName) (c : ByteArray) (m : Nat) : Prop := Cond.methodLink own idx y ∈ UG ∧ Cond.static y ∈ UG ∧ Cond.initialized "java/lang/Math" ∈ UG ∧ Cond.code y c m (some .int) ∈ UG
theorem r_min (q : Ok X cc own nL fr lo mc ms) {idx : Nat} (hm : MJ own idx Lib.Math.min.name Lib.Math.min.code 2) {x y : Int} (hx : inR x) (hy : inR y) (hrm : 1 ≤ fr ∧ (st.map fun v => v.category).sum + 13 ≤ lo ∧ k ≤ mc ∧ n ≤ ms) (hl : lv.length = nL) (hd : decode cc pc = .ok (.invokestatic idx, 3)) (kk : G X k n (pc + 3) lv (.int (iI (min x y)) :: st) sz S r h) : G X k n pc lv (.int (iI y) :: .int (iI x) :: st) sz S r h := by
  intro ls H locs a b c
  refine va_mmin q.exec q.byt (q.ml.trans (hl.symm.trans a.1.symm)) q.ow (q.w hm.1) (q.w hm.2.1) (q.w hm.2.2.1) (q.w hm.2.2.2) (by rw [q.2.2.2.2.2.2.1]; exact hrm.1) (by rw [q.2.2.2.2.2.2.2.2.2]; exact hrm.2.1) (by rw [q.2.2.2.2.2.2.2.1]; exact hrm.2.2.1) (by rw [q.2.2.2.2.2.2.2.2.1]; exact hrm.2.2.2) hd ?_
  have e : (if iI y < iI x then iI y else iI x) = iI (min x y) := by
    by_cases hxy : y < x
    · rw [if_pos ((iI_lt hy hx).mpr hxy), show min x y = y by omega]
    · rw [if_neg (fun z => hxy ((iI_lt hy hx).mp z)), show min x y = x by omega]
  rw [e]
  exact kk ls H locs a b c
theorem r_max (q : Ok X cc own nL fr lo mc ms) {idx : Nat} (hm : MJ own idx Lib.Math.max.name Lib.Math.max.code 2) {x y : Int} (hx : inR x) (hy : inR y) (hrm : 1 ≤ fr ∧ (st.map fun v => v.category).sum + 13 ≤ lo ∧ k ≤ mc ∧ n ≤ ms) (hl : lv.length = nL) (hd : decode cc pc = .ok (.invokestatic idx, 3)) (kk : G X k n (pc + 3) lv (.int (iI (max x y)) :: st) sz S r h) : G X k n pc lv (.int (iI y) :: .int (iI x) :: st) sz S r h := by
  intro ls H locs a b c
  refine va_mmax q.exec q.byt (q.ml.trans (hl.symm.trans a.1.symm)) q.ow (q.w hm.1) (q.w hm.2.1) (q.w hm.2.2.1) (q.w hm.2.2.2) (by rw [q.2.2.2.2.2.2.1]; exact hrm.1) (by rw [q.2.2.2.2.2.2.2.2.2]; exact hrm.2.1) (by rw [q.2.2.2.2.2.2.2.1]; exact hrm.2.2.1) (by rw [q.2.2.2.2.2.2.2.2.1]; exact hrm.2.2.2) hd ?_
  have e : (if iI x < iI y then iI y else iI x) = iI (max x y) := by
    by_cases hxy : x < y
    · rw [if_pos ((iI_lt hx hy).mpr hxy), show max x y = y by omega]
    · rw [if_neg (fun z => hxy ((iI_lt hx hy).mp z)), show max x y = x by omega]
  rw [e]
  exact kk ls H locs a b c
theorem r_abs (q : Ok X cc own nL fr lo mc ms) {idx : Nat} (hm : MJ own idx Lib.Math.abs.name Lib.Math.abs.code 1) {x : Int} (hx : inR x) (hrm : 1 ≤ fr ∧ (st.map fun v => v.category).sum + 13 ≤ lo ∧ k ≤ mc ∧ n ≤ ms) (hl : lv.length = nL) (hd : decode cc pc = .ok (.invokestatic idx, 3)) (kk : G X k n (pc + 3) lv (.int (iI (if 0 ≤ x then x else -x)) :: st) sz S r h) : G X k n pc lv (.int (iI x) :: st) sz S r h := by
  intro ls H locs a b c
  refine va_mabs q.exec q.byt (q.ml.trans (hl.symm.trans a.1.symm)) q.ow (q.w hm.1) (q.w hm.2.1) (q.w hm.2.2.1) (q.w hm.2.2.2) (by rw [q.2.2.2.2.2.2.1]; exact hrm.1) (by rw [q.2.2.2.2.2.2.2.2.2]; exact hrm.2.1) (by rw [q.2.2.2.2.2.2.2.1]; exact hrm.2.2.1) (by rw [q.2.2.2.2.2.2.2.2.1]; exact hrm.2.2.2) hd ?_
  have e : (if 0 ≤ iI x then iI x else 0 - iI x) = iI (if 0 ≤ x then x else -x) := by
    by_cases hxy : 0 ≤ x
    · rw [if_pos (by rw [← iI_0]; exact (iI_le inR_0 hx).mpr hxy), if_pos hxy]
    · rw [if_neg (fun z => hxy ((iI_le inR_0 hx).mp (by rw [iI_0]; exact z))), if_neg hxy, ← iI_0, ← iI_sub, Int.zero_sub]
  rw [e]
  exact kk ls H locs a b c
/-! switches -/
theorem r_tswI (q : Ok X cc own nL fr lo mc ms) {dflt lw hi : Int} {offs : Array Int} {len : Nat} {x off : Int} (tgt : Nat) (hd : decode cc pc = .ok (.tableswitch dflt lw hi offs, len)) (hx : inR x) (h1 : lw ≤ x) (h2 : x ≤ hi) (ho : offs[(x - lw).toNat]? = some off) (ht : (pc : Int) + off = (tgt : Int)) (kk : G X k n tgt lv st sz S r h) : G X k n pc lv (.int (iI x) :: st) sz S r h := fun ls H locs a b c => lv_tableIn q.exec q.byt hd (by rw [iI_toInt hx]; omega) (by rw [iI_toInt hx]; omega) (by rw [iI_toInt hx]; exact ho) ht (kk ls H locs a b c)
theorem r_tswO (q : Ok X cc own nL fr lo mc ms) {dflt lw hi : Int} {offs : Array Int} {len : Nat} {x : Int} (tgt : Nat) (hd : decode cc pc = .ok (.tableswitch dflt lw hi offs, len)) (hx : inR x) (h1 : x < lw ∨ hi < x) (ht : (pc : Int) + dflt = (tgt : Int)) (kk : G X k n tgt lv st sz S r h) : G X k n pc lv (.int (iI x) :: st) sz S r h := fun ls H locs a b c => lv_tableOut q.exec q.byt hd (by rw [iI_toInt hx]; exact h1) ht (kk ls H locs a b c)
theorem r_lsw (q : Ok X cc own nL fr lo mc ms) {dflt : Int} {ps : Array (Int × Int)} {len : Nat} {x off : Int} (tgt : Nat) (hd : decode cc pc = .ok (.lookupswitch dflt ps, len)) (hp : (ps.toList.zip (ps.toList.drop 1)).all (fun (a, next) => a.1 < next.1) = true) (hx : inR x) (ho : Op.lookupswitch.offset ps.toList dflt x = off) (ht : (pc : Int) + off = (tgt : Int)) (kk : G X k n tgt lv st sz S r h) : G X k n pc lv (.int (iI x) :: st) sz S r h := fun ls H locs a b c => lv_lookup q.exec q.byt hd hp (by rw [iI_toInt hx]; exact ho) ht (kk ls H locs a b c)
end RC
end
section
theorem UG_ws (ws : List Cond) (ps : List Nat) (hp : ws = ps.filterMap (fun i => lw_tbl[i]?)) (h : ws.all goodWord = true) : ∀ w ∈ ws, w ∈ UG := by
  intro w hw
  have h1 := List.all_eq_true.mp h w hw
  rw [hp] at hw
  obtain ⟨i, -, hi⟩ := List.mem_filterMap.mp hw
  exact UG_of hi h1
theorem fcX0 : FC RX0 TX0 4 0 := ⟨rfl, UG_ws _ [212, 214, 216, 218] (by decide +kernel) (by decide +kernel), tyX0_ok, nmX0⟩
theorem fcX1 : FC RX1 TX1 4 1 := ⟨rfl, UG_ws _ [258, 260, 262, 264] (by decide +kernel) (by decide +kernel), tyX1_ok, nmX1⟩
theorem fcX2 : FC RX2 TX2 6 2 := ⟨rfl, UG_ws _ [232, 234, 236, 238, 240, 242] (by decide +kernel) (by decide +kernel), tyX2_ok, nmX2⟩
theorem fcX3 : FC RX3 TX3 2 3 := ⟨rfl, UG_ws _ [112, 114] (by decide +kernel) (by decide +kernel), tyX3_ok, nmX3⟩
theorem fcX4 : FC RX4 TX4 2 4 := ⟨rfl, UG_ws _ [155, 157] (by decide +kernel) (by decide +kernel), tyX4_ok, nmX4⟩
theorem fcX5 : FC RX5 TX5 10 5 := ⟨rfl, UG_ws _ [322, 324, 326, 328, 330, 332, 334, 336, 338, 340] (by decide +kernel) (by decide +kernel), tyX5_ok, nmX5⟩
theorem fcX6 : FC RX6 TX6 3 6 := ⟨rfl, UG_ws _ [301, 303, 305] (by decide +kernel) (by decide +kernel), tyX6_ok, nmX6⟩
theorem fcX7 : FC RX7 TX7 5 7 := ⟨rfl, UG_ws _ [176, 178, 180, 182, 184] (by decide +kernel) (by decide +kernel), tyX7_ok, nmX7⟩
theorem fcX8 : FC RX8 TX8 3 8 := ⟨rfl, UG_ws _ [128, 130, 132] (by decide +kernel) (by decide +kernel), tyX8_ok, nmX8⟩
theorem fcX9 : FC RX9 TX9 2 9 := ⟨rfl, UG_ws _ [275, 277] (by decide +kernel) (by decide +kernel), tyX9_ok, nmX9⟩
theorem fcX10 : FC RX10 TX10 2 10 := ⟨rfl, UG_ws _ [94, 96] (by decide +kernel) (by decide +kernel), tyX10_ok, nmX10⟩
theorem fcX11 : FC RX11 TX11 11 11 := ⟨rfl, UG_ws _ [354, 356, 358, 360, 362, 364, 366, 368, 370, 372, 374] (by decide +kernel) (by decide +kernel), tyX11_ok, nmX11⟩
theorem fcX12 : FC RX12 TX12 40 12 := ⟨rfl, UG_ws _ [889, 891, 893, 895, 897, 899, 901, 903, 905, 907, 909, 911, 913, 915, 917, 919, 921, 923, 925, 927, 929, 931, 933, 935, 937, 939, 941, 943, 945, 947, 949, 951, 953, 955, 957, 959, 961, 963, 965, 967] (by decide +kernel) (by decide +kernel), tyX12_ok, nmX12⟩
set_option maxRecDepth 100000 in
theorem wc_X11_of : Cond.code yX11_of cX11_of 4 (some .int) ∈ UG := UG_of (i := 774) rfl (by decide +kernel)
theorem wi_X11 : Cond.initialized RX11 ∈ UG := UG_of (i := 54) (by decide +kernel) (by decide +kernel)
theorem mb_X11_of (own : String) (i : Nat) : MLB own i yX11_of cX11_of 4 (some .int) 2 := ⟨wi_X11, wc_X11_of, by decide +kernel⟩
theorem wm_X11_of : Cond.instanceMethod yX11_of ∈ UG := UG_of (i := 772) (by decide +kernel) (by decide +kernel)
theorem we_X11_of : Cond.selects (yX11_of).cls yX11_of yX11_of ∈ UG := UG_of (i := 773) (by decide +kernel) (by decide +kernel)
theorem mL_7 : MLV RL 7 yX11_of cX11_of 4 (some .int) 11 2 := ⟨mb_X11_of _ _, UG_of (i := 771) (by decide +kernel) (by decide +kernel), wm_X11_of, we_X11_of, rfl, by decide⟩
theorem xL_8 : Cond.classLink RL 8 "MileLists" ∈ UG := UG_of (i := 72) (by decide +kernel) (by decide +kernel)
set_option maxRecDepth 100000 in
theorem wc_X11_init : Cond.code yX11_init cX11_init 2 none ∈ UG := UG_of (i := 76) rfl (by decide +kernel)
theorem mb_X11_init (own : String) (i : Nat) : MLB own i yX11_init cX11_init 2 none 0 := ⟨wi_X11, wc_X11_init, by decide +kernel⟩
theorem wm_X11_init : Cond.instanceMethod yX11_init ∈ UG := UG_of (i := 75) (by decide +kernel) (by decide +kernel)
theorem mL_15 : MLI RL 15 yX11_init cX11_init 2 0 := ⟨mb_X11_init _ _, UG_of (i := 74) (by decide +kernel) (by decide +kernel), wm_X11_init, rfl⟩
theorem xL_16 : Cond.classLink RL 16 "MileListsModel" ∈ UG := UG_of (i := 843) (by decide +kernel) (by decide +kernel)
set_option maxRecDepth 100000 in
theorem wc_X12_init : Cond.code yX12_init cX12_init 1 none ∈ UG := UG_of (i := 847) rfl (by decide +kernel)
theorem wi_X12 : Cond.initialized RX12 ∈ UG := UG_of (i := 66) (by decide +kernel) (by decide +kernel)
theorem mb_X12_init (own : String) (i : Nat) : MLB own i yX12_init cX12_init 1 none 0 := ⟨wi_X12, wc_X12_init, by decide +kernel⟩
theorem wm_X12_init : Cond.instanceMethod yX12_init ∈ UG := UG_of (i := 846) (by decide +kernel) (by decide +kernel)
theorem mL_18 : MLI RL 18 yX12_init cX12_init 1 0 := ⟨mb_X12_init _ _, UG_of (i := 845) (by decide +kernel) (by decide +kernel), wm_X12_init, rfl⟩
set_option maxRecDepth 100000 in
theorem wc_X11_feed : Cond.code yX11_feed cX11_feed 6 (some .int) ∈ UG := UG_of (i := 380) rfl (by decide +kernel)
theorem mb_X11_feed (own : String) (i : Nat) : MLB own i yX11_feed cX11_feed 6 (some .int) 5 := ⟨wi_X11, wc_X11_feed, by decide +kernel⟩
theorem wm_X11_feed : Cond.instanceMethod yX11_feed ∈ UG := UG_of (i := 378) (by decide +kernel) (by decide +kernel)
theorem we_X11_feed : Cond.selects (yX11_feed).cls yX11_feed yX11_feed ∈ UG := UG_of (i := 379) (by decide +kernel) (by decide +kernel)
theorem mL_19 : MLV RL 19 yX11_feed cX11_feed 6 (some .int) 11 5 := ⟨mb_X11_feed _ _, UG_of (i := 377) (by decide +kernel) (by decide +kernel), wm_X11_feed, we_X11_feed, rfl, by decide⟩
set_option maxRecDepth 100000 in
theorem wc_X12_feed : Cond.code yX12_feed cX12_feed 8 (some .int) ∈ UG := UG_of (i := 977) rfl (by decide +kernel)
theorem mb_X12_feed (own : String) (i : Nat) : MLB own i yX12_feed cX12_feed 8 (some .int) 5 := ⟨wi_X12, wc_X12_feed, by decide +kernel⟩
theorem wm_X12_feed : Cond.instanceMethod yX12_feed ∈ UG := UG_of (i := 975) (by decide +kernel) (by decide +kernel)
theorem we_X12_feed : Cond.selects (yX12_feed).cls yX12_feed yX12_feed ∈ UG := UG_of (i := 976) (by decide +kernel) (by decide +kernel)
theorem mL_23 : MLV RL 23 yX12_feed cX12_feed 8 (some .int) 12 5 := ⟨mb_X12_feed _ _, UG_of (i := 974) (by decide +kernel) (by decide +kernel), wm_X12_feed, we_X12_feed, rfl, by decide⟩
set_option maxRecDepth 100000 in
theorem wc_X11_end : Cond.code yX11_end cX11_end 2 (some .int) ∈ UG := UG_of (i := 388) rfl (by decide +kernel)
theorem mb_X11_end (own : String) (i : Nat) : MLB own i yX11_end cX11_end 2 (some .int) 1 := ⟨wi_X11, wc_X11_end, by decide +kernel⟩
theorem wm_X11_end : Cond.instanceMethod yX11_end ∈ UG := UG_of (i := 386) (by decide +kernel) (by decide +kernel)
theorem we_X11_end : Cond.selects (yX11_end).cls yX11_end yX11_end ∈ UG := UG_of (i := 387) (by decide +kernel) (by decide +kernel)
theorem mL_24 : MLV RL 24 yX11_end cX11_end 2 (some .int) 11 1 := ⟨mb_X11_end _ _, UG_of (i := 385) (by decide +kernel) (by decide +kernel), wm_X11_end, we_X11_end, rfl, by decide⟩
set_option maxRecDepth 100000 in
theorem wc_X12_end : Cond.code yX12_end cX12_end 2 (some .int) ∈ UG := UG_of (i := 981) rfl (by decide +kernel)
theorem mb_X12_end (own : String) (i : Nat) : MLB own i yX12_end cX12_end 2 (some .int) 1 := ⟨wi_X12, wc_X12_end, by decide +kernel⟩
theorem wm_X12_end : Cond.instanceMethod yX12_end ∈ UG := UG_of (i := 979) (by decide +kernel) (by decide +kernel)
theorem we_X12_end : Cond.selects (yX12_end).cls yX12_end yX12_end ∈ UG := UG_of (i := 980) (by decide +kernel) (by decide +kernel)
theorem mL_28 : MLV RL 28 yX12_end cX12_end 2 (some .int) 12 1 := ⟨mb_X12_end _ _, UG_of (i := 978) (by decide +kernel) (by decide +kernel), wm_X12_end, we_X12_end, rfl, by decide⟩
set_option maxRecDepth 100000 in
theorem wc_X11_list : Cond.code yX11_list cX11_list 3 (some .int) ∈ UG := UG_of (i := 392) rfl (by decide +kernel)
theorem mb_X11_list (own : String) (i : Nat) : MLB own i yX11_list cX11_list 3 (some .int) 1 := ⟨wi_X11, wc_X11_list, by decide +kernel⟩
theorem wm_X11_list : Cond.instanceMethod yX11_list ∈ UG := UG_of (i := 390) (by decide +kernel) (by decide +kernel)
theorem we_X11_list : Cond.selects (yX11_list).cls yX11_list yX11_list ∈ UG := UG_of (i := 391) (by decide +kernel) (by decide +kernel)
theorem mL_29 : MLV RL 29 yX11_list cX11_list 3 (some .int) 11 1 := ⟨mb_X11_list _ _, UG_of (i := 389) (by decide +kernel) (by decide +kernel), wm_X11_list, we_X11_list, rfl, by decide⟩
set_option maxRecDepth 100000 in
theorem wc_X12_list : Cond.code yX12_list cX12_list 5 (some .int) ∈ UG := UG_of (i := 992) rfl (by decide +kernel)
theorem mb_X12_list (own : String) (i : Nat) : MLB own i yX12_list cX12_list 5 (some .int) 1 := ⟨wi_X12, wc_X12_list, by decide +kernel⟩
theorem wm_X12_list : Cond.instanceMethod yX12_list ∈ UG := UG_of (i := 990) (by decide +kernel) (by decide +kernel)
theorem we_X12_list : Cond.selects (yX12_list).cls yX12_list yX12_list ∈ UG := UG_of (i := 991) (by decide +kernel) (by decide +kernel)
theorem mL_32 : MLV RL 32 yX12_list cX12_list 5 (some .int) 12 1 := ⟨mb_X12_list _ _, UG_of (i := 989) (by decide +kernel) (by decide +kernel), wm_X12_list, we_X12_list, rfl, by decide⟩
set_option maxRecDepth 100000 in
theorem wc_X11_place : Cond.code yX11_place cX11_place 1 (some .int) ∈ UG := UG_of (i := 454) rfl (by decide +kernel)
theorem mb_X11_place (own : String) (i : Nat) : MLB own i yX11_place cX11_place 1 (some .int) 0 := ⟨wi_X11, wc_X11_place, by decide +kernel⟩
theorem wm_X11_place : Cond.instanceMethod yX11_place ∈ UG := UG_of (i := 452) (by decide +kernel) (by decide +kernel)
theorem we_X11_place : Cond.selects (yX11_place).cls yX11_place yX11_place ∈ UG := UG_of (i := 453) (by decide +kernel) (by decide +kernel)
theorem mL_33 : MLV RL 33 yX11_place cX11_place 1 (some .int) 11 0 := ⟨mb_X11_place _ _, UG_of (i := 451) (by decide +kernel) (by decide +kernel), wm_X11_place, we_X11_place, rfl, by decide⟩
set_option maxRecDepth 100000 in
theorem wc_X12_place : Cond.code yX12_place cX12_place 1 (some .int) ∈ UG := UG_of (i := 1023) rfl (by decide +kernel)
theorem mb_X12_place (own : String) (i : Nat) : MLB own i yX12_place cX12_place 1 (some .int) 0 := ⟨wi_X12, wc_X12_place, by decide +kernel⟩
theorem wm_X12_place : Cond.instanceMethod yX12_place ∈ UG := UG_of (i := 1021) (by decide +kernel) (by decide +kernel)
theorem we_X12_place : Cond.selects (yX12_place).cls yX12_place yX12_place ∈ UG := UG_of (i := 1022) (by decide +kernel) (by decide +kernel)
theorem mL_37 : MLV RL 37 yX12_place cX12_place 1 (some .int) 12 0 := ⟨mb_X12_place _ _, UG_of (i := 1020) (by decide +kernel) (by decide +kernel), wm_X12_place, we_X12_place, rfl, by decide⟩
set_option maxRecDepth 100000 in
theorem wc_X11_ruin : Cond.code yX11_ruin cX11_ruin 3 (some .int) ∈ UG := UG_of (i := 458) rfl (by decide +kernel)
theorem mb_X11_ruin (own : String) (i : Nat) : MLB own i yX11_ruin cX11_ruin 3 (some .int) 1 := ⟨wi_X11, wc_X11_ruin, by decide +kernel⟩
theorem wm_X11_ruin : Cond.instanceMethod yX11_ruin ∈ UG := UG_of (i := 456) (by decide +kernel) (by decide +kernel)
theorem we_X11_ruin : Cond.selects (yX11_ruin).cls yX11_ruin yX11_ruin ∈ UG := UG_of (i := 457) (by decide +kernel) (by decide +kernel)
theorem mL_38 : MLV RL 38 yX11_ruin cX11_ruin 3 (some .int) 11 1 := ⟨mb_X11_ruin _ _, UG_of (i := 455) (by decide +kernel) (by decide +kernel), wm_X11_ruin, we_X11_ruin, rfl, by decide⟩
set_option maxRecDepth 100000 in
theorem wc_X12_ruin : Cond.code yX12_ruin cX12_ruin 5 (some .int) ∈ UG := UG_of (i := 1027) rfl (by decide +kernel)
theorem mb_X12_ruin (own : String) (i : Nat) : MLB own i yX12_ruin cX12_ruin 5 (some .int) 1 := ⟨wi_X12, wc_X12_ruin, by decide +kernel⟩
theorem wm_X12_ruin : Cond.instanceMethod yX12_ruin ∈ UG := UG_of (i := 1025) (by decide +kernel) (by decide +kernel)
theorem we_X12_ruin : Cond.selects (yX12_ruin).cls yX12_ruin yX12_ruin ∈ UG := UG_of (i := 1026) (by decide +kernel) (by decide +kernel)
theorem mL_41 : MLV RL 41 yX12_ruin cX12_ruin 5 (some .int) 12 1 := ⟨mb_X12_ruin _ _, UG_of (i := 1024) (by decide +kernel) (by decide +kernel), wm_X12_ruin, we_X12_ruin, rfl, by decide⟩
set_option maxRecDepth 100000 in
theorem wc_X11_stone : Cond.code yX11_stone cX11_stone 5 (some .int) ∈ UG := UG_of (i := 491) rfl (by decide +kernel)
theorem mb_X11_stone (own : String) (i : Nat) : MLB own i yX11_stone cX11_stone 5 (some .int) 3 := ⟨wi_X11, wc_X11_stone, by decide +kernel⟩
theorem wm_X11_stone : Cond.instanceMethod yX11_stone ∈ UG := UG_of (i := 489) (by decide +kernel) (by decide +kernel)
theorem we_X11_stone : Cond.selects (yX11_stone).cls yX11_stone yX11_stone ∈ UG := UG_of (i := 490) (by decide +kernel) (by decide +kernel)
theorem mL_42 : MLV RL 42 yX11_stone cX11_stone 5 (some .int) 11 3 := ⟨mb_X11_stone _ _, UG_of (i := 488) (by decide +kernel) (by decide +kernel), wm_X11_stone, we_X11_stone, rfl, by decide⟩
set_option maxRecDepth 100000 in
theorem wc_X12_stone : Cond.code yX12_stone cX12_stone 6 (some .int) ∈ UG := UG_of (i := 1035) rfl (by decide +kernel)
theorem mb_X12_stone (own : String) (i : Nat) : MLB own i yX12_stone cX12_stone 6 (some .int) 3 := ⟨wi_X12, wc_X12_stone, by decide +kernel⟩
theorem wm_X12_stone : Cond.instanceMethod yX12_stone ∈ UG := UG_of (i := 1033) (by decide +kernel) (by decide +kernel)
theorem we_X12_stone : Cond.selects (yX12_stone).cls yX12_stone yX12_stone ∈ UG := UG_of (i := 1034) (by decide +kernel) (by decide +kernel)
theorem mL_46 : MLV RL 46 yX12_stone cX12_stone 6 (some .int) 12 3 := ⟨mb_X12_stone _ _, UG_of (i := 1032) (by decide +kernel) (by decide +kernel), wm_X12_stone, we_X12_stone, rfl, by decide⟩
set_option maxRecDepth 100000 in
theorem wc_X11_habit : Cond.code yX11_habit cX11_habit 5 (some .int) ∈ UG := UG_of (i := 499) rfl (by decide +kernel)
theorem mb_X11_habit (own : String) (i : Nat) : MLB own i yX11_habit cX11_habit 5 (some .int) 3 := ⟨wi_X11, wc_X11_habit, by decide +kernel⟩
theorem wm_X11_habit : Cond.instanceMethod yX11_habit ∈ UG := UG_of (i := 497) (by decide +kernel) (by decide +kernel)
theorem we_X11_habit : Cond.selects (yX11_habit).cls yX11_habit yX11_habit ∈ UG := UG_of (i := 498) (by decide +kernel) (by decide +kernel)
theorem mL_47 : MLV RL 47 yX11_habit cX11_habit 5 (some .int) 11 3 := ⟨mb_X11_habit _ _, UG_of (i := 496) (by decide +kernel) (by decide +kernel), wm_X11_habit, we_X11_habit, rfl, by decide⟩
set_option maxRecDepth 100000 in
theorem wc_X12_habit : Cond.code yX12_habit cX12_habit 4 (some .int) ∈ UG := UG_of (i := 1039) rfl (by decide +kernel)
theorem mb_X12_habit (own : String) (i : Nat) : MLB own i yX12_habit cX12_habit 4 (some .int) 3 := ⟨wi_X12, wc_X12_habit, by decide +kernel⟩
theorem wm_X12_habit : Cond.instanceMethod yX12_habit ∈ UG := UG_of (i := 1037) (by decide +kernel) (by decide +kernel)
theorem we_X12_habit : Cond.selects (yX12_habit).cls yX12_habit yX12_habit ∈ UG := UG_of (i := 1038) (by decide +kernel) (by decide +kernel)
theorem mL_50 : MLV RL 50 yX12_habit cX12_habit 4 (some .int) 12 3 := ⟨mb_X12_habit _ _, UG_of (i := 1036) (by decide +kernel) (by decide +kernel), wm_X12_habit, we_X12_habit, rfl, by decide⟩
set_option maxRecDepth 100000 in
theorem wc_X11_sound : Cond.code yX11_sound cX11_sound 3 (some .boolean) ∈ UG := UG_of (i := 512) rfl (by decide +kernel)
theorem mb_X11_sound (own : String) (i : Nat) : MLB own i yX11_sound cX11_sound 3 (some .boolean) 2 := ⟨wi_X11, wc_X11_sound, by decide +kernel⟩
theorem wm_X11_sound : Cond.instanceMethod yX11_sound ∈ UG := UG_of (i := 510) (by decide +kernel) (by decide +kernel)
theorem we_X11_sound : Cond.selects (yX11_sound).cls yX11_sound yX11_sound ∈ UG := UG_of (i := 511) (by decide +kernel) (by decide +kernel)
theorem mL_51 : MLV RL 51 yX11_sound cX11_sound 3 (some .boolean) 11 2 := ⟨mb_X11_sound _ _, UG_of (i := 509) (by decide +kernel) (by decide +kernel), wm_X11_sound, we_X11_sound, rfl, by decide⟩
set_option maxRecDepth 100000 in
theorem wc_X12_sound : Cond.code yX12_sound cX12_sound 5 (some .boolean) ∈ UG := UG_of (i := 988) rfl (by decide +kernel)
theorem mb_X12_sound (own : String) (i : Nat) : MLB own i yX12_sound cX12_sound 5 (some .boolean) 2 := ⟨wi_X12, wc_X12_sound, by decide +kernel⟩
theorem wm_X12_sound : Cond.instanceMethod yX12_sound ∈ UG := UG_of (i := 986) (by decide +kernel) (by decide +kernel)
theorem we_X12_sound : Cond.selects (yX12_sound).cls yX12_sound yX12_sound ∈ UG := UG_of (i := 987) (by decide +kernel) (by decide +kernel)
theorem mL_55 : MLV RL 55 yX12_sound cX12_sound 5 (some .boolean) 12 2 := ⟨mb_X12_sound _ _, UG_of (i := 985) (by decide +kernel) (by decide +kernel), wm_X12_sound, we_X12_sound, rfl, by decide⟩
set_option maxRecDepth 100000 in
theorem wc_X11_costs : Cond.code yX11_costs cX11_costs 3 (some .boolean) ∈ UG := UG_of (i := 524) rfl (by decide +kernel)
theorem mb_X11_costs (own : String) (i : Nat) : MLB own i yX11_costs cX11_costs 3 (some .boolean) 2 := ⟨wi_X11, wc_X11_costs, by decide +kernel⟩
theorem wm_X11_costs : Cond.instanceMethod yX11_costs ∈ UG := UG_of (i := 522) (by decide +kernel) (by decide +kernel)
theorem we_X11_costs : Cond.selects (yX11_costs).cls yX11_costs yX11_costs ∈ UG := UG_of (i := 523) (by decide +kernel) (by decide +kernel)
theorem mL_56 : MLV RL 56 yX11_costs cX11_costs 3 (some .boolean) 11 2 := ⟨mb_X11_costs _ _, UG_of (i := 521) (by decide +kernel) (by decide +kernel), wm_X11_costs, we_X11_costs, rfl, by decide⟩
set_option maxRecDepth 100000 in
theorem wc_X12_costs : Cond.code yX12_costs cX12_costs 3 (some .boolean) ∈ UG := UG_of (i := 1043) rfl (by decide +kernel)
theorem mb_X12_costs (own : String) (i : Nat) : MLB own i yX12_costs cX12_costs 3 (some .boolean) 2 := ⟨wi_X12, wc_X12_costs, by decide +kernel⟩
theorem wm_X12_costs : Cond.instanceMethod yX12_costs ∈ UG := UG_of (i := 1041) (by decide +kernel) (by decide +kernel)
theorem we_X12_costs : Cond.selects (yX12_costs).cls yX12_costs yX12_costs ∈ UG := UG_of (i := 1042) (by decide +kernel) (by decide +kernel)
theorem mL_59 : MLV RL 59 yX12_costs cX12_costs 3 (some .boolean) 12 2 := ⟨mb_X12_costs _ _, UG_of (i := 1040) (by decide +kernel) (by decide +kernel), wm_X12_costs, we_X12_costs, rfl, by decide⟩
set_option maxRecDepth 100000 in
theorem wc_X11_day : Cond.code yX11_day cX11_day 2 (some .int) ∈ UG := UG_of (i := 528) rfl (by decide +kernel)
theorem mb_X11_day (own : String) (i : Nat) : MLB own i yX11_day cX11_day 2 (some .int) 1 := ⟨wi_X11, wc_X11_day, by decide +kernel⟩
theorem wm_X11_day : Cond.instanceMethod yX11_day ∈ UG := UG_of (i := 526) (by decide +kernel) (by decide +kernel)
theorem we_X11_day : Cond.selects (yX11_day).cls yX11_day yX11_day ∈ UG := UG_of (i := 527) (by decide +kernel) (by decide +kernel)
theorem mL_60 : MLV RL 60 yX11_day cX11_day 2 (some .int) 11 1 := ⟨mb_X11_day _ _, UG_of (i := 525) (by decide +kernel) (by decide +kernel), wm_X11_day, we_X11_day, rfl, by decide⟩
set_option maxRecDepth 100000 in
theorem wc_X12_day : Cond.code yX12_day cX12_day 2 (some .int) ∈ UG := UG_of (i := 1047) rfl (by decide +kernel)
theorem mb_X12_day (own : String) (i : Nat) : MLB own i yX12_day cX12_day 2 (some .int) 1 := ⟨wi_X12, wc_X12_day, by decide +kernel⟩
theorem wm_X12_day : Cond.instanceMethod yX12_day ∈ UG := UG_of (i := 1045) (by decide +kernel) (by decide +kernel)
theorem we_X12_day : Cond.selects (yX12_day).cls yX12_day yX12_day ∈ UG := UG_of (i := 1046) (by decide +kernel) (by decide +kernel)
theorem mL_63 : MLV RL 63 yX12_day cX12_day 2 (some .int) 12 1 := ⟨mb_X12_day _ _, UG_of (i := 1044) (by decide +kernel) (by decide +kernel), wm_X12_day, we_X12_day, rfl, by decide⟩
set_option maxRecDepth 100000 in
theorem wc_X11_apart : Cond.code yX11_apart cX11_apart 4 (some .int) ∈ UG := UG_of (i := 533) rfl (by decide +kernel)
theorem mb_X11_apart (own : String) (i : Nat) : MLB own i yX11_apart cX11_apart 4 (some .int) 2 := ⟨wi_X11, wc_X11_apart, by decide +kernel⟩
theorem wm_X11_apart : Cond.instanceMethod yX11_apart ∈ UG := UG_of (i := 531) (by decide +kernel) (by decide +kernel)
theorem we_X11_apart : Cond.selects (yX11_apart).cls yX11_apart yX11_apart ∈ UG := UG_of (i := 532) (by decide +kernel) (by decide +kernel)
theorem mL_64 : MLV RL 64 yX11_apart cX11_apart 4 (some .int) 11 2 := ⟨mb_X11_apart _ _, UG_of (i := 530) (by decide +kernel) (by decide +kernel), wm_X11_apart, we_X11_apart, rfl, by decide⟩
set_option maxRecDepth 100000 in
theorem wc_X12_apart_ : Cond.code yX12_apart_ cX12_apart_ 5 (some .int) ∈ UG := UG_of (i := 1052) rfl (by decide +kernel)
theorem mb_X12_apart_ (own : String) (i : Nat) : MLB own i yX12_apart_ cX12_apart_ 5 (some .int) 2 := ⟨wi_X12, wc_X12_apart_, by decide +kernel⟩
theorem wm_X12_apart_ : Cond.instanceMethod yX12_apart_ ∈ UG := UG_of (i := 1050) (by decide +kernel) (by decide +kernel)
theorem we_X12_apart_ : Cond.selects (yX12_apart_).cls yX12_apart_ yX12_apart_ ∈ UG := UG_of (i := 1051) (by decide +kernel) (by decide +kernel)
theorem mL_67 : MLV RL 67 yX12_apart_ cX12_apart_ 5 (some .int) 12 2 := ⟨mb_X12_apart_ _ _, UG_of (i := 1049) (by decide +kernel) (by decide +kernel), wm_X12_apart_, we_X12_apart_, rfl, by decide⟩
set_option maxRecDepth 100000 in
theorem wc_X11_reading : Cond.code yX11_reading cX11_reading 4 (some .int) ∈ UG := UG_of (i := 561) rfl (by decide +kernel)
theorem mb_X11_reading (own : String) (i : Nat) : MLB own i yX11_reading cX11_reading 4 (some .int) 3 := ⟨wi_X11, wc_X11_reading, by decide +kernel⟩
theorem wm_X11_reading : Cond.instanceMethod yX11_reading ∈ UG := UG_of (i := 559) (by decide +kernel) (by decide +kernel)
theorem we_X11_reading : Cond.selects (yX11_reading).cls yX11_reading yX11_reading ∈ UG := UG_of (i := 560) (by decide +kernel) (by decide +kernel)
theorem mL_68 : MLV RL 68 yX11_reading cX11_reading 4 (some .int) 11 3 := ⟨mb_X11_reading _ _, UG_of (i := 558) (by decide +kernel) (by decide +kernel), wm_X11_reading, we_X11_reading, rfl, by decide⟩
set_option maxRecDepth 100000 in
theorem wc_X12_reading : Cond.code yX12_reading cX12_reading 5 (some .int) ∈ UG := UG_of (i := 1082) rfl (by decide +kernel)
theorem mb_X12_reading (own : String) (i : Nat) : MLB own i yX12_reading cX12_reading 5 (some .int) 3 := ⟨wi_X12, wc_X12_reading, by decide +kernel⟩
theorem wm_X12_reading : Cond.instanceMethod yX12_reading ∈ UG := UG_of (i := 1080) (by decide +kernel) (by decide +kernel)
theorem we_X12_reading : Cond.selects (yX12_reading).cls yX12_reading yX12_reading ∈ UG := UG_of (i := 1081) (by decide +kernel) (by decide +kernel)
theorem mL_71 : MLV RL 71 yX12_reading cX12_reading 5 (some .int) 12 3 := ⟨mb_X12_reading _ _, UG_of (i := 1079) (by decide +kernel) (by decide +kernel), wm_X12_reading, we_X12_reading, rfl, by decide⟩
set_option maxRecDepth 100000 in
theorem wc_X11_best : Cond.code yX11_best cX11_best 3 (some .int) ∈ UG := UG_of (i := 617) rfl (by decide +kernel)
theorem mb_X11_best (own : String) (i : Nat) : MLB own i yX11_best cX11_best 3 (some .int) 2 := ⟨wi_X11, wc_X11_best, by decide +kernel⟩
theorem wm_X11_best : Cond.instanceMethod yX11_best ∈ UG := UG_of (i := 615) (by decide +kernel) (by decide +kernel)
theorem we_X11_best : Cond.selects (yX11_best).cls yX11_best yX11_best ∈ UG := UG_of (i := 616) (by decide +kernel) (by decide +kernel)
theorem mL_72 : MLV RL 72 yX11_best cX11_best 3 (some .int) 11 2 := ⟨mb_X11_best _ _, UG_of (i := 614) (by decide +kernel) (by decide +kernel), wm_X11_best, we_X11_best, rfl, by decide⟩
set_option maxRecDepth 100000 in
theorem wc_X12_best : Cond.code yX12_best cX12_best 4 (some .int) ∈ UG := UG_of (i := 1106) rfl (by decide +kernel)
theorem mb_X12_best (own : String) (i : Nat) : MLB own i yX12_best cX12_best 4 (some .int) 2 := ⟨wi_X12, wc_X12_best, by decide +kernel⟩
theorem wm_X12_best : Cond.instanceMethod yX12_best ∈ UG := UG_of (i := 1104) (by decide +kernel) (by decide +kernel)
theorem we_X12_best : Cond.selects (yX12_best).cls yX12_best yX12_best ∈ UG := UG_of (i := 1105) (by decide +kernel) (by decide +kernel)
theorem mL_75 : MLV RL 75 yX12_best cX12_best 4 (some .int) 12 2 := ⟨mb_X12_best _ _, UG_of (i := 1103) (by decide +kernel) (by decide +kernel), wm_X12_best, we_X12_best, rfl, by decide⟩
set_option maxRecDepth 100000 in
theorem wc_X11_at : Cond.code yX11_at cX11_at 4 (some .int) ∈ UG := UG_of (i := 664) rfl (by decide +kernel)
theorem mb_X11_at (own : String) (i : Nat) : MLB own i yX11_at cX11_at 4 (some .int) 3 := ⟨wi_X11, wc_X11_at, by decide +kernel⟩
theorem wm_X11_at : Cond.instanceMethod yX11_at ∈ UG := UG_of (i := 662) (by decide +kernel) (by decide +kernel)
theorem we_X11_at : Cond.selects (yX11_at).cls yX11_at yX11_at ∈ UG := UG_of (i := 663) (by decide +kernel) (by decide +kernel)
theorem mL_76 : MLV RL 76 yX11_at cX11_at 4 (some .int) 11 3 := ⟨mb_X11_at _ _, UG_of (i := 661) (by decide +kernel) (by decide +kernel), wm_X11_at, we_X11_at, rfl, by decide⟩
set_option maxRecDepth 100000 in
theorem wc_X12_at : Cond.code yX12_at cX12_at 4 (some .int) ∈ UG := UG_of (i := 1130) rfl (by decide +kernel)
theorem mb_X12_at (own : String) (i : Nat) : MLB own i yX12_at cX12_at 4 (some .int) 3 := ⟨wi_X12, wc_X12_at, by decide +kernel⟩
theorem wm_X12_at : Cond.instanceMethod yX12_at ∈ UG := UG_of (i := 1128) (by decide +kernel) (by decide +kernel)
theorem we_X12_at : Cond.selects (yX12_at).cls yX12_at yX12_at ∈ UG := UG_of (i := 1129) (by decide +kernel) (by decide +kernel)
theorem mL_79 : MLV RL 79 yX12_at cX12_at 4 (some .int) 12 3 := ⟨mb_X12_at _ _, UG_of (i := 1127) (by decide +kernel) (by decide +kernel), wm_X12_at, we_X12_at, rfl, by decide⟩
set_option maxRecDepth 100000 in
theorem wc_X11_span : Cond.code yX11_span cX11_span 7 (some .int) ∈ UG := UG_of (i := 680) rfl (by decide +kernel)
theorem mb_X11_span (own : String) (i : Nat) : MLB own i yX11_span cX11_span 7 (some .int) 5 := ⟨wi_X11, wc_X11_span, by decide +kernel⟩
theorem wm_X11_span : Cond.instanceMethod yX11_span ∈ UG := UG_of (i := 678) (by decide +kernel) (by decide +kernel)
theorem we_X11_span : Cond.selects (yX11_span).cls yX11_span yX11_span ∈ UG := UG_of (i := 679) (by decide +kernel) (by decide +kernel)
theorem mL_80 : MLV RL 80 yX11_span cX11_span 7 (some .int) 11 5 := ⟨mb_X11_span _ _, UG_of (i := 677) (by decide +kernel) (by decide +kernel), wm_X11_span, we_X11_span, rfl, by decide⟩
set_option maxRecDepth 100000 in
theorem wc_X12_span : Cond.code yX12_span cX12_span 10 (some .int) ∈ UG := UG_of (i := 1138) rfl (by decide +kernel)
theorem mb_X12_span (own : String) (i : Nat) : MLB own i yX12_span cX12_span 10 (some .int) 5 := ⟨wi_X12, wc_X12_span, by decide +kernel⟩
theorem wm_X12_span : Cond.instanceMethod yX12_span ∈ UG := UG_of (i := 1136) (by decide +kernel) (by decide +kernel)
theorem we_X12_span : Cond.selects (yX12_span).cls yX12_span yX12_span ∈ UG := UG_of (i := 1137) (by decide +kernel) (by decide +kernel)
theorem mL_83 : MLV RL 83 yX12_span cX12_span 10 (some .int) 12 5 := ⟨mb_X12_span _ _, UG_of (i := 1135) (by decide +kernel) (by decide +kernel), wm_X12_span, we_X12_span, rfl, by decide⟩
set_option maxRecDepth 100000 in
theorem wc_X11_rivals : Cond.code yX11_rivals cX11_rivals 6 (some .int) ∈ UG := UG_of (i := 707) rfl (by decide +kernel)
theorem mb_X11_rivals (own : String) (i : Nat) : MLB own i yX11_rivals cX11_rivals 6 (some .int) 3 := ⟨wi_X11, wc_X11_rivals, by decide +kernel⟩
theorem wm_X11_rivals : Cond.instanceMethod yX11_rivals ∈ UG := UG_of (i := 705) (by decide +kernel) (by decide +kernel)
theorem we_X11_rivals : Cond.selects (yX11_rivals).cls yX11_rivals yX11_rivals ∈ UG := UG_of (i := 706) (by decide +kernel) (by decide +kernel)
theorem mL_84 : MLV RL 84 yX11_rivals cX11_rivals 6 (some .int) 11 3 := ⟨mb_X11_rivals _ _, UG_of (i := 704) (by decide +kernel) (by decide +kernel), wm_X11_rivals, we_X11_rivals, rfl, by decide⟩
set_option maxRecDepth 100000 in
theorem wc_X12_rivals : Cond.code yX12_rivals cX12_rivals 10 (some .int) ∈ UG := UG_of (i := 1146) rfl (by decide +kernel)
theorem mb_X12_rivals (own : String) (i : Nat) : MLB own i yX12_rivals cX12_rivals 10 (some .int) 3 := ⟨wi_X12, wc_X12_rivals, by decide +kernel⟩
theorem wm_X12_rivals : Cond.instanceMethod yX12_rivals ∈ UG := UG_of (i := 1144) (by decide +kernel) (by decide +kernel)
theorem we_X12_rivals : Cond.selects (yX12_rivals).cls yX12_rivals yX12_rivals ∈ UG := UG_of (i := 1145) (by decide +kernel) (by decide +kernel)
theorem mL_87 : MLV RL 87 yX12_rivals cX12_rivals 10 (some .int) 12 3 := ⟨mb_X12_rivals _ _, UG_of (i := 1143) (by decide +kernel) (by decide +kernel), wm_X12_rivals, we_X12_rivals, rfl, by decide⟩
set_option maxRecDepth 100000 in
theorem wc_X11_shared : Cond.code yX11_shared cX11_shared 4 (some .int) ∈ UG := UG_of (i := 733) rfl (by decide +kernel)
theorem mb_X11_shared (own : String) (i : Nat) : MLB own i yX11_shared cX11_shared 4 (some .int) 3 := ⟨wi_X11, wc_X11_shared, by decide +kernel⟩
theorem wm_X11_shared : Cond.instanceMethod yX11_shared ∈ UG := UG_of (i := 731) (by decide +kernel) (by decide +kernel)
theorem we_X11_shared : Cond.selects (yX11_shared).cls yX11_shared yX11_shared ∈ UG := UG_of (i := 732) (by decide +kernel) (by decide +kernel)
theorem mL_88 : MLV RL 88 yX11_shared cX11_shared 4 (some .int) 11 3 := ⟨mb_X11_shared _ _, UG_of (i := 730) (by decide +kernel) (by decide +kernel), wm_X11_shared, we_X11_shared, rfl, by decide⟩
set_option maxRecDepth 100000 in
theorem wc_X12_shared : Cond.code yX12_shared cX12_shared 8 (some .int) ∈ UG := UG_of (i := 1155) rfl (by decide +kernel)
theorem mb_X12_shared (own : String) (i : Nat) : MLB own i yX12_shared cX12_shared 8 (some .int) 3 := ⟨wi_X12, wc_X12_shared, by decide +kernel⟩
theorem wm_X12_shared : Cond.instanceMethod yX12_shared ∈ UG := UG_of (i := 1153) (by decide +kernel) (by decide +kernel)
theorem we_X12_shared : Cond.selects (yX12_shared).cls yX12_shared yX12_shared ∈ UG := UG_of (i := 1154) (by decide +kernel) (by decide +kernel)
theorem mL_91 : MLV RL 91 yX12_shared cX12_shared 8 (some .int) 12 3 := ⟨mb_X12_shared _ _, UG_of (i := 1152) (by decide +kernel) (by decide +kernel), wm_X12_shared, we_X12_shared, rfl, by decide⟩
set_option maxRecDepth 100000 in
theorem wc_X12_of : Cond.code yX12_of cX12_of 4 (some .int) ∈ UG := UG_of (i := 1163) rfl (by decide +kernel)
theorem mb_X12_of (own : String) (i : Nat) : MLB own i yX12_of cX12_of 4 (some .int) 2 := ⟨wi_X12, wc_X12_of, by decide +kernel⟩
theorem wm_X12_of : Cond.instanceMethod yX12_of ∈ UG := UG_of (i := 1161) (by decide +kernel) (by decide +kernel)
theorem we_X12_of : Cond.selects (yX12_of).cls yX12_of yX12_of ∈ UG := UG_of (i := 1162) (by decide +kernel) (by decide +kernel)
theorem mL_97 : MLV RL 97 yX12_of cX12_of 4 (some .int) 12 2 := ⟨mb_X12_of _ _, UG_of (i := 1160) (by decide +kernel) (by decide +kernel), wm_X12_of, we_X12_of, rfl, by decide⟩
set_option maxRecDepth 100000 in
theorem wc_X12_thrown : Cond.code yX12_thrown cX12_thrown 1 (some .int) ∈ UG := UG_of (i := 973) rfl (by decide +kernel)
theorem mb_X12_thrown (own : String) (i : Nat) : MLB own i yX12_thrown cX12_thrown 1 (some .int) 0 := ⟨wi_X12, wc_X12_thrown, by decide +kernel⟩
theorem wm_X12_thrown : Cond.instanceMethod yX12_thrown ∈ UG := UG_of (i := 971) (by decide +kernel) (by decide +kernel)
theorem we_X12_thrown : Cond.selects (yX12_thrown).cls yX12_thrown yX12_thrown ∈ UG := UG_of (i := 972) (by decide +kernel) (by decide +kernel)
theorem mL_98 : MLV RL 98 yX12_thrown cX12_thrown 1 (some .int) 12 0 := ⟨mb_X12_thrown _ _, UG_of (i := 970) (by decide +kernel) (by decide +kernel), wm_X12_thrown, we_X12_thrown, rfl, by decide⟩
set_option maxRecDepth 100000 in
theorem wc_X11_letter : Cond.code yX11_letter cX11_letter 5 (some .int) ∈ UG := UG_of (i := 758) rfl (by decide +kernel)
theorem mb_X11_letter (own : String) (i : Nat) : MLB own i yX11_letter cX11_letter 5 (some .int) 3 := ⟨wi_X11, wc_X11_letter, by decide +kernel⟩
theorem wm_X11_letter : Cond.instanceMethod yX11_letter ∈ UG := UG_of (i := 756) (by decide +kernel) (by decide +kernel)
theorem we_X11_letter : Cond.selects (yX11_letter).cls yX11_letter yX11_letter ∈ UG := UG_of (i := 757) (by decide +kernel) (by decide +kernel)
theorem mL_101 : MLV RL 101 yX11_letter cX11_letter 5 (some .int) 11 3 := ⟨mb_X11_letter _ _, UG_of (i := 755) (by decide +kernel) (by decide +kernel), wm_X11_letter, we_X11_letter, rfl, by decide⟩
set_option maxRecDepth 100000 in
theorem wc_X12_letter : Cond.code yX12_letter cX12_letter 4 (some .int) ∈ UG := UG_of (i := 1167) rfl (by decide +kernel)
theorem mb_X12_letter (own : String) (i : Nat) : MLB own i yX12_letter cX12_letter 4 (some .int) 3 := ⟨wi_X12, wc_X12_letter, by decide +kernel⟩
theorem wm_X12_letter : Cond.instanceMethod yX12_letter ∈ UG := UG_of (i := 1165) (by decide +kernel) (by decide +kernel)
theorem we_X12_letter : Cond.selects (yX12_letter).cls yX12_letter yX12_letter ∈ UG := UG_of (i := 1166) (by decide +kernel) (by decide +kernel)
theorem mL_104 : MLV RL 104 yX12_letter cX12_letter 4 (some .int) 12 3 := ⟨mb_X12_letter _ _, UG_of (i := 1164) (by decide +kernel) (by decide +kernel), wm_X12_letter, we_X12_letter, rfl, by decide⟩
set_option maxRecDepth 100000 in
theorem wc_X11_count : Cond.code yX11_count cX11_count 2 (some .int) ∈ UG := UG_of (i := 762) rfl (by decide +kernel)
theorem mb_X11_count (own : String) (i : Nat) : MLB own i yX11_count cX11_count 2 (some .int) 1 := ⟨wi_X11, wc_X11_count, by decide +kernel⟩
theorem wm_X11_count : Cond.instanceMethod yX11_count ∈ UG := UG_of (i := 760) (by decide +kernel) (by decide +kernel)
theorem we_X11_count : Cond.selects (yX11_count).cls yX11_count yX11_count ∈ UG := UG_of (i := 761) (by decide +kernel) (by decide +kernel)
theorem mL_105 : MLV RL 105 yX11_count cX11_count 2 (some .int) 11 1 := ⟨mb_X11_count _ _, UG_of (i := 759) (by decide +kernel) (by decide +kernel), wm_X11_count, we_X11_count, rfl, by decide⟩
set_option maxRecDepth 100000 in
theorem wc_X12_count : Cond.code yX12_count cX12_count 2 (some .int) ∈ UG := UG_of (i := 1171) rfl (by decide +kernel)
theorem mb_X12_count (own : String) (i : Nat) : MLB own i yX12_count cX12_count 2 (some .int) 1 := ⟨wi_X12, wc_X12_count, by decide +kernel⟩
theorem wm_X12_count : Cond.instanceMethod yX12_count ∈ UG := UG_of (i := 1169) (by decide +kernel) (by decide +kernel)
theorem we_X12_count : Cond.selects (yX12_count).cls yX12_count yX12_count ∈ UG := UG_of (i := 1170) (by decide +kernel) (by decide +kernel)
theorem mL_108 : MLV RL 108 yX12_count cX12_count 2 (some .int) 12 1 := ⟨mb_X12_count _ _, UG_of (i := 1168) (by decide +kernel) (by decide +kernel), wm_X12_count, we_X12_count, rfl, by decide⟩
theorem mX0_1 : Cond.methodLink RX0 1 objectInit ∈ UG := UG_of (i := 199) (by decide +kernel) (by decide +kernel)
theorem xX0_7 : Cond.classLink RX0 7 "MileLists$Name" ∈ UG := UG_of (i := 200) (by decide +kernel) (by decide +kernel)
set_option maxRecDepth 100000 in
theorem wc_X3_init : Cond.code yX3_init cX3_init 1 none ∈ UG := UG_of (i := 104) rfl (by decide +kernel)
theorem wi_X3 : Cond.initialized RX3 ∈ UG := UG_of (i := 56) (by decide +kernel) (by decide +kernel)
theorem mb_X3_init (own : String) (i : Nat) : MLB own i yX3_init cX3_init 1 none 0 := ⟨wi_X3, wc_X3_init, by decide +kernel⟩
theorem wm_X3_init : Cond.instanceMethod yX3_init ∈ UG := UG_of (i := 103) (by decide +kernel) (by decide +kernel)
theorem mX0_9 : MLN RX0 9 yX3_init cX3_init 1 0 := ⟨mb_X3_init _ _, by decide +kernel, wm_X3_init, rfl⟩
theorem fX0_10 : FL RX0 10 0 0 true := ⟨RX0, TX0, 4, fcX0, by decide, by decide +kernel, by decide +kernel, UG_of (i := 202) (by decide +kernel) (by decide +kernel)⟩
set_option maxRecDepth 100000 in
theorem wc_X3_copy : Cond.code yX3_copy cX3_copy 3 none ∈ UG := UG_of (i := 487) rfl (by decide +kernel)
theorem mb_X3_copy (own : String) (i : Nat) : MLB own i yX3_copy cX3_copy 3 none 1 := ⟨wi_X3, wc_X3_copy, by decide +kernel⟩
theorem wm_X3_copy : Cond.instanceMethod yX3_copy ∈ UG := UG_of (i := 485) (by decide +kernel) (by decide +kernel)
theorem we_X3_copy : Cond.selects (yX3_copy).cls yX3_copy yX3_copy ∈ UG := UG_of (i := 486) (by decide +kernel) (by decide +kernel)
theorem mX0_16 : MLV RX0 16 yX3_copy cX3_copy 3 none 3 1 := ⟨mb_X3_copy _ _, UG_of (i := 484) (by decide +kernel) (by decide +kernel), wm_X3_copy, we_X3_copy, rfl, by decide⟩
theorem fX0_20 : FL RX0 20 0 1 false := ⟨RX0, TX0, 4, fcX0, by decide, by decide +kernel, by decide +kernel, UG_of (i := 204) (by decide +kernel) (by decide +kernel)⟩
theorem fX0_24 : FL RX0 24 0 2 false := ⟨RX0, TX0, 4, fcX0, by decide, by decide +kernel, by decide +kernel, UG_of (i := 207) (by decide +kernel) (by decide +kernel)⟩
theorem fX0_27 : FL RX0 27 0 3 false := ⟨RX0, TX0, 4, fcX0, by decide, by decide +kernel, by decide +kernel, UG_of (i := 209) (by decide +kernel) (by decide +kernel)⟩
theorem mX1_3 : Cond.methodLink RX1 3 objectInit ∈ UG := UG_of (i := 250) (by decide +kernel) (by decide +kernel)
theorem fX1_9 : FL RX1 9 1 0 true := ⟨RX1, TX1, 4, fcX1, by decide, by decide +kernel, by decide +kernel, UG_of (i := 251) (by decide +kernel) (by decide +kernel)⟩
theorem fX1_15 : FL RX1 15 1 1 true := ⟨RX1, TX1, 4, fcX1, by decide, by decide +kernel, by decide +kernel, UG_of (i := 252) (by decide +kernel) (by decide +kernel)⟩
theorem fX1_18 : FL RX1 18 1 2 true := ⟨RX1, TX1, 4, fcX1, by decide, by decide +kernel, by decide +kernel, UG_of (i := 253) (by decide +kernel) (by decide +kernel)⟩
theorem fX1_21 : FL RX1 21 1 3 false := ⟨RX1, TX1, 4, fcX1, by decide, by decide +kernel, by decide +kernel, UG_of (i := 255) (by decide +kernel) (by decide +kernel)⟩
set_option maxRecDepth 100000 in
theorem wc_X1_worksIn : Cond.code yX1_worksIn cX1_worksIn 3 (some .boolean) ∈ UG := UG_of (i := 599) rfl (by decide +kernel)
theorem wi_X1 : Cond.initialized RX1 ∈ UG := UG_of (i := 62) (by decide +kernel) (by decide +kernel)
theorem mb_X1_worksIn (own : String) (i : Nat) : MLB own i yX1_worksIn cX1_worksIn 3 (some .boolean) 2 := ⟨wi_X1, wc_X1_worksIn, by decide +kernel⟩
theorem wm_X1_worksIn : Cond.instanceMethod yX1_worksIn ∈ UG := UG_of (i := 598) (by decide +kernel) (by decide +kernel)
theorem we_X1_worksIn : Cond.selects (yX1_worksIn).cls yX1_worksIn yX1_worksIn ∈ UG := UG_of (i := 11) (by decide +kernel) (by decide +kernel)
theorem mX1_25 : MLV RX1 25 yX1_worksIn cX1_worksIn 3 (some .boolean) 1 2 := ⟨mb_X1_worksIn _ _, UG_of (i := 596) (by decide +kernel) (by decide +kernel), wm_X1_worksIn, we_X1_worksIn, rfl, by decide⟩
set_option maxRecDepth 100000 in
theorem wc_X4_value : Cond.code yX4_value cX4_value 3 (some .int) ∈ UG := UG_of (i := 581) rfl (by decide +kernel)
theorem wi_X4 : Cond.initialized RX4 ∈ UG := UG_of (i := 59) (by decide +kernel) (by decide +kernel)
theorem mb_X4_value (own : String) (i : Nat) : MLB own i yX4_value cX4_value 3 (some .int) 0 := ⟨wi_X4, wc_X4_value, by decide +kernel⟩
theorem wm_X4_value : Cond.instanceMethod yX4_value ∈ UG := UG_of (i := 579) (by decide +kernel) (by decide +kernel)
theorem we_X4_value : Cond.selects (yX4_value).cls yX4_value yX4_value ∈ UG := UG_of (i := 580) (by decide +kernel) (by decide +kernel)
theorem mX1_29 : MLV RX1 29 yX4_value cX4_value 3 (some .int) 4 0 := ⟨mb_X4_value _ _, UG_of (i := 608) (by decide +kernel) (by decide +kernel), wm_X4_value, we_X4_value, rfl, by decide⟩
theorem fX1_38 : FL RX1 38 4 1 false := ⟨RX4, TX4, 2, fcX4, by decide, by decide +kernel, by decide +kernel, UG_of (i := 154) (by decide +kernel) (by decide +kernel)⟩
set_option maxRecDepth 100000 in
theorem wc_X4_holds : Cond.code yX4_holds cX4_holds 3 (some .boolean) ∈ UG := UG_of (i := 603) rfl (by decide +kernel)
theorem mb_X4_holds (own : String) (i : Nat) : MLB own i yX4_holds cX4_holds 3 (some .boolean) 1 := ⟨wi_X4, wc_X4_holds, by decide +kernel⟩
theorem wm_X4_holds : Cond.instanceMethod yX4_holds ∈ UG := UG_of (i := 601) (by decide +kernel) (by decide +kernel)
theorem we_X4_holds : Cond.selects (yX4_holds).cls yX4_holds yX4_holds ∈ UG := UG_of (i := 602) (by decide +kernel) (by decide +kernel)
theorem mX1_39 : MLV RX1 39 yX4_holds cX4_holds 3 (some .boolean) 4 1 := ⟨mb_X4_holds _ _, UG_of (i := 600) (by decide +kernel) (by decide +kernel), wm_X4_holds, we_X4_holds, rfl, by decide⟩
set_option maxRecDepth 100000 in
theorem wc_X4_canSwap : Cond.code yX4_canSwap cX4_canSwap 6 (some .boolean) ∈ UG := UG_of (i := 607) rfl (by decide +kernel)
theorem mb_X4_canSwap (own : String) (i : Nat) : MLB own i yX4_canSwap cX4_canSwap 6 (some .boolean) 2 := ⟨wi_X4, wc_X4_canSwap, by decide +kernel⟩
theorem wm_X4_canSwap : Cond.instanceMethod yX4_canSwap ∈ UG := UG_of (i := 605) (by decide +kernel) (by decide +kernel)
theorem we_X4_canSwap : Cond.selects (yX4_canSwap).cls yX4_canSwap yX4_canSwap ∈ UG := UG_of (i := 606) (by decide +kernel) (by decide +kernel)
theorem mX1_43 : MLV RX1 43 yX4_canSwap cX4_canSwap 6 (some .boolean) 4 2 := ⟨mb_X4_canSwap _ _, UG_of (i := 604) (by decide +kernel) (by decide +kernel), wm_X4_canSwap, we_X4_canSwap, rfl, by decide⟩
theorem mX10_3 : Cond.methodLink RX10 3 objectInit ∈ UG := UG_of (i := 85) (by decide +kernel) (by decide +kernel)
theorem fX10_9 : FL RX10 9 10 0 true := ⟨RX10, TX10, 2, fcX10, by decide, by decide +kernel, by decide +kernel, UG_of (i := 86) (by decide +kernel) (by decide +kernel)⟩
theorem fX10_15 : FL RX10 15 10 1 false := ⟨RX10, TX10, 2, fcX10, by decide, by decide +kernel, by decide +kernel, UG_of (i := 90) (by decide +kernel) (by decide +kernel)⟩
set_option maxRecDepth 100000 in
theorem wc_X10_lettersFrom : Cond.code yX10_lettersFrom cX10_lettersFrom 3 (some .int) ∈ UG := UG_of (i := 411) rfl (by decide +kernel)
theorem wi_X10 : Cond.initialized RX10 ∈ UG := UG_of (i := 55) (by decide +kernel) (by decide +kernel)
theorem mb_X10_lettersFrom (own : String) (i : Nat) : MLB own i yX10_lettersFrom cX10_lettersFrom 3 (some .int) 1 := ⟨wi_X10, wc_X10_lettersFrom, by decide +kernel⟩
theorem wm_X10_lettersFrom : Cond.instanceMethod yX10_lettersFrom ∈ UG := UG_of (i := 409) (by decide +kernel) (by decide +kernel)
theorem we_X10_lettersFrom : Cond.selects (yX10_lettersFrom).cls yX10_lettersFrom yX10_lettersFrom ∈ UG := UG_of (i := 410) (by decide +kernel) (by decide +kernel)
theorem mX10_19 : MLV RX10 19 yX10_lettersFrom cX10_lettersFrom 3 (some .int) 10 1 := ⟨mb_X10_lettersFrom _ _, UG_of (i := 467) (by decide +kernel) (by decide +kernel), wm_X10_lettersFrom, we_X10_lettersFrom, rfl, by decide⟩
set_option maxRecDepth 100000 in
theorem wc_X10_signOf : Cond.code yX10_signOf cX10_signOf 1 (some .int) ∈ UG := UG_of (i := 438) rfl (by decide +kernel)
theorem mb_X10_signOf (own : String) (i : Nat) : MLB own i yX10_signOf cX10_signOf 1 (some .int) 1 := ⟨wi_X10, wc_X10_signOf, by decide +kernel⟩
theorem ws_X10_signOf : Cond.static yX10_signOf ∈ UG := UG_of (i := 437) (by decide +kernel) (by decide +kernel)
theorem mX10_23 : MLS RX10 23 yX10_signOf cX10_signOf 1 (some .int) 1 := ⟨mb_X10_signOf _ _, UG_of (i := 436) (by decide +kernel) (by decide +kernel), ws_X10_signOf⟩
theorem mX11_3 : Cond.methodLink RX11 3 objectInit ∈ UG := UG_of (i := 77) (by decide +kernel) (by decide +kernel)
theorem xX11_9 : Cond.classLink RX11 9 "MileLists$Tape" ∈ UG := UG_of (i := 80) (by decide +kernel) (by decide +kernel)
set_option maxRecDepth 100000 in
theorem wc_X10_init : Cond.code yX10_init cX10_init 1 none ∈ UG := UG_of (i := 84) rfl (by decide +kernel)
theorem mb_X10_init (own : String) (i : Nat) : MLB own i yX10_init cX10_init 1 none 0 := ⟨wi_X10, wc_X10_init, by decide +kernel⟩
theorem wm_X10_init : Cond.instanceMethod yX10_init ∈ UG := UG_of (i := 83) (by decide +kernel) (by decide +kernel)
theorem mX11_11 : MLN RX11 11 yX10_init cX10_init 1 0 := ⟨mb_X10_init _ _, by decide +kernel, wm_X10_init, rfl⟩
theorem fX11_12 : FL RX11 12 11 0 true := ⟨RX11, TX11, 11, fcX11, by decide, by decide +kernel, by decide +kernel, UG_of (i := 343) (by decide +kernel) (by decide +kernel)⟩
theorem xX11_16 : Cond.classLink RX11 16 "MileLists$Name" ∈ UG := UG_of (i := 100) (by decide +kernel) (by decide +kernel)
theorem mX11_18 : MLN RX11 18 yX3_init cX3_init 1 0 := ⟨mb_X3_init _ _, by decide +kernel, wm_X3_init, rfl⟩
theorem fX11_19 : FL RX11 19 11 1 true := ⟨RX11, TX11, 11, fcX11, by decide, by decide +kernel, by decide +kernel, UG_of (i := 344) (by decide +kernel) (by decide +kernel)⟩
theorem xX11_23 : Cond.classLink RX11 23 "MileLists$Scribe" ∈ UG := UG_of (i := 117) (by decide +kernel) (by decide +kernel)
set_option maxRecDepth 100000 in
theorem wc_X8_init : Cond.code yX8_init cX8_init 1 none ∈ UG := UG_of (i := 121) rfl (by decide +kernel)
theorem wi_X8 : Cond.initialized RX8 ∈ UG := UG_of (i := 57) (by decide +kernel) (by decide +kernel)
theorem mb_X8_init (own : String) (i : Nat) : MLB own i yX8_init cX8_init 1 none 0 := ⟨wi_X8, wc_X8_init, by decide +kernel⟩
theorem wm_X8_init : Cond.instanceMethod yX8_init ∈ UG := UG_of (i := 120) (by decide +kernel) (by decide +kernel)
theorem mX11_25 : MLN RX11 25 yX8_init cX8_init 1 0 := ⟨mb_X8_init _ _, by decide +kernel, wm_X8_init, rfl⟩
theorem fX11_26 : FL RX11 26 11 2 true := ⟨RX11, TX11, 11, fcX11, by decide, by decide +kernel, by decide +kernel, UG_of (i := 345) (by decide +kernel) (by decide +kernel)⟩
theorem xX11_30 : Cond.classLink RX11 30 "MileLists$Route" ∈ UG := UG_of (i := 135) (by decide +kernel) (by decide +kernel)
theorem fX11_32 : FL RX11 32 11 3 true := ⟨RX11, TX11, 11, fcX11, by decide, by decide +kernel, by decide +kernel, UG_of (i := 346) (by decide +kernel) (by decide +kernel)⟩
set_option maxRecDepth 100000 in
theorem wc_X7_init : Cond.code yX7_init cX7_init 2 none ∈ UG := UG_of (i := 140) rfl (by decide +kernel)
theorem wi_X7 : Cond.initialized RX7 ∈ UG := UG_of (i := 58) (by decide +kernel) (by decide +kernel)
theorem mb_X7_init (own : String) (i : Nat) : MLB own i yX7_init cX7_init 2 none 0 := ⟨wi_X7, wc_X7_init, by decide +kernel⟩
theorem wm_X7_init : Cond.instanceMethod yX7_init ∈ UG := UG_of (i := 139) (by decide +kernel) (by decide +kernel)
theorem mX11_36 : MLI RX11 36 yX7_init cX7_init 2 0 := ⟨mb_X7_init _ _, UG_of (i := 138) (by decide +kernel) (by decide +kernel), wm_X7_init, rfl⟩
theorem fX11_37 : FL RX11 37 11 4 false := ⟨RX11, TX11, 11, fcX11, by decide, by decide +kernel, by decide +kernel, UG_of (i := 347) (by decide +kernel) (by decide +kernel)⟩
theorem fX11_41 : FL RX11 41 11 5 false := ⟨RX11, TX11, 11, fcX11, by decide, by decide +kernel, by decide +kernel, UG_of (i := 348) (by decide +kernel) (by decide +kernel)⟩
theorem xX11_44 : Cond.classLink RX11 44 "MileLists$Land" ∈ UG := UG_of (i := 187) (by decide +kernel) (by decide +kernel)
set_option maxRecDepth 100000 in
theorem wc_X2_init : Cond.code yX2_init cX2_init 2 none ∈ UG := UG_of (i := 191) rfl (by decide +kernel)
theorem wi_X2 : Cond.initialized RX2 ∈ UG := UG_of (i := 60) (by decide +kernel) (by decide +kernel)
theorem mb_X2_init (own : String) (i : Nat) : MLB own i yX2_init cX2_init 2 none 0 := ⟨wi_X2, wc_X2_init, by decide +kernel⟩
theorem wm_X2_init : Cond.instanceMethod yX2_init ∈ UG := UG_of (i := 190) (by decide +kernel) (by decide +kernel)
theorem mX11_46 : MLI RX11 46 yX2_init cX2_init 2 0 := ⟨mb_X2_init _ _, UG_of (i := 189) (by decide +kernel) (by decide +kernel), wm_X2_init, rfl⟩
theorem fX11_47 : FL RX11 47 11 6 true := ⟨RX11, TX11, 11, fcX11, by decide, by decide +kernel, by decide +kernel, UG_of (i := 349) (by decide +kernel) (by decide +kernel)⟩
theorem xX11_51 : Cond.classLink RX11 51 "MileLists$Habits" ∈ UG := UG_of (i := 245) (by decide +kernel) (by decide +kernel)
set_option maxRecDepth 100000 in
theorem wc_X1_init : Cond.code yX1_init cX1_init 1 none ∈ UG := UG_of (i := 249) rfl (by decide +kernel)
theorem mb_X1_init (own : String) (i : Nat) : MLB own i yX1_init cX1_init 1 none 0 := ⟨wi_X1, wc_X1_init, by decide +kernel⟩
theorem wm_X1_init : Cond.instanceMethod yX1_init ∈ UG := UG_of (i := 248) (by decide +kernel) (by decide +kernel)
theorem mX11_53 : MLN RX11 53 yX1_init cX1_init 1 0 := ⟨mb_X1_init _ _, by decide +kernel, wm_X1_init, rfl⟩
theorem fX11_54 : FL RX11 54 11 7 true := ⟨RX11, TX11, 11, fcX11, by decide, by decide +kernel, by decide +kernel, UG_of (i := 350) (by decide +kernel) (by decide +kernel)⟩
theorem xX11_58 : Cond.classLink RX11 58 "MileLists$Sounds" ∈ UG := UG_of (i := 267) (by decide +kernel) (by decide +kernel)
set_option maxRecDepth 100000 in
theorem wc_X9_init : Cond.code yX9_init cX9_init 2 none ∈ UG := UG_of (i := 271) rfl (by decide +kernel)
theorem wi_X9 : Cond.initialized RX9 ∈ UG := UG_of (i := 63) (by decide +kernel) (by decide +kernel)
theorem mb_X9_init (own : String) (i : Nat) : MLB own i yX9_init cX9_init 2 none 0 := ⟨wi_X9, wc_X9_init, by decide +kernel⟩
theorem wm_X9_init : Cond.instanceMethod yX9_init ∈ UG := UG_of (i := 270) (by decide +kernel) (by decide +kernel)
theorem mX11_60 : MLI RX11 60 yX9_init cX9_init 2 0 := ⟨mb_X9_init _ _, UG_of (i := 269) (by decide +kernel) (by decide +kernel), wm_X9_init, rfl⟩
theorem fX11_61 : FL RX11 61 11 8 true := ⟨RX11, TX11, 11, fcX11, by decide, by decide +kernel, by decide +kernel, UG_of (i := 351) (by decide +kernel) (by decide +kernel)⟩
theorem xX11_65 : Cond.classLink RX11 65 "MileLists$Placer" ∈ UG := UG_of (i := 280) (by decide +kernel) (by decide +kernel)
set_option maxRecDepth 100000 in
theorem wc_X5_init : Cond.code yX5_init cX5_init 2 none ∈ UG := UG_of (i := 284) rfl (by decide +kernel)
theorem wi_X5 : Cond.initialized RX5 ∈ UG := UG_of (i := 64) (by decide +kernel) (by decide +kernel)
theorem mb_X5_init (own : String) (i : Nat) : MLB own i yX5_init cX5_init 2 none 0 := ⟨wi_X5, wc_X5_init, by decide +kernel⟩
theorem wm_X5_init : Cond.instanceMethod yX5_init ∈ UG := UG_of (i := 283) (by decide +kernel) (by decide +kernel)
theorem mX11_67 : MLI RX11 67 yX5_init cX5_init 2 0 := ⟨mb_X5_init _ _, UG_of (i := 282) (by decide +kernel) (by decide +kernel), wm_X5_init, rfl⟩
theorem fX11_68 : FL RX11 68 11 9 true := ⟨RX11, TX11, 11, fcX11, by decide, by decide +kernel, by decide +kernel, UG_of (i := 352) (by decide +kernel) (by decide +kernel)⟩
theorem fX11_72 : FL RX11 72 11 10 false := ⟨RX11, TX11, 11, fcX11, by decide, by decide +kernel, by decide +kernel, UG_of (i := 353) (by decide +kernel) (by decide +kernel)⟩
theorem fX11_75 : FL RX11 75 10 1 false := ⟨RX10, TX10, 2, fcX10, by decide, by decide +kernel, by decide +kernel, UG_of (i := 89) (by decide +kernel) (by decide +kernel)⟩
set_option maxRecDepth 100000 in
theorem wc_X10_addFour : Cond.code yX10_addFour cX10_addFour 3 none ∈ UG := UG_of (i := 384) rfl (by decide +kernel)
theorem mb_X10_addFour (own : String) (i : Nat) : MLB own i yX10_addFour cX10_addFour 3 none 1 := ⟨wi_X10, wc_X10_addFour, by decide +kernel⟩
theorem wm_X10_addFour : Cond.instanceMethod yX10_addFour ∈ UG := UG_of (i := 382) (by decide +kernel) (by decide +kernel)
theorem we_X10_addFour : Cond.selects (yX10_addFour).cls yX10_addFour yX10_addFour ∈ UG := UG_of (i := 383) (by decide +kernel) (by decide +kernel)
theorem mX11_78 : MLV RX11 78 yX10_addFour cX10_addFour 3 none 10 1 := ⟨mb_X10_addFour _ _, UG_of (i := 381) (by decide +kernel) (by decide +kernel), wm_X10_addFour, we_X10_addFour, rfl, by decide⟩
set_option maxRecDepth 100000 in
theorem wc_X11_isUnit : Cond.code yX11_isUnit cX11_isUnit 1 (some .boolean) ∈ UG := UG_of (i := 395) rfl (by decide +kernel)
theorem mb_X11_isUnit (own : String) (i : Nat) : MLB own i yX11_isUnit cX11_isUnit 1 (some .boolean) 1 := ⟨wi_X11, wc_X11_isUnit, by decide +kernel⟩
theorem ws_X11_isUnit : Cond.static yX11_isUnit ∈ UG := UG_of (i := 394) (by decide +kernel) (by decide +kernel)
theorem mX11_82 : MLS RX11 82 yX11_isUnit cX11_isUnit 1 (some .boolean) 1 := ⟨mb_X11_isUnit _ _, UG_of (i := 393) (by decide +kernel) (by decide +kernel), ws_X11_isUnit⟩
set_option maxRecDepth 100000 in
theorem wc_X8_readText : Cond.code yX8_readText cX8_readText 4 none ∈ UG := UG_of (i := 399) rfl (by decide +kernel)
theorem mb_X8_readText (own : String) (i : Nat) : MLB own i yX8_readText cX8_readText 4 none 2 := ⟨wi_X8, wc_X8_readText, by decide +kernel⟩
theorem wm_X8_readText : Cond.instanceMethod yX8_readText ∈ UG := UG_of (i := 397) (by decide +kernel) (by decide +kernel)
theorem we_X8_readText : Cond.selects (yX8_readText).cls yX8_readText yX8_readText ∈ UG := UG_of (i := 398) (by decide +kernel) (by decide +kernel)
theorem mX11_86 : MLV RX11 86 yX8_readText cX8_readText 4 none 8 2 := ⟨mb_X8_readText _ _, UG_of (i := 396) (by decide +kernel) (by decide +kernel), wm_X8_readText, we_X8_readText, rfl, by decide⟩
theorem fX11_90 : FL RX11 90 8 1 false := ⟨RX8, TX8, 3, fcX8, by decide, by decide +kernel, by decide +kernel, UG_of (i := 126) (by decide +kernel) (by decide +kernel)⟩
theorem fX11_91 : FL RX11 91 8 0 false := ⟨RX8, TX8, 3, fcX8, by decide, by decide +kernel, by decide +kernel, UG_of (i := 124) (by decide +kernel) (by decide +kernel)⟩
theorem fX11_94 : FL RX11 94 7 3 false := ⟨RX7, TX7, 5, fcX7, by decide, by decide +kernel, by decide +kernel, UG_of (i := 170) (by decide +kernel) (by decide +kernel)⟩
set_option maxRecDepth 100000 in
theorem wc_X11_takeName : Cond.code yX11_takeName cX11_takeName 2 (some .boolean) ∈ UG := UG_of (i := 462) rfl (by decide +kernel)
theorem mb_X11_takeName (own : String) (i : Nat) : MLB own i yX11_takeName cX11_takeName 2 (some .boolean) 0 := ⟨wi_X11, wc_X11_takeName, by decide +kernel⟩
theorem wm_X11_takeName : Cond.instanceMethod yX11_takeName ∈ UG := UG_of (i := 461) (by decide +kernel) (by decide +kernel)
theorem we_X11_takeName : Cond.selects (yX11_takeName).cls yX11_takeName yX11_takeName ∈ UG := UG_of (i := 4) (by decide +kernel) (by decide +kernel)
theorem mX11_97 : MLV RX11 97 yX11_takeName cX11_takeName 2 (some .boolean) 11 0 := ⟨mb_X11_takeName _ _, UG_of (i := 459) (by decide +kernel) (by decide +kernel), wm_X11_takeName, we_X11_takeName, rfl, by decide⟩
set_option maxRecDepth 100000 in
theorem wc_X11_isPlace : Cond.code yX11_isPlace cX11_isPlace 1 (some .boolean) ∈ UG := UG_of (i := 471) rfl (by decide +kernel)
theorem mb_X11_isPlace (own : String) (i : Nat) : MLB own i yX11_isPlace cX11_isPlace 1 (some .boolean) 1 := ⟨wi_X11, wc_X11_isPlace, by decide +kernel⟩
theorem ws_X11_isPlace : Cond.static yX11_isPlace ∈ UG := UG_of (i := 470) (by decide +kernel) (by decide +kernel)
theorem mX11_101 : MLS RX11 101 yX11_isPlace cX11_isPlace 1 (some .boolean) 1 := ⟨mb_X11_isPlace _ _, UG_of (i := 469) (by decide +kernel) (by decide +kernel), ws_X11_isPlace⟩
set_option maxRecDepth 100000 in
theorem wc_X2_hasRuinAt : Cond.code yX2_hasRuinAt cX2_hasRuinAt 3 (some .boolean) ∈ UG := UG_of (i := 475) rfl (by decide +kernel)
theorem mb_X2_hasRuinAt (own : String) (i : Nat) : MLB own i yX2_hasRuinAt cX2_hasRuinAt 3 (some .boolean) 1 := ⟨wi_X2, wc_X2_hasRuinAt, by decide +kernel⟩
theorem wm_X2_hasRuinAt : Cond.instanceMethod yX2_hasRuinAt ∈ UG := UG_of (i := 473) (by decide +kernel) (by decide +kernel)
theorem we_X2_hasRuinAt : Cond.selects (yX2_hasRuinAt).cls yX2_hasRuinAt yX2_hasRuinAt ∈ UG := UG_of (i := 474) (by decide +kernel) (by decide +kernel)
theorem mX11_104 : MLV RX11 104 yX2_hasRuinAt cX2_hasRuinAt 3 (some .boolean) 2 1 := ⟨mb_X2_hasRuinAt _ _, UG_of (i := 472) (by decide +kernel) (by decide +kernel), wm_X2_hasRuinAt, we_X2_hasRuinAt, rfl, by decide⟩
set_option maxRecDepth 100000 in
theorem wc_X2_addRuin : Cond.code yX2_addRuin cX2_addRuin 4 (some .int) ∈ UG := UG_of (i := 479) rfl (by decide +kernel)
theorem mb_X2_addRuin (own : String) (i : Nat) : MLB own i yX2_addRuin cX2_addRuin 4 (some .int) 3 := ⟨wi_X2, wc_X2_addRuin, by decide +kernel⟩
theorem wm_X2_addRuin : Cond.instanceMethod yX2_addRuin ∈ UG := UG_of (i := 477) (by decide +kernel) (by decide +kernel)
theorem we_X2_addRuin : Cond.selects (yX2_addRuin).cls yX2_addRuin yX2_addRuin ∈ UG := UG_of (i := 478) (by decide +kernel) (by decide +kernel)
theorem mX11_107 : MLV RX11 107 yX2_addRuin cX2_addRuin 4 (some .int) 2 3 := ⟨mb_X2_addRuin _ _, UG_of (i := 476) (by decide +kernel) (by decide +kernel), wm_X2_addRuin, we_X2_addRuin, rfl, by decide⟩
set_option maxRecDepth 100000 in
theorem wc_X2_addStone : Cond.code yX2_addStone cX2_addStone 5 (some .int) ∈ UG := UG_of (i := 495) rfl (by decide +kernel)
theorem mb_X2_addStone (own : String) (i : Nat) : MLB own i yX2_addStone cX2_addStone 5 (some .int) 4 := ⟨wi_X2, wc_X2_addStone, by decide +kernel⟩
theorem wm_X2_addStone : Cond.instanceMethod yX2_addStone ∈ UG := UG_of (i := 493) (by decide +kernel) (by decide +kernel)
theorem we_X2_addStone : Cond.selects (yX2_addStone).cls yX2_addStone yX2_addStone ∈ UG := UG_of (i := 494) (by decide +kernel) (by decide +kernel)
theorem mX11_111 : MLV RX11 111 yX2_addStone cX2_addStone 5 (some .int) 2 4 := ⟨mb_X2_addStone _ _, UG_of (i := 492) (by decide +kernel) (by decide +kernel), wm_X2_addStone, we_X2_addStone, rfl, by decide⟩
set_option maxRecDepth 100000 in
theorem wc_X11_isSignOrNone : Cond.code yX11_isSignOrNone cX11_isSignOrNone 1 (some .boolean) ∈ UG := UG_of (i := 502) rfl (by decide +kernel)
theorem mb_X11_isSignOrNone (own : String) (i : Nat) : MLB own i yX11_isSignOrNone cX11_isSignOrNone 1 (some .boolean) 1 := ⟨wi_X11, wc_X11_isSignOrNone, by decide +kernel⟩
theorem ws_X11_isSignOrNone : Cond.static yX11_isSignOrNone ∈ UG := UG_of (i := 501) (by decide +kernel) (by decide +kernel)
theorem mX11_115 : MLS RX11 115 yX11_isSignOrNone cX11_isSignOrNone 1 (some .boolean) 1 := ⟨mb_X11_isSignOrNone _ _, UG_of (i := 500) (by decide +kernel) (by decide +kernel), ws_X11_isSignOrNone⟩
set_option maxRecDepth 100000 in
theorem wc_X1_add : Cond.code yX1_add cX1_add 4 (some .int) ∈ UG := UG_of (i := 508) rfl (by decide +kernel)
theorem mb_X1_add (own : String) (i : Nat) : MLB own i yX1_add cX1_add 4 (some .int) 3 := ⟨wi_X1, wc_X1_add, by decide +kernel⟩
theorem wm_X1_add : Cond.instanceMethod yX1_add ∈ UG := UG_of (i := 506) (by decide +kernel) (by decide +kernel)
theorem we_X1_add : Cond.selects (yX1_add).cls yX1_add yX1_add ∈ UG := UG_of (i := 507) (by decide +kernel) (by decide +kernel)
theorem mX11_118 : MLV RX11 118 yX1_add cX1_add 4 (some .int) 1 3 := ⟨mb_X1_add _ _, UG_of (i := 505) (by decide +kernel) (by decide +kernel), wm_X1_add, we_X1_add, rfl, by decide⟩
set_option maxRecDepth 100000 in
theorem wc_X9_alike : Cond.code yX9_alike cX9_alike 4 (some .boolean) ∈ UG := UG_of (i := 516) rfl (by decide +kernel)
theorem mb_X9_alike (own : String) (i : Nat) : MLB own i yX9_alike cX9_alike 4 (some .boolean) 2 := ⟨wi_X9, wc_X9_alike, by decide +kernel⟩
theorem wm_X9_alike : Cond.instanceMethod yX9_alike ∈ UG := UG_of (i := 514) (by decide +kernel) (by decide +kernel)
theorem we_X9_alike : Cond.selects (yX9_alike).cls yX9_alike yX9_alike ∈ UG := UG_of (i := 515) (by decide +kernel) (by decide +kernel)
theorem mX11_122 : MLV RX11 122 yX9_alike cX9_alike 4 (some .boolean) 9 2 := ⟨mb_X9_alike _ _, UG_of (i := 513) (by decide +kernel) (by decide +kernel), wm_X9_alike, we_X9_alike, rfl, by decide⟩
set_option maxRecDepth 100000 in
theorem wc_X9_join : Cond.code yX9_join cX9_join 6 none ∈ UG := UG_of (i := 520) rfl (by decide +kernel)
theorem mb_X9_join (own : String) (i : Nat) : MLB own i yX9_join cX9_join 6 none 2 := ⟨wi_X9, wc_X9_join, by decide +kernel⟩
theorem wm_X9_join : Cond.instanceMethod yX9_join ∈ UG := UG_of (i := 518) (by decide +kernel) (by decide +kernel)
theorem we_X9_join : Cond.selects (yX9_join).cls yX9_join yX9_join ∈ UG := UG_of (i := 519) (by decide +kernel) (by decide +kernel)
theorem mX11_126 : MLV RX11 126 yX9_join cX9_join 6 none 9 2 := ⟨mb_X9_join _ _, UG_of (i := 517) (by decide +kernel) (by decide +kernel), wm_X9_join, we_X9_join, rfl, by decide⟩
theorem fX11_130 : FL RX11 130 2 4 false := ⟨RX2, TX2, 6, fcX2, by decide, by decide +kernel, by decide +kernel, UG_of (i := 229) (by decide +kernel) (by decide +kernel)⟩
theorem fX11_133 : FL RX11 133 2 5 false := ⟨RX2, TX2, 6, fcX2, by decide, by decide +kernel, by decide +kernel, UG_of (i := 231) (by decide +kernel) (by decide +kernel)⟩
theorem kX11_136 : LC RX11 136 (100000) := UG_of (i := 529) (by decide +kernel) (by decide +kernel)
set_option maxRecDepth 100000 in
theorem wc_X11_hasStation : Cond.code yX11_hasStation cX11_hasStation 3 (some .boolean) ∈ UG := UG_of (i := 537) rfl (by decide +kernel)
theorem mb_X11_hasStation (own : String) (i : Nat) : MLB own i yX11_hasStation cX11_hasStation 3 (some .boolean) 2 := ⟨wi_X11, wc_X11_hasStation, by decide +kernel⟩
theorem wm_X11_hasStation : Cond.instanceMethod yX11_hasStation ∈ UG := UG_of (i := 536) (by decide +kernel) (by decide +kernel)
theorem we_X11_hasStation : Cond.selects (yX11_hasStation).cls yX11_hasStation yX11_hasStation ∈ UG := UG_of (i := 5) (by decide +kernel) (by decide +kernel)
theorem mX11_137 : MLV RX11 137 yX11_hasStation cX11_hasStation 3 (some .boolean) 11 2 := ⟨mb_X11_hasStation _ _, UG_of (i := 534) (by decide +kernel) (by decide +kernel), wm_X11_hasStation, we_X11_hasStation, rfl, by decide⟩
theorem fX11_140 : FL RX11 140 7 0 true := ⟨RX7, TX7, 5, fcX7, by decide, by decide +kernel, by decide +kernel, UG_of (i := 163) (by decide +kernel) (by decide +kernel)⟩
set_option maxRecDepth 100000 in
theorem wc_X9_distance : Cond.code yX9_distance cX9_distance 7 (some .int) ∈ UG := UG_of (i := 549) rfl (by decide +kernel)
theorem mb_X9_distance (own : String) (i : Nat) : MLB own i yX9_distance cX9_distance 7 (some .int) 2 := ⟨wi_X9, wc_X9_distance, by decide +kernel⟩
theorem wm_X9_distance : Cond.instanceMethod yX9_distance ∈ UG := UG_of (i := 547) (by decide +kernel) (by decide +kernel)
theorem we_X9_distance : Cond.selects (yX9_distance).cls yX9_distance yX9_distance ∈ UG := UG_of (i := 548) (by decide +kernel) (by decide +kernel)
theorem mX11_144 : MLV RX11 144 yX9_distance cX9_distance 7 (some .int) 9 2 := ⟨mb_X9_distance _ _, UG_of (i := 546) (by decide +kernel) (by decide +kernel), wm_X9_distance, we_X9_distance, rfl, by decide⟩
set_option maxRecDepth 100000 in
theorem wc_X11_hasNumeral : Cond.code yX11_hasNumeral cX11_hasNumeral 3 (some .boolean) ∈ UG := UG_of (i := 565) rfl (by decide +kernel)
theorem mb_X11_hasNumeral (own : String) (i : Nat) : MLB own i yX11_hasNumeral cX11_hasNumeral 3 (some .boolean) 2 := ⟨wi_X11, wc_X11_hasNumeral, by decide +kernel⟩
theorem wm_X11_hasNumeral : Cond.instanceMethod yX11_hasNumeral ∈ UG := UG_of (i := 564) (by decide +kernel) (by decide +kernel)
theorem we_X11_hasNumeral : Cond.selects (yX11_hasNumeral).cls yX11_hasNumeral yX11_hasNumeral ∈ UG := UG_of (i := 8) (by decide +kernel) (by decide +kernel)
theorem mX11_148 : MLV RX11 148 yX11_hasNumeral cX11_hasNumeral 3 (some .boolean) 11 2 := ⟨mb_X11_hasNumeral _ _, UG_of (i := 562) (by decide +kernel) (by decide +kernel), wm_X11_hasNumeral, we_X11_hasNumeral, rfl, by decide⟩
theorem fX11_151 : FL RX11 151 7 1 true := ⟨RX7, TX7, 5, fcX7, by decide, by decide +kernel, by decide +kernel, UG_of (i := 167) (by decide +kernel) (by decide +kernel)⟩
set_option maxRecDepth 100000 in
theorem wc_X5_costOfValue : Cond.code yX5_costOfValue cX5_costOfValue 4 (some .int) ∈ UG := UG_of (i := 573) rfl (by decide +kernel)
theorem mb_X5_costOfValue (own : String) (i : Nat) : MLB own i yX5_costOfValue cX5_costOfValue 4 (some .int) 3 := ⟨wi_X5, wc_X5_costOfValue, by decide +kernel⟩
theorem wm_X5_costOfValue : Cond.instanceMethod yX5_costOfValue ∈ UG := UG_of (i := 571) (by decide +kernel) (by decide +kernel)
theorem we_X5_costOfValue : Cond.selects (yX5_costOfValue).cls yX5_costOfValue yX5_costOfValue ∈ UG := UG_of (i := 572) (by decide +kernel) (by decide +kernel)
theorem mX11_155 : MLV RX11 155 yX5_costOfValue cX5_costOfValue 4 (some .int) 5 3 := ⟨mb_X5_costOfValue _ _, UG_of (i := 570) (by decide +kernel) (by decide +kernel), wm_X5_costOfValue, we_X5_costOfValue, rfl, by decide⟩
set_option maxRecDepth 100000 in
theorem wc_X11_hasList : Cond.code yX11_hasList cX11_hasList 2 (some .boolean) ∈ UG := UG_of (i := 541) rfl (by decide +kernel)
theorem mb_X11_hasList (own : String) (i : Nat) : MLB own i yX11_hasList cX11_hasList 2 (some .boolean) 1 := ⟨wi_X11, wc_X11_hasList, by decide +kernel⟩
theorem wm_X11_hasList : Cond.instanceMethod yX11_hasList ∈ UG := UG_of (i := 540) (by decide +kernel) (by decide +kernel)
theorem we_X11_hasList : Cond.selects (yX11_hasList).cls yX11_hasList yX11_hasList ∈ UG := UG_of (i := 6) (by decide +kernel) (by decide +kernel)
theorem mX11_159 : MLV RX11 159 yX11_hasList cX11_hasList 2 (some .boolean) 11 1 := ⟨mb_X11_hasList _ _, UG_of (i := 538) (by decide +kernel) (by decide +kernel), wm_X11_hasList, we_X11_hasList, rfl, by decide⟩
set_option maxRecDepth 100000 in
theorem wc_X11_isKnownDay : Cond.code yX11_isKnownDay cX11_isKnownDay 2 (some .boolean) ∈ UG := UG_of (i := 621) rfl (by decide +kernel)
theorem mb_X11_isKnownDay (own : String) (i : Nat) : MLB own i yX11_isKnownDay cX11_isKnownDay 2 (some .boolean) 1 := ⟨wi_X11, wc_X11_isKnownDay, by decide +kernel⟩
theorem wm_X11_isKnownDay : Cond.instanceMethod yX11_isKnownDay ∈ UG := UG_of (i := 620) (by decide +kernel) (by decide +kernel)
theorem we_X11_isKnownDay : Cond.selects (yX11_isKnownDay).cls yX11_isKnownDay yX11_isKnownDay ∈ UG := UG_of (i := 12) (by decide +kernel) (by decide +kernel)
theorem mX11_162 : MLV RX11 162 yX11_isKnownDay cX11_isKnownDay 2 (some .boolean) 11 1 := ⟨mb_X11_isKnownDay _ _, UG_of (i := 618) (by decide +kernel) (by decide +kernel), wm_X11_isKnownDay, we_X11_isKnownDay, rfl, by decide⟩
set_option maxRecDepth 100000 in
theorem wc_X11_lay : Cond.code yX11_lay cX11_lay 5 (some .boolean) ∈ UG := UG_of (i := 625) rfl (by decide +kernel)
theorem mb_X11_lay (own : String) (i : Nat) : MLB own i yX11_lay cX11_lay 5 (some .boolean) 2 := ⟨wi_X11, wc_X11_lay, by decide +kernel⟩
theorem wm_X11_lay : Cond.instanceMethod yX11_lay ∈ UG := UG_of (i := 624) (by decide +kernel) (by decide +kernel)
theorem we_X11_lay : Cond.selects (yX11_lay).cls yX11_lay yX11_lay ∈ UG := UG_of (i := 13) (by decide +kernel) (by decide +kernel)
theorem mX11_165 : MLV RX11 165 yX11_lay cX11_lay 5 (some .boolean) 11 2 := ⟨mb_X11_lay _ _, UG_of (i := 622) (by decide +kernel) (by decide +kernel), wm_X11_lay, we_X11_lay, rfl, by decide⟩
theorem fX11_168 : FL RX11 168 5 9 false := ⟨RX5, TX5, 10, fcX5, by decide, by decide +kernel, by decide +kernel, UG_of (i := 321) (by decide +kernel) (by decide +kernel)⟩
set_option maxRecDepth 100000 in
theorem wc_X5_walkBest : Cond.code yX5_walkBest cX5_walkBest 3 none ∈ UG := UG_of (i := 668) rfl (by decide +kernel)
theorem mb_X5_walkBest (own : String) (i : Nat) : MLB own i yX5_walkBest cX5_walkBest 3 none 0 := ⟨wi_X5, wc_X5_walkBest, by decide +kernel⟩
theorem wm_X5_walkBest : Cond.instanceMethod yX5_walkBest ∈ UG := UG_of (i := 666) (by decide +kernel) (by decide +kernel)
theorem we_X5_walkBest : Cond.selects (yX5_walkBest).cls yX5_walkBest yX5_walkBest ∈ UG := UG_of (i := 667) (by decide +kernel) (by decide +kernel)
theorem mX11_171 : MLV RX11 171 yX5_walkBest cX5_walkBest 3 none 5 0 := ⟨mb_X5_walkBest _ _, UG_of (i := 665) (by decide +kernel) (by decide +kernel), wm_X5_walkBest, we_X5_walkBest, rfl, by decide⟩
theorem fX11_174 : FL RX11 174 5 6 true := ⟨RX5, TX5, 10, fcX5, by decide, by decide +kernel, by decide +kernel, UG_of (i := 317) (by decide +kernel) (by decide +kernel)⟩
set_option maxRecDepth 100000 in
theorem wc_X11_isWidth : Cond.code yX11_isWidth cX11_isWidth 1 (some .boolean) ∈ UG := UG_of (i := 683) rfl (by decide +kernel)
theorem mb_X11_isWidth (own : String) (i : Nat) : MLB own i yX11_isWidth cX11_isWidth 1 (some .boolean) 1 := ⟨wi_X11, wc_X11_isWidth, by decide +kernel⟩
theorem ws_X11_isWidth : Cond.static yX11_isWidth ∈ UG := UG_of (i := 682) (by decide +kernel) (by decide +kernel)
theorem mX11_178 : MLS RX11 178 yX11_isWidth cX11_isWidth 1 (some .boolean) 1 := ⟨mb_X11_isWidth _ _, UG_of (i := 681) (by decide +kernel) (by decide +kernel), ws_X11_isWidth⟩
set_option maxRecDepth 100000 in
theorem wc_X5_fillBefore : Cond.code yX5_fillBefore cX5_fillBefore 4 none ∈ UG := UG_of (i := 687) rfl (by decide +kernel)
theorem mb_X5_fillBefore (own : String) (i : Nat) : MLB own i yX5_fillBefore cX5_fillBefore 4 none 1 := ⟨wi_X5, wc_X5_fillBefore, by decide +kernel⟩
theorem wm_X5_fillBefore : Cond.instanceMethod yX5_fillBefore ∈ UG := UG_of (i := 685) (by decide +kernel) (by decide +kernel)
theorem we_X5_fillBefore : Cond.selects (yX5_fillBefore).cls yX5_fillBefore yX5_fillBefore ∈ UG := UG_of (i := 686) (by decide +kernel) (by decide +kernel)
theorem mX11_181 : MLV RX11 181 yX5_fillBefore cX5_fillBefore 4 none 5 1 := ⟨mb_X5_fillBefore _ _, UG_of (i := 684) (by decide +kernel) (by decide +kernel), wm_X5_fillBefore, we_X5_fillBefore, rfl, by decide⟩
set_option maxRecDepth 100000 in
theorem wc_X5_leastPlace : Cond.code yX5_leastPlace cX5_leastPlace 4 (some .int) ∈ UG := UG_of (i := 695) rfl (by decide +kernel)
theorem mb_X5_leastPlace (own : String) (i : Nat) : MLB own i yX5_leastPlace cX5_leastPlace 4 (some .int) 2 := ⟨wi_X5, wc_X5_leastPlace, by decide +kernel⟩
theorem wm_X5_leastPlace : Cond.instanceMethod yX5_leastPlace ∈ UG := UG_of (i := 693) (by decide +kernel) (by decide +kernel)
theorem we_X5_leastPlace : Cond.selects (yX5_leastPlace).cls yX5_leastPlace yX5_leastPlace ∈ UG := UG_of (i := 694) (by decide +kernel) (by decide +kernel)
theorem mX11_184 : MLV RX11 184 yX5_leastPlace cX5_leastPlace 4 (some .int) 5 2 := ⟨mb_X5_leastPlace _ _, UG_of (i := 692) (by decide +kernel) (by decide +kernel), wm_X5_leastPlace, we_X5_leastPlace, rfl, by decide⟩
set_option maxRecDepth 100000 in
theorem wc_X5_greatestPlace : Cond.code yX5_greatestPlace cX5_greatestPlace 4 (some .int) ∈ UG := UG_of (i := 703) rfl (by decide +kernel)
theorem mb_X5_greatestPlace (own : String) (i : Nat) : MLB own i yX5_greatestPlace cX5_greatestPlace 4 (some .int) 2 := ⟨wi_X5, wc_X5_greatestPlace, by decide +kernel⟩
theorem wm_X5_greatestPlace : Cond.instanceMethod yX5_greatestPlace ∈ UG := UG_of (i := 701) (by decide +kernel) (by decide +kernel)
theorem we_X5_greatestPlace : Cond.selects (yX5_greatestPlace).cls yX5_greatestPlace yX5_greatestPlace ∈ UG := UG_of (i := 702) (by decide +kernel) (by decide +kernel)
theorem mX11_188 : MLV RX11 188 yX5_greatestPlace cX5_greatestPlace 4 (some .int) 5 2 := ⟨mb_X5_greatestPlace _ _, UG_of (i := 700) (by decide +kernel) (by decide +kernel), wm_X5_greatestPlace, we_X5_greatestPlace, rfl, by decide⟩
set_option maxRecDepth 100000 in
theorem wc_X5_countWithin : Cond.code yX5_countWithin cX5_countWithin 5 (some .long) ∈ UG := UG_of (i := 711) rfl (by decide +kernel)
theorem mb_X5_countWithin (own : String) (i : Nat) : MLB own i yX5_countWithin cX5_countWithin 5 (some .long) 1 := ⟨wi_X5, wc_X5_countWithin, by decide +kernel⟩
theorem wm_X5_countWithin : Cond.instanceMethod yX5_countWithin ∈ UG := UG_of (i := 709) (by decide +kernel) (by decide +kernel)
theorem we_X5_countWithin : Cond.selects (yX5_countWithin).cls yX5_countWithin yX5_countWithin ∈ UG := UG_of (i := 710) (by decide +kernel) (by decide +kernel)
theorem mX11_191 : MLV RX11 191 yX5_countWithin cX5_countWithin 5 (some .long) 5 1 := ⟨mb_X5_countWithin _ _, UG_of (i := 708) (by decide +kernel) (by decide +kernel), wm_X5_countWithin, we_X5_countWithin, rfl, by decide⟩
theorem kX11_195 : LCL RX11 195 (1000000) := UG_of (i := 728) (by decide +kernel) (by decide +kernel)
theorem kX11_197 : LC RX11 197 (1000000) := UG_of (i := 729) (by decide +kernel) (by decide +kernel)
set_option maxRecDepth 100000 in
theorem wc_X11_markMisread : Cond.code yX11_markMisread cX11_markMisread 3 (some .boolean) ∈ UG := UG_of (i := 737) rfl (by decide +kernel)
theorem mb_X11_markMisread (own : String) (i : Nat) : MLB own i yX11_markMisread cX11_markMisread 3 (some .boolean) 2 := ⟨wi_X11, wc_X11_markMisread, by decide +kernel⟩
theorem wm_X11_markMisread : Cond.instanceMethod yX11_markMisread ∈ UG := UG_of (i := 736) (by decide +kernel) (by decide +kernel)
theorem we_X11_markMisread : Cond.selects (yX11_markMisread).cls yX11_markMisread yX11_markMisread ∈ UG := UG_of (i := 25) (by decide +kernel) (by decide +kernel)
theorem mX11_198 : MLV RX11 198 yX11_markMisread cX11_markMisread 3 (some .boolean) 11 2 := ⟨mb_X11_markMisread _ _, UG_of (i := 734) (by decide +kernel) (by decide +kernel), wm_X11_markMisread, we_X11_markMisread, rfl, by decide⟩
set_option maxRecDepth 100000 in
theorem wc_X7_countShared : Cond.code yX7_countShared cX7_countShared 5 (some .int) ∈ UG := UG_of (i := 746) rfl (by decide +kernel)
theorem mb_X7_countShared (own : String) (i : Nat) : MLB own i yX7_countShared cX7_countShared 5 (some .int) 1 := ⟨wi_X7, wc_X7_countShared, by decide +kernel⟩
theorem wm_X7_countShared : Cond.instanceMethod yX7_countShared ∈ UG := UG_of (i := 744) (by decide +kernel) (by decide +kernel)
theorem we_X7_countShared : Cond.selects (yX7_countShared).cls yX7_countShared yX7_countShared ∈ UG := UG_of (i := 745) (by decide +kernel) (by decide +kernel)
theorem mX11_201 : MLV RX11 201 yX7_countShared cX7_countShared 5 (some .int) 7 1 := ⟨mb_X7_countShared _ _, UG_of (i := 743) (by decide +kernel) (by decide +kernel), wm_X7_countShared, we_X7_countShared, rfl, by decide⟩
theorem xX11_205 : Cond.classLink RX11 205 "java/util/NoSuchElementException" ∈ UG := UG_of (i := 775) (by decide +kernel) (by decide +kernel)
theorem fX11_212 : FL RX11 212 7 4 false := ⟨RX7, TX7, 5, fcX7, by decide, by decide +kernel, by decide +kernel, UG_of (i := 175) (by decide +kernel) (by decide +kernel)⟩
set_option maxRecDepth 100000 in
theorem wc_X7_hasNumeral : Cond.code yX7_hasNumeral cX7_hasNumeral 2 (some .boolean) ∈ UG := UG_of (i := 569) rfl (by decide +kernel)
theorem mb_X7_hasNumeral (own : String) (i : Nat) : MLB own i yX7_hasNumeral cX7_hasNumeral 2 (some .boolean) 1 := ⟨wi_X7, wc_X7_hasNumeral, by decide +kernel⟩
theorem wm_X7_hasNumeral : Cond.instanceMethod yX7_hasNumeral ∈ UG := UG_of (i := 567) (by decide +kernel) (by decide +kernel)
theorem we_X7_hasNumeral : Cond.selects (yX7_hasNumeral).cls yX7_hasNumeral yX7_hasNumeral ∈ UG := UG_of (i := 568) (by decide +kernel) (by decide +kernel)
theorem mX11_215 : MLV RX11 215 yX7_hasNumeral cX7_hasNumeral 2 (some .boolean) 7 1 := ⟨mb_X7_hasNumeral _ _, UG_of (i := 566) (by decide +kernel) (by decide +kernel), wm_X7_hasNumeral, we_X7_hasNumeral, rfl, by decide⟩
theorem mX11_217 : MLV RX11 217 yX4_value cX4_value 3 (some .int) 4 0 := ⟨mb_X4_value _ _, UG_of (i := 841) (by decide +kernel) (by decide +kernel), wm_X4_value, we_X4_value, rfl, by decide⟩
set_option maxRecDepth 100000 in
theorem wc_X7_hasStation : Cond.code yX7_hasStation cX7_hasStation 2 (some .boolean) ∈ UG := UG_of (i := 545) rfl (by decide +kernel)
theorem mb_X7_hasStation (own : String) (i : Nat) : MLB own i yX7_hasStation cX7_hasStation 2 (some .boolean) 1 := ⟨wi_X7, wc_X7_hasStation, by decide +kernel⟩
theorem wm_X7_hasStation : Cond.instanceMethod yX7_hasStation ∈ UG := UG_of (i := 543) (by decide +kernel) (by decide +kernel)
theorem we_X7_hasStation : Cond.selects (yX7_hasStation).cls yX7_hasStation yX7_hasStation ∈ UG := UG_of (i := 544) (by decide +kernel) (by decide +kernel)
theorem mX11_223 : MLV RX11 223 yX7_hasStation cX7_hasStation 2 (some .boolean) 7 1 := ⟨mb_X7_hasStation _ _, UG_of (i := 542) (by decide +kernel) (by decide +kernel), wm_X7_hasStation, we_X7_hasStation, rfl, by decide⟩
theorem fX11_225 : FL RX11 225 3 1 false := ⟨RX3, TX3, 2, fcX3, by decide, by decide +kernel, by decide +kernel, UG_of (i := 111) (by decide +kernel) (by decide +kernel)⟩
theorem fX11_228 : FL RX11 228 3 0 true := ⟨RX3, TX3, 2, fcX3, by decide, by decide +kernel, by decide +kernel, UG_of (i := 108) (by decide +kernel) (by decide +kernel)⟩
theorem fX11_231 : FL RX11 231 2 2 false := ⟨RX2, TX2, 6, fcX2, by decide, by decide +kernel, by decide +kernel, UG_of (i := 225) (by decide +kernel) (by decide +kernel)⟩
theorem fX11_234 : FL RX11 234 2 3 false := ⟨RX2, TX2, 6, fcX2, by decide, by decide +kernel, by decide +kernel, UG_of (i := 227) (by decide +kernel) (by decide +kernel)⟩
theorem fX11_237 : FL RX11 237 1 3 false := ⟨RX1, TX1, 4, fcX1, by decide, by decide +kernel, by decide +kernel, UG_of (i := 257) (by decide +kernel) (by decide +kernel)⟩
set_option maxRecDepth 100000 in
theorem wc_X11_countOfRuin : Cond.code yX11_countOfRuin cX11_countOfRuin 2 (some .int) ∈ UG := UG_of (i := 766) rfl (by decide +kernel)
theorem mb_X11_countOfRuin (own : String) (i : Nat) : MLB own i yX11_countOfRuin cX11_countOfRuin 2 (some .int) 1 := ⟨wi_X11, wc_X11_countOfRuin, by decide +kernel⟩
theorem wm_X11_countOfRuin : Cond.instanceMethod yX11_countOfRuin ∈ UG := UG_of (i := 765) (by decide +kernel) (by decide +kernel)
theorem we_X11_countOfRuin : Cond.selects (yX11_countOfRuin).cls yX11_countOfRuin yX11_countOfRuin ∈ UG := UG_of (i := 27) (by decide +kernel) (by decide +kernel)
theorem mX11_238 : MLV RX11 238 yX11_countOfRuin cX11_countOfRuin 2 (some .int) 11 1 := ⟨mb_X11_countOfRuin _ _, UG_of (i := 763) (by decide +kernel) (by decide +kernel), wm_X11_countOfRuin, we_X11_countOfRuin, rfl, by decide⟩
theorem fX11_242 : FL RX11 242 2 0 true := ⟨RX2, TX2, 6, fcX2, by decide, by decide +kernel, by decide +kernel, UG_of (i := 222) (by decide +kernel) (by decide +kernel)⟩
theorem fX11_246 : FL RX11 246 0 1 false := ⟨RX0, TX0, 4, fcX0, by decide, by decide +kernel, by decide +kernel, UG_of (i := 206) (by decide +kernel) (by decide +kernel)⟩
theorem fX11_251 : FL RX11 251 0 3 false := ⟨RX0, TX0, 4, fcX0, by decide, by decide +kernel, by decide +kernel, UG_of (i := 211) (by decide +kernel) (by decide +kernel)⟩
set_option maxRecDepth 100000 in
theorem wc_X10_isName : Cond.code yX10_isName cX10_isName 1 (some .boolean) ∈ UG := UG_of (i := 466) rfl (by decide +kernel)
theorem mb_X10_isName (own : String) (i : Nat) : MLB own i yX10_isName cX10_isName 1 (some .boolean) 0 := ⟨wi_X10, wc_X10_isName, by decide +kernel⟩
theorem wm_X10_isName : Cond.instanceMethod yX10_isName ∈ UG := UG_of (i := 464) (by decide +kernel) (by decide +kernel)
theorem we_X10_isName : Cond.selects (yX10_isName).cls yX10_isName yX10_isName ∈ UG := UG_of (i := 465) (by decide +kernel) (by decide +kernel)
theorem mX11_254 : MLV RX11 254 yX10_isName cX10_isName 1 (some .boolean) 10 0 := ⟨mb_X10_isName _ _, UG_of (i := 463) (by decide +kernel) (by decide +kernel), wm_X10_isName, we_X10_isName, rfl, by decide⟩
set_option maxRecDepth 100000 in
theorem wc_X3_take : Cond.code yX3_take cX3_take 5 none ∈ UG := UG_of (i := 423) rfl (by decide +kernel)
theorem mb_X3_take (own : String) (i : Nat) : MLB own i yX3_take cX3_take 5 none 3 := ⟨wi_X3, wc_X3_take, by decide +kernel⟩
theorem wm_X3_take : Cond.instanceMethod yX3_take ∈ UG := UG_of (i := 421) (by decide +kernel) (by decide +kernel)
theorem we_X3_take : Cond.selects (yX3_take).cls yX3_take yX3_take ∈ UG := UG_of (i := 422) (by decide +kernel) (by decide +kernel)
theorem mX11_257 : MLV RX11 257 yX3_take cX3_take 5 none 3 3 := ⟨mb_X3_take _ _, UG_of (i := 468) (by decide +kernel) (by decide +kernel), wm_X3_take, we_X3_take, rfl, by decide⟩
theorem fX11_261 : Cond.fieldLink RX11 261 "MileLists" "SIGN_VALUES" "[I" ∈ UG := UG_of (i := 503) (by decide +kernel) (by decide +kernel)
set_option maxRecDepth 100000 in
theorem wc_X5_takeRoute : Cond.code yX5_takeRoute cX5_takeRoute 4 none ∈ UG := UG_of (i := 629) rfl (by decide +kernel)
theorem mb_X5_takeRoute (own : String) (i : Nat) : MLB own i yX5_takeRoute cX5_takeRoute 4 none 2 := ⟨wi_X5, wc_X5_takeRoute, by decide +kernel⟩
theorem wm_X5_takeRoute : Cond.instanceMethod yX5_takeRoute ∈ UG := UG_of (i := 627) (by decide +kernel) (by decide +kernel)
theorem we_X5_takeRoute : Cond.selects (yX5_takeRoute).cls yX5_takeRoute yX5_takeRoute ∈ UG := UG_of (i := 628) (by decide +kernel) (by decide +kernel)
theorem mX11_264 : MLV RX11 264 yX5_takeRoute cX5_takeRoute 4 none 5 2 := ⟨mb_X5_takeRoute _ _, UG_of (i := 626) (by decide +kernel) (by decide +kernel), wm_X5_takeRoute, we_X5_takeRoute, rfl, by decide⟩
theorem fX11_268 : FL RX11 268 5 0 true := ⟨RX5, TX5, 10, fcX5, by decide, by decide +kernel, by decide +kernel, UG_of (i := 310) (by decide +kernel) (by decide +kernel)⟩
set_option maxRecDepth 100000 in
theorem wc_X2_fillCosts : Cond.code yX2_fillCosts cX2_fillCosts 7 none ∈ UG := UG_of (i := 634) rfl (by decide +kernel)
theorem mb_X2_fillCosts (own : String) (i : Nat) : MLB own i yX2_fillCosts cX2_fillCosts 7 none 4 := ⟨wi_X2, wc_X2_fillCosts, by decide +kernel⟩
theorem wm_X2_fillCosts : Cond.instanceMethod yX2_fillCosts ∈ UG := UG_of (i := 632) (by decide +kernel) (by decide +kernel)
theorem we_X2_fillCosts : Cond.selects (yX2_fillCosts).cls yX2_fillCosts yX2_fillCosts ∈ UG := UG_of (i := 633) (by decide +kernel) (by decide +kernel)
theorem mX11_272 : MLV RX11 272 yX2_fillCosts cX2_fillCosts 7 none 2 4 := ⟨mb_X2_fillCosts _ _, UG_of (i := 631) (by decide +kernel) (by decide +kernel), wm_X2_fillCosts, we_X2_fillCosts, rfl, by decide⟩
set_option maxRecDepth 100000 in
theorem wc_X5_fillRest : Cond.code yX5_fillRest cX5_fillRest 4 none ∈ UG := UG_of (i := 647) rfl (by decide +kernel)
theorem mb_X5_fillRest (own : String) (i : Nat) : MLB own i yX5_fillRest cX5_fillRest 4 none 0 := ⟨wi_X5, wc_X5_fillRest, by decide +kernel⟩
theorem wm_X5_fillRest : Cond.instanceMethod yX5_fillRest ∈ UG := UG_of (i := 645) (by decide +kernel) (by decide +kernel)
theorem we_X5_fillRest : Cond.selects (yX5_fillRest).cls yX5_fillRest yX5_fillRest ∈ UG := UG_of (i := 646) (by decide +kernel) (by decide +kernel)
theorem mX11_276 : MLV RX11 276 yX5_fillRest cX5_fillRest 4 none 5 0 := ⟨mb_X5_fillRest _ _, UG_of (i := 644) (by decide +kernel) (by decide +kernel), wm_X5_fillRest, we_X5_fillRest, rfl, by decide⟩
set_option maxRecDepth 100000 in
theorem wc_X5_hasPlacing : Cond.code yX5_hasPlacing cX5_hasPlacing 1 (some .boolean) ∈ UG := UG_of (i := 660) rfl (by decide +kernel)
theorem mb_X5_hasPlacing (own : String) (i : Nat) : MLB own i yX5_hasPlacing cX5_hasPlacing 1 (some .boolean) 0 := ⟨wi_X5, wc_X5_hasPlacing, by decide +kernel⟩
theorem wm_X5_hasPlacing : Cond.instanceMethod yX5_hasPlacing ∈ UG := UG_of (i := 658) (by decide +kernel) (by decide +kernel)
theorem we_X5_hasPlacing : Cond.selects (yX5_hasPlacing).cls yX5_hasPlacing yX5_hasPlacing ∈ UG := UG_of (i := 659) (by decide +kernel) (by decide +kernel)
theorem mX11_279 : MLV RX11 279 yX5_hasPlacing cX5_hasPlacing 1 (some .boolean) 5 0 := ⟨mb_X5_hasPlacing _ _, UG_of (i := 657) (by decide +kernel) (by decide +kernel), wm_X5_hasPlacing, we_X5_hasPlacing, rfl, by decide⟩
set_option maxRecDepth 100000 in
theorem wc_X7_markMisread : Cond.code yX7_markMisread cX7_markMisread 3 none ∈ UG := UG_of (i := 741) rfl (by decide +kernel)
theorem mb_X7_markMisread (own : String) (i : Nat) : MLB own i yX7_markMisread cX7_markMisread 3 none 1 := ⟨wi_X7, wc_X7_markMisread, by decide +kernel⟩
theorem wm_X7_markMisread : Cond.instanceMethod yX7_markMisread ∈ UG := UG_of (i := 739) (by decide +kernel) (by decide +kernel)
theorem we_X7_markMisread : Cond.selects (yX7_markMisread).cls yX7_markMisread yX7_markMisread ∈ UG := UG_of (i := 740) (by decide +kernel) (by decide +kernel)
theorem mX11_282 : MLV RX11 282 yX7_markMisread cX7_markMisread 3 none 7 1 := ⟨mb_X7_markMisread _ _, UG_of (i := 738) (by decide +kernel) (by decide +kernel), wm_X7_markMisread, we_X7_markMisread, rfl, by decide⟩
theorem mX12_1 : Cond.methodLink RX12 1 objectInit ∈ UG := UG_of (i := 848) (by decide +kernel) (by decide +kernel)
theorem fX12_7 : FL RX12 7 12 1 true := ⟨RX12, TX12, 40, fcX12, by decide, by decide +kernel, by decide +kernel, UG_of (i := 850) (by decide +kernel) (by decide +kernel)⟩
theorem fX12_13 : FL RX12 13 12 3 true := ⟨RX12, TX12, 40, fcX12, by decide, by decide +kernel, by decide +kernel, UG_of (i := 852) (by decide +kernel) (by decide +kernel)⟩
theorem fX12_17 : FL RX12 17 12 4 true := ⟨RX12, TX12, 40, fcX12, by decide, by decide +kernel, by decide +kernel, UG_of (i := 853) (by decide +kernel) (by decide +kernel)⟩
theorem fX12_20 : FL RX12 20 12 6 true := ⟨RX12, TX12, 40, fcX12, by decide, by decide +kernel, by decide +kernel, UG_of (i := 855) (by decide +kernel) (by decide +kernel)⟩
theorem fX12_23 : FL RX12 23 12 7 true := ⟨RX12, TX12, 40, fcX12, by decide, by decide +kernel, by decide +kernel, UG_of (i := 856) (by decide +kernel) (by decide +kernel)⟩
theorem fX12_26 : FL RX12 26 12 8 true := ⟨RX12, TX12, 40, fcX12, by decide, by decide +kernel, by decide +kernel, UG_of (i := 857) (by decide +kernel) (by decide +kernel)⟩
theorem fX12_30 : FL RX12 30 12 9 true := ⟨RX12, TX12, 40, fcX12, by decide, by decide +kernel, by decide +kernel, UG_of (i := 858) (by decide +kernel) (by decide +kernel)⟩
theorem fX12_33 : FL RX12 33 12 10 true := ⟨RX12, TX12, 40, fcX12, by decide, by decide +kernel, by decide +kernel, UG_of (i := 859) (by decide +kernel) (by decide +kernel)⟩
theorem fX12_36 : FL RX12 36 12 12 false := ⟨RX12, TX12, 40, fcX12, by decide, by decide +kernel, by decide +kernel, UG_of (i := 861) (by decide +kernel) (by decide +kernel)⟩
theorem fX12_40 : FL RX12 40 12 15 true := ⟨RX12, TX12, 40, fcX12, by decide, by decide +kernel, by decide +kernel, UG_of (i := 864) (by decide +kernel) (by decide +kernel)⟩
theorem fX12_43 : FL RX12 43 12 16 true := ⟨RX12, TX12, 40, fcX12, by decide, by decide +kernel, by decide +kernel, UG_of (i := 865) (by decide +kernel) (by decide +kernel)⟩
theorem fX12_46 : FL RX12 46 12 17 true := ⟨RX12, TX12, 40, fcX12, by decide, by decide +kernel, by decide +kernel, UG_of (i := 866) (by decide +kernel) (by decide +kernel)⟩
theorem fX12_49 : FL RX12 49 12 19 true := ⟨RX12, TX12, 40, fcX12, by decide, by decide +kernel, by decide +kernel, UG_of (i := 868) (by decide +kernel) (by decide +kernel)⟩
theorem fX12_52 : FL RX12 52 12 20 true := ⟨RX12, TX12, 40, fcX12, by decide, by decide +kernel, by decide +kernel, UG_of (i := 869) (by decide +kernel) (by decide +kernel)⟩
theorem fX12_55 : FL RX12 55 12 21 true := ⟨RX12, TX12, 40, fcX12, by decide, by decide +kernel, by decide +kernel, UG_of (i := 870) (by decide +kernel) (by decide +kernel)⟩
theorem fX12_58 : FL RX12 58 12 22 true := ⟨RX12, TX12, 40, fcX12, by decide, by decide +kernel, by decide +kernel, UG_of (i := 871) (by decide +kernel) (by decide +kernel)⟩
theorem fX12_61 : FL RX12 61 12 24 true := ⟨RX12, TX12, 40, fcX12, by decide, by decide +kernel, by decide +kernel, UG_of (i := 873) (by decide +kernel) (by decide +kernel)⟩
theorem fX12_64 : FL RX12 64 12 25 true := ⟨RX12, TX12, 40, fcX12, by decide, by decide +kernel, by decide +kernel, UG_of (i := 874) (by decide +kernel) (by decide +kernel)⟩
theorem fX12_67 : FL RX12 67 12 26 true := ⟨RX12, TX12, 40, fcX12, by decide, by decide +kernel, by decide +kernel, UG_of (i := 875) (by decide +kernel) (by decide +kernel)⟩
theorem fX12_70 : FL RX12 70 12 27 false := ⟨RX12, TX12, 40, fcX12, by decide, by decide +kernel, by decide +kernel, UG_of (i := 876) (by decide +kernel) (by decide +kernel)⟩
theorem fX12_73 : FL RX12 73 12 28 false := ⟨RX12, TX12, 40, fcX12, by decide, by decide +kernel, by decide +kernel, UG_of (i := 877) (by decide +kernel) (by decide +kernel)⟩
theorem fX12_76 : FL RX12 76 12 30 true := ⟨RX12, TX12, 40, fcX12, by decide, by decide +kernel, by decide +kernel, UG_of (i := 879) (by decide +kernel) (by decide +kernel)⟩
theorem fX12_79 : FL RX12 79 12 31 true := ⟨RX12, TX12, 40, fcX12, by decide, by decide +kernel, by decide +kernel, UG_of (i := 880) (by decide +kernel) (by decide +kernel)⟩
theorem fX12_82 : FL RX12 82 12 32 true := ⟨RX12, TX12, 40, fcX12, by decide, by decide +kernel, by decide +kernel, UG_of (i := 881) (by decide +kernel) (by decide +kernel)⟩
theorem fX12_85 : FL RX12 85 12 33 true := ⟨RX12, TX12, 40, fcX12, by decide, by decide +kernel, by decide +kernel, UG_of (i := 882) (by decide +kernel) (by decide +kernel)⟩
theorem fX12_88 : FL RX12 88 12 34 true := ⟨RX12, TX12, 40, fcX12, by decide, by decide +kernel, by decide +kernel, UG_of (i := 883) (by decide +kernel) (by decide +kernel)⟩
theorem fX12_91 : FL RX12 91 12 35 true := ⟨RX12, TX12, 40, fcX12, by decide, by decide +kernel, by decide +kernel, UG_of (i := 884) (by decide +kernel) (by decide +kernel)⟩
theorem fX12_94 : FL RX12 94 12 36 true := ⟨RX12, TX12, 40, fcX12, by decide, by decide +kernel, by decide +kernel, UG_of (i := 885) (by decide +kernel) (by decide +kernel)⟩
theorem fX12_97 : FL RX12 97 12 37 true := ⟨RX12, TX12, 40, fcX12, by decide, by decide +kernel, by decide +kernel, UG_of (i := 886) (by decide +kernel) (by decide +kernel)⟩
theorem fX12_100 : FL RX12 100 12 38 true := ⟨RX12, TX12, 40, fcX12, by decide, by decide +kernel, by decide +kernel, UG_of (i := 887) (by decide +kernel) (by decide +kernel)⟩
theorem fX12_103 : FL RX12 103 12 39 true := ⟨RX12, TX12, 40, fcX12, by decide, by decide +kernel, by decide +kernel, UG_of (i := 888) (by decide +kernel) (by decide +kernel)⟩
theorem fX12_106 : FL RX12 106 12 0 false := ⟨RX12, TX12, 40, fcX12, by decide, by decide +kernel, by decide +kernel, UG_of (i := 849) (by decide +kernel) (by decide +kernel)⟩
theorem fX12_109 : FL RX12 109 12 2 false := ⟨RX12, TX12, 40, fcX12, by decide, by decide +kernel, by decide +kernel, UG_of (i := 851) (by decide +kernel) (by decide +kernel)⟩
set_option maxRecDepth 100000 in
theorem wc_X12_within : Cond.code yX12_within cX12_within 3 (some .boolean) ∈ UG := UG_of (i := 984) rfl (by decide +kernel)
theorem mb_X12_within (own : String) (i : Nat) : MLB own i yX12_within cX12_within 3 (some .boolean) 3 := ⟨wi_X12, wc_X12_within, by decide +kernel⟩
theorem ws_X12_within : Cond.static yX12_within ∈ UG := UG_of (i := 983) (by decide +kernel) (by decide +kernel)
theorem mX12_112 : MLS RX12 112 yX12_within cX12_within 3 (some .boolean) 3 := ⟨mb_X12_within _ _, UG_of (i := 982) (by decide +kernel) (by decide +kernel), ws_X12_within⟩
set_option maxRecDepth 100000 in
theorem wc_X12_byteAt : Cond.code yX12_byteAt cX12_byteAt 2 (some .int) ∈ UG := UG_of (i := 1004) rfl (by decide +kernel)
theorem mb_X12_byteAt (own : String) (i : Nat) : MLB own i yX12_byteAt cX12_byteAt 2 (some .int) 1 := ⟨wi_X12, wc_X12_byteAt, by decide +kernel⟩
theorem wm_X12_byteAt : Cond.instanceMethod yX12_byteAt ∈ UG := UG_of (i := 1003) (by decide +kernel) (by decide +kernel)
theorem we_X12_byteAt : Cond.selects (yX12_byteAt).cls yX12_byteAt yX12_byteAt ∈ UG := UG_of (i := 31) (by decide +kernel) (by decide +kernel)
theorem mX12_116 : MLV RX12 116 yX12_byteAt cX12_byteAt 2 (some .int) 12 1 := ⟨mb_X12_byteAt _ _, UG_of (i := 1001) (by decide +kernel) (by decide +kernel), wm_X12_byteAt, we_X12_byteAt, rfl, by decide⟩
set_option maxRecDepth 100000 in
theorem wc_X12_nameOf : Cond.code yX12_nameOf cX12_nameOf 7 (some .long) ∈ UG := UG_of (i := 1008) rfl (by decide +kernel)
theorem mb_X12_nameOf (own : String) (i : Nat) : MLB own i yX12_nameOf cX12_nameOf 7 (some .long) 2 := ⟨wi_X12, wc_X12_nameOf, by decide +kernel⟩
theorem wm_X12_nameOf : Cond.instanceMethod yX12_nameOf ∈ UG := UG_of (i := 1007) (by decide +kernel) (by decide +kernel)
theorem we_X12_nameOf : Cond.selects (yX12_nameOf).cls yX12_nameOf yX12_nameOf ∈ UG := UG_of (i := 32) (by decide +kernel) (by decide +kernel)
theorem mX12_120 : MLV RX12 120 yX12_nameOf cX12_nameOf 7 (some .long) 12 2 := ⟨mb_X12_nameOf _ _, UG_of (i := 1005) (by decide +kernel) (by decide +kernel), wm_X12_nameOf, we_X12_nameOf, rfl, by decide⟩
set_option maxRecDepth 100000 in
theorem wc_X12_letters : Cond.code yX12_letters cX12_letters 5 (some .int) ∈ UG := UG_of (i := 1067) rfl (by decide +kernel)
theorem mb_X12_letters (own : String) (i : Nat) : MLB own i yX12_letters cX12_letters 5 (some .int) 1 := ⟨wi_X12, wc_X12_letters, by decide +kernel⟩
theorem ws_X12_letters : Cond.static yX12_letters ∈ UG := UG_of (i := 1066) (by decide +kernel) (by decide +kernel)
theorem mX12_124 : MLS RX12 124 yX12_letters cX12_letters 5 (some .int) 1 := ⟨mb_X12_letters _ _, UG_of (i := 1065) (by decide +kernel) (by decide +kernel), ws_X12_letters⟩
theorem kX12_128 : LCL RX12 128 (255) := UG_of (i := 1074) (by decide +kernel) (by decide +kernel)
set_option maxRecDepth 100000 in
theorem wc_X12_less : Cond.code yX12_less cX12_less 2 (some .int) ∈ UG := UG_of (i := 1070) rfl (by decide +kernel)
theorem mb_X12_less (own : String) (i : Nat) : MLB own i yX12_less cX12_less 2 (some .int) 2 := ⟨wi_X12, wc_X12_less, by decide +kernel⟩
theorem ws_X12_less : Cond.static yX12_less ∈ UG := UG_of (i := 1069) (by decide +kernel) (by decide +kernel)
theorem mX12_130 : MLS RX12 130 yX12_less cX12_less 2 (some .int) 2 := ⟨mb_X12_less _ _, UG_of (i := 1068) (by decide +kernel) (by decide +kernel), ws_X12_less⟩
set_option maxRecDepth 100000 in
theorem wc_X12_letterOf : Cond.code yX12_letterOf cX12_letterOf 3 (some .int) ∈ UG := UG_of (i := 1073) rfl (by decide +kernel)
theorem mb_X12_letterOf (own : String) (i : Nat) : MLB own i yX12_letterOf cX12_letterOf 3 (some .int) 2 := ⟨wi_X12, wc_X12_letterOf, by decide +kernel⟩
theorem ws_X12_letterOf : Cond.static yX12_letterOf ∈ UG := UG_of (i := 1072) (by decide +kernel) (by decide +kernel)
theorem mX12_134 : MLS RX12 134 yX12_letterOf cX12_letterOf 3 (some .int) 2 := ⟨mb_X12_letterOf _ _, UG_of (i := 1071) (by decide +kernel) (by decide +kernel), ws_X12_letterOf⟩
set_option maxRecDepth 100000 in
theorem wc_X12_swap : Cond.code yX12_swap cX12_swap 3 (some .int) ∈ UG := UG_of (i := 1078) rfl (by decide +kernel)
theorem mb_X12_swap (own : String) (i : Nat) : MLB own i yX12_swap cX12_swap 3 (some .int) 2 := ⟨wi_X12, wc_X12_swap, by decide +kernel⟩
theorem wm_X12_swap : Cond.instanceMethod yX12_swap ∈ UG := UG_of (i := 1077) (by decide +kernel) (by decide +kernel)
theorem we_X12_swap : Cond.selects (yX12_swap).cls yX12_swap yX12_swap ∈ UG := UG_of (i := 39) (by decide +kernel) (by decide +kernel)
theorem mX12_138 : MLV RX12 138 yX12_swap cX12_swap 3 (some .int) 12 2 := ⟨mb_X12_swap _ _, UG_of (i := 1075) (by decide +kernel) (by decide +kernel), wm_X12_swap, we_X12_swap, rfl, by decide⟩
theorem fX12_141 : FL RX12 141 12 11 false := ⟨RX12, TX12, 40, fcX12, by decide, by decide +kernel, by decide +kernel, UG_of (i := 860) (by decide +kernel) (by decide +kernel)⟩
theorem fX12_144 : FL RX12 144 12 13 false := ⟨RX12, TX12, 40, fcX12, by decide, by decide +kernel, by decide +kernel, UG_of (i := 862) (by decide +kernel) (by decide +kernel)⟩
set_option maxRecDepth 100000 in
theorem wc_X12_blanks : Cond.code yX12_blanks cX12_blanks 1 none ∈ UG := UG_of (i := 1000) rfl (by decide +kernel)
theorem mb_X12_blanks (own : String) (i : Nat) : MLB own i yX12_blanks cX12_blanks 1 none 0 := ⟨wi_X12, wc_X12_blanks, by decide +kernel⟩
theorem wm_X12_blanks : Cond.instanceMethod yX12_blanks ∈ UG := UG_of (i := 999) (by decide +kernel) (by decide +kernel)
theorem we_X12_blanks : Cond.selects (yX12_blanks).cls yX12_blanks yX12_blanks ∈ UG := UG_of (i := 30) (by decide +kernel) (by decide +kernel)
theorem mX12_147 : MLV RX12 147 yX12_blanks cX12_blanks 1 none 12 0 := ⟨mb_X12_blanks _ _, UG_of (i := 997) (by decide +kernel) (by decide +kernel), wm_X12_blanks, we_X12_blanks, rfl, by decide⟩
set_option maxRecDepth 100000 in
theorem wc_X12_wrong : Cond.code yX12_wrong cX12_wrong 3 (some .boolean) ∈ UG := UG_of (i := 1012) rfl (by decide +kernel)
theorem mb_X12_wrong (own : String) (i : Nat) : MLB own i yX12_wrong cX12_wrong 3 (some .boolean) 2 := ⟨wi_X12, wc_X12_wrong, by decide +kernel⟩
theorem wm_X12_wrong : Cond.instanceMethod yX12_wrong ∈ UG := UG_of (i := 1011) (by decide +kernel) (by decide +kernel)
theorem we_X12_wrong : Cond.selects (yX12_wrong).cls yX12_wrong yX12_wrong ∈ UG := UG_of (i := 33) (by decide +kernel) (by decide +kernel)
theorem mX12_150 : MLV RX12 150 yX12_wrong cX12_wrong 3 (some .boolean) 12 2 := ⟨mb_X12_wrong _ _, UG_of (i := 1009) (by decide +kernel) (by decide +kernel), wm_X12_wrong, we_X12_wrong, rfl, by decide⟩
set_option maxRecDepth 100000 in
theorem wc_X12_signOf : Cond.code yX12_signOf cX12_signOf 1 (some .int) ∈ UG := UG_of (i := 1019) rfl (by decide +kernel)
theorem mb_X12_signOf (own : String) (i : Nat) : MLB own i yX12_signOf cX12_signOf 1 (some .int) 1 := ⟨wi_X12, wc_X12_signOf, by decide +kernel⟩
theorem ws_X12_signOf : Cond.static yX12_signOf ∈ UG := UG_of (i := 1018) (by decide +kernel) (by decide +kernel)
theorem mX12_154 : MLS RX12 154 yX12_signOf cX12_signOf 1 (some .int) 1 := ⟨mb_X12_signOf _ _, UG_of (i := 1017) (by decide +kernel) (by decide +kernel), ws_X12_signOf⟩
theorem fX12_157 : FL RX12 157 12 5 false := ⟨RX12, TX12, 40, fcX12, by decide, by decide +kernel, by decide +kernel, UG_of (i := 854) (by decide +kernel) (by decide +kernel)⟩
set_option maxRecDepth 100000 in
theorem wc_X12_station : Cond.code yX12_station cX12_station 5 (some .boolean) ∈ UG := UG_of (i := 996) rfl (by decide +kernel)
theorem mb_X12_station (own : String) (i : Nat) : MLB own i yX12_station cX12_station 5 (some .boolean) 0 := ⟨wi_X12, wc_X12_station, by decide +kernel⟩
theorem wm_X12_station : Cond.instanceMethod yX12_station ∈ UG := UG_of (i := 995) (by decide +kernel) (by decide +kernel)
theorem we_X12_station : Cond.selects (yX12_station).cls yX12_station yX12_station ∈ UG := UG_of (i := 29) (by decide +kernel) (by decide +kernel)
theorem mX12_160 : MLV RX12 160 yX12_station cX12_station 5 (some .boolean) 12 0 := ⟨mb_X12_station _ _, UG_of (i := 993) (by decide +kernel) (by decide +kernel), wm_X12_station, we_X12_station, rfl, by decide⟩
set_option maxRecDepth 100000 in
theorem wc_X12_numeral : Cond.code yX12_numeral cX12_numeral 5 (some .boolean) ∈ UG := UG_of (i := 1016) rfl (by decide +kernel)
theorem mb_X12_numeral (own : String) (i : Nat) : MLB own i yX12_numeral cX12_numeral 5 (some .boolean) 0 := ⟨wi_X12, wc_X12_numeral, by decide +kernel⟩
theorem wm_X12_numeral : Cond.instanceMethod yX12_numeral ∈ UG := UG_of (i := 1015) (by decide +kernel) (by decide +kernel)
theorem we_X12_numeral : Cond.selects (yX12_numeral).cls yX12_numeral yX12_numeral ∈ UG := UG_of (i := 34) (by decide +kernel) (by decide +kernel)
theorem mX12_164 : MLV RX12 164 yX12_numeral cX12_numeral 5 (some .boolean) 12 0 := ⟨mb_X12_numeral _ _, UG_of (i := 1013) (by decide +kernel) (by decide +kernel), wm_X12_numeral, we_X12_numeral, rfl, by decide⟩
set_option maxRecDepth 100000 in
theorem wc_X12_isList : Cond.code yX12_isList cX12_isList 2 (some .boolean) ∈ UG := UG_of (i := 1060) rfl (by decide +kernel)
theorem mb_X12_isList (own : String) (i : Nat) : MLB own i yX12_isList cX12_isList 2 (some .boolean) 1 := ⟨wi_X12, wc_X12_isList, by decide +kernel⟩
theorem wm_X12_isList : Cond.instanceMethod yX12_isList ∈ UG := UG_of (i := 1059) (by decide +kernel) (by decide +kernel)
theorem we_X12_isList : Cond.selects (yX12_isList).cls yX12_isList yX12_isList ∈ UG := UG_of (i := 37) (by decide +kernel) (by decide +kernel)
theorem mX12_167 : MLV RX12 167 yX12_isList cX12_isList 2 (some .boolean) 12 1 := ⟨mb_X12_isList _ _, UG_of (i := 1057) (by decide +kernel) (by decide +kernel), wm_X12_isList, we_X12_isList, rfl, by decide⟩
set_option maxRecDepth 100000 in
theorem wc_X12_worth : Cond.code yX12_worth cX12_worth 1 (some .int) ∈ UG := UG_of (i := 1093) rfl (by decide +kernel)
theorem mb_X12_worth (own : String) (i : Nat) : MLB own i yX12_worth cX12_worth 1 (some .int) 1 := ⟨wi_X12, wc_X12_worth, by decide +kernel⟩
theorem ws_X12_worth : Cond.static yX12_worth ∈ UG := UG_of (i := 1092) (by decide +kernel) (by decide +kernel)
theorem mX12_171 : MLS RX12 171 yX12_worth cX12_worth 1 (some .int) 1 := ⟨mb_X12_worth _ _, UG_of (i := 1091) (by decide +kernel) (by decide +kernel), ws_X12_worth⟩
set_option maxRecDepth 100000 in
theorem wc_X12_tapeName : Cond.code yX12_tapeName cX12_tapeName 3 (some .long) ∈ UG := UG_of (i := 1031) rfl (by decide +kernel)
theorem mb_X12_tapeName (own : String) (i : Nat) : MLB own i yX12_tapeName cX12_tapeName 3 (some .long) 0 := ⟨wi_X12, wc_X12_tapeName, by decide +kernel⟩
theorem wm_X12_tapeName : Cond.instanceMethod yX12_tapeName ∈ UG := UG_of (i := 1030) (by decide +kernel) (by decide +kernel)
theorem we_X12_tapeName : Cond.selects (yX12_tapeName).cls yX12_tapeName yX12_tapeName ∈ UG := UG_of (i := 35) (by decide +kernel) (by decide +kernel)
theorem mX12_174 : MLV RX12 174 yX12_tapeName cX12_tapeName 3 (some .long) 12 0 := ⟨mb_X12_tapeName _ _, UG_of (i := 1028) (by decide +kernel) (by decide +kernel), wm_X12_tapeName, we_X12_tapeName, rfl, by decide⟩
theorem fX12_178 : FL RX12 178 12 14 false := ⟨RX12, TX12, 40, fcX12, by decide, by decide +kernel, by decide +kernel, UG_of (i := 863) (by decide +kernel) (by decide +kernel)⟩
theorem fX12_181 : FL RX12 181 12 29 false := ⟨RX12, TX12, 40, fcX12, by decide, by decide +kernel, by decide +kernel, UG_of (i := 878) (by decide +kernel) (by decide +kernel)⟩
theorem fX12_184 : FL RX12 184 12 18 false := ⟨RX12, TX12, 40, fcX12, by decide, by decide +kernel, by decide +kernel, UG_of (i := 867) (by decide +kernel) (by decide +kernel)⟩
theorem fX12_187 : FL RX12 187 12 23 false := ⟨RX12, TX12, 40, fcX12, by decide, by decide +kernel, by decide +kernel, UG_of (i := 872) (by decide +kernel) (by decide +kernel)⟩
theorem kX12_190 : LC RX12 190 (100000) := UG_of (i := 1048) (by decide +kernel) (by decide +kernel)
set_option maxRecDepth 100000 in
theorem wc_X12_isStation : Cond.code yX12_isStation cX12_isStation 3 (some .boolean) ∈ UG := UG_of (i := 1056) rfl (by decide +kernel)
theorem mb_X12_isStation (own : String) (i : Nat) : MLB own i yX12_isStation cX12_isStation 3 (some .boolean) 2 := ⟨wi_X12, wc_X12_isStation, by decide +kernel⟩
theorem wm_X12_isStation : Cond.instanceMethod yX12_isStation ∈ UG := UG_of (i := 1055) (by decide +kernel) (by decide +kernel)
theorem we_X12_isStation : Cond.selects (yX12_isStation).cls yX12_isStation yX12_isStation ∈ UG := UG_of (i := 36) (by decide +kernel) (by decide +kernel)
theorem mX12_191 : MLV RX12 191 yX12_isStation cX12_isStation 3 (some .boolean) 12 2 := ⟨mb_X12_isStation _ _, UG_of (i := 1053) (by decide +kernel) (by decide +kernel), wm_X12_isStation, we_X12_isStation, rfl, by decide⟩
set_option maxRecDepth 100000 in
theorem wc_X12_apart : Cond.code yX12_apart cX12_apart 10 (some .int) ∈ UG := UG_of (i := 1064) rfl (by decide +kernel)
theorem mb_X12_apart (own : String) (i : Nat) : MLB own i yX12_apart cX12_apart 10 (some .int) 2 := ⟨wi_X12, wc_X12_apart, by decide +kernel⟩
theorem wm_X12_apart : Cond.instanceMethod yX12_apart ∈ UG := UG_of (i := 1063) (by decide +kernel) (by decide +kernel)
theorem we_X12_apart : Cond.selects (yX12_apart).cls yX12_apart yX12_apart ∈ UG := UG_of (i := 38) (by decide +kernel) (by decide +kernel)
theorem mX12_194 : MLV RX12 194 yX12_apart cX12_apart 10 (some .int) 12 2 := ⟨mb_X12_apart _ _, UG_of (i := 1061) (by decide +kernel) (by decide +kernel), wm_X12_apart, we_X12_apart, rfl, by decide⟩
set_option maxRecDepth 100000 in
theorem wc_X12_first : Cond.code yX12_first cX12_first 4 (some .int) ∈ UG := UG_of (i := 1102) rfl (by decide +kernel)
theorem mb_X12_first (own : String) (i : Nat) : MLB own i yX12_first cX12_first 4 (some .int) 2 := ⟨wi_X12, wc_X12_first, by decide +kernel⟩
theorem wm_X12_first : Cond.instanceMethod yX12_first ∈ UG := UG_of (i := 1101) (by decide +kernel) (by decide +kernel)
theorem we_X12_first : Cond.selects (yX12_first).cls yX12_first yX12_first ∈ UG := UG_of (i := 43) (by decide +kernel) (by decide +kernel)
theorem mX12_198 : MLV RX12 198 yX12_first cX12_first 4 (some .int) 12 2 := ⟨mb_X12_first _ _, UG_of (i := 1099) (by decide +kernel) (by decide +kernel), wm_X12_first, we_X12_first, rfl, by decide⟩
set_option maxRecDepth 100000 in
theorem wc_X12_valueOf : Cond.code yX12_valueOf cX12_valueOf 5 (some .int) ∈ UG := UG_of (i := 1090) rfl (by decide +kernel)
theorem mb_X12_valueOf (own : String) (i : Nat) : MLB own i yX12_valueOf cX12_valueOf 5 (some .int) 2 := ⟨wi_X12, wc_X12_valueOf, by decide +kernel⟩
theorem wm_X12_valueOf : Cond.instanceMethod yX12_valueOf ∈ UG := UG_of (i := 1089) (by decide +kernel) (by decide +kernel)
theorem we_X12_valueOf : Cond.selects (yX12_valueOf).cls yX12_valueOf yX12_valueOf ∈ UG := UG_of (i := 41) (by decide +kernel) (by decide +kernel)
theorem mX12_201 : MLV RX12 201 yX12_valueOf cX12_valueOf 5 (some .int) 12 2 := ⟨mb_X12_valueOf _ _, UG_of (i := 1087) (by decide +kernel) (by decide +kernel), wm_X12_valueOf, we_X12_valueOf, rfl, by decide⟩
theorem kX12_204 : LC RX12 204 (1000000) := UG_of (i := 1094) (by decide +kernel) (by decide +kernel)
set_option maxRecDepth 100000 in
theorem wc_X12_canBe : Cond.code yX12_canBe cX12_canBe 7 (some .boolean) ∈ UG := UG_of (i := 1098) rfl (by decide +kernel)
theorem mb_X12_canBe (own : String) (i : Nat) : MLB own i yX12_canBe cX12_canBe 7 (some .boolean) 3 := ⟨wi_X12, wc_X12_canBe, by decide +kernel⟩
theorem wm_X12_canBe : Cond.instanceMethod yX12_canBe ∈ UG := UG_of (i := 1097) (by decide +kernel) (by decide +kernel)
theorem we_X12_canBe : Cond.selects (yX12_canBe).cls yX12_canBe yX12_canBe ∈ UG := UG_of (i := 42) (by decide +kernel) (by decide +kernel)
theorem mX12_205 : MLV RX12 205 yX12_canBe cX12_canBe 7 (some .boolean) 12 3 := ⟨mb_X12_canBe _ _, UG_of (i := 1095) (by decide +kernel) (by decide +kernel), wm_X12_canBe, we_X12_canBe, rfl, by decide⟩
set_option maxRecDepth 100000 in
theorem wc_X12_costOf : Cond.code yX12_costOf cX12_costOf 7 (some .int) ∈ UG := UG_of (i := 1086) rfl (by decide +kernel)
theorem mb_X12_costOf (own : String) (i : Nat) : MLB own i yX12_costOf cX12_costOf 7 (some .int) 3 := ⟨wi_X12, wc_X12_costOf, by decide +kernel⟩
theorem wm_X12_costOf : Cond.instanceMethod yX12_costOf ∈ UG := UG_of (i := 1085) (by decide +kernel) (by decide +kernel)
theorem we_X12_costOf : Cond.selects (yX12_costOf).cls yX12_costOf yX12_costOf ∈ UG := UG_of (i := 40) (by decide +kernel) (by decide +kernel)
theorem mX12_208 : MLV RX12 208 yX12_costOf cX12_costOf 7 (some .int) 12 3 := ⟨mb_X12_costOf _ _, UG_of (i := 1083) (by decide +kernel) (by decide +kernel), wm_X12_costOf, we_X12_costOf, rfl, by decide⟩
set_option maxRecDepth 100000 in
theorem wc_X12_adds : Cond.code yX12_adds cX12_adds 5 none ∈ UG := UG_of (i := 1122) rfl (by decide +kernel)
theorem mb_X12_adds (own : String) (i : Nat) : MLB own i yX12_adds cX12_adds 5 none 3 := ⟨wi_X12, wc_X12_adds, by decide +kernel⟩
theorem wm_X12_adds : Cond.instanceMethod yX12_adds ∈ UG := UG_of (i := 1121) (by decide +kernel) (by decide +kernel)
theorem we_X12_adds : Cond.selects (yX12_adds).cls yX12_adds yX12_adds ∈ UG := UG_of (i := 47) (by decide +kernel) (by decide +kernel)
theorem mX12_212 : MLV RX12 212 yX12_adds cX12_adds 5 none 12 3 := ⟨mb_X12_adds _ _, UG_of (i := 1119) (by decide +kernel) (by decide +kernel), wm_X12_adds, we_X12_adds, rfl, by decide⟩
set_option maxRecDepth 100000 in
theorem wc_X12_reads : Cond.code yX12_reads cX12_reads 6 none ∈ UG := UG_of (i := 1118) rfl (by decide +kernel)
theorem mb_X12_reads (own : String) (i : Nat) : MLB own i yX12_reads cX12_reads 6 none 1 := ⟨wi_X12, wc_X12_reads, by decide +kernel⟩
theorem wm_X12_reads : Cond.instanceMethod yX12_reads ∈ UG := UG_of (i := 1117) (by decide +kernel) (by decide +kernel)
theorem we_X12_reads : Cond.selects (yX12_reads).cls yX12_reads yX12_reads ∈ UG := UG_of (i := 46) (by decide +kernel) (by decide +kernel)
theorem mX12_216 : MLV RX12 216 yX12_reads cX12_reads 6 none 12 1 := ⟨mb_X12_reads _ _, UG_of (i := 1115) (by decide +kernel) (by decide +kernel), wm_X12_reads, we_X12_reads, rfl, by decide⟩
set_option maxRecDepth 100000 in
theorem wc_X12_ownCost : Cond.code yX12_ownCost cX12_ownCost 10 (some .int) ∈ UG := UG_of (i := 1126) rfl (by decide +kernel)
theorem mb_X12_ownCost (own : String) (i : Nat) : MLB own i yX12_ownCost cX12_ownCost 10 (some .int) 4 := ⟨wi_X12, wc_X12_ownCost, by decide +kernel⟩
theorem wm_X12_ownCost : Cond.instanceMethod yX12_ownCost ∈ UG := UG_of (i := 1125) (by decide +kernel) (by decide +kernel)
theorem we_X12_ownCost : Cond.selects (yX12_ownCost).cls yX12_ownCost yX12_ownCost ∈ UG := UG_of (i := 48) (by decide +kernel) (by decide +kernel)
theorem mX12_220 : MLV RX12 220 yX12_ownCost cX12_ownCost 10 (some .int) 12 4 := ⟨mb_X12_ownCost _ _, UG_of (i := 1123) (by decide +kernel) (by decide +kernel), wm_X12_ownCost, we_X12_ownCost, rfl, by decide⟩
set_option maxRecDepth 100000 in
theorem wc_X12_isAsked : Cond.code yX12_isAsked cX12_isAsked 3 (some .boolean) ∈ UG := UG_of (i := 1110) rfl (by decide +kernel)
theorem mb_X12_isAsked (own : String) (i : Nat) : MLB own i yX12_isAsked cX12_isAsked 3 (some .boolean) 2 := ⟨wi_X12, wc_X12_isAsked, by decide +kernel⟩
theorem wm_X12_isAsked : Cond.instanceMethod yX12_isAsked ∈ UG := UG_of (i := 1109) (by decide +kernel) (by decide +kernel)
theorem we_X12_isAsked : Cond.selects (yX12_isAsked).cls yX12_isAsked yX12_isAsked ∈ UG := UG_of (i := 44) (by decide +kernel) (by decide +kernel)
theorem mX12_224 : MLV RX12 224 yX12_isAsked cX12_isAsked 3 (some .boolean) 12 2 := ⟨mb_X12_isAsked _ _, UG_of (i := 1107) (by decide +kernel) (by decide +kernel), wm_X12_isAsked, we_X12_isAsked, rfl, by decide⟩
set_option maxRecDepth 100000 in
theorem wc_X12_lays : Cond.code yX12_lays cX12_lays 10 (some .int) ∈ UG := UG_of (i := 1114) rfl (by decide +kernel)
theorem mb_X12_lays (own : String) (i : Nat) : MLB own i yX12_lays cX12_lays 10 (some .int) 2 := ⟨wi_X12, wc_X12_lays, by decide +kernel⟩
theorem wm_X12_lays : Cond.instanceMethod yX12_lays ∈ UG := UG_of (i := 1113) (by decide +kernel) (by decide +kernel)
theorem we_X12_lays : Cond.selects (yX12_lays).cls yX12_lays yX12_lays ∈ UG := UG_of (i := 45) (by decide +kernel) (by decide +kernel)
theorem mX12_227 : MLV RX12 227 yX12_lays cX12_lays 10 (some .int) 12 2 := ⟨mb_X12_lays _ _, UG_of (i := 1111) (by decide +kernel) (by decide +kernel), wm_X12_lays, we_X12_lays, rfl, by decide⟩
set_option maxRecDepth 100000 in
theorem wc_X12_bests : Cond.code yX12_bests cX12_bests 9 (some .boolean) ∈ UG := UG_of (i := 1134) rfl (by decide +kernel)
theorem mb_X12_bests (own : String) (i : Nat) : MLB own i yX12_bests cX12_bests 9 (some .boolean) 2 := ⟨wi_X12, wc_X12_bests, by decide +kernel⟩
theorem wm_X12_bests : Cond.instanceMethod yX12_bests ∈ UG := UG_of (i := 1133) (by decide +kernel) (by decide +kernel)
theorem we_X12_bests : Cond.selects (yX12_bests).cls yX12_bests yX12_bests ∈ UG := UG_of (i := 49) (by decide +kernel) (by decide +kernel)
theorem mX12_230 : MLV RX12 230 yX12_bests cX12_bests 9 (some .boolean) 12 2 := ⟨mb_X12_bests _ _, UG_of (i := 1131) (by decide +kernel) (by decide +kernel), wm_X12_bests, we_X12_bests, rfl, by decide⟩
set_option maxRecDepth 100000 in
theorem wc_X12_goesAhead : Cond.code yX12_goesAhead cX12_goesAhead 8 none ∈ UG := UG_of (i := 1142) rfl (by decide +kernel)
theorem mb_X12_goesAhead (own : String) (i : Nat) : MLB own i yX12_goesAhead cX12_goesAhead 8 none 1 := ⟨wi_X12, wc_X12_goesAhead, by decide +kernel⟩
theorem wm_X12_goesAhead : Cond.instanceMethod yX12_goesAhead ∈ UG := UG_of (i := 1141) (by decide +kernel) (by decide +kernel)
theorem we_X12_goesAhead : Cond.selects (yX12_goesAhead).cls yX12_goesAhead yX12_goesAhead ∈ UG := UG_of (i := 50) (by decide +kernel) (by decide +kernel)
theorem mX12_233 : MLV RX12 233 yX12_goesAhead cX12_goesAhead 8 none 12 1 := ⟨mb_X12_goesAhead _ _, UG_of (i := 1139) (by decide +kernel) (by decide +kernel), wm_X12_goesAhead, we_X12_goesAhead, rfl, by decide⟩
set_option maxRecDepth 100000 in
theorem wc_X12_joins : Cond.code yX12_joins cX12_joins 10 none ∈ UG := UG_of (i := 1150) rfl (by decide +kernel)
theorem mb_X12_joins (own : String) (i : Nat) : MLB own i yX12_joins cX12_joins 10 none 5 := ⟨wi_X12, wc_X12_joins, by decide +kernel⟩
theorem wm_X12_joins : Cond.instanceMethod yX12_joins ∈ UG := UG_of (i := 1149) (by decide +kernel) (by decide +kernel)
theorem we_X12_joins : Cond.selects (yX12_joins).cls yX12_joins yX12_joins ∈ UG := UG_of (i := 51) (by decide +kernel) (by decide +kernel)
theorem mX12_236 : MLV RX12 236 yX12_joins cX12_joins 10 none 12 5 := ⟨mb_X12_joins _ _, UG_of (i := 1147) (by decide +kernel) (by decide +kernel), wm_X12_joins, we_X12_joins, rfl, by decide⟩
theorem kX12_240 : LC RX12 240 (1000001) := UG_of (i := 1151) (by decide +kernel) (by decide +kernel)
set_option maxRecDepth 100000 in
theorem wc_X12_areSame : Cond.code yX12_areSame cX12_areSame 5 (some .boolean) ∈ UG := UG_of (i := 1159) rfl (by decide +kernel)
theorem mb_X12_areSame (own : String) (i : Nat) : MLB own i yX12_areSame cX12_areSame 5 (some .boolean) 2 := ⟨wi_X12, wc_X12_areSame, by decide +kernel⟩
theorem wm_X12_areSame : Cond.instanceMethod yX12_areSame ∈ UG := UG_of (i := 1158) (by decide +kernel) (by decide +kernel)
theorem we_X12_areSame : Cond.selects (yX12_areSame).cls yX12_areSame yX12_areSame ∈ UG := UG_of (i := 52) (by decide +kernel) (by decide +kernel)
theorem mX12_241 : MLV RX12 241 yX12_areSame cX12_areSame 5 (some .boolean) 12 2 := ⟨mb_X12_areSame _ _, UG_of (i := 1156) (by decide +kernel) (by decide +kernel), wm_X12_areSame, we_X12_areSame, rfl, by decide⟩
theorem mX2_3 : Cond.methodLink RX2 3 objectInit ∈ UG := UG_of (i := 192) (by decide +kernel) (by decide +kernel)
theorem xX2_9 : Cond.classLink RX2 9 "MileLists$Find" ∈ UG := UG_of (i := 193) (by decide +kernel) (by decide +kernel)
theorem fX2_11 : FL RX2 11 2 0 true := ⟨RX2, TX2, 6, fcX2, by decide, by decide +kernel, by decide +kernel, UG_of (i := 221) (by decide +kernel) (by decide +kernel)⟩
theorem fX2_17 : FL RX2 17 2 1 true := ⟨RX2, TX2, 6, fcX2, by decide, by decide +kernel, by decide +kernel, UG_of (i := 223) (by decide +kernel) (by decide +kernel)⟩
theorem fX2_20 : FL RX2 20 2 4 false := ⟨RX2, TX2, 6, fcX2, by decide, by decide +kernel, by decide +kernel, UG_of (i := 228) (by decide +kernel) (by decide +kernel)⟩
theorem fX2_24 : FL RX2 24 2 5 false := ⟨RX2, TX2, 6, fcX2, by decide, by decide +kernel, by decide +kernel, UG_of (i := 230) (by decide +kernel) (by decide +kernel)⟩
set_option maxRecDepth 100000 in
theorem wc_X0_init : Cond.code yX0_init cX0_init 1 none ∈ UG := UG_of (i := 198) rfl (by decide +kernel)
theorem wi_X0 : Cond.initialized RX0 ∈ UG := UG_of (i := 61) (by decide +kernel) (by decide +kernel)
theorem mb_X0_init (own : String) (i : Nat) : MLB own i yX0_init cX0_init 1 none 0 := ⟨wi_X0, wc_X0_init, by decide +kernel⟩
theorem wm_X0_init : Cond.instanceMethod yX0_init ∈ UG := UG_of (i := 197) (by decide +kernel) (by decide +kernel)
theorem mX2_27 : MLN RX2 27 yX0_init cX0_init 1 0 := ⟨mb_X0_init _ _, by decide +kernel, wm_X0_init, rfl⟩
theorem fX2_28 : FL RX2 28 2 2 false := ⟨RX2, TX2, 6, fcX2, by decide, by decide +kernel, by decide +kernel, UG_of (i := 224) (by decide +kernel) (by decide +kernel)⟩
theorem fX2_31 : FL RX2 31 0 1 false := ⟨RX0, TX0, 4, fcX0, by decide, by decide +kernel, by decide +kernel, UG_of (i := 205) (by decide +kernel) (by decide +kernel)⟩
set_option maxRecDepth 100000 in
theorem wc_X0_set : Cond.code yX0_set cX0_set 5 none ∈ UG := UG_of (i := 483) rfl (by decide +kernel)
theorem mb_X0_set (own : String) (i : Nat) : MLB own i yX0_set cX0_set 5 none 4 := ⟨wi_X0, wc_X0_set, by decide +kernel⟩
theorem wm_X0_set : Cond.instanceMethod yX0_set ∈ UG := UG_of (i := 481) (by decide +kernel) (by decide +kernel)
theorem we_X0_set : Cond.selects (yX0_set).cls yX0_set yX0_set ∈ UG := UG_of (i := 482) (by decide +kernel) (by decide +kernel)
theorem mX2_34 : MLV RX2 34 yX0_set cX0_set 5 none 0 4 := ⟨mb_X0_set _ _, UG_of (i := 480) (by decide +kernel) (by decide +kernel), wm_X0_set, we_X0_set, rfl, by decide⟩
theorem fX2_38 : FL RX2 38 2 3 false := ⟨RX2, TX2, 6, fcX2, by decide, by decide +kernel, by decide +kernel, UG_of (i := 226) (by decide +kernel) (by decide +kernel)⟩
theorem fX2_41 : FL RX2 41 0 3 false := ⟨RX0, TX0, 4, fcX0, by decide, by decide +kernel, by decide +kernel, UG_of (i := 210) (by decide +kernel) (by decide +kernel)⟩
theorem fX2_44 : FL RX2 44 0 0 true := ⟨RX0, TX0, 4, fcX0, by decide, by decide +kernel, by decide +kernel, UG_of (i := 203) (by decide +kernel) (by decide +kernel)⟩
theorem mX2_48 : MLV RX2 48 yX9_distance cX9_distance 7 (some .int) 9 2 := ⟨mb_X9_distance _ _, UG_of (i := 635) (by decide +kernel) (by decide +kernel), wm_X9_distance, we_X9_distance, rfl, by decide⟩
set_option maxRecDepth 100000 in
theorem wc_X3_same : Cond.code yX3_same cX3_same 3 (some .boolean) ∈ UG := UG_of (i := 431) rfl (by decide +kernel)
theorem mb_X3_same (own : String) (i : Nat) : MLB own i yX3_same cX3_same 3 (some .boolean) 1 := ⟨wi_X3, wc_X3_same, by decide +kernel⟩
theorem wm_X3_same : Cond.instanceMethod yX3_same ∈ UG := UG_of (i := 429) (by decide +kernel) (by decide +kernel)
theorem we_X3_same : Cond.selects (yX3_same).cls yX3_same yX3_same ∈ UG := UG_of (i := 430) (by decide +kernel) (by decide +kernel)
theorem mX2_54 : MLV RX2 54 yX3_same cX3_same 3 (some .boolean) 3 1 := ⟨mb_X3_same _ _, UG_of (i := 636) (by decide +kernel) (by decide +kernel), wm_X3_same, we_X3_same, rfl, by decide⟩
set_option maxRecDepth 100000 in
theorem wc_X2_addMoved : Cond.code yX2_addMoved cX2_addMoved 4 none ∈ UG := UG_of (i := 640) rfl (by decide +kernel)
theorem mb_X2_addMoved (own : String) (i : Nat) : MLB own i yX2_addMoved cX2_addMoved 4 none 2 := ⟨wi_X2, wc_X2_addMoved, by decide +kernel⟩
theorem wm_X2_addMoved : Cond.instanceMethod yX2_addMoved ∈ UG := UG_of (i := 639) (by decide +kernel) (by decide +kernel)
theorem we_X2_addMoved : Cond.selects (yX2_addMoved).cls yX2_addMoved yX2_addMoved ∈ UG := UG_of (i := 14) (by decide +kernel) (by decide +kernel)
theorem mX2_60 : MLV RX2 60 yX2_addMoved cX2_addMoved 4 none 2 2 := ⟨mb_X2_addMoved _ _, UG_of (i := 637) (by decide +kernel) (by decide +kernel), wm_X2_addMoved, we_X2_addMoved, rfl, by decide⟩
theorem ws_Mabs : Cond.static Lib.Math.abs.name ∈ UG := UG_of (i := 642) (by decide +kernel) (by decide +kernel)
theorem wi_Math : Cond.initialized "java/lang/Math" ∈ UG := UG_of (i := 67) (by decide +kernel) (by decide +kernel)
set_option maxRecDepth 100000 in
theorem wc_Mabs : Cond.code Lib.Math.abs.name Lib.Math.abs.code 1 (some .int) ∈ UG := UG_of (i := 643) rfl (by decide +kernel)
theorem mX2_64 : MJ RX2 64 Lib.Math.abs.name Lib.Math.abs.code 1 := ⟨UG_of (i := 641) (by decide +kernel) (by decide +kernel), ws_Mabs, wi_Math, wc_Mabs⟩
theorem fX2_70 : FL RX2 70 0 2 false := ⟨RX0, TX0, 4, fcX0, by decide, by decide +kernel, by decide +kernel, UG_of (i := 208) (by decide +kernel) (by decide +kernel)⟩
theorem mX3_3 : Cond.methodLink RX3 3 objectInit ∈ UG := UG_of (i := 105) (by decide +kernel) (by decide +kernel)
theorem fX3_9 : FL RX3 9 3 0 true := ⟨RX3, TX3, 2, fcX3, by decide, by decide +kernel, by decide +kernel, UG_of (i := 106) (by decide +kernel) (by decide +kernel)⟩
theorem fX3_15 : FL RX3 15 3 1 false := ⟨RX3, TX3, 2, fcX3, by decide, by decide +kernel, by decide +kernel, UG_of (i := 109) (by decide +kernel) (by decide +kernel)⟩
theorem fX3_19 : FL RX3 19 10 1 false := ⟨RX10, TX10, 2, fcX10, by decide, by decide +kernel, by decide +kernel, UG_of (i := 92) (by decide +kernel) (by decide +kernel)⟩
theorem fX3_22 : FL RX3 22 10 0 true := ⟨RX10, TX10, 2, fcX10, by decide, by decide +kernel, by decide +kernel, UG_of (i := 87) (by decide +kernel) (by decide +kernel)⟩
theorem mX4_3 : Cond.methodLink RX4 3 objectInit ∈ UG := UG_of (i := 151) (by decide +kernel) (by decide +kernel)
theorem fX4_9 : FL RX4 9 4 0 true := ⟨RX4, TX4, 2, fcX4, by decide, by decide +kernel, by decide +kernel, UG_of (i := 152) (by decide +kernel) (by decide +kernel)⟩
theorem fX4_15 : FL RX4 15 4 1 false := ⟨RX4, TX4, 2, fcX4, by decide, by decide +kernel, by decide +kernel, UG_of (i := 153) (by decide +kernel) (by decide +kernel)⟩
theorem fX4_19 : FL RX4 19 10 1 false := ⟨RX10, TX10, 2, fcX10, by decide, by decide +kernel, by decide +kernel, UG_of (i := 93) (by decide +kernel) (by decide +kernel)⟩
theorem fX4_22 : FL RX4 22 10 0 true := ⟨RX10, TX10, 2, fcX10, by decide, by decide +kernel, by decide +kernel, UG_of (i := 88) (by decide +kernel) (by decide +kernel)⟩
theorem mX4_25 : MLS RX4 25 yX10_signOf cX10_signOf 1 (some .int) 1 := ⟨mb_X10_signOf _ _, UG_of (i := 447) (by decide +kernel) (by decide +kernel), ws_X10_signOf⟩
theorem mX5_3 : Cond.methodLink RX5 3 objectInit ∈ UG := UG_of (i := 285) (by decide +kernel) (by decide +kernel)
theorem xX5_9 : Cond.classLink RX5 9 "[[I" ∈ UG := UG_of (i := 286) (by decide +kernel) (by decide +kernel)
theorem fX5_11 : FL RX5 11 5 0 true := ⟨RX5, TX5, 10, fcX5, by decide, by decide +kernel, by decide +kernel, UG_of (i := 309) (by decide +kernel) (by decide +kernel)⟩
theorem fX5_16 : FL RX5 16 5 1 true := ⟨RX5, TX5, 10, fcX5, by decide, by decide +kernel, by decide +kernel, UG_of (i := 311) (by decide +kernel) (by decide +kernel)⟩
theorem fX5_19 : FL RX5 19 5 2 true := ⟨RX5, TX5, 10, fcX5, by decide, by decide +kernel, by decide +kernel, UG_of (i := 312) (by decide +kernel) (by decide +kernel)⟩
theorem fX5_23 : FL RX5 23 5 3 true := ⟨RX5, TX5, 10, fcX5, by decide, by decide +kernel, by decide +kernel, UG_of (i := 313) (by decide +kernel) (by decide +kernel)⟩
theorem xX5_27 : Cond.classLink RX5 27 "MileLists$Readings" ∈ UG := UG_of (i := 288) (by decide +kernel) (by decide +kernel)
theorem fX5_29 : FL RX5 29 5 4 true := ⟨RX5, TX5, 10, fcX5, by decide, by decide +kernel, by decide +kernel, UG_of (i := 314) (by decide +kernel) (by decide +kernel)⟩
set_option maxRecDepth 100000 in
theorem wc_X6_init : Cond.code yX6_init cX6_init 1 none ∈ UG := UG_of (i := 293) rfl (by decide +kernel)
theorem wi_X6 : Cond.initialized RX6 ∈ UG := UG_of (i := 65) (by decide +kernel) (by decide +kernel)
theorem mb_X6_init (own : String) (i : Nat) : MLB own i yX6_init cX6_init 1 none 0 := ⟨wi_X6, wc_X6_init, by decide +kernel⟩
theorem wm_X6_init : Cond.instanceMethod yX6_init ∈ UG := UG_of (i := 292) (by decide +kernel) (by decide +kernel)
theorem mX5_33 : MLN RX5 33 yX6_init cX6_init 1 0 := ⟨mb_X6_init _ _, by decide +kernel, wm_X6_init, rfl⟩
theorem fX5_34 : FL RX5 34 5 5 true := ⟨RX5, TX5, 10, fcX5, by decide, by decide +kernel, by decide +kernel, UG_of (i := 315) (by decide +kernel) (by decide +kernel)⟩
theorem fX5_38 : FL RX5 38 5 6 true := ⟨RX5, TX5, 10, fcX5, by decide, by decide +kernel, by decide +kernel, UG_of (i := 316) (by decide +kernel) (by decide +kernel)⟩
set_option maxRecDepth 100000 in
theorem wc_X6_gather : Cond.code yX6_gather cX6_gather 5 none ∈ UG := UG_of (i := 577) rfl (by decide +kernel)
theorem mb_X6_gather (own : String) (i : Nat) : MLB own i yX6_gather cX6_gather 5 none 2 := ⟨wi_X6, wc_X6_gather, by decide +kernel⟩
theorem wm_X6_gather : Cond.instanceMethod yX6_gather ∈ UG := UG_of (i := 575) (by decide +kernel) (by decide +kernel)
theorem we_X6_gather : Cond.selects (yX6_gather).cls yX6_gather yX6_gather ∈ UG := UG_of (i := 576) (by decide +kernel) (by decide +kernel)
theorem mX5_41 : MLV RX5 41 yX6_gather cX6_gather 5 none 6 2 := ⟨mb_X6_gather _ _, UG_of (i := 574) (by decide +kernel) (by decide +kernel), wm_X6_gather, we_X6_gather, rfl, by decide⟩
set_option maxRecDepth 100000 in
theorem wc_X6_costOf : Cond.code yX6_costOf cX6_costOf 3 (some .int) ∈ UG := UG_of (i := 613) rfl (by decide +kernel)
theorem mb_X6_costOf (own : String) (i : Nat) : MLB own i yX6_costOf cX6_costOf 3 (some .int) 1 := ⟨wi_X6, wc_X6_costOf, by decide +kernel⟩
theorem wm_X6_costOf : Cond.instanceMethod yX6_costOf ∈ UG := UG_of (i := 611) (by decide +kernel) (by decide +kernel)
theorem we_X6_costOf : Cond.selects (yX6_costOf).cls yX6_costOf yX6_costOf ∈ UG := UG_of (i := 612) (by decide +kernel) (by decide +kernel)
theorem mX5_45 : MLV RX5 45 yX6_costOf cX6_costOf 3 (some .int) 6 1 := ⟨mb_X6_costOf _ _, UG_of (i := 610) (by decide +kernel) (by decide +kernel), wm_X6_costOf, we_X6_costOf, rfl, by decide⟩
theorem fX5_49 : FL RX5 49 7 4 false := ⟨RX7, TX7, 5, fcX7, by decide, by decide +kernel, by decide +kernel, UG_of (i := 174) (by decide +kernel) (by decide +kernel)⟩
theorem ws_Mmin : Cond.static Lib.Math.min.name ∈ UG := UG_of (i := 556) (by decide +kernel) (by decide +kernel)
set_option maxRecDepth 100000 in
theorem wc_Mmin : Cond.code Lib.Math.min.name Lib.Math.min.code 2 (some .int) ∈ UG := UG_of (i := 557) rfl (by decide +kernel)
theorem mX5_55 : MJ RX5 55 Lib.Math.min.name Lib.Math.min.code 2 := ⟨UG_of (i := 630) (by decide +kernel) (by decide +kernel), ws_Mmin, wi_Math, wc_Mmin⟩
theorem fX5_61 : FL RX5 61 5 7 false := ⟨RX5, TX5, 10, fcX5, by decide, by decide +kernel, by decide +kernel, UG_of (i := 318) (by decide +kernel) (by decide +kernel)⟩
theorem fX5_62 : FL RX5 62 7 3 false := ⟨RX7, TX7, 5, fcX7, by decide, by decide +kernel, by decide +kernel, UG_of (i := 169) (by decide +kernel) (by decide +kernel)⟩
theorem fX5_65 : FL RX5 65 5 8 false := ⟨RX5, TX5, 10, fcX5, by decide, by decide +kernel, by decide +kernel, UG_of (i := 319) (by decide +kernel) (by decide +kernel)⟩
theorem fX5_66 : FL RX5 66 7 1 true := ⟨RX7, TX7, 5, fcX7, by decide, by decide +kernel, by decide +kernel, UG_of (i := 165) (by decide +kernel) (by decide +kernel)⟩
theorem fX5_70 : FL RX5 70 5 9 false := ⟨RX5, TX5, 10, fcX5, by decide, by decide +kernel, by decide +kernel, UG_of (i := 320) (by decide +kernel) (by decide +kernel)⟩
theorem kX5_73 : LC RX5 73 (1000000) := UG_of (i := 652) (by decide +kernel) (by decide +kernel)
set_option maxRecDepth 100000 in
theorem wc_X5_leastOnward : Cond.code yX5_leastOnward cX5_leastOnward 6 (some .int) ∈ UG := UG_of (i := 651) rfl (by decide +kernel)
theorem mb_X5_leastOnward (own : String) (i : Nat) : MLB own i yX5_leastOnward cX5_leastOnward 6 (some .int) 2 := ⟨wi_X5, wc_X5_leastOnward, by decide +kernel⟩
theorem wm_X5_leastOnward : Cond.instanceMethod yX5_leastOnward ∈ UG := UG_of (i := 650) (by decide +kernel) (by decide +kernel)
theorem we_X5_leastOnward : Cond.selects (yX5_leastOnward).cls yX5_leastOnward yX5_leastOnward ∈ UG := UG_of (i := 15) (by decide +kernel) (by decide +kernel)
theorem mX5_74 : MLV RX5 74 yX5_leastOnward cX5_leastOnward 6 (some .int) 5 2 := ⟨mb_X5_leastOnward _ _, UG_of (i := 648) (by decide +kernel) (by decide +kernel), wm_X5_leastOnward, we_X5_leastOnward, rfl, by decide⟩
theorem fX5_77 : FL RX5 77 6 2 false := ⟨RX6, TX6, 3, fcX6, by decide, by decide +kernel, by decide +kernel, UG_of (i := 300) (by decide +kernel) (by decide +kernel)⟩
set_option maxRecDepth 100000 in
theorem wc_X5_placeBehind : Cond.code yX5_placeBehind cX5_placeBehind 5 (some .int) ∈ UG := UG_of (i := 656) rfl (by decide +kernel)
theorem mb_X5_placeBehind (own : String) (i : Nat) : MLB own i yX5_placeBehind cX5_placeBehind 5 (some .int) 3 := ⟨wi_X5, wc_X5_placeBehind, by decide +kernel⟩
theorem wm_X5_placeBehind : Cond.instanceMethod yX5_placeBehind ∈ UG := UG_of (i := 655) (by decide +kernel) (by decide +kernel)
theorem we_X5_placeBehind : Cond.selects (yX5_placeBehind).cls yX5_placeBehind yX5_placeBehind ∈ UG := UG_of (i := 16) (by decide +kernel) (by decide +kernel)
theorem mX5_80 : MLV RX5 80 yX5_placeBehind cX5_placeBehind 5 (some .int) 5 3 := ⟨mb_X5_placeBehind _ _, UG_of (i := 653) (by decide +kernel) (by decide +kernel), wm_X5_placeBehind, we_X5_placeBehind, rfl, by decide⟩
theorem fX5_84 : FL RX5 84 6 1 true := ⟨RX6, TX6, 3, fcX6, by decide, by decide +kernel, by decide +kernel, UG_of (i := 298) (by decide +kernel) (by decide +kernel)⟩
theorem fX5_87 : FL RX5 87 6 0 true := ⟨RX6, TX6, 3, fcX6, by decide, by decide +kernel, by decide +kernel, UG_of (i := 296) (by decide +kernel) (by decide +kernel)⟩
set_option maxRecDepth 100000 in
theorem wc_X5_nextOfBest : Cond.code yX5_nextOfBest cX5_nextOfBest 6 (some .int) ∈ UG := UG_of (i := 672) rfl (by decide +kernel)
theorem mb_X5_nextOfBest (own : String) (i : Nat) : MLB own i yX5_nextOfBest cX5_nextOfBest 6 (some .int) 2 := ⟨wi_X5, wc_X5_nextOfBest, by decide +kernel⟩
theorem wm_X5_nextOfBest : Cond.instanceMethod yX5_nextOfBest ∈ UG := UG_of (i := 671) (by decide +kernel) (by decide +kernel)
theorem we_X5_nextOfBest : Cond.selects (yX5_nextOfBest).cls yX5_nextOfBest yX5_nextOfBest ∈ UG := UG_of (i := 17) (by decide +kernel) (by decide +kernel)
theorem mX5_90 : MLV RX5 90 yX5_nextOfBest cX5_nextOfBest 6 (some .int) 5 2 := ⟨mb_X5_nextOfBest _ _, UG_of (i := 669) (by decide +kernel) (by decide +kernel), wm_X5_nextOfBest, we_X5_nextOfBest, rfl, by decide⟩
set_option maxRecDepth 100000 in
theorem wc_X5_dearerBy : Cond.code yX5_dearerBy cX5_dearerBy 5 (some .int) ∈ UG := UG_of (i := 676) rfl (by decide +kernel)
theorem mb_X5_dearerBy (own : String) (i : Nat) : MLB own i yX5_dearerBy cX5_dearerBy 5 (some .int) 4 := ⟨wi_X5, wc_X5_dearerBy, by decide +kernel⟩
theorem wm_X5_dearerBy : Cond.instanceMethod yX5_dearerBy ∈ UG := UG_of (i := 675) (by decide +kernel) (by decide +kernel)
theorem we_X5_dearerBy : Cond.selects (yX5_dearerBy).cls yX5_dearerBy yX5_dearerBy ∈ UG := UG_of (i := 18) (by decide +kernel) (by decide +kernel)
theorem mX5_93 : MLV RX5 93 yX5_dearerBy cX5_dearerBy 5 (some .int) 5 4 := ⟨mb_X5_dearerBy _ _, UG_of (i := 673) (by decide +kernel) (by decide +kernel), wm_X5_dearerBy, we_X5_dearerBy, rfl, by decide⟩
set_option maxRecDepth 100000 in
theorem wc_X5_stepBefore : Cond.code yX5_stepBefore cX5_stepBefore 6 none ∈ UG := UG_of (i := 691) rfl (by decide +kernel)
theorem mb_X5_stepBefore (own : String) (i : Nat) : MLB own i yX5_stepBefore cX5_stepBefore 6 none 2 := ⟨wi_X5, wc_X5_stepBefore, by decide +kernel⟩
theorem wm_X5_stepBefore : Cond.instanceMethod yX5_stepBefore ∈ UG := UG_of (i := 690) (by decide +kernel) (by decide +kernel)
theorem we_X5_stepBefore : Cond.selects (yX5_stepBefore).cls yX5_stepBefore yX5_stepBefore ∈ UG := UG_of (i := 19) (by decide +kernel) (by decide +kernel)
theorem mX5_97 : MLV RX5 97 yX5_stepBefore cX5_stepBefore 6 none 5 2 := ⟨mb_X5_stepBefore _ _, UG_of (i := 688) (by decide +kernel) (by decide +kernel), wm_X5_stepBefore, we_X5_stepBefore, rfl, by decide⟩
set_option maxRecDepth 100000 in
theorem wc_X5_isRival : Cond.code yX5_isRival cX5_isRival 4 (some .boolean) ∈ UG := UG_of (i := 699) rfl (by decide +kernel)
theorem mb_X5_isRival (own : String) (i : Nat) : MLB own i yX5_isRival cX5_isRival 4 (some .boolean) 3 := ⟨wi_X5, wc_X5_isRival, by decide +kernel⟩
theorem wm_X5_isRival : Cond.instanceMethod yX5_isRival ∈ UG := UG_of (i := 698) (by decide +kernel) (by decide +kernel)
theorem we_X5_isRival : Cond.selects (yX5_isRival).cls yX5_isRival yX5_isRival ∈ UG := UG_of (i := 20) (by decide +kernel) (by decide +kernel)
theorem mX5_101 : MLV RX5 101 yX5_isRival cX5_isRival 4 (some .boolean) 5 3 := ⟨mb_X5_isRival _ _, UG_of (i := 696) (by decide +kernel) (by decide +kernel), wm_X5_isRival, we_X5_isRival, rfl, by decide⟩
set_option maxRecDepth 100000 in
theorem wc_X5_startWays : Cond.code yX5_startWays cX5_startWays 4 none ∈ UG := UG_of (i := 715) rfl (by decide +kernel)
theorem mb_X5_startWays (own : String) (i : Nat) : MLB own i yX5_startWays cX5_startWays 4 none 1 := ⟨wi_X5, wc_X5_startWays, by decide +kernel⟩
theorem wm_X5_startWays : Cond.instanceMethod yX5_startWays ∈ UG := UG_of (i := 714) (by decide +kernel) (by decide +kernel)
theorem we_X5_startWays : Cond.selects (yX5_startWays).cls yX5_startWays yX5_startWays ∈ UG := UG_of (i := 21) (by decide +kernel) (by decide +kernel)
theorem mX5_105 : MLV RX5 105 yX5_startWays cX5_startWays 4 none 5 1 := ⟨mb_X5_startWays _ _, UG_of (i := 712) (by decide +kernel) (by decide +kernel), wm_X5_startWays, we_X5_startWays, rfl, by decide⟩
set_option maxRecDepth 100000 in
theorem wc_X5_holdsWays : Cond.code yX5_holdsWays cX5_holdsWays 4 (some .boolean) ∈ UG := UG_of (i := 719) rfl (by decide +kernel)
theorem mb_X5_holdsWays (own : String) (i : Nat) : MLB own i yX5_holdsWays cX5_holdsWays 4 (some .boolean) 2 := ⟨wi_X5, wc_X5_holdsWays, by decide +kernel⟩
theorem wm_X5_holdsWays : Cond.instanceMethod yX5_holdsWays ∈ UG := UG_of (i := 718) (by decide +kernel) (by decide +kernel)
theorem we_X5_holdsWays : Cond.selects (yX5_holdsWays).cls yX5_holdsWays yX5_holdsWays ∈ UG := UG_of (i := 22) (by decide +kernel) (by decide +kernel)
theorem mX5_109 : MLV RX5 109 yX5_holdsWays cX5_holdsWays 4 (some .boolean) 5 2 := ⟨mb_X5_holdsWays _ _, UG_of (i := 716) (by decide +kernel) (by decide +kernel), wm_X5_holdsWays, we_X5_holdsWays, rfl, by decide⟩
set_option maxRecDepth 100000 in
theorem wc_X5_stepWays : Cond.code yX5_stepWays cX5_stepWays 6 none ∈ UG := UG_of (i := 723) rfl (by decide +kernel)
theorem mb_X5_stepWays (own : String) (i : Nat) : MLB own i yX5_stepWays cX5_stepWays 6 none 3 := ⟨wi_X5, wc_X5_stepWays, by decide +kernel⟩
theorem wm_X5_stepWays : Cond.instanceMethod yX5_stepWays ∈ UG := UG_of (i := 722) (by decide +kernel) (by decide +kernel)
theorem we_X5_stepWays : Cond.selects (yX5_stepWays).cls yX5_stepWays yX5_stepWays ∈ UG := UG_of (i := 23) (by decide +kernel) (by decide +kernel)
theorem mX5_113 : MLV RX5 113 yX5_stepWays cX5_stepWays 6 none 5 3 := ⟨mb_X5_stepWays _ _, UG_of (i := 720) (by decide +kernel) (by decide +kernel), wm_X5_stepWays, we_X5_stepWays, rfl, by decide⟩
set_option maxRecDepth 100000 in
theorem wc_X5_moveWays : Cond.code yX5_moveWays cX5_moveWays 6 none ∈ UG := UG_of (i := 727) rfl (by decide +kernel)
theorem mb_X5_moveWays (own : String) (i : Nat) : MLB own i yX5_moveWays cX5_moveWays 6 none 4 := ⟨wi_X5, wc_X5_moveWays, by decide +kernel⟩
theorem wm_X5_moveWays : Cond.instanceMethod yX5_moveWays ∈ UG := UG_of (i := 726) (by decide +kernel) (by decide +kernel)
theorem we_X5_moveWays : Cond.selects (yX5_moveWays).cls yX5_moveWays yX5_moveWays ∈ UG := UG_of (i := 24) (by decide +kernel) (by decide +kernel)
theorem mX5_117 : MLV RX5 117 yX5_moveWays cX5_moveWays 6 none 5 4 := ⟨mb_X5_moveWays _ _, UG_of (i := 724) (by decide +kernel) (by decide +kernel), wm_X5_moveWays, we_X5_moveWays, rfl, by decide⟩
theorem mX6_3 : Cond.methodLink RX6 3 objectInit ∈ UG := UG_of (i := 294) (by decide +kernel) (by decide +kernel)
theorem fX6_9 : FL RX6 9 6 0 true := ⟨RX6, TX6, 3, fcX6, by decide, by decide +kernel, by decide +kernel, UG_of (i := 295) (by decide +kernel) (by decide +kernel)⟩
theorem fX6_15 : FL RX6 15 6 1 true := ⟨RX6, TX6, 3, fcX6, by decide, by decide +kernel, by decide +kernel, UG_of (i := 297) (by decide +kernel) (by decide +kernel)⟩
theorem fX6_18 : FL RX6 18 6 2 false := ⟨RX6, TX6, 3, fcX6, by decide, by decide +kernel, by decide +kernel, UG_of (i := 299) (by decide +kernel) (by decide +kernel)⟩
theorem mX6_22 : MLV RX6 22 yX4_value cX4_value 3 (some .int) 4 0 := ⟨mb_X4_value _ _, UG_of (i := 578) (by decide +kernel) (by decide +kernel), wm_X4_value, we_X4_value, rfl, by decide⟩
set_option maxRecDepth 100000 in
theorem wc_X6_put : Cond.code yX6_put cX6_put 4 none ∈ UG := UG_of (i := 586) rfl (by decide +kernel)
theorem mb_X6_put (own : String) (i : Nat) : MLB own i yX6_put cX6_put 4 none 2 := ⟨wi_X6, wc_X6_put, by decide +kernel⟩
theorem wm_X6_put : Cond.instanceMethod yX6_put ∈ UG := UG_of (i := 585) (by decide +kernel) (by decide +kernel)
theorem we_X6_put : Cond.selects (yX6_put).cls yX6_put yX6_put ∈ UG := UG_of (i := 9) (by decide +kernel) (by decide +kernel)
theorem mX6_28 : MLV RX6 28 yX6_put cX6_put 4 none 6 2 := ⟨mb_X6_put _ _, UG_of (i := 583) (by decide +kernel) (by decide +kernel), wm_X6_put, we_X6_put, rfl, by decide⟩
theorem fX6_32 : FL RX6 32 1 3 false := ⟨RX1, TX1, 4, fcX1, by decide, by decide +kernel, by decide +kernel, UG_of (i := 256) (by decide +kernel) (by decide +kernel)⟩
set_option maxRecDepth 100000 in
theorem wc_X1_valueBy : Cond.code yX1_valueBy cX1_valueBy 3 (some .int) ∈ UG := UG_of (i := 595) rfl (by decide +kernel)
theorem mb_X1_valueBy (own : String) (i : Nat) : MLB own i yX1_valueBy cX1_valueBy 3 (some .int) 2 := ⟨wi_X1, wc_X1_valueBy, by decide +kernel⟩
theorem wm_X1_valueBy : Cond.instanceMethod yX1_valueBy ∈ UG := UG_of (i := 593) (by decide +kernel) (by decide +kernel)
theorem we_X1_valueBy : Cond.selects (yX1_valueBy).cls yX1_valueBy yX1_valueBy ∈ UG := UG_of (i := 594) (by decide +kernel) (by decide +kernel)
theorem mX6_35 : MLV RX6 35 yX1_valueBy cX1_valueBy 3 (some .int) 1 2 := ⟨mb_X1_valueBy _ _, UG_of (i := 592) (by decide +kernel) (by decide +kernel), wm_X1_valueBy, we_X1_valueBy, rfl, by decide⟩
theorem fX6_39 : FL RX6 39 1 2 true := ⟨RX1, TX1, 4, fcX1, by decide, by decide +kernel, by decide +kernel, UG_of (i := 254) (by decide +kernel) (by decide +kernel)⟩
set_option maxRecDepth 100000 in
theorem wc_X6_find : Cond.code yX6_find cX6_find 3 (some .int) ∈ UG := UG_of (i := 590) rfl (by decide +kernel)
theorem mb_X6_find (own : String) (i : Nat) : MLB own i yX6_find cX6_find 3 (some .int) 1 := ⟨wi_X6, wc_X6_find, by decide +kernel⟩
theorem wm_X6_find : Cond.instanceMethod yX6_find ∈ UG := UG_of (i := 589) (by decide +kernel) (by decide +kernel)
theorem we_X6_find : Cond.selects (yX6_find).cls yX6_find yX6_find ∈ UG := UG_of (i := 10) (by decide +kernel) (by decide +kernel)
theorem mX6_40 : MLV RX6 40 yX6_find cX6_find 3 (some .int) 6 1 := ⟨mb_X6_find _ _, UG_of (i := 587) (by decide +kernel) (by decide +kernel), wm_X6_find, we_X6_find, rfl, by decide⟩
theorem mX6_44 : MJ RX6 44 Lib.Math.min.name Lib.Math.min.code 2 := ⟨UG_of (i := 591) (by decide +kernel) (by decide +kernel), ws_Mmin, wi_Math, wc_Mmin⟩
theorem mX7_3 : Cond.methodLink RX7 3 objectInit ∈ UG := UG_of (i := 141) (by decide +kernel) (by decide +kernel)
theorem xX7_9 : Cond.classLink RX7 9 "MileLists$Name" ∈ UG := UG_of (i := 142) (by decide +kernel) (by decide +kernel)
theorem fX7_11 : FL RX7 11 7 0 true := ⟨RX7, TX7, 5, fcX7, by decide, by decide +kernel, by decide +kernel, UG_of (i := 161) (by decide +kernel) (by decide +kernel)⟩
theorem xX7_17 : Cond.classLink RX7 17 "MileLists$Numeral" ∈ UG := UG_of (i := 144) (by decide +kernel) (by decide +kernel)
theorem fX7_19 : FL RX7 19 7 1 true := ⟨RX7, TX7, 5, fcX7, by decide, by decide +kernel, by decide +kernel, UG_of (i := 164) (by decide +kernel) (by decide +kernel)⟩
theorem fX7_23 : FL RX7 23 7 2 true := ⟨RX7, TX7, 5, fcX7, by decide, by decide +kernel, by decide +kernel, UG_of (i := 168) (by decide +kernel) (by decide +kernel)⟩
theorem mX7_27 : MLN RX7 27 yX3_init cX3_init 1 0 := ⟨mb_X3_init _ _, by decide +kernel, wm_X3_init, rfl⟩
set_option maxRecDepth 100000 in
theorem wc_X4_init : Cond.code yX4_init cX4_init 1 none ∈ UG := UG_of (i := 150) rfl (by decide +kernel)
theorem mb_X4_init (own : String) (i : Nat) : MLB own i yX4_init cX4_init 1 none 0 := ⟨wi_X4, wc_X4_init, by decide +kernel⟩
theorem wm_X4_init : Cond.instanceMethod yX4_init ∈ UG := UG_of (i := 149) (by decide +kernel) (by decide +kernel)
theorem mX7_28 : MLN RX7 28 yX4_init cX4_init 1 0 := ⟨mb_X4_init _ _, by decide +kernel, wm_X4_init, rfl⟩
theorem fX7_29 : FL RX7 29 7 4 false := ⟨RX7, TX7, 5, fcX7, by decide, by decide +kernel, by decide +kernel, UG_of (i := 172) (by decide +kernel) (by decide +kernel)⟩
theorem mX7_33 : MLV RX7 33 yX3_same cX3_same 3 (some .boolean) 3 1 := ⟨mb_X3_same _ _, UG_of (i := 428) (by decide +kernel) (by decide +kernel), wm_X3_same, we_X3_same, rfl, by decide⟩
theorem fX7_37 : FL RX7 37 7 3 false := ⟨RX7, TX7, 5, fcX7, by decide, by decide +kernel, by decide +kernel, UG_of (i := 171) (by decide +kernel) (by decide +kernel)⟩
theorem mX7_40 : MLV RX7 40 yX4_value cX4_value 3 (some .int) 4 0 := ⟨mb_X4_value _ _, UG_of (i := 742) (by decide +kernel) (by decide +kernel), wm_X4_value, we_X4_value, rfl, by decide⟩
set_option maxRecDepth 100000 in
theorem wc_X7_sameStep : Cond.code yX7_sameStep cX7_sameStep 4 (some .boolean) ∈ UG := UG_of (i := 750) rfl (by decide +kernel)
theorem mb_X7_sameStep (own : String) (i : Nat) : MLB own i yX7_sameStep cX7_sameStep 4 (some .boolean) 3 := ⟨wi_X7, wc_X7_sameStep, by decide +kernel⟩
theorem wm_X7_sameStep : Cond.instanceMethod yX7_sameStep ∈ UG := UG_of (i := 749) (by decide +kernel) (by decide +kernel)
theorem we_X7_sameStep : Cond.selects (yX7_sameStep).cls yX7_sameStep yX7_sameStep ∈ UG := UG_of (i := 26) (by decide +kernel) (by decide +kernel)
theorem mX7_44 : MLV RX7 44 yX7_sameStep cX7_sameStep 4 (some .boolean) 7 3 := ⟨mb_X7_sameStep _ _, UG_of (i := 747) (by decide +kernel) (by decide +kernel), wm_X7_sameStep, we_X7_sameStep, rfl, by decide⟩
set_option maxRecDepth 100000 in
theorem wc_X4_same : Cond.code yX4_same cX4_same 3 (some .boolean) ∈ UG := UG_of (i := 754) rfl (by decide +kernel)
theorem mb_X4_same (own : String) (i : Nat) : MLB own i yX4_same cX4_same 3 (some .boolean) 1 := ⟨wi_X4, wc_X4_same, by decide +kernel⟩
theorem wm_X4_same : Cond.instanceMethod yX4_same ∈ UG := UG_of (i := 752) (by decide +kernel) (by decide +kernel)
theorem we_X4_same : Cond.selects (yX4_same).cls yX4_same yX4_same ∈ UG := UG_of (i := 753) (by decide +kernel) (by decide +kernel)
theorem mX7_48 : MLV RX7 48 yX4_same cX4_same 3 (some .boolean) 4 1 := ⟨mb_X4_same _ _, UG_of (i := 751) (by decide +kernel) (by decide +kernel), wm_X4_same, we_X4_same, rfl, by decide⟩
theorem mX8_3 : Cond.methodLink RX8 3 objectInit ∈ UG := UG_of (i := 122) (by decide +kernel) (by decide +kernel)
theorem fX8_9 : FL RX8 9 8 0 false := ⟨RX8, TX8, 3, fcX8, by decide, by decide +kernel, by decide +kernel, UG_of (i := 123) (by decide +kernel) (by decide +kernel)⟩
theorem fX8_15 : FL RX8 15 8 1 false := ⟨RX8, TX8, 3, fcX8, by decide, by decide +kernel, by decide +kernel, UG_of (i := 125) (by decide +kernel) (by decide +kernel)⟩
theorem fX8_18 : FL RX8 18 8 2 false := ⟨RX8, TX8, 3, fcX8, by decide, by decide +kernel, by decide +kernel, UG_of (i := 127) (by decide +kernel) (by decide +kernel)⟩
theorem fX8_22 : FL RX8 22 7 4 false := ⟨RX7, TX7, 5, fcX7, by decide, by decide +kernel, by decide +kernel, UG_of (i := 173) (by decide +kernel) (by decide +kernel)⟩
theorem fX8_27 : FL RX8 27 10 1 false := ⟨RX10, TX10, 2, fcX10, by decide, by decide +kernel, by decide +kernel, UG_of (i := 91) (by decide +kernel) (by decide +kernel)⟩
set_option maxRecDepth 100000 in
theorem wc_X10_isBlank : Cond.code yX10_isBlank cX10_isBlank 2 (some .boolean) ∈ UG := UG_of (i := 403) rfl (by decide +kernel)
theorem mb_X10_isBlank (own : String) (i : Nat) : MLB own i yX10_isBlank cX10_isBlank 2 (some .boolean) 1 := ⟨wi_X10, wc_X10_isBlank, by decide +kernel⟩
theorem wm_X10_isBlank : Cond.instanceMethod yX10_isBlank ∈ UG := UG_of (i := 401) (by decide +kernel) (by decide +kernel)
theorem we_X10_isBlank : Cond.selects (yX10_isBlank).cls yX10_isBlank yX10_isBlank ∈ UG := UG_of (i := 402) (by decide +kernel) (by decide +kernel)
theorem mX8_32 : MLV RX8 32 yX10_isBlank cX10_isBlank 2 (some .boolean) 10 1 := ⟨mb_X10_isBlank _ _, UG_of (i := 400) (by decide +kernel) (by decide +kernel), wm_X10_isBlank, we_X10_isBlank, rfl, by decide⟩
set_option maxRecDepth 100000 in
theorem wc_X8_takeToken : Cond.code yX8_takeToken cX8_takeToken 6 (some .int) ∈ UG := UG_of (i := 407) rfl (by decide +kernel)
theorem mb_X8_takeToken (own : String) (i : Nat) : MLB own i yX8_takeToken cX8_takeToken 6 (some .int) 3 := ⟨wi_X8, wc_X8_takeToken, by decide +kernel⟩
theorem wm_X8_takeToken : Cond.instanceMethod yX8_takeToken ∈ UG := UG_of (i := 406) (by decide +kernel) (by decide +kernel)
theorem we_X8_takeToken : Cond.selects (yX8_takeToken).cls yX8_takeToken yX8_takeToken ∈ UG := UG_of (i := 0) (by decide +kernel) (by decide +kernel)
theorem mX8_36 : MLV RX8 36 yX8_takeToken cX8_takeToken 6 (some .int) 8 3 := ⟨mb_X8_takeToken _ _, UG_of (i := 404) (by decide +kernel) (by decide +kernel), wm_X8_takeToken, we_X8_takeToken, rfl, by decide⟩
theorem ws_Mmax : Cond.static Lib.Math.max.name ∈ UG := UG_of (i := 449) (by decide +kernel) (by decide +kernel)
set_option maxRecDepth 100000 in
theorem wc_Mmax : Cond.code Lib.Math.max.name Lib.Math.max.code 2 (some .int) ∈ UG := UG_of (i := 450) rfl (by decide +kernel)
theorem mX8_40 : MJ RX8 40 Lib.Math.max.name Lib.Math.max.code 2 := ⟨UG_of (i := 448) (by decide +kernel) (by decide +kernel), ws_Mmax, wi_Math, wc_Mmax⟩
set_option maxRecDepth 100000 in
theorem wc_X8_blame : Cond.code yX8_blame cX8_blame 3 none ∈ UG := UG_of (i := 419) rfl (by decide +kernel)
theorem mb_X8_blame (own : String) (i : Nat) : MLB own i yX8_blame cX8_blame 3 none 2 := ⟨wi_X8, wc_X8_blame, by decide +kernel⟩
theorem wm_X8_blame : Cond.instanceMethod yX8_blame ∈ UG := UG_of (i := 418) (by decide +kernel) (by decide +kernel)
theorem we_X8_blame : Cond.selects (yX8_blame).cls yX8_blame yX8_blame ∈ UG := UG_of (i := 2) (by decide +kernel) (by decide +kernel)
theorem mX8_46 : MLV RX8 46 yX8_blame cX8_blame 3 none 8 2 := ⟨mb_X8_blame _ _, UG_of (i := 416) (by decide +kernel) (by decide +kernel), wm_X8_blame, we_X8_blame, rfl, by decide⟩
theorem mX8_50 : MLV RX8 50 yX10_lettersFrom cX10_lettersFrom 3 (some .int) 10 1 := ⟨mb_X10_lettersFrom _ _, UG_of (i := 408) (by decide +kernel) (by decide +kernel), wm_X10_lettersFrom, we_X10_lettersFrom, rfl, by decide⟩
set_option maxRecDepth 100000 in
theorem wc_X8_takeWord : Cond.code yX8_takeWord cX8_takeWord 6 none ∈ UG := UG_of (i := 415) rfl (by decide +kernel)
theorem mb_X8_takeWord (own : String) (i : Nat) : MLB own i yX8_takeWord cX8_takeWord 6 none 4 := ⟨wi_X8, wc_X8_takeWord, by decide +kernel⟩
theorem wm_X8_takeWord : Cond.instanceMethod yX8_takeWord ∈ UG := UG_of (i := 414) (by decide +kernel) (by decide +kernel)
theorem we_X8_takeWord : Cond.selects (yX8_takeWord).cls yX8_takeWord yX8_takeWord ∈ UG := UG_of (i := 1) (by decide +kernel) (by decide +kernel)
theorem mX8_54 : MLV RX8 54 yX8_takeWord cX8_takeWord 6 none 8 4 := ⟨mb_X8_takeWord _ _, UG_of (i := 412) (by decide +kernel) (by decide +kernel), wm_X8_takeWord, we_X8_takeWord, rfl, by decide⟩
set_option maxRecDepth 100000 in
theorem wc_X10_signsFrom : Cond.code yX10_signsFrom cX10_signsFrom 3 (some .int) ∈ UG := UG_of (i := 435) rfl (by decide +kernel)
theorem mb_X10_signsFrom (own : String) (i : Nat) : MLB own i yX10_signsFrom cX10_signsFrom 3 (some .int) 1 := ⟨wi_X10, wc_X10_signsFrom, by decide +kernel⟩
theorem wm_X10_signsFrom : Cond.instanceMethod yX10_signsFrom ∈ UG := UG_of (i := 433) (by decide +kernel) (by decide +kernel)
theorem we_X10_signsFrom : Cond.selects (yX10_signsFrom).cls yX10_signsFrom yX10_signsFrom ∈ UG := UG_of (i := 434) (by decide +kernel) (by decide +kernel)
theorem mX8_58 : MLV RX8 58 yX10_signsFrom cX10_signsFrom 3 (some .int) 10 1 := ⟨mb_X10_signsFrom _ _, UG_of (i := 432) (by decide +kernel) (by decide +kernel), wm_X10_signsFrom, we_X10_signsFrom, rfl, by decide⟩
set_option maxRecDepth 100000 in
theorem wc_X8_takeSigns : Cond.code yX8_takeSigns cX8_takeSigns 7 none ∈ UG := UG_of (i := 442) rfl (by decide +kernel)
theorem mb_X8_takeSigns (own : String) (i : Nat) : MLB own i yX8_takeSigns cX8_takeSigns 7 none 4 := ⟨wi_X8, wc_X8_takeSigns, by decide +kernel⟩
theorem wm_X8_takeSigns : Cond.instanceMethod yX8_takeSigns ∈ UG := UG_of (i := 441) (by decide +kernel) (by decide +kernel)
theorem we_X8_takeSigns : Cond.selects (yX8_takeSigns).cls yX8_takeSigns yX8_takeSigns ∈ UG := UG_of (i := 3) (by decide +kernel) (by decide +kernel)
theorem mX8_61 : MLV RX8 61 yX8_takeSigns cX8_takeSigns 7 none 8 4 := ⟨mb_X8_takeSigns _ _, UG_of (i := 439) (by decide +kernel) (by decide +kernel), wm_X8_takeSigns, we_X8_takeSigns, rfl, by decide⟩
theorem fX8_64 : FL RX8 64 7 0 true := ⟨RX7, TX7, 5, fcX7, by decide, by decide +kernel, by decide +kernel, UG_of (i := 162) (by decide +kernel) (by decide +kernel)⟩
theorem mX8_68 : MLV RX8 68 yX3_take cX3_take 5 none 3 3 := ⟨mb_X3_take _ _, UG_of (i := 420) (by decide +kernel) (by decide +kernel), wm_X3_take, we_X3_take, rfl, by decide⟩
set_option maxRecDepth 100000 in
theorem wc_X7_hasNameAhead : Cond.code yX7_hasNameAhead cX7_hasNameAhead 3 (some .boolean) ∈ UG := UG_of (i := 427) rfl (by decide +kernel)
theorem mb_X7_hasNameAhead (own : String) (i : Nat) : MLB own i yX7_hasNameAhead cX7_hasNameAhead 3 (some .boolean) 1 := ⟨wi_X7, wc_X7_hasNameAhead, by decide +kernel⟩
theorem wm_X7_hasNameAhead : Cond.instanceMethod yX7_hasNameAhead ∈ UG := UG_of (i := 425) (by decide +kernel) (by decide +kernel)
theorem we_X7_hasNameAhead : Cond.selects (yX7_hasNameAhead).cls yX7_hasNameAhead yX7_hasNameAhead ∈ UG := UG_of (i := 426) (by decide +kernel) (by decide +kernel)
theorem mX8_74 : MLV RX8 74 yX7_hasNameAhead cX7_hasNameAhead 3 (some .boolean) 7 1 := ⟨mb_X7_hasNameAhead _ _, UG_of (i := 424) (by decide +kernel) (by decide +kernel), wm_X7_hasNameAhead, we_X7_hasNameAhead, rfl, by decide⟩
theorem fX8_77 : FL RX8 77 7 1 true := ⟨RX7, TX7, 5, fcX7, by decide, by decide +kernel, by decide +kernel, UG_of (i := 166) (by decide +kernel) (by decide +kernel)⟩
set_option maxRecDepth 100000 in
theorem wc_X4_take : Cond.code yX4_take cX4_take 5 (some .boolean) ∈ UG := UG_of (i := 446) rfl (by decide +kernel)
theorem mb_X4_take (own : String) (i : Nat) : MLB own i yX4_take cX4_take 5 (some .boolean) 3 := ⟨wi_X4, wc_X4_take, by decide +kernel⟩
theorem wm_X4_take : Cond.instanceMethod yX4_take ∈ UG := UG_of (i := 444) (by decide +kernel) (by decide +kernel)
theorem we_X4_take : Cond.selects (yX4_take).cls yX4_take yX4_take ∈ UG := UG_of (i := 445) (by decide +kernel) (by decide +kernel)
theorem mX8_81 : MLV RX8 81 yX4_take cX4_take 5 (some .boolean) 4 3 := ⟨mb_X4_take _ _, UG_of (i := 443) (by decide +kernel) (by decide +kernel), wm_X4_take, we_X4_take, rfl, by decide⟩
theorem mX9_3 : Cond.methodLink RX9 3 objectInit ∈ UG := UG_of (i := 272) (by decide +kernel) (by decide +kernel)
theorem fX9_9 : FL RX9 9 9 0 true := ⟨RX9, TX9, 2, fcX9, by decide, by decide +kernel, by decide +kernel, UG_of (i := 273) (by decide +kernel) (by decide +kernel)⟩
theorem fX9_15 : FL RX9 15 9 1 true := ⟨RX9, TX9, 2, fcX9, by decide, by decide +kernel, by decide +kernel, UG_of (i := 274) (by decide +kernel) (by decide +kernel)⟩
theorem fX9_18 : FL RX9 18 3 1 false := ⟨RX3, TX3, 2, fcX3, by decide, by decide +kernel, by decide +kernel, UG_of (i := 110) (by decide +kernel) (by decide +kernel)⟩
theorem fX9_24 : FL RX9 24 3 0 true := ⟨RX3, TX3, 2, fcX3, by decide, by decide +kernel, by decide +kernel, UG_of (i := 107) (by decide +kernel) (by decide +kernel)⟩
set_option maxRecDepth 100000 in
theorem wc_X9_swapCost : Cond.code yX9_swapCost cX9_swapCost 3 (some .int) ∈ UG := UG_of (i := 553) rfl (by decide +kernel)
theorem mb_X9_swapCost (own : String) (i : Nat) : MLB own i yX9_swapCost cX9_swapCost 3 (some .int) 2 := ⟨wi_X9, wc_X9_swapCost, by decide +kernel⟩
theorem wm_X9_swapCost : Cond.instanceMethod yX9_swapCost ∈ UG := UG_of (i := 552) (by decide +kernel) (by decide +kernel)
theorem we_X9_swapCost : Cond.selects (yX9_swapCost).cls yX9_swapCost yX9_swapCost ∈ UG := UG_of (i := 7) (by decide +kernel) (by decide +kernel)
theorem mX9_27 : MLV RX9 27 yX9_swapCost cX9_swapCost 3 (some .int) 9 2 := ⟨mb_X9_swapCost _ _, UG_of (i := 550) (by decide +kernel) (by decide +kernel), wm_X9_swapCost, we_X9_swapCost, rfl, by decide⟩
theorem mX9_31 : MJ RX9 31 Lib.Math.min.name Lib.Math.min.code 2 := ⟨UG_of (i := 555) (by decide +kernel) (by decide +kernel), ws_Mmin, wi_Math, wc_Mmin⟩
theorem mX9_36 : MLV RX9 36 yX9_alike cX9_alike 4 (some .boolean) 9 2 := ⟨mb_X9_alike _ _, UG_of (i := 554) (by decide +kernel) (by decide +kernel), wm_X9_alike, we_X9_alike, rfl, by decide⟩
end
